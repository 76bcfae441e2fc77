theorem eL_freshBook_0 : (fdecl cL_freshBook.data.toList 0 = some (.aload_n 3, 1)) ∧ (fdecl cL_freshBook.data.toList 1 = some (.aload_n 0, 1)) ∧ (fdecl cL_freshBook.data.toList 2 = some (.iload_n 1, 1)) ∧ (fdecl cL_freshBook.data.toList 3 = some (.iload_n 2, 1)) ∧ (fdecl cL_freshBook.data.toList 4 = some (.invokevirtual 7, 3)) ∧ (fdecl cL_freshBook.data.toList 7 = some (.i2l, 1)) ∧ (fdecl cL_freshBook.data.toList 8 = some (.putfield 13, 3)) ∧ (fdecl cL_freshBook.data.toList 11 = some (.goto 11, 3)) ∧ (fdecl cL_freshBook.data.toList 14 = some (.astore 4, 2)) ∧ (fdecl cL_freshBook.data.toList 16 = some (.iconst 1, 1)) ∧ (fdecl cL_freshBook.data.toList 17 = some (.ireturn, 1)) ∧ (fdecl cL_freshBook.data.toList 18 = some (.astore 4, 2)) ∧ (fdecl cL_freshBook.data.toList 20 = some (.iconst 2, 1)) ∧ (fdecl cL_freshBook.data.toList 21 = some (.ireturn, 1)) ∧ (fdecl cL_freshBook.data.toList 22 = some (.iconst 0, 1)) ∧ (fdecl cL_freshBook.data.toList 23 = some (.ireturn, 1)) := by decide +kernel
theorem dL_freshBook_0 : decode cL_freshBook 0 = .ok (.aload_n 3, 1) := fx_ok0 eL_freshBook_0.1
theorem dL_freshBook_1 : decode cL_freshBook 1 = .ok (.aload_n 0, 1) := fx_ok0 eL_freshBook_0.2.1
theorem dL_freshBook_2 : decode cL_freshBook 2 = .ok (.iload_n 1, 1) := fx_ok0 eL_freshBook_0.2.2.1
theorem dL_freshBook_3 : decode cL_freshBook 3 = .ok (.iload_n 2, 1) := fx_ok0 eL_freshBook_0.2.2.2.1
theorem dL_freshBook_4 : decode cL_freshBook 4 = .ok (.invokevirtual 7, 3) := fx_ok0 eL_freshBook_0.2.2.2.2.1
theorem dL_freshBook_7 : decode cL_freshBook 7 = .ok (.i2l, 1) := fx_ok0 eL_freshBook_0.2.2.2.2.2.1
theorem dL_freshBook_8 : decode cL_freshBook 8 = .ok (.putfield 13, 3) := fx_ok0 eL_freshBook_0.2.2.2.2.2.2.1
theorem dL_freshBook_11 : decode cL_freshBook 11 = .ok (.goto 11, 3) := fx_ok0 eL_freshBook_0.2.2.2.2.2.2.2.1
theorem dL_freshBook_14 : decode cL_freshBook 14 = .ok (.astore 4, 2) := fx_ok0 eL_freshBook_0.2.2.2.2.2.2.2.2.1
theorem dL_freshBook_16 : decode cL_freshBook 16 = .ok (.iconst 1, 1) := fx_ok0 eL_freshBook_0.2.2.2.2.2.2.2.2.2.1
theorem dL_freshBook_17 : decode cL_freshBook 17 = .ok (.ireturn, 1) := fx_ok0 eL_freshBook_0.2.2.2.2.2.2.2.2.2.2.1
theorem dL_freshBook_18 : decode cL_freshBook 18 = .ok (.astore 4, 2) := fx_ok0 eL_freshBook_0.2.2.2.2.2.2.2.2.2.2.2.1
theorem dL_freshBook_20 : decode cL_freshBook 20 = .ok (.iconst 2, 1) := fx_ok0 eL_freshBook_0.2.2.2.2.2.2.2.2.2.2.2.2.1
theorem dL_freshBook_21 : decode cL_freshBook 21 = .ok (.ireturn, 1) := fx_ok0 eL_freshBook_0.2.2.2.2.2.2.2.2.2.2.2.2.2.1
theorem dL_freshBook_22 : decode cL_freshBook 22 = .ok (.iconst 0, 1) := fx_ok0 eL_freshBook_0.2.2.2.2.2.2.2.2.2.2.2.2.2.2.1
theorem dL_freshBook_23 : decode cL_freshBook 23 = .ok (.ireturn, 1) := fx_ok0 eL_freshBook_0.2.2.2.2.2.2.2.2.2.2.2.2.2.2.2
theorem eL_buildBook_0 : (fdecl cL_buildBook.data.toList 0 = some (.aload 4, 2)) ∧ (fdecl cL_buildBook.data.toList 2 = some (.aload_n 0, 1)) ∧ (fdecl cL_buildBook.data.toList 3 = some (.iload_n 1, 1)) ∧ (fdecl cL_buildBook.data.toList 4 = some (.iload_n 2, 1)) ∧ (fdecl cL_buildBook.data.toList 5 = some (.iload_n 3, 1)) ∧ (fdecl cL_buildBook.data.toList 6 = some (.invokevirtual 23, 3)) ∧ (fdecl cL_buildBook.data.toList 9 = some (.i2l, 1)) ∧ (fdecl cL_buildBook.data.toList 10 = some (.putfield 13, 3)) ∧ (fdecl cL_buildBook.data.toList 13 = some (.goto 11, 3)) ∧ (fdecl cL_buildBook.data.toList 16 = some (.astore 5, 2)) ∧ (fdecl cL_buildBook.data.toList 18 = some (.iconst 1, 1)) ∧ (fdecl cL_buildBook.data.toList 19 = some (.ireturn, 1)) ∧ (fdecl cL_buildBook.data.toList 20 = some (.astore 5, 2)) ∧ (fdecl cL_buildBook.data.toList 22 = some (.iconst 2, 1)) ∧ (fdecl cL_buildBook.data.toList 23 = some (.ireturn, 1)) ∧ (fdecl cL_buildBook.data.toList 24 = some (.iconst 0, 1)) := by decide +kernel
theorem dL_buildBook_0 : decode cL_buildBook 0 = .ok (.aload 4, 2) := fx_ok0 eL_buildBook_0.1
theorem dL_buildBook_2 : decode cL_buildBook 2 = .ok (.aload_n 0, 1) := fx_ok0 eL_buildBook_0.2.1
theorem dL_buildBook_3 : decode cL_buildBook 3 = .ok (.iload_n 1, 1) := fx_ok0 eL_buildBook_0.2.2.1
theorem dL_buildBook_4 : decode cL_buildBook 4 = .ok (.iload_n 2, 1) := fx_ok0 eL_buildBook_0.2.2.2.1
theorem dL_buildBook_5 : decode cL_buildBook 5 = .ok (.iload_n 3, 1) := fx_ok0 eL_buildBook_0.2.2.2.2.1
theorem dL_buildBook_6 : decode cL_buildBook 6 = .ok (.invokevirtual 23, 3) := fx_ok0 eL_buildBook_0.2.2.2.2.2.1
theorem dL_buildBook_9 : decode cL_buildBook 9 = .ok (.i2l, 1) := fx_ok0 eL_buildBook_0.2.2.2.2.2.2.1
theorem dL_buildBook_10 : decode cL_buildBook 10 = .ok (.putfield 13, 3) := fx_ok0 eL_buildBook_0.2.2.2.2.2.2.2.1
theorem dL_buildBook_13 : decode cL_buildBook 13 = .ok (.goto 11, 3) := fx_ok0 eL_buildBook_0.2.2.2.2.2.2.2.2.1
theorem dL_buildBook_16 : decode cL_buildBook 16 = .ok (.astore 5, 2) := fx_ok0 eL_buildBook_0.2.2.2.2.2.2.2.2.2.1
theorem dL_buildBook_18 : decode cL_buildBook 18 = .ok (.iconst 1, 1) := fx_ok0 eL_buildBook_0.2.2.2.2.2.2.2.2.2.2.1
theorem dL_buildBook_19 : decode cL_buildBook 19 = .ok (.ireturn, 1) := fx_ok0 eL_buildBook_0.2.2.2.2.2.2.2.2.2.2.2.1
theorem dL_buildBook_20 : decode cL_buildBook 20 = .ok (.astore 5, 2) := fx_ok0 eL_buildBook_0.2.2.2.2.2.2.2.2.2.2.2.2.1
theorem dL_buildBook_22 : decode cL_buildBook 22 = .ok (.iconst 2, 1) := fx_ok0 eL_buildBook_0.2.2.2.2.2.2.2.2.2.2.2.2.2.1
theorem dL_buildBook_23 : decode cL_buildBook 23 = .ok (.ireturn, 1) := fx_ok0 eL_buildBook_0.2.2.2.2.2.2.2.2.2.2.2.2.2.2.1
theorem dL_buildBook_24 : decode cL_buildBook 24 = .ok (.iconst 0, 1) := fx_ok0 eL_buildBook_0.2.2.2.2.2.2.2.2.2.2.2.2.2.2.2
theorem eL_buildBook_25 : (fdecl cL_buildBook.data.toList 25 = some (.ireturn, 1)) := by decide +kernel
theorem dL_buildBook_25 : decode cL_buildBook 25 = .ok (.ireturn, 1) := fx_ok0 eL_buildBook_25
theorem eL_splitBook_0 : (fdecl cL_splitBook.data.toList 0 = some (.aload 4, 2)) ∧ (fdecl cL_splitBook.data.toList 2 = some (.aload_n 0, 1)) ∧ (fdecl cL_splitBook.data.toList 3 = some (.iload_n 1, 1)) ∧ (fdecl cL_splitBook.data.toList 4 = some (.iload_n 2, 1)) ∧ (fdecl cL_splitBook.data.toList 5 = some (.iload_n 3, 1)) ∧ (fdecl cL_splitBook.data.toList 6 = some (.invokevirtual 27, 3)) ∧ (fdecl cL_splitBook.data.toList 9 = some (.i2l, 1)) ∧ (fdecl cL_splitBook.data.toList 10 = some (.putfield 13, 3)) ∧ (fdecl cL_splitBook.data.toList 13 = some (.goto 11, 3)) ∧ (fdecl cL_splitBook.data.toList 16 = some (.astore 5, 2)) ∧ (fdecl cL_splitBook.data.toList 18 = some (.iconst 1, 1)) ∧ (fdecl cL_splitBook.data.toList 19 = some (.ireturn, 1)) ∧ (fdecl cL_splitBook.data.toList 20 = some (.astore 5, 2)) ∧ (fdecl cL_splitBook.data.toList 22 = some (.iconst 2, 1)) ∧ (fdecl cL_splitBook.data.toList 23 = some (.ireturn, 1)) ∧ (fdecl cL_splitBook.data.toList 24 = some (.iconst 0, 1)) := by decide +kernel
theorem dL_splitBook_0 : decode cL_splitBook 0 = .ok (.aload 4, 2) := fx_ok0 eL_splitBook_0.1
theorem dL_splitBook_2 : decode cL_splitBook 2 = .ok (.aload_n 0, 1) := fx_ok0 eL_splitBook_0.2.1
theorem dL_splitBook_3 : decode cL_splitBook 3 = .ok (.iload_n 1, 1) := fx_ok0 eL_splitBook_0.2.2.1
theorem dL_splitBook_4 : decode cL_splitBook 4 = .ok (.iload_n 2, 1) := fx_ok0 eL_splitBook_0.2.2.2.1
theorem dL_splitBook_5 : decode cL_splitBook 5 = .ok (.iload_n 3, 1) := fx_ok0 eL_splitBook_0.2.2.2.2.1
theorem dL_splitBook_6 : decode cL_splitBook 6 = .ok (.invokevirtual 27, 3) := fx_ok0 eL_splitBook_0.2.2.2.2.2.1
theorem dL_splitBook_9 : decode cL_splitBook 9 = .ok (.i2l, 1) := fx_ok0 eL_splitBook_0.2.2.2.2.2.2.1
theorem dL_splitBook_10 : decode cL_splitBook 10 = .ok (.putfield 13, 3) := fx_ok0 eL_splitBook_0.2.2.2.2.2.2.2.1
theorem dL_splitBook_13 : decode cL_splitBook 13 = .ok (.goto 11, 3) := fx_ok0 eL_splitBook_0.2.2.2.2.2.2.2.2.1
theorem dL_splitBook_16 : decode cL_splitBook 16 = .ok (.astore 5, 2) := fx_ok0 eL_splitBook_0.2.2.2.2.2.2.2.2.2.1
theorem dL_splitBook_18 : decode cL_splitBook 18 = .ok (.iconst 1, 1) := fx_ok0 eL_splitBook_0.2.2.2.2.2.2.2.2.2.2.1
theorem dL_splitBook_19 : decode cL_splitBook 19 = .ok (.ireturn, 1) := fx_ok0 eL_splitBook_0.2.2.2.2.2.2.2.2.2.2.2.1
theorem dL_splitBook_20 : decode cL_splitBook 20 = .ok (.astore 5, 2) := fx_ok0 eL_splitBook_0.2.2.2.2.2.2.2.2.2.2.2.2.1
theorem dL_splitBook_22 : decode cL_splitBook 22 = .ok (.iconst 2, 1) := fx_ok0 eL_splitBook_0.2.2.2.2.2.2.2.2.2.2.2.2.2.1
theorem dL_splitBook_23 : decode cL_splitBook 23 = .ok (.ireturn, 1) := fx_ok0 eL_splitBook_0.2.2.2.2.2.2.2.2.2.2.2.2.2.2.1
theorem dL_splitBook_24 : decode cL_splitBook 24 = .ok (.iconst 0, 1) := fx_ok0 eL_splitBook_0.2.2.2.2.2.2.2.2.2.2.2.2.2.2.2
theorem eL_splitBook_25 : (fdecl cL_splitBook.data.toList 25 = some (.ireturn, 1)) := by decide +kernel
theorem dL_splitBook_25 : decode cL_splitBook 25 = .ok (.ireturn, 1) := fx_ok0 eL_splitBook_25
theorem eL_fill_0 : (fdecl cL_fill.data.toList 0 = some (.aload 6, 2)) ∧ (fdecl cL_fill.data.toList 2 = some (.aload_n 0, 1)) ∧ (fdecl cL_fill.data.toList 3 = some (.iload_n 1, 1)) ∧ (fdecl cL_fill.data.toList 4 = some (.iload_n 2, 1)) ∧ (fdecl cL_fill.data.toList 5 = some (.iload_n 3, 1)) ∧ (fdecl cL_fill.data.toList 6 = some (.iload 4, 2)) ∧ (fdecl cL_fill.data.toList 8 = some (.iload 5, 2)) ∧ (fdecl cL_fill.data.toList 10 = some (.invokevirtual 30, 3)) ∧ (fdecl cL_fill.data.toList 13 = some (.i2l, 1)) ∧ (fdecl cL_fill.data.toList 14 = some (.putfield 13, 3)) ∧ (fdecl cL_fill.data.toList 17 = some (.goto 11, 3)) ∧ (fdecl cL_fill.data.toList 20 = some (.astore 7, 2)) ∧ (fdecl cL_fill.data.toList 22 = some (.iconst 1, 1)) ∧ (fdecl cL_fill.data.toList 23 = some (.ireturn, 1)) ∧ (fdecl cL_fill.data.toList 24 = some (.astore 7, 2)) ∧ (fdecl cL_fill.data.toList 26 = some (.iconst 2, 1)) := by decide +kernel
theorem dL_fill_0 : decode cL_fill 0 = .ok (.aload 6, 2) := fx_ok0 eL_fill_0.1
theorem dL_fill_2 : decode cL_fill 2 = .ok (.aload_n 0, 1) := fx_ok0 eL_fill_0.2.1
theorem dL_fill_3 : decode cL_fill 3 = .ok (.iload_n 1, 1) := fx_ok0 eL_fill_0.2.2.1
theorem dL_fill_4 : decode cL_fill 4 = .ok (.iload_n 2, 1) := fx_ok0 eL_fill_0.2.2.2.1
theorem dL_fill_5 : decode cL_fill 5 = .ok (.iload_n 3, 1) := fx_ok0 eL_fill_0.2.2.2.2.1
theorem dL_fill_6 : decode cL_fill 6 = .ok (.iload 4, 2) := fx_ok0 eL_fill_0.2.2.2.2.2.1
theorem dL_fill_8 : decode cL_fill 8 = .ok (.iload 5, 2) := fx_ok0 eL_fill_0.2.2.2.2.2.2.1
theorem dL_fill_10 : decode cL_fill 10 = .ok (.invokevirtual 30, 3) := fx_ok0 eL_fill_0.2.2.2.2.2.2.2.1
theorem dL_fill_13 : decode cL_fill 13 = .ok (.i2l, 1) := fx_ok0 eL_fill_0.2.2.2.2.2.2.2.2.1
theorem dL_fill_14 : decode cL_fill 14 = .ok (.putfield 13, 3) := fx_ok0 eL_fill_0.2.2.2.2.2.2.2.2.2.1
theorem dL_fill_17 : decode cL_fill 17 = .ok (.goto 11, 3) := fx_ok0 eL_fill_0.2.2.2.2.2.2.2.2.2.2.1
theorem dL_fill_20 : decode cL_fill 20 = .ok (.astore 7, 2) := fx_ok0 eL_fill_0.2.2.2.2.2.2.2.2.2.2.2.1
theorem dL_fill_22 : decode cL_fill 22 = .ok (.iconst 1, 1) := fx_ok0 eL_fill_0.2.2.2.2.2.2.2.2.2.2.2.2.1
theorem dL_fill_23 : decode cL_fill 23 = .ok (.ireturn, 1) := fx_ok0 eL_fill_0.2.2.2.2.2.2.2.2.2.2.2.2.2.1
theorem dL_fill_24 : decode cL_fill 24 = .ok (.astore 7, 2) := fx_ok0 eL_fill_0.2.2.2.2.2.2.2.2.2.2.2.2.2.2.1
theorem dL_fill_26 : decode cL_fill 26 = .ok (.iconst 2, 1) := fx_ok0 eL_fill_0.2.2.2.2.2.2.2.2.2.2.2.2.2.2.2
theorem eL_fill_27 : (fdecl cL_fill.data.toList 27 = some (.ireturn, 1)) ∧ (fdecl cL_fill.data.toList 28 = some (.iconst 0, 1)) ∧ (fdecl cL_fill.data.toList 29 = some (.ireturn, 1)) := by decide +kernel
theorem dL_fill_27 : decode cL_fill 27 = .ok (.ireturn, 1) := fx_ok0 eL_fill_27.1
theorem dL_fill_28 : decode cL_fill 28 = .ok (.iconst 0, 1) := fx_ok0 eL_fill_27.2.1
theorem dL_fill_29 : decode cL_fill 29 = .ok (.ireturn, 1) := fx_ok0 eL_fill_27.2.2
theorem eL_pour_0 : (fdecl cL_pour.data.toList 0 = some (.aload_n 3, 1)) ∧ (fdecl cL_pour.data.toList 1 = some (.aload_n 0, 1)) ∧ (fdecl cL_pour.data.toList 2 = some (.iload_n 1, 1)) ∧ (fdecl cL_pour.data.toList 3 = some (.iload_n 2, 1)) ∧ (fdecl cL_pour.data.toList 4 = some (.invokevirtual 34, 3)) ∧ (fdecl cL_pour.data.toList 7 = some (.i2l, 1)) ∧ (fdecl cL_pour.data.toList 8 = some (.putfield 13, 3)) ∧ (fdecl cL_pour.data.toList 11 = some (.goto 7, 3)) ∧ (fdecl cL_pour.data.toList 14 = some (.astore 4, 2)) ∧ (fdecl cL_pour.data.toList 16 = some (.iconst 1, 1)) ∧ (fdecl cL_pour.data.toList 17 = some (.ireturn, 1)) ∧ (fdecl cL_pour.data.toList 18 = some (.iconst 0, 1)) ∧ (fdecl cL_pour.data.toList 19 = some (.ireturn, 1)) := by decide +kernel
theorem dL_pour_0 : decode cL_pour 0 = .ok (.aload_n 3, 1) := fx_ok0 eL_pour_0.1
theorem dL_pour_1 : decode cL_pour 1 = .ok (.aload_n 0, 1) := fx_ok0 eL_pour_0.2.1
theorem dL_pour_2 : decode cL_pour 2 = .ok (.iload_n 1, 1) := fx_ok0 eL_pour_0.2.2.1
theorem dL_pour_3 : decode cL_pour 3 = .ok (.iload_n 2, 1) := fx_ok0 eL_pour_0.2.2.2.1
theorem dL_pour_4 : decode cL_pour 4 = .ok (.invokevirtual 34, 3) := fx_ok0 eL_pour_0.2.2.2.2.1
theorem dL_pour_7 : decode cL_pour 7 = .ok (.i2l, 1) := fx_ok0 eL_pour_0.2.2.2.2.2.1
theorem dL_pour_8 : decode cL_pour 8 = .ok (.putfield 13, 3) := fx_ok0 eL_pour_0.2.2.2.2.2.2.1
theorem dL_pour_11 : decode cL_pour 11 = .ok (.goto 7, 3) := fx_ok0 eL_pour_0.2.2.2.2.2.2.2.1
theorem dL_pour_14 : decode cL_pour 14 = .ok (.astore 4, 2) := fx_ok0 eL_pour_0.2.2.2.2.2.2.2.2.1
theorem dL_pour_16 : decode cL_pour 16 = .ok (.iconst 1, 1) := fx_ok0 eL_pour_0.2.2.2.2.2.2.2.2.2.1
theorem dL_pour_17 : decode cL_pour 17 = .ok (.ireturn, 1) := fx_ok0 eL_pour_0.2.2.2.2.2.2.2.2.2.2.1
theorem dL_pour_18 : decode cL_pour 18 = .ok (.iconst 0, 1) := fx_ok0 eL_pour_0.2.2.2.2.2.2.2.2.2.2.2.1
theorem dL_pour_19 : decode cL_pour 19 = .ok (.ireturn, 1) := fx_ok0 eL_pour_0.2.2.2.2.2.2.2.2.2.2.2.2
theorem eL_keep_0 : (fdecl cL_keep.data.toList 0 = some (.aload 4, 2)) ∧ (fdecl cL_keep.data.toList 2 = some (.aload_n 0, 1)) ∧ (fdecl cL_keep.data.toList 3 = some (.iload_n 1, 1)) ∧ (fdecl cL_keep.data.toList 4 = some (.iload_n 2, 1)) ∧ (fdecl cL_keep.data.toList 5 = some (.iload_n 3, 1)) ∧ (fdecl cL_keep.data.toList 6 = some (.invokevirtual 37, 3)) ∧ (fdecl cL_keep.data.toList 9 = some (.i2l, 1)) ∧ (fdecl cL_keep.data.toList 10 = some (.putfield 13, 3)) ∧ (fdecl cL_keep.data.toList 13 = some (.goto 7, 3)) ∧ (fdecl cL_keep.data.toList 16 = some (.astore 5, 2)) ∧ (fdecl cL_keep.data.toList 18 = some (.iconst 1, 1)) ∧ (fdecl cL_keep.data.toList 19 = some (.ireturn, 1)) ∧ (fdecl cL_keep.data.toList 20 = some (.iconst 0, 1)) ∧ (fdecl cL_keep.data.toList 21 = some (.ireturn, 1)) := by decide +kernel
theorem dL_keep_0 : decode cL_keep 0 = .ok (.aload 4, 2) := fx_ok0 eL_keep_0.1
theorem dL_keep_2 : decode cL_keep 2 = .ok (.aload_n 0, 1) := fx_ok0 eL_keep_0.2.1
theorem dL_keep_3 : decode cL_keep 3 = .ok (.iload_n 1, 1) := fx_ok0 eL_keep_0.2.2.1
theorem dL_keep_4 : decode cL_keep 4 = .ok (.iload_n 2, 1) := fx_ok0 eL_keep_0.2.2.2.1
theorem dL_keep_5 : decode cL_keep 5 = .ok (.iload_n 3, 1) := fx_ok0 eL_keep_0.2.2.2.2.1
theorem dL_keep_6 : decode cL_keep 6 = .ok (.invokevirtual 37, 3) := fx_ok0 eL_keep_0.2.2.2.2.2.1
theorem dL_keep_9 : decode cL_keep 9 = .ok (.i2l, 1) := fx_ok0 eL_keep_0.2.2.2.2.2.2.1
theorem dL_keep_10 : decode cL_keep 10 = .ok (.putfield 13, 3) := fx_ok0 eL_keep_0.2.2.2.2.2.2.2.1
theorem dL_keep_13 : decode cL_keep 13 = .ok (.goto 7, 3) := fx_ok0 eL_keep_0.2.2.2.2.2.2.2.2.1
theorem dL_keep_16 : decode cL_keep 16 = .ok (.astore 5, 2) := fx_ok0 eL_keep_0.2.2.2.2.2.2.2.2.2.1
theorem dL_keep_18 : decode cL_keep 18 = .ok (.iconst 1, 1) := fx_ok0 eL_keep_0.2.2.2.2.2.2.2.2.2.2.1
theorem dL_keep_19 : decode cL_keep 19 = .ok (.ireturn, 1) := fx_ok0 eL_keep_0.2.2.2.2.2.2.2.2.2.2.2.1
theorem dL_keep_20 : decode cL_keep 20 = .ok (.iconst 0, 1) := fx_ok0 eL_keep_0.2.2.2.2.2.2.2.2.2.2.2.2.1
theorem dL_keep_21 : decode cL_keep 21 = .ok (.ireturn, 1) := fx_ok0 eL_keep_0.2.2.2.2.2.2.2.2.2.2.2.2.2
theorem eL_put_0 : (fdecl cL_put.data.toList 0 = some (.aload 5, 2)) ∧ (fdecl cL_put.data.toList 2 = some (.aload_n 0, 1)) ∧ (fdecl cL_put.data.toList 3 = some (.iload_n 1, 1)) ∧ (fdecl cL_put.data.toList 4 = some (.iload_n 2, 1)) ∧ (fdecl cL_put.data.toList 5 = some (.iload_n 3, 1)) ∧ (fdecl cL_put.data.toList 6 = some (.iload 4, 2)) ∧ (fdecl cL_put.data.toList 8 = some (.invokevirtual 41, 3)) ∧ (fdecl cL_put.data.toList 11 = some (.i2l, 1)) ∧ (fdecl cL_put.data.toList 12 = some (.putfield 13, 3)) ∧ (fdecl cL_put.data.toList 15 = some (.goto 11, 3)) ∧ (fdecl cL_put.data.toList 18 = some (.astore 6, 2)) ∧ (fdecl cL_put.data.toList 20 = some (.iconst 1, 1)) ∧ (fdecl cL_put.data.toList 21 = some (.ireturn, 1)) ∧ (fdecl cL_put.data.toList 22 = some (.astore 6, 2)) ∧ (fdecl cL_put.data.toList 24 = some (.iconst 2, 1)) ∧ (fdecl cL_put.data.toList 25 = some (.ireturn, 1)) := by decide +kernel
theorem dL_put_0 : decode cL_put 0 = .ok (.aload 5, 2) := fx_ok0 eL_put_0.1
theorem dL_put_2 : decode cL_put 2 = .ok (.aload_n 0, 1) := fx_ok0 eL_put_0.2.1
theorem dL_put_3 : decode cL_put 3 = .ok (.iload_n 1, 1) := fx_ok0 eL_put_0.2.2.1
theorem dL_put_4 : decode cL_put 4 = .ok (.iload_n 2, 1) := fx_ok0 eL_put_0.2.2.2.1
theorem dL_put_5 : decode cL_put 5 = .ok (.iload_n 3, 1) := fx_ok0 eL_put_0.2.2.2.2.1
theorem dL_put_6 : decode cL_put 6 = .ok (.iload 4, 2) := fx_ok0 eL_put_0.2.2.2.2.2.1
theorem dL_put_8 : decode cL_put 8 = .ok (.invokevirtual 41, 3) := fx_ok0 eL_put_0.2.2.2.2.2.2.1
theorem dL_put_11 : decode cL_put 11 = .ok (.i2l, 1) := fx_ok0 eL_put_0.2.2.2.2.2.2.2.1
theorem dL_put_12 : decode cL_put 12 = .ok (.putfield 13, 3) := fx_ok0 eL_put_0.2.2.2.2.2.2.2.2.1
theorem dL_put_15 : decode cL_put 15 = .ok (.goto 11, 3) := fx_ok0 eL_put_0.2.2.2.2.2.2.2.2.2.1
theorem dL_put_18 : decode cL_put 18 = .ok (.astore 6, 2) := fx_ok0 eL_put_0.2.2.2.2.2.2.2.2.2.2.1
theorem dL_put_20 : decode cL_put 20 = .ok (.iconst 1, 1) := fx_ok0 eL_put_0.2.2.2.2.2.2.2.2.2.2.2.1
theorem dL_put_21 : decode cL_put 21 = .ok (.ireturn, 1) := fx_ok0 eL_put_0.2.2.2.2.2.2.2.2.2.2.2.2.1
theorem dL_put_22 : decode cL_put 22 = .ok (.astore 6, 2) := fx_ok0 eL_put_0.2.2.2.2.2.2.2.2.2.2.2.2.2.1
theorem dL_put_24 : decode cL_put 24 = .ok (.iconst 2, 1) := fx_ok0 eL_put_0.2.2.2.2.2.2.2.2.2.2.2.2.2.2.1
theorem dL_put_25 : decode cL_put 25 = .ok (.ireturn, 1) := fx_ok0 eL_put_0.2.2.2.2.2.2.2.2.2.2.2.2.2.2.2
theorem eL_put_26 : (fdecl cL_put.data.toList 26 = some (.iconst 0, 1)) ∧ (fdecl cL_put.data.toList 27 = some (.ireturn, 1)) := by decide +kernel
theorem dL_put_26 : decode cL_put 26 = .ok (.iconst 0, 1) := fx_ok0 eL_put_26.1
theorem dL_put_27 : decode cL_put 27 = .ok (.ireturn, 1) := fx_ok0 eL_put_26.2
theorem eL_exchange_0 : (fdecl cL_exchange.data.toList 0 = some (.aload 5, 2)) ∧ (fdecl cL_exchange.data.toList 2 = some (.aload_n 0, 1)) ∧ (fdecl cL_exchange.data.toList 3 = some (.iload_n 1, 1)) ∧ (fdecl cL_exchange.data.toList 4 = some (.iload_n 2, 1)) ∧ (fdecl cL_exchange.data.toList 5 = some (.iload_n 3, 1)) ∧ (fdecl cL_exchange.data.toList 6 = some (.iload 4, 2)) ∧ (fdecl cL_exchange.data.toList 8 = some (.invokevirtual 45, 3)) ∧ (fdecl cL_exchange.data.toList 11 = some (.i2l, 1)) ∧ (fdecl cL_exchange.data.toList 12 = some (.putfield 13, 3)) ∧ (fdecl cL_exchange.data.toList 15 = some (.goto 11, 3)) ∧ (fdecl cL_exchange.data.toList 18 = some (.astore 6, 2)) ∧ (fdecl cL_exchange.data.toList 20 = some (.iconst 1, 1)) ∧ (fdecl cL_exchange.data.toList 21 = some (.ireturn, 1)) ∧ (fdecl cL_exchange.data.toList 22 = some (.astore 6, 2)) ∧ (fdecl cL_exchange.data.toList 24 = some (.iconst 2, 1)) ∧ (fdecl cL_exchange.data.toList 25 = some (.ireturn, 1)) := by decide +kernel
theorem dL_exchange_0 : decode cL_exchange 0 = .ok (.aload 5, 2) := fx_ok0 eL_exchange_0.1
theorem dL_exchange_2 : decode cL_exchange 2 = .ok (.aload_n 0, 1) := fx_ok0 eL_exchange_0.2.1
theorem dL_exchange_3 : decode cL_exchange 3 = .ok (.iload_n 1, 1) := fx_ok0 eL_exchange_0.2.2.1
theorem dL_exchange_4 : decode cL_exchange 4 = .ok (.iload_n 2, 1) := fx_ok0 eL_exchange_0.2.2.2.1
theorem dL_exchange_5 : decode cL_exchange 5 = .ok (.iload_n 3, 1) := fx_ok0 eL_exchange_0.2.2.2.2.1
theorem dL_exchange_6 : decode cL_exchange 6 = .ok (.iload 4, 2) := fx_ok0 eL_exchange_0.2.2.2.2.2.1
theorem dL_exchange_8 : decode cL_exchange 8 = .ok (.invokevirtual 45, 3) := fx_ok0 eL_exchange_0.2.2.2.2.2.2.1
theorem dL_exchange_11 : decode cL_exchange 11 = .ok (.i2l, 1) := fx_ok0 eL_exchange_0.2.2.2.2.2.2.2.1
theorem dL_exchange_12 : decode cL_exchange 12 = .ok (.putfield 13, 3) := fx_ok0 eL_exchange_0.2.2.2.2.2.2.2.2.1
theorem dL_exchange_15 : decode cL_exchange 15 = .ok (.goto 11, 3) := fx_ok0 eL_exchange_0.2.2.2.2.2.2.2.2.2.1
theorem dL_exchange_18 : decode cL_exchange 18 = .ok (.astore 6, 2) := fx_ok0 eL_exchange_0.2.2.2.2.2.2.2.2.2.2.1
theorem dL_exchange_20 : decode cL_exchange 20 = .ok (.iconst 1, 1) := fx_ok0 eL_exchange_0.2.2.2.2.2.2.2.2.2.2.2.1
theorem dL_exchange_21 : decode cL_exchange 21 = .ok (.ireturn, 1) := fx_ok0 eL_exchange_0.2.2.2.2.2.2.2.2.2.2.2.2.1
theorem dL_exchange_22 : decode cL_exchange 22 = .ok (.astore 6, 2) := fx_ok0 eL_exchange_0.2.2.2.2.2.2.2.2.2.2.2.2.2.1
theorem dL_exchange_24 : decode cL_exchange 24 = .ok (.iconst 2, 1) := fx_ok0 eL_exchange_0.2.2.2.2.2.2.2.2.2.2.2.2.2.2.1
theorem dL_exchange_25 : decode cL_exchange 25 = .ok (.ireturn, 1) := fx_ok0 eL_exchange_0.2.2.2.2.2.2.2.2.2.2.2.2.2.2.2
theorem eL_exchange_26 : (fdecl cL_exchange.data.toList 26 = some (.iconst 0, 1)) ∧ (fdecl cL_exchange.data.toList 27 = some (.ireturn, 1)) := by decide +kernel
theorem dL_exchange_26 : decode cL_exchange 26 = .ok (.iconst 0, 1) := fx_ok0 eL_exchange_26.1
theorem dL_exchange_27 : decode cL_exchange 27 = .ok (.ireturn, 1) := fx_ok0 eL_exchange_26.2
theorem eL_take_0 : (fdecl cL_take.data.toList 0 = some (.aload_n 3, 1)) ∧ (fdecl cL_take.data.toList 1 = some (.aload_n 0, 1)) ∧ (fdecl cL_take.data.toList 2 = some (.iload_n 1, 1)) ∧ (fdecl cL_take.data.toList 3 = some (.iload_n 2, 1)) ∧ (fdecl cL_take.data.toList 4 = some (.invokevirtual 48, 3)) ∧ (fdecl cL_take.data.toList 7 = some (.i2l, 1)) ∧ (fdecl cL_take.data.toList 8 = some (.putfield 13, 3)) ∧ (fdecl cL_take.data.toList 11 = some (.goto 11, 3)) ∧ (fdecl cL_take.data.toList 14 = some (.astore 4, 2)) ∧ (fdecl cL_take.data.toList 16 = some (.iconst 1, 1)) ∧ (fdecl cL_take.data.toList 17 = some (.ireturn, 1)) ∧ (fdecl cL_take.data.toList 18 = some (.astore 4, 2)) ∧ (fdecl cL_take.data.toList 20 = some (.iconst 2, 1)) ∧ (fdecl cL_take.data.toList 21 = some (.ireturn, 1)) ∧ (fdecl cL_take.data.toList 22 = some (.iconst 0, 1)) ∧ (fdecl cL_take.data.toList 23 = some (.ireturn, 1)) := by decide +kernel
theorem dL_take_0 : decode cL_take 0 = .ok (.aload_n 3, 1) := fx_ok0 eL_take_0.1
theorem dL_take_1 : decode cL_take 1 = .ok (.aload_n 0, 1) := fx_ok0 eL_take_0.2.1
theorem dL_take_2 : decode cL_take 2 = .ok (.iload_n 1, 1) := fx_ok0 eL_take_0.2.2.1
theorem dL_take_3 : decode cL_take 3 = .ok (.iload_n 2, 1) := fx_ok0 eL_take_0.2.2.2.1
theorem dL_take_4 : decode cL_take 4 = .ok (.invokevirtual 48, 3) := fx_ok0 eL_take_0.2.2.2.2.1
theorem dL_take_7 : decode cL_take 7 = .ok (.i2l, 1) := fx_ok0 eL_take_0.2.2.2.2.2.1
theorem dL_take_8 : decode cL_take 8 = .ok (.putfield 13, 3) := fx_ok0 eL_take_0.2.2.2.2.2.2.1
theorem dL_take_11 : decode cL_take 11 = .ok (.goto 11, 3) := fx_ok0 eL_take_0.2.2.2.2.2.2.2.1
theorem dL_take_14 : decode cL_take 14 = .ok (.astore 4, 2) := fx_ok0 eL_take_0.2.2.2.2.2.2.2.2.1
theorem dL_take_16 : decode cL_take 16 = .ok (.iconst 1, 1) := fx_ok0 eL_take_0.2.2.2.2.2.2.2.2.2.1
theorem dL_take_17 : decode cL_take 17 = .ok (.ireturn, 1) := fx_ok0 eL_take_0.2.2.2.2.2.2.2.2.2.2.1
theorem dL_take_18 : decode cL_take 18 = .ok (.astore 4, 2) := fx_ok0 eL_take_0.2.2.2.2.2.2.2.2.2.2.2.1
theorem dL_take_20 : decode cL_take 20 = .ok (.iconst 2, 1) := fx_ok0 eL_take_0.2.2.2.2.2.2.2.2.2.2.2.2.1
theorem dL_take_21 : decode cL_take 21 = .ok (.ireturn, 1) := fx_ok0 eL_take_0.2.2.2.2.2.2.2.2.2.2.2.2.2.1
theorem dL_take_22 : decode cL_take 22 = .ok (.iconst 0, 1) := fx_ok0 eL_take_0.2.2.2.2.2.2.2.2.2.2.2.2.2.2.1
theorem dL_take_23 : decode cL_take 23 = .ok (.ireturn, 1) := fx_ok0 eL_take_0.2.2.2.2.2.2.2.2.2.2.2.2.2.2.2
theorem eL_drop_0 : (fdecl cL_drop.data.toList 0 = some (.aload_n 3, 1)) ∧ (fdecl cL_drop.data.toList 1 = some (.aload_n 0, 1)) ∧ (fdecl cL_drop.data.toList 2 = some (.iload_n 1, 1)) ∧ (fdecl cL_drop.data.toList 3 = some (.iload_n 2, 1)) ∧ (fdecl cL_drop.data.toList 4 = some (.invokevirtual 51, 3)) ∧ (fdecl cL_drop.data.toList 7 = some (.i2l, 1)) ∧ (fdecl cL_drop.data.toList 8 = some (.putfield 13, 3)) ∧ (fdecl cL_drop.data.toList 11 = some (.goto 11, 3)) ∧ (fdecl cL_drop.data.toList 14 = some (.astore 4, 2)) ∧ (fdecl cL_drop.data.toList 16 = some (.iconst 1, 1)) ∧ (fdecl cL_drop.data.toList 17 = some (.ireturn, 1)) ∧ (fdecl cL_drop.data.toList 18 = some (.astore 4, 2)) ∧ (fdecl cL_drop.data.toList 20 = some (.iconst 2, 1)) ∧ (fdecl cL_drop.data.toList 21 = some (.ireturn, 1)) ∧ (fdecl cL_drop.data.toList 22 = some (.iconst 0, 1)) ∧ (fdecl cL_drop.data.toList 23 = some (.ireturn, 1)) := by decide +kernel
theorem dL_drop_0 : decode cL_drop 0 = .ok (.aload_n 3, 1) := fx_ok0 eL_drop_0.1
theorem dL_drop_1 : decode cL_drop 1 = .ok (.aload_n 0, 1) := fx_ok0 eL_drop_0.2.1
theorem dL_drop_2 : decode cL_drop 2 = .ok (.iload_n 1, 1) := fx_ok0 eL_drop_0.2.2.1
theorem dL_drop_3 : decode cL_drop 3 = .ok (.iload_n 2, 1) := fx_ok0 eL_drop_0.2.2.2.1
theorem dL_drop_4 : decode cL_drop 4 = .ok (.invokevirtual 51, 3) := fx_ok0 eL_drop_0.2.2.2.2.1
theorem dL_drop_7 : decode cL_drop 7 = .ok (.i2l, 1) := fx_ok0 eL_drop_0.2.2.2.2.2.1
theorem dL_drop_8 : decode cL_drop 8 = .ok (.putfield 13, 3) := fx_ok0 eL_drop_0.2.2.2.2.2.2.1
theorem dL_drop_11 : decode cL_drop 11 = .ok (.goto 11, 3) := fx_ok0 eL_drop_0.2.2.2.2.2.2.2.1
theorem dL_drop_14 : decode cL_drop 14 = .ok (.astore 4, 2) := fx_ok0 eL_drop_0.2.2.2.2.2.2.2.2.1
theorem dL_drop_16 : decode cL_drop 16 = .ok (.iconst 1, 1) := fx_ok0 eL_drop_0.2.2.2.2.2.2.2.2.2.1
theorem dL_drop_17 : decode cL_drop 17 = .ok (.ireturn, 1) := fx_ok0 eL_drop_0.2.2.2.2.2.2.2.2.2.2.1
theorem dL_drop_18 : decode cL_drop 18 = .ok (.astore 4, 2) := fx_ok0 eL_drop_0.2.2.2.2.2.2.2.2.2.2.2.1
theorem dL_drop_20 : decode cL_drop 20 = .ok (.iconst 2, 1) := fx_ok0 eL_drop_0.2.2.2.2.2.2.2.2.2.2.2.2.1
theorem dL_drop_21 : decode cL_drop 21 = .ok (.ireturn, 1) := fx_ok0 eL_drop_0.2.2.2.2.2.2.2.2.2.2.2.2.2.1
theorem dL_drop_22 : decode cL_drop 22 = .ok (.iconst 0, 1) := fx_ok0 eL_drop_0.2.2.2.2.2.2.2.2.2.2.2.2.2.2.1
theorem dL_drop_23 : decode cL_drop 23 = .ok (.ireturn, 1) := fx_ok0 eL_drop_0.2.2.2.2.2.2.2.2.2.2.2.2.2.2.2
theorem eL_has_0 : (fdecl cL_has.data.toList 0 = some (.aload 4, 2)) ∧ (fdecl cL_has.data.toList 2 = some (.aload_n 0, 1)) ∧ (fdecl cL_has.data.toList 3 = some (.iload_n 1, 1)) ∧ (fdecl cL_has.data.toList 4 = some (.iload_n 2, 1)) ∧ (fdecl cL_has.data.toList 5 = some (.iload_n 3, 1)) ∧ (fdecl cL_has.data.toList 6 = some (.invokevirtual 54, 3)) ∧ (fdecl cL_has.data.toList 9 = some (.ifCond .eq 7, 3)) ∧ (fdecl cL_has.data.toList 12 = some (.lconst 1, 1)) ∧ (fdecl cL_has.data.toList 13 = some (.goto 4, 3)) ∧ (fdecl cL_has.data.toList 16 = some (.lconst 0, 1)) ∧ (fdecl cL_has.data.toList 17 = some (.putfield 13, 3)) ∧ (fdecl cL_has.data.toList 20 = some (.goto 11, 3)) ∧ (fdecl cL_has.data.toList 23 = some (.astore 5, 2)) ∧ (fdecl cL_has.data.toList 25 = some (.iconst 1, 1)) ∧ (fdecl cL_has.data.toList 26 = some (.ireturn, 1)) ∧ (fdecl cL_has.data.toList 27 = some (.astore 5, 2)) := by decide +kernel
theorem dL_has_0 : decode cL_has 0 = .ok (.aload 4, 2) := fx_ok0 eL_has_0.1
theorem dL_has_2 : decode cL_has 2 = .ok (.aload_n 0, 1) := fx_ok0 eL_has_0.2.1
theorem dL_has_3 : decode cL_has 3 = .ok (.iload_n 1, 1) := fx_ok0 eL_has_0.2.2.1
theorem dL_has_4 : decode cL_has 4 = .ok (.iload_n 2, 1) := fx_ok0 eL_has_0.2.2.2.1
theorem dL_has_5 : decode cL_has 5 = .ok (.iload_n 3, 1) := fx_ok0 eL_has_0.2.2.2.2.1
theorem dL_has_6 : decode cL_has 6 = .ok (.invokevirtual 54, 3) := fx_ok0 eL_has_0.2.2.2.2.2.1
theorem dL_has_9 : decode cL_has 9 = .ok (.ifCond .eq 7, 3) := fx_ok0 eL_has_0.2.2.2.2.2.2.1
theorem dL_has_12 : decode cL_has 12 = .ok (.lconst 1, 1) := fx_ok0 eL_has_0.2.2.2.2.2.2.2.1
theorem dL_has_13 : decode cL_has 13 = .ok (.goto 4, 3) := fx_ok0 eL_has_0.2.2.2.2.2.2.2.2.1
theorem dL_has_16 : decode cL_has 16 = .ok (.lconst 0, 1) := fx_ok0 eL_has_0.2.2.2.2.2.2.2.2.2.1
theorem dL_has_17 : decode cL_has 17 = .ok (.putfield 13, 3) := fx_ok0 eL_has_0.2.2.2.2.2.2.2.2.2.2.1
theorem dL_has_20 : decode cL_has 20 = .ok (.goto 11, 3) := fx_ok0 eL_has_0.2.2.2.2.2.2.2.2.2.2.2.1
theorem dL_has_23 : decode cL_has 23 = .ok (.astore 5, 2) := fx_ok0 eL_has_0.2.2.2.2.2.2.2.2.2.2.2.2.1
theorem dL_has_25 : decode cL_has 25 = .ok (.iconst 1, 1) := fx_ok0 eL_has_0.2.2.2.2.2.2.2.2.2.2.2.2.2.1
theorem dL_has_26 : decode cL_has 26 = .ok (.ireturn, 1) := fx_ok0 eL_has_0.2.2.2.2.2.2.2.2.2.2.2.2.2.2.1
theorem dL_has_27 : decode cL_has 27 = .ok (.astore 5, 2) := fx_ok0 eL_has_0.2.2.2.2.2.2.2.2.2.2.2.2.2.2.2
theorem eL_has_29 : (fdecl cL_has.data.toList 29 = some (.iconst 2, 1)) ∧ (fdecl cL_has.data.toList 30 = some (.ireturn, 1)) ∧ (fdecl cL_has.data.toList 31 = some (.iconst 0, 1)) ∧ (fdecl cL_has.data.toList 32 = some (.ireturn, 1)) := by decide +kernel
theorem dL_has_29 : decode cL_has 29 = .ok (.iconst 2, 1) := fx_ok0 eL_has_29.1
theorem dL_has_30 : decode cL_has 30 = .ok (.ireturn, 1) := fx_ok0 eL_has_29.2.1
theorem dL_has_31 : decode cL_has 31 = .ok (.iconst 0, 1) := fx_ok0 eL_has_29.2.2.1
theorem dL_has_32 : decode cL_has 32 = .ok (.ireturn, 1) := fx_ok0 eL_has_29.2.2.2
theorem eL_near_0 : (fdecl cL_near.data.toList 0 = some (.aload 5, 2)) ∧ (fdecl cL_near.data.toList 2 = some (.aload_n 0, 1)) ∧ (fdecl cL_near.data.toList 3 = some (.iload_n 1, 1)) ∧ (fdecl cL_near.data.toList 4 = some (.iload_n 2, 1)) ∧ (fdecl cL_near.data.toList 5 = some (.iload_n 3, 1)) ∧ (fdecl cL_near.data.toList 6 = some (.iload 4, 2)) ∧ (fdecl cL_near.data.toList 8 = some (.invokevirtual 58, 3)) ∧ (fdecl cL_near.data.toList 11 = some (.i2l, 1)) ∧ (fdecl cL_near.data.toList 12 = some (.putfield 13, 3)) ∧ (fdecl cL_near.data.toList 15 = some (.goto 11, 3)) ∧ (fdecl cL_near.data.toList 18 = some (.astore 6, 2)) ∧ (fdecl cL_near.data.toList 20 = some (.iconst 1, 1)) ∧ (fdecl cL_near.data.toList 21 = some (.ireturn, 1)) ∧ (fdecl cL_near.data.toList 22 = some (.astore 6, 2)) ∧ (fdecl cL_near.data.toList 24 = some (.iconst 2, 1)) ∧ (fdecl cL_near.data.toList 25 = some (.ireturn, 1)) := by decide +kernel
theorem dL_near_0 : decode cL_near 0 = .ok (.aload 5, 2) := fx_ok0 eL_near_0.1
theorem dL_near_2 : decode cL_near 2 = .ok (.aload_n 0, 1) := fx_ok0 eL_near_0.2.1
theorem dL_near_3 : decode cL_near 3 = .ok (.iload_n 1, 1) := fx_ok0 eL_near_0.2.2.1
theorem dL_near_4 : decode cL_near 4 = .ok (.iload_n 2, 1) := fx_ok0 eL_near_0.2.2.2.1
theorem dL_near_5 : decode cL_near 5 = .ok (.iload_n 3, 1) := fx_ok0 eL_near_0.2.2.2.2.1
theorem dL_near_6 : decode cL_near 6 = .ok (.iload 4, 2) := fx_ok0 eL_near_0.2.2.2.2.2.1
theorem dL_near_8 : decode cL_near 8 = .ok (.invokevirtual 58, 3) := fx_ok0 eL_near_0.2.2.2.2.2.2.1
theorem dL_near_11 : decode cL_near 11 = .ok (.i2l, 1) := fx_ok0 eL_near_0.2.2.2.2.2.2.2.1
theorem dL_near_12 : decode cL_near 12 = .ok (.putfield 13, 3) := fx_ok0 eL_near_0.2.2.2.2.2.2.2.2.1
theorem dL_near_15 : decode cL_near 15 = .ok (.goto 11, 3) := fx_ok0 eL_near_0.2.2.2.2.2.2.2.2.2.1
theorem dL_near_18 : decode cL_near 18 = .ok (.astore 6, 2) := fx_ok0 eL_near_0.2.2.2.2.2.2.2.2.2.2.1
theorem dL_near_20 : decode cL_near 20 = .ok (.iconst 1, 1) := fx_ok0 eL_near_0.2.2.2.2.2.2.2.2.2.2.2.1
theorem dL_near_21 : decode cL_near 21 = .ok (.ireturn, 1) := fx_ok0 eL_near_0.2.2.2.2.2.2.2.2.2.2.2.2.1
theorem dL_near_22 : decode cL_near 22 = .ok (.astore 6, 2) := fx_ok0 eL_near_0.2.2.2.2.2.2.2.2.2.2.2.2.2.1
theorem dL_near_24 : decode cL_near 24 = .ok (.iconst 2, 1) := fx_ok0 eL_near_0.2.2.2.2.2.2.2.2.2.2.2.2.2.2.1
theorem dL_near_25 : decode cL_near 25 = .ok (.ireturn, 1) := fx_ok0 eL_near_0.2.2.2.2.2.2.2.2.2.2.2.2.2.2.2
theorem eL_near_26 : (fdecl cL_near.data.toList 26 = some (.iconst 0, 1)) ∧ (fdecl cL_near.data.toList 27 = some (.ireturn, 1)) := by decide +kernel
theorem dL_near_26 : decode cL_near 26 = .ok (.iconst 0, 1) := fx_ok0 eL_near_26.1
theorem dL_near_27 : decode cL_near 27 = .ok (.ireturn, 1) := fx_ok0 eL_near_26.2
theorem eL_end_0 : (fdecl cL_end.data.toList 0 = some (.aload 4, 2)) ∧ (fdecl cL_end.data.toList 2 = some (.aload_n 0, 1)) ∧ (fdecl cL_end.data.toList 3 = some (.iload_n 1, 1)) ∧ (fdecl cL_end.data.toList 4 = some (.iload_n 2, 1)) ∧ (fdecl cL_end.data.toList 5 = some (.iload_n 3, 1)) ∧ (fdecl cL_end.data.toList 6 = some (.invokevirtual 62, 3)) ∧ (fdecl cL_end.data.toList 9 = some (.i2l, 1)) ∧ (fdecl cL_end.data.toList 10 = some (.putfield 13, 3)) ∧ (fdecl cL_end.data.toList 13 = some (.goto 7, 3)) ∧ (fdecl cL_end.data.toList 16 = some (.astore 5, 2)) ∧ (fdecl cL_end.data.toList 18 = some (.iconst 1, 1)) ∧ (fdecl cL_end.data.toList 19 = some (.ireturn, 1)) ∧ (fdecl cL_end.data.toList 20 = some (.iconst 0, 1)) ∧ (fdecl cL_end.data.toList 21 = some (.ireturn, 1)) := by decide +kernel
theorem dL_end_0 : decode cL_end 0 = .ok (.aload 4, 2) := fx_ok0 eL_end_0.1
theorem dL_end_2 : decode cL_end 2 = .ok (.aload_n 0, 1) := fx_ok0 eL_end_0.2.1
theorem dL_end_3 : decode cL_end 3 = .ok (.iload_n 1, 1) := fx_ok0 eL_end_0.2.2.1
theorem dL_end_4 : decode cL_end 4 = .ok (.iload_n 2, 1) := fx_ok0 eL_end_0.2.2.2.1
theorem dL_end_5 : decode cL_end 5 = .ok (.iload_n 3, 1) := fx_ok0 eL_end_0.2.2.2.2.1
theorem dL_end_6 : decode cL_end 6 = .ok (.invokevirtual 62, 3) := fx_ok0 eL_end_0.2.2.2.2.2.1
theorem dL_end_9 : decode cL_end 9 = .ok (.i2l, 1) := fx_ok0 eL_end_0.2.2.2.2.2.2.1
theorem dL_end_10 : decode cL_end 10 = .ok (.putfield 13, 3) := fx_ok0 eL_end_0.2.2.2.2.2.2.2.1
theorem dL_end_13 : decode cL_end 13 = .ok (.goto 7, 3) := fx_ok0 eL_end_0.2.2.2.2.2.2.2.2.1
theorem dL_end_16 : decode cL_end 16 = .ok (.astore 5, 2) := fx_ok0 eL_end_0.2.2.2.2.2.2.2.2.2.1
theorem dL_end_18 : decode cL_end 18 = .ok (.iconst 1, 1) := fx_ok0 eL_end_0.2.2.2.2.2.2.2.2.2.2.1
theorem dL_end_19 : decode cL_end 19 = .ok (.ireturn, 1) := fx_ok0 eL_end_0.2.2.2.2.2.2.2.2.2.2.2.1
theorem dL_end_20 : decode cL_end 20 = .ok (.iconst 0, 1) := fx_ok0 eL_end_0.2.2.2.2.2.2.2.2.2.2.2.2.1
theorem dL_end_21 : decode cL_end 21 = .ok (.ireturn, 1) := fx_ok0 eL_end_0.2.2.2.2.2.2.2.2.2.2.2.2.2
theorem eL_keyAt_0 : (fdecl cL_keyAt.data.toList 0 = some (.aload 4, 2)) ∧ (fdecl cL_keyAt.data.toList 2 = some (.aload_n 0, 1)) ∧ (fdecl cL_keyAt.data.toList 3 = some (.iload_n 1, 1)) ∧ (fdecl cL_keyAt.data.toList 4 = some (.iload_n 2, 1)) ∧ (fdecl cL_keyAt.data.toList 5 = some (.iload_n 3, 1)) ∧ (fdecl cL_keyAt.data.toList 6 = some (.invokevirtual 66, 3)) ∧ (fdecl cL_keyAt.data.toList 9 = some (.i2l, 1)) ∧ (fdecl cL_keyAt.data.toList 10 = some (.putfield 13, 3)) ∧ (fdecl cL_keyAt.data.toList 13 = some (.goto 11, 3)) ∧ (fdecl cL_keyAt.data.toList 16 = some (.astore 5, 2)) ∧ (fdecl cL_keyAt.data.toList 18 = some (.iconst 1, 1)) ∧ (fdecl cL_keyAt.data.toList 19 = some (.ireturn, 1)) ∧ (fdecl cL_keyAt.data.toList 20 = some (.astore 5, 2)) ∧ (fdecl cL_keyAt.data.toList 22 = some (.iconst 2, 1)) ∧ (fdecl cL_keyAt.data.toList 23 = some (.ireturn, 1)) ∧ (fdecl cL_keyAt.data.toList 24 = some (.iconst 0, 1)) := by decide +kernel
theorem dL_keyAt_0 : decode cL_keyAt 0 = .ok (.aload 4, 2) := fx_ok0 eL_keyAt_0.1
theorem dL_keyAt_2 : decode cL_keyAt 2 = .ok (.aload_n 0, 1) := fx_ok0 eL_keyAt_0.2.1
theorem dL_keyAt_3 : decode cL_keyAt 3 = .ok (.iload_n 1, 1) := fx_ok0 eL_keyAt_0.2.2.1
theorem dL_keyAt_4 : decode cL_keyAt 4 = .ok (.iload_n 2, 1) := fx_ok0 eL_keyAt_0.2.2.2.1
theorem dL_keyAt_5 : decode cL_keyAt 5 = .ok (.iload_n 3, 1) := fx_ok0 eL_keyAt_0.2.2.2.2.1
theorem dL_keyAt_6 : decode cL_keyAt 6 = .ok (.invokevirtual 66, 3) := fx_ok0 eL_keyAt_0.2.2.2.2.2.1
theorem dL_keyAt_9 : decode cL_keyAt 9 = .ok (.i2l, 1) := fx_ok0 eL_keyAt_0.2.2.2.2.2.2.1
theorem dL_keyAt_10 : decode cL_keyAt 10 = .ok (.putfield 13, 3) := fx_ok0 eL_keyAt_0.2.2.2.2.2.2.2.1
theorem dL_keyAt_13 : decode cL_keyAt 13 = .ok (.goto 11, 3) := fx_ok0 eL_keyAt_0.2.2.2.2.2.2.2.2.1
theorem dL_keyAt_16 : decode cL_keyAt 16 = .ok (.astore 5, 2) := fx_ok0 eL_keyAt_0.2.2.2.2.2.2.2.2.2.1
theorem dL_keyAt_18 : decode cL_keyAt 18 = .ok (.iconst 1, 1) := fx_ok0 eL_keyAt_0.2.2.2.2.2.2.2.2.2.2.1
theorem dL_keyAt_19 : decode cL_keyAt 19 = .ok (.ireturn, 1) := fx_ok0 eL_keyAt_0.2.2.2.2.2.2.2.2.2.2.2.1
theorem dL_keyAt_20 : decode cL_keyAt 20 = .ok (.astore 5, 2) := fx_ok0 eL_keyAt_0.2.2.2.2.2.2.2.2.2.2.2.2.1
theorem dL_keyAt_22 : decode cL_keyAt 22 = .ok (.iconst 2, 1) := fx_ok0 eL_keyAt_0.2.2.2.2.2.2.2.2.2.2.2.2.2.1
theorem dL_keyAt_23 : decode cL_keyAt 23 = .ok (.ireturn, 1) := fx_ok0 eL_keyAt_0.2.2.2.2.2.2.2.2.2.2.2.2.2.2.1
theorem dL_keyAt_24 : decode cL_keyAt 24 = .ok (.iconst 0, 1) := fx_ok0 eL_keyAt_0.2.2.2.2.2.2.2.2.2.2.2.2.2.2.2
theorem eL_keyAt_25 : (fdecl cL_keyAt.data.toList 25 = some (.ireturn, 1)) := by decide +kernel
theorem dL_keyAt_25 : decode cL_keyAt 25 = .ok (.ireturn, 1) := fx_ok0 eL_keyAt_25
theorem eL_tellBook_0 : (fdecl cL_tellBook.data.toList 0 = some (.aload_n 3, 1)) ∧ (fdecl cL_tellBook.data.toList 1 = some (.aload_n 0, 1)) ∧ (fdecl cL_tellBook.data.toList 2 = some (.iload_n 1, 1)) ∧ (fdecl cL_tellBook.data.toList 3 = some (.iload_n 2, 1)) ∧ (fdecl cL_tellBook.data.toList 4 = some (.invokevirtual 69, 3)) ∧ (fdecl cL_tellBook.data.toList 7 = some (.i2l, 1)) ∧ (fdecl cL_tellBook.data.toList 8 = some (.putfield 13, 3)) ∧ (fdecl cL_tellBook.data.toList 11 = some (.goto 11, 3)) ∧ (fdecl cL_tellBook.data.toList 14 = some (.astore 4, 2)) ∧ (fdecl cL_tellBook.data.toList 16 = some (.iconst 1, 1)) ∧ (fdecl cL_tellBook.data.toList 17 = some (.ireturn, 1)) ∧ (fdecl cL_tellBook.data.toList 18 = some (.astore 4, 2)) ∧ (fdecl cL_tellBook.data.toList 20 = some (.iconst 2, 1)) ∧ (fdecl cL_tellBook.data.toList 21 = some (.ireturn, 1)) ∧ (fdecl cL_tellBook.data.toList 22 = some (.iconst 0, 1)) ∧ (fdecl cL_tellBook.data.toList 23 = some (.ireturn, 1)) := by decide +kernel
theorem dL_tellBook_0 : decode cL_tellBook 0 = .ok (.aload_n 3, 1) := fx_ok0 eL_tellBook_0.1
theorem dL_tellBook_1 : decode cL_tellBook 1 = .ok (.aload_n 0, 1) := fx_ok0 eL_tellBook_0.2.1
theorem dL_tellBook_2 : decode cL_tellBook 2 = .ok (.iload_n 1, 1) := fx_ok0 eL_tellBook_0.2.2.1
theorem dL_tellBook_3 : decode cL_tellBook 3 = .ok (.iload_n 2, 1) := fx_ok0 eL_tellBook_0.2.2.2.1
theorem dL_tellBook_4 : decode cL_tellBook 4 = .ok (.invokevirtual 69, 3) := fx_ok0 eL_tellBook_0.2.2.2.2.1
theorem dL_tellBook_7 : decode cL_tellBook 7 = .ok (.i2l, 1) := fx_ok0 eL_tellBook_0.2.2.2.2.2.1
theorem dL_tellBook_8 : decode cL_tellBook 8 = .ok (.putfield 13, 3) := fx_ok0 eL_tellBook_0.2.2.2.2.2.2.1
theorem dL_tellBook_11 : decode cL_tellBook 11 = .ok (.goto 11, 3) := fx_ok0 eL_tellBook_0.2.2.2.2.2.2.2.1
theorem dL_tellBook_14 : decode cL_tellBook 14 = .ok (.astore 4, 2) := fx_ok0 eL_tellBook_0.2.2.2.2.2.2.2.2.1
theorem dL_tellBook_16 : decode cL_tellBook 16 = .ok (.iconst 1, 1) := fx_ok0 eL_tellBook_0.2.2.2.2.2.2.2.2.2.1
theorem dL_tellBook_17 : decode cL_tellBook 17 = .ok (.ireturn, 1) := fx_ok0 eL_tellBook_0.2.2.2.2.2.2.2.2.2.2.1
theorem dL_tellBook_18 : decode cL_tellBook 18 = .ok (.astore 4, 2) := fx_ok0 eL_tellBook_0.2.2.2.2.2.2.2.2.2.2.2.1
theorem dL_tellBook_20 : decode cL_tellBook 20 = .ok (.iconst 2, 1) := fx_ok0 eL_tellBook_0.2.2.2.2.2.2.2.2.2.2.2.2.1
theorem dL_tellBook_21 : decode cL_tellBook 21 = .ok (.ireturn, 1) := fx_ok0 eL_tellBook_0.2.2.2.2.2.2.2.2.2.2.2.2.2.1
theorem dL_tellBook_22 : decode cL_tellBook 22 = .ok (.iconst 0, 1) := fx_ok0 eL_tellBook_0.2.2.2.2.2.2.2.2.2.2.2.2.2.2.1
theorem dL_tellBook_23 : decode cL_tellBook 23 = .ok (.ireturn, 1) := fx_ok0 eL_tellBook_0.2.2.2.2.2.2.2.2.2.2.2.2.2.2.2
theorem eL_bookText_0 : (fdecl cL_bookText.data.toList 0 = some (.aload_n 2, 1)) ∧ (fdecl cL_bookText.data.toList 1 = some (.aload_n 0, 1)) ∧ (fdecl cL_bookText.data.toList 2 = some (.iload_n 1, 1)) ∧ (fdecl cL_bookText.data.toList 3 = some (.invokevirtual 72, 3)) ∧ (fdecl cL_bookText.data.toList 6 = some (.putfield 76, 3)) ∧ (fdecl cL_bookText.data.toList 9 = some (.goto 6, 3)) ∧ (fdecl cL_bookText.data.toList 12 = some (.astore_n 3, 1)) ∧ (fdecl cL_bookText.data.toList 13 = some (.iconst 1, 1)) ∧ (fdecl cL_bookText.data.toList 14 = some (.ireturn, 1)) ∧ (fdecl cL_bookText.data.toList 15 = some (.iconst 0, 1)) ∧ (fdecl cL_bookText.data.toList 16 = some (.ireturn, 1)) := by decide +kernel
theorem dL_bookText_0 : decode cL_bookText 0 = .ok (.aload_n 2, 1) := fx_ok0 eL_bookText_0.1
theorem dL_bookText_1 : decode cL_bookText 1 = .ok (.aload_n 0, 1) := fx_ok0 eL_bookText_0.2.1
theorem dL_bookText_2 : decode cL_bookText 2 = .ok (.iload_n 1, 1) := fx_ok0 eL_bookText_0.2.2.1
theorem dL_bookText_3 : decode cL_bookText 3 = .ok (.invokevirtual 72, 3) := fx_ok0 eL_bookText_0.2.2.2.1
theorem dL_bookText_6 : decode cL_bookText 6 = .ok (.putfield 76, 3) := fx_ok0 eL_bookText_0.2.2.2.2.1
theorem dL_bookText_9 : decode cL_bookText 9 = .ok (.goto 6, 3) := fx_ok0 eL_bookText_0.2.2.2.2.2.1
theorem dL_bookText_12 : decode cL_bookText 12 = .ok (.astore_n 3, 1) := fx_ok0 eL_bookText_0.2.2.2.2.2.2.1
theorem dL_bookText_13 : decode cL_bookText 13 = .ok (.iconst 1, 1) := fx_ok0 eL_bookText_0.2.2.2.2.2.2.2.1
theorem dL_bookText_14 : decode cL_bookText 14 = .ok (.ireturn, 1) := fx_ok0 eL_bookText_0.2.2.2.2.2.2.2.2.1
theorem dL_bookText_15 : decode cL_bookText 15 = .ok (.iconst 0, 1) := fx_ok0 eL_bookText_0.2.2.2.2.2.2.2.2.2.1
theorem dL_bookText_16 : decode cL_bookText 16 = .ok (.ireturn, 1) := fx_ok0 eL_bookText_0.2.2.2.2.2.2.2.2.2.2
theorem eL_sameBooks_0 : (fdecl cL_sameBooks.data.toList 0 = some (.aload_n 3, 1)) ∧ (fdecl cL_sameBooks.data.toList 1 = some (.aload_n 0, 1)) ∧ (fdecl cL_sameBooks.data.toList 2 = some (.iload_n 1, 1)) ∧ (fdecl cL_sameBooks.data.toList 3 = some (.iload_n 2, 1)) ∧ (fdecl cL_sameBooks.data.toList 4 = some (.invokevirtual 80, 3)) ∧ (fdecl cL_sameBooks.data.toList 7 = some (.ifCond .eq 7, 3)) ∧ (fdecl cL_sameBooks.data.toList 10 = some (.lconst 1, 1)) ∧ (fdecl cL_sameBooks.data.toList 11 = some (.goto 4, 3)) ∧ (fdecl cL_sameBooks.data.toList 14 = some (.lconst 0, 1)) ∧ (fdecl cL_sameBooks.data.toList 15 = some (.putfield 13, 3)) ∧ (fdecl cL_sameBooks.data.toList 18 = some (.goto 7, 3)) ∧ (fdecl cL_sameBooks.data.toList 21 = some (.astore 4, 2)) ∧ (fdecl cL_sameBooks.data.toList 23 = some (.iconst 1, 1)) ∧ (fdecl cL_sameBooks.data.toList 24 = some (.ireturn, 1)) ∧ (fdecl cL_sameBooks.data.toList 25 = some (.iconst 0, 1)) ∧ (fdecl cL_sameBooks.data.toList 26 = some (.ireturn, 1)) := by decide +kernel
theorem dL_sameBooks_0 : decode cL_sameBooks 0 = .ok (.aload_n 3, 1) := fx_ok0 eL_sameBooks_0.1
theorem dL_sameBooks_1 : decode cL_sameBooks 1 = .ok (.aload_n 0, 1) := fx_ok0 eL_sameBooks_0.2.1
theorem dL_sameBooks_2 : decode cL_sameBooks 2 = .ok (.iload_n 1, 1) := fx_ok0 eL_sameBooks_0.2.2.1
theorem dL_sameBooks_3 : decode cL_sameBooks 3 = .ok (.iload_n 2, 1) := fx_ok0 eL_sameBooks_0.2.2.2.1
theorem dL_sameBooks_4 : decode cL_sameBooks 4 = .ok (.invokevirtual 80, 3) := fx_ok0 eL_sameBooks_0.2.2.2.2.1
theorem dL_sameBooks_7 : decode cL_sameBooks 7 = .ok (.ifCond .eq 7, 3) := fx_ok0 eL_sameBooks_0.2.2.2.2.2.1
theorem dL_sameBooks_10 : decode cL_sameBooks 10 = .ok (.lconst 1, 1) := fx_ok0 eL_sameBooks_0.2.2.2.2.2.2.1
theorem dL_sameBooks_11 : decode cL_sameBooks 11 = .ok (.goto 4, 3) := fx_ok0 eL_sameBooks_0.2.2.2.2.2.2.2.1
theorem dL_sameBooks_14 : decode cL_sameBooks 14 = .ok (.lconst 0, 1) := fx_ok0 eL_sameBooks_0.2.2.2.2.2.2.2.2.1
theorem dL_sameBooks_15 : decode cL_sameBooks 15 = .ok (.putfield 13, 3) := fx_ok0 eL_sameBooks_0.2.2.2.2.2.2.2.2.2.1
theorem dL_sameBooks_18 : decode cL_sameBooks 18 = .ok (.goto 7, 3) := fx_ok0 eL_sameBooks_0.2.2.2.2.2.2.2.2.2.2.1
theorem dL_sameBooks_21 : decode cL_sameBooks 21 = .ok (.astore 4, 2) := fx_ok0 eL_sameBooks_0.2.2.2.2.2.2.2.2.2.2.2.1
theorem dL_sameBooks_23 : decode cL_sameBooks 23 = .ok (.iconst 1, 1) := fx_ok0 eL_sameBooks_0.2.2.2.2.2.2.2.2.2.2.2.2.1
theorem dL_sameBooks_24 : decode cL_sameBooks 24 = .ok (.ireturn, 1) := fx_ok0 eL_sameBooks_0.2.2.2.2.2.2.2.2.2.2.2.2.2.1
theorem dL_sameBooks_25 : decode cL_sameBooks 25 = .ok (.iconst 0, 1) := fx_ok0 eL_sameBooks_0.2.2.2.2.2.2.2.2.2.2.2.2.2.2.1
theorem dL_sameBooks_26 : decode cL_sameBooks 26 = .ok (.ireturn, 1) := fx_ok0 eL_sameBooks_0.2.2.2.2.2.2.2.2.2.2.2.2.2.2.2
theorem eL_openView_0 : (fdecl cL_openView.data.toList 0 = some (.aload 7, 2)) ∧ (fdecl cL_openView.data.toList 2 = some (.aload_n 0, 1)) ∧ (fdecl cL_openView.data.toList 3 = some (.iload_n 1, 1)) ∧ (fdecl cL_openView.data.toList 4 = some (.iload_n 2, 1)) ∧ (fdecl cL_openView.data.toList 5 = some (.iload_n 3, 1)) ∧ (fdecl cL_openView.data.toList 6 = some (.iload 4, 2)) ∧ (fdecl cL_openView.data.toList 8 = some (.iload 5, 2)) ∧ (fdecl cL_openView.data.toList 10 = some (.iload 6, 2)) ∧ (fdecl cL_openView.data.toList 12 = some (.invokevirtual 84, 3)) ∧ (fdecl cL_openView.data.toList 15 = some (.i2l, 1)) ∧ (fdecl cL_openView.data.toList 16 = some (.putfield 13, 3)) ∧ (fdecl cL_openView.data.toList 19 = some (.goto 11, 3)) ∧ (fdecl cL_openView.data.toList 22 = some (.astore 8, 2)) ∧ (fdecl cL_openView.data.toList 24 = some (.iconst 1, 1)) ∧ (fdecl cL_openView.data.toList 25 = some (.ireturn, 1)) ∧ (fdecl cL_openView.data.toList 26 = some (.astore 8, 2)) := by decide +kernel
theorem dL_openView_0 : decode cL_openView 0 = .ok (.aload 7, 2) := fx_ok0 eL_openView_0.1
theorem dL_openView_2 : decode cL_openView 2 = .ok (.aload_n 0, 1) := fx_ok0 eL_openView_0.2.1
theorem dL_openView_3 : decode cL_openView 3 = .ok (.iload_n 1, 1) := fx_ok0 eL_openView_0.2.2.1
theorem dL_openView_4 : decode cL_openView 4 = .ok (.iload_n 2, 1) := fx_ok0 eL_openView_0.2.2.2.1
theorem dL_openView_5 : decode cL_openView 5 = .ok (.iload_n 3, 1) := fx_ok0 eL_openView_0.2.2.2.2.1
theorem dL_openView_6 : decode cL_openView 6 = .ok (.iload 4, 2) := fx_ok0 eL_openView_0.2.2.2.2.2.1
theorem dL_openView_8 : decode cL_openView 8 = .ok (.iload 5, 2) := fx_ok0 eL_openView_0.2.2.2.2.2.2.1
theorem dL_openView_10 : decode cL_openView 10 = .ok (.iload 6, 2) := fx_ok0 eL_openView_0.2.2.2.2.2.2.2.1
theorem dL_openView_12 : decode cL_openView 12 = .ok (.invokevirtual 84, 3) := fx_ok0 eL_openView_0.2.2.2.2.2.2.2.2.1
theorem dL_openView_15 : decode cL_openView 15 = .ok (.i2l, 1) := fx_ok0 eL_openView_0.2.2.2.2.2.2.2.2.2.1
theorem dL_openView_16 : decode cL_openView 16 = .ok (.putfield 13, 3) := fx_ok0 eL_openView_0.2.2.2.2.2.2.2.2.2.2.1
theorem dL_openView_19 : decode cL_openView 19 = .ok (.goto 11, 3) := fx_ok0 eL_openView_0.2.2.2.2.2.2.2.2.2.2.2.1
theorem dL_openView_22 : decode cL_openView 22 = .ok (.astore 8, 2) := fx_ok0 eL_openView_0.2.2.2.2.2.2.2.2.2.2.2.2.1
theorem dL_openView_24 : decode cL_openView 24 = .ok (.iconst 1, 1) := fx_ok0 eL_openView_0.2.2.2.2.2.2.2.2.2.2.2.2.2.1
theorem dL_openView_25 : decode cL_openView 25 = .ok (.ireturn, 1) := fx_ok0 eL_openView_0.2.2.2.2.2.2.2.2.2.2.2.2.2.2.1
theorem dL_openView_26 : decode cL_openView 26 = .ok (.astore 8, 2) := fx_ok0 eL_openView_0.2.2.2.2.2.2.2.2.2.2.2.2.2.2.2
theorem eL_openView_28 : (fdecl cL_openView.data.toList 28 = some (.iconst 2, 1)) ∧ (fdecl cL_openView.data.toList 29 = some (.ireturn, 1)) ∧ (fdecl cL_openView.data.toList 30 = some (.iconst 0, 1)) ∧ (fdecl cL_openView.data.toList 31 = some (.ireturn, 1)) := by decide +kernel
theorem dL_openView_28 : decode cL_openView 28 = .ok (.iconst 2, 1) := fx_ok0 eL_openView_28.1
theorem dL_openView_29 : decode cL_openView 29 = .ok (.ireturn, 1) := fx_ok0 eL_openView_28.2.1
theorem dL_openView_30 : decode cL_openView 30 = .ok (.iconst 0, 1) := fx_ok0 eL_openView_28.2.2.1
theorem dL_openView_31 : decode cL_openView 31 = .ok (.ireturn, 1) := fx_ok0 eL_openView_28.2.2.2
theorem eL_narrowView_0 : (fdecl cL_narrowView.data.toList 0 = some (.aload 5, 2)) ∧ (fdecl cL_narrowView.data.toList 2 = some (.aload_n 0, 1)) ∧ (fdecl cL_narrowView.data.toList 3 = some (.iload_n 1, 1)) ∧ (fdecl cL_narrowView.data.toList 4 = some (.iload_n 2, 1)) ∧ (fdecl cL_narrowView.data.toList 5 = some (.iload_n 3, 1)) ∧ (fdecl cL_narrowView.data.toList 6 = some (.iload 4, 2)) ∧ (fdecl cL_narrowView.data.toList 8 = some (.invokevirtual 88, 3)) ∧ (fdecl cL_narrowView.data.toList 11 = some (.i2l, 1)) ∧ (fdecl cL_narrowView.data.toList 12 = some (.putfield 13, 3)) ∧ (fdecl cL_narrowView.data.toList 15 = some (.goto 11, 3)) ∧ (fdecl cL_narrowView.data.toList 18 = some (.astore 6, 2)) ∧ (fdecl cL_narrowView.data.toList 20 = some (.iconst 1, 1)) ∧ (fdecl cL_narrowView.data.toList 21 = some (.ireturn, 1)) ∧ (fdecl cL_narrowView.data.toList 22 = some (.astore 6, 2)) ∧ (fdecl cL_narrowView.data.toList 24 = some (.iconst 2, 1)) ∧ (fdecl cL_narrowView.data.toList 25 = some (.ireturn, 1)) := by decide +kernel
theorem dL_narrowView_0 : decode cL_narrowView 0 = .ok (.aload 5, 2) := fx_ok0 eL_narrowView_0.1
theorem dL_narrowView_2 : decode cL_narrowView 2 = .ok (.aload_n 0, 1) := fx_ok0 eL_narrowView_0.2.1
theorem dL_narrowView_3 : decode cL_narrowView 3 = .ok (.iload_n 1, 1) := fx_ok0 eL_narrowView_0.2.2.1
theorem dL_narrowView_4 : decode cL_narrowView 4 = .ok (.iload_n 2, 1) := fx_ok0 eL_narrowView_0.2.2.2.1
theorem dL_narrowView_5 : decode cL_narrowView 5 = .ok (.iload_n 3, 1) := fx_ok0 eL_narrowView_0.2.2.2.2.1
theorem dL_narrowView_6 : decode cL_narrowView 6 = .ok (.iload 4, 2) := fx_ok0 eL_narrowView_0.2.2.2.2.2.1
theorem dL_narrowView_8 : decode cL_narrowView 8 = .ok (.invokevirtual 88, 3) := fx_ok0 eL_narrowView_0.2.2.2.2.2.2.1
theorem dL_narrowView_11 : decode cL_narrowView 11 = .ok (.i2l, 1) := fx_ok0 eL_narrowView_0.2.2.2.2.2.2.2.1
theorem dL_narrowView_12 : decode cL_narrowView 12 = .ok (.putfield 13, 3) := fx_ok0 eL_narrowView_0.2.2.2.2.2.2.2.2.1
theorem dL_narrowView_15 : decode cL_narrowView 15 = .ok (.goto 11, 3) := fx_ok0 eL_narrowView_0.2.2.2.2.2.2.2.2.2.1
theorem dL_narrowView_18 : decode cL_narrowView 18 = .ok (.astore 6, 2) := fx_ok0 eL_narrowView_0.2.2.2.2.2.2.2.2.2.2.1
theorem dL_narrowView_20 : decode cL_narrowView 20 = .ok (.iconst 1, 1) := fx_ok0 eL_narrowView_0.2.2.2.2.2.2.2.2.2.2.2.1
theorem dL_narrowView_21 : decode cL_narrowView 21 = .ok (.ireturn, 1) := fx_ok0 eL_narrowView_0.2.2.2.2.2.2.2.2.2.2.2.2.1
theorem dL_narrowView_22 : decode cL_narrowView 22 = .ok (.astore 6, 2) := fx_ok0 eL_narrowView_0.2.2.2.2.2.2.2.2.2.2.2.2.2.1
theorem dL_narrowView_24 : decode cL_narrowView 24 = .ok (.iconst 2, 1) := fx_ok0 eL_narrowView_0.2.2.2.2.2.2.2.2.2.2.2.2.2.2.1
theorem dL_narrowView_25 : decode cL_narrowView 25 = .ok (.ireturn, 1) := fx_ok0 eL_narrowView_0.2.2.2.2.2.2.2.2.2.2.2.2.2.2.2
theorem eL_narrowView_26 : (fdecl cL_narrowView.data.toList 26 = some (.iconst 0, 1)) ∧ (fdecl cL_narrowView.data.toList 27 = some (.ireturn, 1)) := by decide +kernel
theorem dL_narrowView_26 : decode cL_narrowView 26 = .ok (.iconst 0, 1) := fx_ok0 eL_narrowView_26.1
theorem dL_narrowView_27 : decode cL_narrowView 27 = .ok (.ireturn, 1) := fx_ok0 eL_narrowView_26.2
theorem eL_buildFromView_0 : (fdecl cL_buildFromView.data.toList 0 = some (.aload 4, 2)) ∧ (fdecl cL_buildFromView.data.toList 2 = some (.aload_n 0, 1)) ∧ (fdecl cL_buildFromView.data.toList 3 = some (.iload_n 1, 1)) ∧ (fdecl cL_buildFromView.data.toList 4 = some (.iload_n 2, 1)) ∧ (fdecl cL_buildFromView.data.toList 5 = some (.iload_n 3, 1)) ∧ (fdecl cL_buildFromView.data.toList 6 = some (.invokevirtual 91, 3)) ∧ (fdecl cL_buildFromView.data.toList 9 = some (.i2l, 1)) ∧ (fdecl cL_buildFromView.data.toList 10 = some (.putfield 13, 3)) ∧ (fdecl cL_buildFromView.data.toList 13 = some (.goto 11, 3)) ∧ (fdecl cL_buildFromView.data.toList 16 = some (.astore 5, 2)) ∧ (fdecl cL_buildFromView.data.toList 18 = some (.iconst 1, 1)) ∧ (fdecl cL_buildFromView.data.toList 19 = some (.ireturn, 1)) ∧ (fdecl cL_buildFromView.data.toList 20 = some (.astore 5, 2)) ∧ (fdecl cL_buildFromView.data.toList 22 = some (.iconst 2, 1)) ∧ (fdecl cL_buildFromView.data.toList 23 = some (.ireturn, 1)) ∧ (fdecl cL_buildFromView.data.toList 24 = some (.iconst 0, 1)) := by decide +kernel
theorem dL_buildFromView_0 : decode cL_buildFromView 0 = .ok (.aload 4, 2) := fx_ok0 eL_buildFromView_0.1
theorem dL_buildFromView_2 : decode cL_buildFromView 2 = .ok (.aload_n 0, 1) := fx_ok0 eL_buildFromView_0.2.1
theorem dL_buildFromView_3 : decode cL_buildFromView 3 = .ok (.iload_n 1, 1) := fx_ok0 eL_buildFromView_0.2.2.1
theorem dL_buildFromView_4 : decode cL_buildFromView 4 = .ok (.iload_n 2, 1) := fx_ok0 eL_buildFromView_0.2.2.2.1
theorem dL_buildFromView_5 : decode cL_buildFromView 5 = .ok (.iload_n 3, 1) := fx_ok0 eL_buildFromView_0.2.2.2.2.1
theorem dL_buildFromView_6 : decode cL_buildFromView 6 = .ok (.invokevirtual 91, 3) := fx_ok0 eL_buildFromView_0.2.2.2.2.2.1
theorem dL_buildFromView_9 : decode cL_buildFromView 9 = .ok (.i2l, 1) := fx_ok0 eL_buildFromView_0.2.2.2.2.2.2.1
theorem dL_buildFromView_10 : decode cL_buildFromView 10 = .ok (.putfield 13, 3) := fx_ok0 eL_buildFromView_0.2.2.2.2.2.2.2.1
theorem dL_buildFromView_13 : decode cL_buildFromView 13 = .ok (.goto 11, 3) := fx_ok0 eL_buildFromView_0.2.2.2.2.2.2.2.2.1
theorem dL_buildFromView_16 : decode cL_buildFromView 16 = .ok (.astore 5, 2) := fx_ok0 eL_buildFromView_0.2.2.2.2.2.2.2.2.2.1
theorem dL_buildFromView_18 : decode cL_buildFromView 18 = .ok (.iconst 1, 1) := fx_ok0 eL_buildFromView_0.2.2.2.2.2.2.2.2.2.2.1
theorem dL_buildFromView_19 : decode cL_buildFromView 19 = .ok (.ireturn, 1) := fx_ok0 eL_buildFromView_0.2.2.2.2.2.2.2.2.2.2.2.1
theorem dL_buildFromView_20 : decode cL_buildFromView 20 = .ok (.astore 5, 2) := fx_ok0 eL_buildFromView_0.2.2.2.2.2.2.2.2.2.2.2.2.1
theorem dL_buildFromView_22 : decode cL_buildFromView 22 = .ok (.iconst 2, 1) := fx_ok0 eL_buildFromView_0.2.2.2.2.2.2.2.2.2.2.2.2.2.1
theorem dL_buildFromView_23 : decode cL_buildFromView 23 = .ok (.ireturn, 1) := fx_ok0 eL_buildFromView_0.2.2.2.2.2.2.2.2.2.2.2.2.2.2.1
theorem dL_buildFromView_24 : decode cL_buildFromView 24 = .ok (.iconst 0, 1) := fx_ok0 eL_buildFromView_0.2.2.2.2.2.2.2.2.2.2.2.2.2.2.2
theorem eL_buildFromView_25 : (fdecl cL_buildFromView.data.toList 25 = some (.ireturn, 1)) := by decide +kernel
theorem dL_buildFromView_25 : decode cL_buildFromView 25 = .ok (.ireturn, 1) := fx_ok0 eL_buildFromView_25
theorem eL_viewPut_0 : (fdecl cL_viewPut.data.toList 0 = some (.aload 4, 2)) ∧ (fdecl cL_viewPut.data.toList 2 = some (.aload_n 0, 1)) ∧ (fdecl cL_viewPut.data.toList 3 = some (.iload_n 1, 1)) ∧ (fdecl cL_viewPut.data.toList 4 = some (.iload_n 2, 1)) ∧ (fdecl cL_viewPut.data.toList 5 = some (.iload_n 3, 1)) ∧ (fdecl cL_viewPut.data.toList 6 = some (.invokevirtual 94, 3)) ∧ (fdecl cL_viewPut.data.toList 9 = some (.i2l, 1)) ∧ (fdecl cL_viewPut.data.toList 10 = some (.putfield 13, 3)) ∧ (fdecl cL_viewPut.data.toList 13 = some (.goto 11, 3)) ∧ (fdecl cL_viewPut.data.toList 16 = some (.astore 5, 2)) ∧ (fdecl cL_viewPut.data.toList 18 = some (.iconst 1, 1)) ∧ (fdecl cL_viewPut.data.toList 19 = some (.ireturn, 1)) ∧ (fdecl cL_viewPut.data.toList 20 = some (.astore 5, 2)) ∧ (fdecl cL_viewPut.data.toList 22 = some (.iconst 2, 1)) ∧ (fdecl cL_viewPut.data.toList 23 = some (.ireturn, 1)) ∧ (fdecl cL_viewPut.data.toList 24 = some (.iconst 0, 1)) := by decide +kernel
theorem dL_viewPut_0 : decode cL_viewPut 0 = .ok (.aload 4, 2) := fx_ok0 eL_viewPut_0.1
theorem dL_viewPut_2 : decode cL_viewPut 2 = .ok (.aload_n 0, 1) := fx_ok0 eL_viewPut_0.2.1
theorem dL_viewPut_3 : decode cL_viewPut 3 = .ok (.iload_n 1, 1) := fx_ok0 eL_viewPut_0.2.2.1
theorem dL_viewPut_4 : decode cL_viewPut 4 = .ok (.iload_n 2, 1) := fx_ok0 eL_viewPut_0.2.2.2.1
theorem dL_viewPut_5 : decode cL_viewPut 5 = .ok (.iload_n 3, 1) := fx_ok0 eL_viewPut_0.2.2.2.2.1
theorem dL_viewPut_6 : decode cL_viewPut 6 = .ok (.invokevirtual 94, 3) := fx_ok0 eL_viewPut_0.2.2.2.2.2.1
theorem dL_viewPut_9 : decode cL_viewPut 9 = .ok (.i2l, 1) := fx_ok0 eL_viewPut_0.2.2.2.2.2.2.1
theorem dL_viewPut_10 : decode cL_viewPut 10 = .ok (.putfield 13, 3) := fx_ok0 eL_viewPut_0.2.2.2.2.2.2.2.1
theorem dL_viewPut_13 : decode cL_viewPut 13 = .ok (.goto 11, 3) := fx_ok0 eL_viewPut_0.2.2.2.2.2.2.2.2.1
theorem dL_viewPut_16 : decode cL_viewPut 16 = .ok (.astore 5, 2) := fx_ok0 eL_viewPut_0.2.2.2.2.2.2.2.2.2.1
theorem dL_viewPut_18 : decode cL_viewPut 18 = .ok (.iconst 1, 1) := fx_ok0 eL_viewPut_0.2.2.2.2.2.2.2.2.2.2.1
theorem dL_viewPut_19 : decode cL_viewPut 19 = .ok (.ireturn, 1) := fx_ok0 eL_viewPut_0.2.2.2.2.2.2.2.2.2.2.2.1
theorem dL_viewPut_20 : decode cL_viewPut 20 = .ok (.astore 5, 2) := fx_ok0 eL_viewPut_0.2.2.2.2.2.2.2.2.2.2.2.2.1
theorem dL_viewPut_22 : decode cL_viewPut 22 = .ok (.iconst 2, 1) := fx_ok0 eL_viewPut_0.2.2.2.2.2.2.2.2.2.2.2.2.2.1
theorem dL_viewPut_23 : decode cL_viewPut 23 = .ok (.ireturn, 1) := fx_ok0 eL_viewPut_0.2.2.2.2.2.2.2.2.2.2.2.2.2.2.1
theorem dL_viewPut_24 : decode cL_viewPut 24 = .ok (.iconst 0, 1) := fx_ok0 eL_viewPut_0.2.2.2.2.2.2.2.2.2.2.2.2.2.2.2
theorem eL_viewPut_25 : (fdecl cL_viewPut.data.toList 25 = some (.ireturn, 1)) := by decide +kernel
theorem dL_viewPut_25 : decode cL_viewPut 25 = .ok (.ireturn, 1) := fx_ok0 eL_viewPut_25
theorem eL_viewTake_0 : (fdecl cL_viewTake.data.toList 0 = some (.aload_n 3, 1)) ∧ (fdecl cL_viewTake.data.toList 1 = some (.aload_n 0, 1)) ∧ (fdecl cL_viewTake.data.toList 2 = some (.iload_n 1, 1)) ∧ (fdecl cL_viewTake.data.toList 3 = some (.iload_n 2, 1)) ∧ (fdecl cL_viewTake.data.toList 4 = some (.invokevirtual 97, 3)) ∧ (fdecl cL_viewTake.data.toList 7 = some (.i2l, 1)) ∧ (fdecl cL_viewTake.data.toList 8 = some (.putfield 13, 3)) ∧ (fdecl cL_viewTake.data.toList 11 = some (.goto 11, 3)) ∧ (fdecl cL_viewTake.data.toList 14 = some (.astore 4, 2)) ∧ (fdecl cL_viewTake.data.toList 16 = some (.iconst 1, 1)) ∧ (fdecl cL_viewTake.data.toList 17 = some (.ireturn, 1)) ∧ (fdecl cL_viewTake.data.toList 18 = some (.astore 4, 2)) ∧ (fdecl cL_viewTake.data.toList 20 = some (.iconst 2, 1)) ∧ (fdecl cL_viewTake.data.toList 21 = some (.ireturn, 1)) ∧ (fdecl cL_viewTake.data.toList 22 = some (.iconst 0, 1)) ∧ (fdecl cL_viewTake.data.toList 23 = some (.ireturn, 1)) := by decide +kernel
theorem dL_viewTake_0 : decode cL_viewTake 0 = .ok (.aload_n 3, 1) := fx_ok0 eL_viewTake_0.1
theorem dL_viewTake_1 : decode cL_viewTake 1 = .ok (.aload_n 0, 1) := fx_ok0 eL_viewTake_0.2.1
theorem dL_viewTake_2 : decode cL_viewTake 2 = .ok (.iload_n 1, 1) := fx_ok0 eL_viewTake_0.2.2.1
theorem dL_viewTake_3 : decode cL_viewTake 3 = .ok (.iload_n 2, 1) := fx_ok0 eL_viewTake_0.2.2.2.1
theorem dL_viewTake_4 : decode cL_viewTake 4 = .ok (.invokevirtual 97, 3) := fx_ok0 eL_viewTake_0.2.2.2.2.1
theorem dL_viewTake_7 : decode cL_viewTake 7 = .ok (.i2l, 1) := fx_ok0 eL_viewTake_0.2.2.2.2.2.1
theorem dL_viewTake_8 : decode cL_viewTake 8 = .ok (.putfield 13, 3) := fx_ok0 eL_viewTake_0.2.2.2.2.2.2.1
theorem dL_viewTake_11 : decode cL_viewTake 11 = .ok (.goto 11, 3) := fx_ok0 eL_viewTake_0.2.2.2.2.2.2.2.1
theorem dL_viewTake_14 : decode cL_viewTake 14 = .ok (.astore 4, 2) := fx_ok0 eL_viewTake_0.2.2.2.2.2.2.2.2.1
theorem dL_viewTake_16 : decode cL_viewTake 16 = .ok (.iconst 1, 1) := fx_ok0 eL_viewTake_0.2.2.2.2.2.2.2.2.2.1
theorem dL_viewTake_17 : decode cL_viewTake 17 = .ok (.ireturn, 1) := fx_ok0 eL_viewTake_0.2.2.2.2.2.2.2.2.2.2.1
theorem dL_viewTake_18 : decode cL_viewTake 18 = .ok (.astore 4, 2) := fx_ok0 eL_viewTake_0.2.2.2.2.2.2.2.2.2.2.2.1
theorem dL_viewTake_20 : decode cL_viewTake 20 = .ok (.iconst 2, 1) := fx_ok0 eL_viewTake_0.2.2.2.2.2.2.2.2.2.2.2.2.1
theorem dL_viewTake_21 : decode cL_viewTake 21 = .ok (.ireturn, 1) := fx_ok0 eL_viewTake_0.2.2.2.2.2.2.2.2.2.2.2.2.2.1
theorem dL_viewTake_22 : decode cL_viewTake 22 = .ok (.iconst 0, 1) := fx_ok0 eL_viewTake_0.2.2.2.2.2.2.2.2.2.2.2.2.2.2.1
theorem dL_viewTake_23 : decode cL_viewTake 23 = .ok (.ireturn, 1) := fx_ok0 eL_viewTake_0.2.2.2.2.2.2.2.2.2.2.2.2.2.2.2
theorem eL_viewDrop_0 : (fdecl cL_viewDrop.data.toList 0 = some (.aload_n 3, 1)) ∧ (fdecl cL_viewDrop.data.toList 1 = some (.aload_n 0, 1)) ∧ (fdecl cL_viewDrop.data.toList 2 = some (.iload_n 1, 1)) ∧ (fdecl cL_viewDrop.data.toList 3 = some (.iload_n 2, 1)) ∧ (fdecl cL_viewDrop.data.toList 4 = some (.invokevirtual 100, 3)) ∧ (fdecl cL_viewDrop.data.toList 7 = some (.i2l, 1)) ∧ (fdecl cL_viewDrop.data.toList 8 = some (.putfield 13, 3)) ∧ (fdecl cL_viewDrop.data.toList 11 = some (.goto 11, 3)) ∧ (fdecl cL_viewDrop.data.toList 14 = some (.astore 4, 2)) ∧ (fdecl cL_viewDrop.data.toList 16 = some (.iconst 1, 1)) ∧ (fdecl cL_viewDrop.data.toList 17 = some (.ireturn, 1)) ∧ (fdecl cL_viewDrop.data.toList 18 = some (.astore 4, 2)) ∧ (fdecl cL_viewDrop.data.toList 20 = some (.iconst 2, 1)) ∧ (fdecl cL_viewDrop.data.toList 21 = some (.ireturn, 1)) ∧ (fdecl cL_viewDrop.data.toList 22 = some (.iconst 0, 1)) ∧ (fdecl cL_viewDrop.data.toList 23 = some (.ireturn, 1)) := by decide +kernel
theorem dL_viewDrop_0 : decode cL_viewDrop 0 = .ok (.aload_n 3, 1) := fx_ok0 eL_viewDrop_0.1
theorem dL_viewDrop_1 : decode cL_viewDrop 1 = .ok (.aload_n 0, 1) := fx_ok0 eL_viewDrop_0.2.1
theorem dL_viewDrop_2 : decode cL_viewDrop 2 = .ok (.iload_n 1, 1) := fx_ok0 eL_viewDrop_0.2.2.1
theorem dL_viewDrop_3 : decode cL_viewDrop 3 = .ok (.iload_n 2, 1) := fx_ok0 eL_viewDrop_0.2.2.2.1
theorem dL_viewDrop_4 : decode cL_viewDrop 4 = .ok (.invokevirtual 100, 3) := fx_ok0 eL_viewDrop_0.2.2.2.2.1
theorem dL_viewDrop_7 : decode cL_viewDrop 7 = .ok (.i2l, 1) := fx_ok0 eL_viewDrop_0.2.2.2.2.2.1
theorem dL_viewDrop_8 : decode cL_viewDrop 8 = .ok (.putfield 13, 3) := fx_ok0 eL_viewDrop_0.2.2.2.2.2.2.1
theorem dL_viewDrop_11 : decode cL_viewDrop 11 = .ok (.goto 11, 3) := fx_ok0 eL_viewDrop_0.2.2.2.2.2.2.2.1
theorem dL_viewDrop_14 : decode cL_viewDrop 14 = .ok (.astore 4, 2) := fx_ok0 eL_viewDrop_0.2.2.2.2.2.2.2.2.1
theorem dL_viewDrop_16 : decode cL_viewDrop 16 = .ok (.iconst 1, 1) := fx_ok0 eL_viewDrop_0.2.2.2.2.2.2.2.2.2.1
theorem dL_viewDrop_17 : decode cL_viewDrop 17 = .ok (.ireturn, 1) := fx_ok0 eL_viewDrop_0.2.2.2.2.2.2.2.2.2.2.1
theorem dL_viewDrop_18 : decode cL_viewDrop 18 = .ok (.astore 4, 2) := fx_ok0 eL_viewDrop_0.2.2.2.2.2.2.2.2.2.2.2.1
theorem dL_viewDrop_20 : decode cL_viewDrop 20 = .ok (.iconst 2, 1) := fx_ok0 eL_viewDrop_0.2.2.2.2.2.2.2.2.2.2.2.2.1
theorem dL_viewDrop_21 : decode cL_viewDrop 21 = .ok (.ireturn, 1) := fx_ok0 eL_viewDrop_0.2.2.2.2.2.2.2.2.2.2.2.2.2.1
theorem dL_viewDrop_22 : decode cL_viewDrop 22 = .ok (.iconst 0, 1) := fx_ok0 eL_viewDrop_0.2.2.2.2.2.2.2.2.2.2.2.2.2.2.1
theorem dL_viewDrop_23 : decode cL_viewDrop 23 = .ok (.ireturn, 1) := fx_ok0 eL_viewDrop_0.2.2.2.2.2.2.2.2.2.2.2.2.2.2.2
theorem eL_viewNear_0 : (fdecl cL_viewNear.data.toList 0 = some (.aload 4, 2)) ∧ (fdecl cL_viewNear.data.toList 2 = some (.aload_n 0, 1)) ∧ (fdecl cL_viewNear.data.toList 3 = some (.iload_n 1, 1)) ∧ (fdecl cL_viewNear.data.toList 4 = some (.iload_n 2, 1)) ∧ (fdecl cL_viewNear.data.toList 5 = some (.iload_n 3, 1)) ∧ (fdecl cL_viewNear.data.toList 6 = some (.invokevirtual 103, 3)) ∧ (fdecl cL_viewNear.data.toList 9 = some (.i2l, 1)) ∧ (fdecl cL_viewNear.data.toList 10 = some (.putfield 13, 3)) ∧ (fdecl cL_viewNear.data.toList 13 = some (.goto 11, 3)) ∧ (fdecl cL_viewNear.data.toList 16 = some (.astore 5, 2)) ∧ (fdecl cL_viewNear.data.toList 18 = some (.iconst 1, 1)) ∧ (fdecl cL_viewNear.data.toList 19 = some (.ireturn, 1)) ∧ (fdecl cL_viewNear.data.toList 20 = some (.astore 5, 2)) ∧ (fdecl cL_viewNear.data.toList 22 = some (.iconst 2, 1)) ∧ (fdecl cL_viewNear.data.toList 23 = some (.ireturn, 1)) ∧ (fdecl cL_viewNear.data.toList 24 = some (.iconst 0, 1)) := by decide +kernel
theorem dL_viewNear_0 : decode cL_viewNear 0 = .ok (.aload 4, 2) := fx_ok0 eL_viewNear_0.1
theorem dL_viewNear_2 : decode cL_viewNear 2 = .ok (.aload_n 0, 1) := fx_ok0 eL_viewNear_0.2.1
theorem dL_viewNear_3 : decode cL_viewNear 3 = .ok (.iload_n 1, 1) := fx_ok0 eL_viewNear_0.2.2.1
theorem dL_viewNear_4 : decode cL_viewNear 4 = .ok (.iload_n 2, 1) := fx_ok0 eL_viewNear_0.2.2.2.1
theorem dL_viewNear_5 : decode cL_viewNear 5 = .ok (.iload_n 3, 1) := fx_ok0 eL_viewNear_0.2.2.2.2.1
theorem dL_viewNear_6 : decode cL_viewNear 6 = .ok (.invokevirtual 103, 3) := fx_ok0 eL_viewNear_0.2.2.2.2.2.1
theorem dL_viewNear_9 : decode cL_viewNear 9 = .ok (.i2l, 1) := fx_ok0 eL_viewNear_0.2.2.2.2.2.2.1
theorem dL_viewNear_10 : decode cL_viewNear 10 = .ok (.putfield 13, 3) := fx_ok0 eL_viewNear_0.2.2.2.2.2.2.2.1
theorem dL_viewNear_13 : decode cL_viewNear 13 = .ok (.goto 11, 3) := fx_ok0 eL_viewNear_0.2.2.2.2.2.2.2.2.1
theorem dL_viewNear_16 : decode cL_viewNear 16 = .ok (.astore 5, 2) := fx_ok0 eL_viewNear_0.2.2.2.2.2.2.2.2.2.1
theorem dL_viewNear_18 : decode cL_viewNear 18 = .ok (.iconst 1, 1) := fx_ok0 eL_viewNear_0.2.2.2.2.2.2.2.2.2.2.1
theorem dL_viewNear_19 : decode cL_viewNear 19 = .ok (.ireturn, 1) := fx_ok0 eL_viewNear_0.2.2.2.2.2.2.2.2.2.2.2.1
theorem dL_viewNear_20 : decode cL_viewNear 20 = .ok (.astore 5, 2) := fx_ok0 eL_viewNear_0.2.2.2.2.2.2.2.2.2.2.2.2.1
theorem dL_viewNear_22 : decode cL_viewNear 22 = .ok (.iconst 2, 1) := fx_ok0 eL_viewNear_0.2.2.2.2.2.2.2.2.2.2.2.2.2.1
theorem dL_viewNear_23 : decode cL_viewNear 23 = .ok (.ireturn, 1) := fx_ok0 eL_viewNear_0.2.2.2.2.2.2.2.2.2.2.2.2.2.2.1
theorem dL_viewNear_24 : decode cL_viewNear 24 = .ok (.iconst 0, 1) := fx_ok0 eL_viewNear_0.2.2.2.2.2.2.2.2.2.2.2.2.2.2.2
theorem eL_viewNear_25 : (fdecl cL_viewNear.data.toList 25 = some (.ireturn, 1)) := by decide +kernel
theorem dL_viewNear_25 : decode cL_viewNear 25 = .ok (.ireturn, 1) := fx_ok0 eL_viewNear_25
theorem eL_viewTell_0 : (fdecl cL_viewTell.data.toList 0 = some (.aload_n 3, 1)) ∧ (fdecl cL_viewTell.data.toList 1 = some (.aload_n 0, 1)) ∧ (fdecl cL_viewTell.data.toList 2 = some (.iload_n 1, 1)) ∧ (fdecl cL_viewTell.data.toList 3 = some (.iload_n 2, 1)) ∧ (fdecl cL_viewTell.data.toList 4 = some (.invokevirtual 106, 3)) ∧ (fdecl cL_viewTell.data.toList 7 = some (.i2l, 1)) ∧ (fdecl cL_viewTell.data.toList 8 = some (.putfield 13, 3)) ∧ (fdecl cL_viewTell.data.toList 11 = some (.goto 11, 3)) ∧ (fdecl cL_viewTell.data.toList 14 = some (.astore 4, 2)) ∧ (fdecl cL_viewTell.data.toList 16 = some (.iconst 1, 1)) ∧ (fdecl cL_viewTell.data.toList 17 = some (.ireturn, 1)) ∧ (fdecl cL_viewTell.data.toList 18 = some (.astore 4, 2)) ∧ (fdecl cL_viewTell.data.toList 20 = some (.iconst 2, 1)) ∧ (fdecl cL_viewTell.data.toList 21 = some (.ireturn, 1)) ∧ (fdecl cL_viewTell.data.toList 22 = some (.iconst 0, 1)) ∧ (fdecl cL_viewTell.data.toList 23 = some (.ireturn, 1)) := by decide +kernel
theorem dL_viewTell_0 : decode cL_viewTell 0 = .ok (.aload_n 3, 1) := fx_ok0 eL_viewTell_0.1
theorem dL_viewTell_1 : decode cL_viewTell 1 = .ok (.aload_n 0, 1) := fx_ok0 eL_viewTell_0.2.1
theorem dL_viewTell_2 : decode cL_viewTell 2 = .ok (.iload_n 1, 1) := fx_ok0 eL_viewTell_0.2.2.1
theorem dL_viewTell_3 : decode cL_viewTell 3 = .ok (.iload_n 2, 1) := fx_ok0 eL_viewTell_0.2.2.2.1
theorem dL_viewTell_4 : decode cL_viewTell 4 = .ok (.invokevirtual 106, 3) := fx_ok0 eL_viewTell_0.2.2.2.2.1
theorem dL_viewTell_7 : decode cL_viewTell 7 = .ok (.i2l, 1) := fx_ok0 eL_viewTell_0.2.2.2.2.2.1
theorem dL_viewTell_8 : decode cL_viewTell 8 = .ok (.putfield 13, 3) := fx_ok0 eL_viewTell_0.2.2.2.2.2.2.1
theorem dL_viewTell_11 : decode cL_viewTell 11 = .ok (.goto 11, 3) := fx_ok0 eL_viewTell_0.2.2.2.2.2.2.2.1
theorem dL_viewTell_14 : decode cL_viewTell 14 = .ok (.astore 4, 2) := fx_ok0 eL_viewTell_0.2.2.2.2.2.2.2.2.1
theorem dL_viewTell_16 : decode cL_viewTell 16 = .ok (.iconst 1, 1) := fx_ok0 eL_viewTell_0.2.2.2.2.2.2.2.2.2.1
theorem dL_viewTell_17 : decode cL_viewTell 17 = .ok (.ireturn, 1) := fx_ok0 eL_viewTell_0.2.2.2.2.2.2.2.2.2.2.1
theorem dL_viewTell_18 : decode cL_viewTell 18 = .ok (.astore 4, 2) := fx_ok0 eL_viewTell_0.2.2.2.2.2.2.2.2.2.2.2.1
theorem dL_viewTell_20 : decode cL_viewTell 20 = .ok (.iconst 2, 1) := fx_ok0 eL_viewTell_0.2.2.2.2.2.2.2.2.2.2.2.2.1
theorem dL_viewTell_21 : decode cL_viewTell 21 = .ok (.ireturn, 1) := fx_ok0 eL_viewTell_0.2.2.2.2.2.2.2.2.2.2.2.2.2.1
theorem dL_viewTell_22 : decode cL_viewTell 22 = .ok (.iconst 0, 1) := fx_ok0 eL_viewTell_0.2.2.2.2.2.2.2.2.2.2.2.2.2.2.1
theorem dL_viewTell_23 : decode cL_viewTell 23 = .ok (.ireturn, 1) := fx_ok0 eL_viewTell_0.2.2.2.2.2.2.2.2.2.2.2.2.2.2.2
theorem eL_startWalk_0 : (fdecl cL_startWalk.data.toList 0 = some (.aload_n 2, 1)) ∧ (fdecl cL_startWalk.data.toList 1 = some (.aload_n 0, 1)) ∧ (fdecl cL_startWalk.data.toList 2 = some (.iload_n 1, 1)) ∧ (fdecl cL_startWalk.data.toList 3 = some (.invokevirtual 109, 3)) ∧ (fdecl cL_startWalk.data.toList 6 = some (.i2l, 1)) ∧ (fdecl cL_startWalk.data.toList 7 = some (.putfield 13, 3)) ∧ (fdecl cL_startWalk.data.toList 10 = some (.goto 6, 3)) ∧ (fdecl cL_startWalk.data.toList 13 = some (.astore_n 3, 1)) ∧ (fdecl cL_startWalk.data.toList 14 = some (.iconst 1, 1)) ∧ (fdecl cL_startWalk.data.toList 15 = some (.ireturn, 1)) ∧ (fdecl cL_startWalk.data.toList 16 = some (.iconst 0, 1)) ∧ (fdecl cL_startWalk.data.toList 17 = some (.ireturn, 1)) := by decide +kernel
theorem dL_startWalk_0 : decode cL_startWalk 0 = .ok (.aload_n 2, 1) := fx_ok0 eL_startWalk_0.1
theorem dL_startWalk_1 : decode cL_startWalk 1 = .ok (.aload_n 0, 1) := fx_ok0 eL_startWalk_0.2.1
theorem dL_startWalk_2 : decode cL_startWalk 2 = .ok (.iload_n 1, 1) := fx_ok0 eL_startWalk_0.2.2.1
theorem dL_startWalk_3 : decode cL_startWalk 3 = .ok (.invokevirtual 109, 3) := fx_ok0 eL_startWalk_0.2.2.2.1
theorem dL_startWalk_6 : decode cL_startWalk 6 = .ok (.i2l, 1) := fx_ok0 eL_startWalk_0.2.2.2.2.1
theorem dL_startWalk_7 : decode cL_startWalk 7 = .ok (.putfield 13, 3) := fx_ok0 eL_startWalk_0.2.2.2.2.2.1
theorem dL_startWalk_10 : decode cL_startWalk 10 = .ok (.goto 6, 3) := fx_ok0 eL_startWalk_0.2.2.2.2.2.2.1
theorem dL_startWalk_13 : decode cL_startWalk 13 = .ok (.astore_n 3, 1) := fx_ok0 eL_startWalk_0.2.2.2.2.2.2.2.1
theorem dL_startWalk_14 : decode cL_startWalk 14 = .ok (.iconst 1, 1) := fx_ok0 eL_startWalk_0.2.2.2.2.2.2.2.2.1
theorem dL_startWalk_15 : decode cL_startWalk 15 = .ok (.ireturn, 1) := fx_ok0 eL_startWalk_0.2.2.2.2.2.2.2.2.2.1
theorem dL_startWalk_16 : decode cL_startWalk 16 = .ok (.iconst 0, 1) := fx_ok0 eL_startWalk_0.2.2.2.2.2.2.2.2.2.2.1
theorem dL_startWalk_17 : decode cL_startWalk 17 = .ok (.ireturn, 1) := fx_ok0 eL_startWalk_0.2.2.2.2.2.2.2.2.2.2.2
theorem eL_walkSet_0 : (fdecl cL_walkSet.data.toList 0 = some (.aload_n 2, 1)) ∧ (fdecl cL_walkSet.data.toList 1 = some (.aload_n 0, 1)) ∧ (fdecl cL_walkSet.data.toList 2 = some (.iload_n 1, 1)) ∧ (fdecl cL_walkSet.data.toList 3 = some (.invokevirtual 113, 3)) ∧ (fdecl cL_walkSet.data.toList 6 = some (.i2l, 1)) ∧ (fdecl cL_walkSet.data.toList 7 = some (.putfield 13, 3)) ∧ (fdecl cL_walkSet.data.toList 10 = some (.goto 6, 3)) ∧ (fdecl cL_walkSet.data.toList 13 = some (.astore_n 3, 1)) ∧ (fdecl cL_walkSet.data.toList 14 = some (.iconst 1, 1)) ∧ (fdecl cL_walkSet.data.toList 15 = some (.ireturn, 1)) ∧ (fdecl cL_walkSet.data.toList 16 = some (.iconst 0, 1)) ∧ (fdecl cL_walkSet.data.toList 17 = some (.ireturn, 1)) := by decide +kernel
theorem dL_walkSet_0 : decode cL_walkSet 0 = .ok (.aload_n 2, 1) := fx_ok0 eL_walkSet_0.1
theorem dL_walkSet_1 : decode cL_walkSet 1 = .ok (.aload_n 0, 1) := fx_ok0 eL_walkSet_0.2.1
theorem dL_walkSet_2 : decode cL_walkSet 2 = .ok (.iload_n 1, 1) := fx_ok0 eL_walkSet_0.2.2.1
theorem dL_walkSet_3 : decode cL_walkSet 3 = .ok (.invokevirtual 113, 3) := fx_ok0 eL_walkSet_0.2.2.2.1
theorem dL_walkSet_6 : decode cL_walkSet 6 = .ok (.i2l, 1) := fx_ok0 eL_walkSet_0.2.2.2.2.1
theorem dL_walkSet_7 : decode cL_walkSet 7 = .ok (.putfield 13, 3) := fx_ok0 eL_walkSet_0.2.2.2.2.2.1
theorem dL_walkSet_10 : decode cL_walkSet 10 = .ok (.goto 6, 3) := fx_ok0 eL_walkSet_0.2.2.2.2.2.2.1
theorem dL_walkSet_13 : decode cL_walkSet 13 = .ok (.astore_n 3, 1) := fx_ok0 eL_walkSet_0.2.2.2.2.2.2.2.1
theorem dL_walkSet_14 : decode cL_walkSet 14 = .ok (.iconst 1, 1) := fx_ok0 eL_walkSet_0.2.2.2.2.2.2.2.2.1
theorem dL_walkSet_15 : decode cL_walkSet 15 = .ok (.ireturn, 1) := fx_ok0 eL_walkSet_0.2.2.2.2.2.2.2.2.2.1
theorem dL_walkSet_16 : decode cL_walkSet 16 = .ok (.iconst 0, 1) := fx_ok0 eL_walkSet_0.2.2.2.2.2.2.2.2.2.2.1
theorem dL_walkSet_17 : decode cL_walkSet 17 = .ok (.ireturn, 1) := fx_ok0 eL_walkSet_0.2.2.2.2.2.2.2.2.2.2.2
theorem eL_freshShelf_0 : (fdecl cL_freshShelf.data.toList 0 = some (.aload_n 3, 1)) ∧ (fdecl cL_freshShelf.data.toList 1 = some (.aload_n 0, 1)) ∧ (fdecl cL_freshShelf.data.toList 2 = some (.iload_n 1, 1)) ∧ (fdecl cL_freshShelf.data.toList 3 = some (.iload_n 2, 1)) ∧ (fdecl cL_freshShelf.data.toList 4 = some (.invokevirtual 116, 3)) ∧ (fdecl cL_freshShelf.data.toList 7 = some (.i2l, 1)) ∧ (fdecl cL_freshShelf.data.toList 8 = some (.putfield 13, 3)) ∧ (fdecl cL_freshShelf.data.toList 11 = some (.goto 11, 3)) ∧ (fdecl cL_freshShelf.data.toList 14 = some (.astore 4, 2)) ∧ (fdecl cL_freshShelf.data.toList 16 = some (.iconst 1, 1)) ∧ (fdecl cL_freshShelf.data.toList 17 = some (.ireturn, 1)) ∧ (fdecl cL_freshShelf.data.toList 18 = some (.astore 4, 2)) ∧ (fdecl cL_freshShelf.data.toList 20 = some (.iconst 2, 1)) ∧ (fdecl cL_freshShelf.data.toList 21 = some (.ireturn, 1)) ∧ (fdecl cL_freshShelf.data.toList 22 = some (.iconst 0, 1)) ∧ (fdecl cL_freshShelf.data.toList 23 = some (.ireturn, 1)) := by decide +kernel
theorem dL_freshShelf_0 : decode cL_freshShelf 0 = .ok (.aload_n 3, 1) := fx_ok0 eL_freshShelf_0.1
theorem dL_freshShelf_1 : decode cL_freshShelf 1 = .ok (.aload_n 0, 1) := fx_ok0 eL_freshShelf_0.2.1
theorem dL_freshShelf_2 : decode cL_freshShelf 2 = .ok (.iload_n 1, 1) := fx_ok0 eL_freshShelf_0.2.2.1
theorem dL_freshShelf_3 : decode cL_freshShelf 3 = .ok (.iload_n 2, 1) := fx_ok0 eL_freshShelf_0.2.2.2.1
theorem dL_freshShelf_4 : decode cL_freshShelf 4 = .ok (.invokevirtual 116, 3) := fx_ok0 eL_freshShelf_0.2.2.2.2.1
theorem dL_freshShelf_7 : decode cL_freshShelf 7 = .ok (.i2l, 1) := fx_ok0 eL_freshShelf_0.2.2.2.2.2.1
theorem dL_freshShelf_8 : decode cL_freshShelf 8 = .ok (.putfield 13, 3) := fx_ok0 eL_freshShelf_0.2.2.2.2.2.2.1
theorem dL_freshShelf_11 : decode cL_freshShelf 11 = .ok (.goto 11, 3) := fx_ok0 eL_freshShelf_0.2.2.2.2.2.2.2.1
theorem dL_freshShelf_14 : decode cL_freshShelf 14 = .ok (.astore 4, 2) := fx_ok0 eL_freshShelf_0.2.2.2.2.2.2.2.2.1
theorem dL_freshShelf_16 : decode cL_freshShelf 16 = .ok (.iconst 1, 1) := fx_ok0 eL_freshShelf_0.2.2.2.2.2.2.2.2.2.1
theorem dL_freshShelf_17 : decode cL_freshShelf 17 = .ok (.ireturn, 1) := fx_ok0 eL_freshShelf_0.2.2.2.2.2.2.2.2.2.2.1
theorem dL_freshShelf_18 : decode cL_freshShelf 18 = .ok (.astore 4, 2) := fx_ok0 eL_freshShelf_0.2.2.2.2.2.2.2.2.2.2.2.1
theorem dL_freshShelf_20 : decode cL_freshShelf 20 = .ok (.iconst 2, 1) := fx_ok0 eL_freshShelf_0.2.2.2.2.2.2.2.2.2.2.2.2.1
theorem dL_freshShelf_21 : decode cL_freshShelf 21 = .ok (.ireturn, 1) := fx_ok0 eL_freshShelf_0.2.2.2.2.2.2.2.2.2.2.2.2.2.1
theorem dL_freshShelf_22 : decode cL_freshShelf 22 = .ok (.iconst 0, 1) := fx_ok0 eL_freshShelf_0.2.2.2.2.2.2.2.2.2.2.2.2.2.2.1
theorem dL_freshShelf_23 : decode cL_freshShelf 23 = .ok (.ireturn, 1) := fx_ok0 eL_freshShelf_0.2.2.2.2.2.2.2.2.2.2.2.2.2.2.2
theorem eL_buildShelf_0 : (fdecl cL_buildShelf.data.toList 0 = some (.aload 4, 2)) ∧ (fdecl cL_buildShelf.data.toList 2 = some (.aload_n 0, 1)) ∧ (fdecl cL_buildShelf.data.toList 3 = some (.iload_n 1, 1)) ∧ (fdecl cL_buildShelf.data.toList 4 = some (.iload_n 2, 1)) ∧ (fdecl cL_buildShelf.data.toList 5 = some (.iload_n 3, 1)) ∧ (fdecl cL_buildShelf.data.toList 6 = some (.invokevirtual 119, 3)) ∧ (fdecl cL_buildShelf.data.toList 9 = some (.i2l, 1)) ∧ (fdecl cL_buildShelf.data.toList 10 = some (.putfield 13, 3)) ∧ (fdecl cL_buildShelf.data.toList 13 = some (.goto 11, 3)) ∧ (fdecl cL_buildShelf.data.toList 16 = some (.astore 5, 2)) ∧ (fdecl cL_buildShelf.data.toList 18 = some (.iconst 1, 1)) ∧ (fdecl cL_buildShelf.data.toList 19 = some (.ireturn, 1)) ∧ (fdecl cL_buildShelf.data.toList 20 = some (.astore 5, 2)) ∧ (fdecl cL_buildShelf.data.toList 22 = some (.iconst 2, 1)) ∧ (fdecl cL_buildShelf.data.toList 23 = some (.ireturn, 1)) ∧ (fdecl cL_buildShelf.data.toList 24 = some (.iconst 0, 1)) := by decide +kernel
theorem dL_buildShelf_0 : decode cL_buildShelf 0 = .ok (.aload 4, 2) := fx_ok0 eL_buildShelf_0.1
theorem dL_buildShelf_2 : decode cL_buildShelf 2 = .ok (.aload_n 0, 1) := fx_ok0 eL_buildShelf_0.2.1
theorem dL_buildShelf_3 : decode cL_buildShelf 3 = .ok (.iload_n 1, 1) := fx_ok0 eL_buildShelf_0.2.2.1
theorem dL_buildShelf_4 : decode cL_buildShelf 4 = .ok (.iload_n 2, 1) := fx_ok0 eL_buildShelf_0.2.2.2.1
theorem dL_buildShelf_5 : decode cL_buildShelf 5 = .ok (.iload_n 3, 1) := fx_ok0 eL_buildShelf_0.2.2.2.2.1
theorem dL_buildShelf_6 : decode cL_buildShelf 6 = .ok (.invokevirtual 119, 3) := fx_ok0 eL_buildShelf_0.2.2.2.2.2.1
theorem dL_buildShelf_9 : decode cL_buildShelf 9 = .ok (.i2l, 1) := fx_ok0 eL_buildShelf_0.2.2.2.2.2.2.1
theorem dL_buildShelf_10 : decode cL_buildShelf 10 = .ok (.putfield 13, 3) := fx_ok0 eL_buildShelf_0.2.2.2.2.2.2.2.1
theorem dL_buildShelf_13 : decode cL_buildShelf 13 = .ok (.goto 11, 3) := fx_ok0 eL_buildShelf_0.2.2.2.2.2.2.2.2.1
theorem dL_buildShelf_16 : decode cL_buildShelf 16 = .ok (.astore 5, 2) := fx_ok0 eL_buildShelf_0.2.2.2.2.2.2.2.2.2.1
theorem dL_buildShelf_18 : decode cL_buildShelf 18 = .ok (.iconst 1, 1) := fx_ok0 eL_buildShelf_0.2.2.2.2.2.2.2.2.2.2.1
theorem dL_buildShelf_19 : decode cL_buildShelf 19 = .ok (.ireturn, 1) := fx_ok0 eL_buildShelf_0.2.2.2.2.2.2.2.2.2.2.2.1
theorem dL_buildShelf_20 : decode cL_buildShelf 20 = .ok (.astore 5, 2) := fx_ok0 eL_buildShelf_0.2.2.2.2.2.2.2.2.2.2.2.2.1
theorem dL_buildShelf_22 : decode cL_buildShelf 22 = .ok (.iconst 2, 1) := fx_ok0 eL_buildShelf_0.2.2.2.2.2.2.2.2.2.2.2.2.2.1
theorem dL_buildShelf_23 : decode cL_buildShelf 23 = .ok (.ireturn, 1) := fx_ok0 eL_buildShelf_0.2.2.2.2.2.2.2.2.2.2.2.2.2.2.1
theorem dL_buildShelf_24 : decode cL_buildShelf 24 = .ok (.iconst 0, 1) := fx_ok0 eL_buildShelf_0.2.2.2.2.2.2.2.2.2.2.2.2.2.2.2
theorem eL_buildShelf_25 : (fdecl cL_buildShelf.data.toList 25 = some (.ireturn, 1)) := by decide +kernel
theorem dL_buildShelf_25 : decode cL_buildShelf 25 = .ok (.ireturn, 1) := fx_ok0 eL_buildShelf_25
theorem eL_keysOf_0 : (fdecl cL_keysOf.data.toList 0 = some (.aload_n 3, 1)) ∧ (fdecl cL_keysOf.data.toList 1 = some (.aload_n 0, 1)) ∧ (fdecl cL_keysOf.data.toList 2 = some (.iload_n 1, 1)) ∧ (fdecl cL_keysOf.data.toList 3 = some (.iload_n 2, 1)) ∧ (fdecl cL_keysOf.data.toList 4 = some (.invokevirtual 122, 3)) ∧ (fdecl cL_keysOf.data.toList 7 = some (.i2l, 1)) ∧ (fdecl cL_keysOf.data.toList 8 = some (.putfield 13, 3)) ∧ (fdecl cL_keysOf.data.toList 11 = some (.goto 7, 3)) ∧ (fdecl cL_keysOf.data.toList 14 = some (.astore 4, 2)) ∧ (fdecl cL_keysOf.data.toList 16 = some (.iconst 1, 1)) ∧ (fdecl cL_keysOf.data.toList 17 = some (.ireturn, 1)) ∧ (fdecl cL_keysOf.data.toList 18 = some (.iconst 0, 1)) ∧ (fdecl cL_keysOf.data.toList 19 = some (.ireturn, 1)) := by decide +kernel
theorem dL_keysOf_0 : decode cL_keysOf 0 = .ok (.aload_n 3, 1) := fx_ok0 eL_keysOf_0.1
theorem dL_keysOf_1 : decode cL_keysOf 1 = .ok (.aload_n 0, 1) := fx_ok0 eL_keysOf_0.2.1
theorem dL_keysOf_2 : decode cL_keysOf 2 = .ok (.iload_n 1, 1) := fx_ok0 eL_keysOf_0.2.2.1
theorem dL_keysOf_3 : decode cL_keysOf 3 = .ok (.iload_n 2, 1) := fx_ok0 eL_keysOf_0.2.2.2.1
theorem dL_keysOf_4 : decode cL_keysOf 4 = .ok (.invokevirtual 122, 3) := fx_ok0 eL_keysOf_0.2.2.2.2.1
theorem dL_keysOf_7 : decode cL_keysOf 7 = .ok (.i2l, 1) := fx_ok0 eL_keysOf_0.2.2.2.2.2.1
theorem dL_keysOf_8 : decode cL_keysOf 8 = .ok (.putfield 13, 3) := fx_ok0 eL_keysOf_0.2.2.2.2.2.2.1
theorem dL_keysOf_11 : decode cL_keysOf 11 = .ok (.goto 7, 3) := fx_ok0 eL_keysOf_0.2.2.2.2.2.2.2.1
theorem dL_keysOf_14 : decode cL_keysOf 14 = .ok (.astore 4, 2) := fx_ok0 eL_keysOf_0.2.2.2.2.2.2.2.2.1
theorem dL_keysOf_16 : decode cL_keysOf 16 = .ok (.iconst 1, 1) := fx_ok0 eL_keysOf_0.2.2.2.2.2.2.2.2.2.1
theorem dL_keysOf_17 : decode cL_keysOf 17 = .ok (.ireturn, 1) := fx_ok0 eL_keysOf_0.2.2.2.2.2.2.2.2.2.2.1
theorem dL_keysOf_18 : decode cL_keysOf 18 = .ok (.iconst 0, 1) := fx_ok0 eL_keysOf_0.2.2.2.2.2.2.2.2.2.2.2.1
theorem dL_keysOf_19 : decode cL_keysOf 19 = .ok (.ireturn, 1) := fx_ok0 eL_keysOf_0.2.2.2.2.2.2.2.2.2.2.2.2
theorem eL_lay_0 : (fdecl cL_lay.data.toList 0 = some (.aload 6, 2)) ∧ (fdecl cL_lay.data.toList 2 = some (.aload_n 0, 1)) ∧ (fdecl cL_lay.data.toList 3 = some (.iload_n 1, 1)) ∧ (fdecl cL_lay.data.toList 4 = some (.iload_n 2, 1)) ∧ (fdecl cL_lay.data.toList 5 = some (.iload_n 3, 1)) ∧ (fdecl cL_lay.data.toList 6 = some (.iload 4, 2)) ∧ (fdecl cL_lay.data.toList 8 = some (.iload 5, 2)) ∧ (fdecl cL_lay.data.toList 10 = some (.invokevirtual 125, 3)) ∧ (fdecl cL_lay.data.toList 13 = some (.i2l, 1)) ∧ (fdecl cL_lay.data.toList 14 = some (.putfield 13, 3)) ∧ (fdecl cL_lay.data.toList 17 = some (.goto 11, 3)) ∧ (fdecl cL_lay.data.toList 20 = some (.astore 7, 2)) ∧ (fdecl cL_lay.data.toList 22 = some (.iconst 1, 1)) ∧ (fdecl cL_lay.data.toList 23 = some (.ireturn, 1)) ∧ (fdecl cL_lay.data.toList 24 = some (.astore 7, 2)) ∧ (fdecl cL_lay.data.toList 26 = some (.iconst 2, 1)) := by decide +kernel
theorem dL_lay_0 : decode cL_lay 0 = .ok (.aload 6, 2) := fx_ok0 eL_lay_0.1
theorem dL_lay_2 : decode cL_lay 2 = .ok (.aload_n 0, 1) := fx_ok0 eL_lay_0.2.1
theorem dL_lay_3 : decode cL_lay 3 = .ok (.iload_n 1, 1) := fx_ok0 eL_lay_0.2.2.1
theorem dL_lay_4 : decode cL_lay 4 = .ok (.iload_n 2, 1) := fx_ok0 eL_lay_0.2.2.2.1
theorem dL_lay_5 : decode cL_lay 5 = .ok (.iload_n 3, 1) := fx_ok0 eL_lay_0.2.2.2.2.1
theorem dL_lay_6 : decode cL_lay 6 = .ok (.iload 4, 2) := fx_ok0 eL_lay_0.2.2.2.2.2.1
theorem dL_lay_8 : decode cL_lay 8 = .ok (.iload 5, 2) := fx_ok0 eL_lay_0.2.2.2.2.2.2.1
theorem dL_lay_10 : decode cL_lay 10 = .ok (.invokevirtual 125, 3) := fx_ok0 eL_lay_0.2.2.2.2.2.2.2.1
theorem dL_lay_13 : decode cL_lay 13 = .ok (.i2l, 1) := fx_ok0 eL_lay_0.2.2.2.2.2.2.2.2.1
theorem dL_lay_14 : decode cL_lay 14 = .ok (.putfield 13, 3) := fx_ok0 eL_lay_0.2.2.2.2.2.2.2.2.2.1
theorem dL_lay_17 : decode cL_lay 17 = .ok (.goto 11, 3) := fx_ok0 eL_lay_0.2.2.2.2.2.2.2.2.2.2.1
theorem dL_lay_20 : decode cL_lay 20 = .ok (.astore 7, 2) := fx_ok0 eL_lay_0.2.2.2.2.2.2.2.2.2.2.2.1
theorem dL_lay_22 : decode cL_lay 22 = .ok (.iconst 1, 1) := fx_ok0 eL_lay_0.2.2.2.2.2.2.2.2.2.2.2.2.1
theorem dL_lay_23 : decode cL_lay 23 = .ok (.ireturn, 1) := fx_ok0 eL_lay_0.2.2.2.2.2.2.2.2.2.2.2.2.2.1
theorem dL_lay_24 : decode cL_lay 24 = .ok (.astore 7, 2) := fx_ok0 eL_lay_0.2.2.2.2.2.2.2.2.2.2.2.2.2.2.1
theorem dL_lay_26 : decode cL_lay 26 = .ok (.iconst 2, 1) := fx_ok0 eL_lay_0.2.2.2.2.2.2.2.2.2.2.2.2.2.2.2
theorem eL_lay_27 : (fdecl cL_lay.data.toList 27 = some (.ireturn, 1)) ∧ (fdecl cL_lay.data.toList 28 = some (.iconst 0, 1)) ∧ (fdecl cL_lay.data.toList 29 = some (.ireturn, 1)) := by decide +kernel
theorem dL_lay_27 : decode cL_lay 27 = .ok (.ireturn, 1) := fx_ok0 eL_lay_27.1
theorem dL_lay_28 : decode cL_lay 28 = .ok (.iconst 0, 1) := fx_ok0 eL_lay_27.2.1
theorem dL_lay_29 : decode cL_lay 29 = .ok (.ireturn, 1) := fx_ok0 eL_lay_27.2.2
theorem eL_shelfBoth_0 : (fdecl cL_shelfBoth.data.toList 0 = some (.aload 4, 2)) ∧ (fdecl cL_shelfBoth.data.toList 2 = some (.aload_n 0, 1)) ∧ (fdecl cL_shelfBoth.data.toList 3 = some (.iload_n 1, 1)) ∧ (fdecl cL_shelfBoth.data.toList 4 = some (.iload_n 2, 1)) ∧ (fdecl cL_shelfBoth.data.toList 5 = some (.iload_n 3, 1)) ∧ (fdecl cL_shelfBoth.data.toList 6 = some (.invokevirtual 129, 3)) ∧ (fdecl cL_shelfBoth.data.toList 9 = some (.i2l, 1)) ∧ (fdecl cL_shelfBoth.data.toList 10 = some (.putfield 13, 3)) ∧ (fdecl cL_shelfBoth.data.toList 13 = some (.goto 11, 3)) ∧ (fdecl cL_shelfBoth.data.toList 16 = some (.astore 5, 2)) ∧ (fdecl cL_shelfBoth.data.toList 18 = some (.iconst 1, 1)) ∧ (fdecl cL_shelfBoth.data.toList 19 = some (.ireturn, 1)) ∧ (fdecl cL_shelfBoth.data.toList 20 = some (.astore 5, 2)) ∧ (fdecl cL_shelfBoth.data.toList 22 = some (.iconst 2, 1)) ∧ (fdecl cL_shelfBoth.data.toList 23 = some (.ireturn, 1)) ∧ (fdecl cL_shelfBoth.data.toList 24 = some (.iconst 0, 1)) := by decide +kernel
theorem dL_shelfBoth_0 : decode cL_shelfBoth 0 = .ok (.aload 4, 2) := fx_ok0 eL_shelfBoth_0.1
theorem dL_shelfBoth_2 : decode cL_shelfBoth 2 = .ok (.aload_n 0, 1) := fx_ok0 eL_shelfBoth_0.2.1
theorem dL_shelfBoth_3 : decode cL_shelfBoth 3 = .ok (.iload_n 1, 1) := fx_ok0 eL_shelfBoth_0.2.2.1
theorem dL_shelfBoth_4 : decode cL_shelfBoth 4 = .ok (.iload_n 2, 1) := fx_ok0 eL_shelfBoth_0.2.2.2.1
theorem dL_shelfBoth_5 : decode cL_shelfBoth 5 = .ok (.iload_n 3, 1) := fx_ok0 eL_shelfBoth_0.2.2.2.2.1
theorem dL_shelfBoth_6 : decode cL_shelfBoth 6 = .ok (.invokevirtual 129, 3) := fx_ok0 eL_shelfBoth_0.2.2.2.2.2.1
theorem dL_shelfBoth_9 : decode cL_shelfBoth 9 = .ok (.i2l, 1) := fx_ok0 eL_shelfBoth_0.2.2.2.2.2.2.1
theorem dL_shelfBoth_10 : decode cL_shelfBoth 10 = .ok (.putfield 13, 3) := fx_ok0 eL_shelfBoth_0.2.2.2.2.2.2.2.1
theorem dL_shelfBoth_13 : decode cL_shelfBoth 13 = .ok (.goto 11, 3) := fx_ok0 eL_shelfBoth_0.2.2.2.2.2.2.2.2.1
theorem dL_shelfBoth_16 : decode cL_shelfBoth 16 = .ok (.astore 5, 2) := fx_ok0 eL_shelfBoth_0.2.2.2.2.2.2.2.2.2.1
theorem dL_shelfBoth_18 : decode cL_shelfBoth 18 = .ok (.iconst 1, 1) := fx_ok0 eL_shelfBoth_0.2.2.2.2.2.2.2.2.2.2.1
theorem dL_shelfBoth_19 : decode cL_shelfBoth 19 = .ok (.ireturn, 1) := fx_ok0 eL_shelfBoth_0.2.2.2.2.2.2.2.2.2.2.2.1
theorem dL_shelfBoth_20 : decode cL_shelfBoth 20 = .ok (.astore 5, 2) := fx_ok0 eL_shelfBoth_0.2.2.2.2.2.2.2.2.2.2.2.2.1
theorem dL_shelfBoth_22 : decode cL_shelfBoth 22 = .ok (.iconst 2, 1) := fx_ok0 eL_shelfBoth_0.2.2.2.2.2.2.2.2.2.2.2.2.2.1
theorem dL_shelfBoth_23 : decode cL_shelfBoth 23 = .ok (.ireturn, 1) := fx_ok0 eL_shelfBoth_0.2.2.2.2.2.2.2.2.2.2.2.2.2.2.1
theorem dL_shelfBoth_24 : decode cL_shelfBoth 24 = .ok (.iconst 0, 1) := fx_ok0 eL_shelfBoth_0.2.2.2.2.2.2.2.2.2.2.2.2.2.2.2
theorem eL_shelfBoth_25 : (fdecl cL_shelfBoth.data.toList 25 = some (.ireturn, 1)) := by decide +kernel
theorem dL_shelfBoth_25 : decode cL_shelfBoth 25 = .ok (.ireturn, 1) := fx_ok0 eL_shelfBoth_25
theorem eL_shelfDrop_0 : (fdecl cL_shelfDrop.data.toList 0 = some (.aload_n 3, 1)) ∧ (fdecl cL_shelfDrop.data.toList 1 = some (.aload_n 0, 1)) ∧ (fdecl cL_shelfDrop.data.toList 2 = some (.iload_n 1, 1)) ∧ (fdecl cL_shelfDrop.data.toList 3 = some (.iload_n 2, 1)) ∧ (fdecl cL_shelfDrop.data.toList 4 = some (.invokevirtual 132, 3)) ∧ (fdecl cL_shelfDrop.data.toList 7 = some (.i2l, 1)) ∧ (fdecl cL_shelfDrop.data.toList 8 = some (.putfield 13, 3)) ∧ (fdecl cL_shelfDrop.data.toList 11 = some (.goto 11, 3)) ∧ (fdecl cL_shelfDrop.data.toList 14 = some (.astore 4, 2)) ∧ (fdecl cL_shelfDrop.data.toList 16 = some (.iconst 1, 1)) ∧ (fdecl cL_shelfDrop.data.toList 17 = some (.ireturn, 1)) ∧ (fdecl cL_shelfDrop.data.toList 18 = some (.astore 4, 2)) ∧ (fdecl cL_shelfDrop.data.toList 20 = some (.iconst 2, 1)) ∧ (fdecl cL_shelfDrop.data.toList 21 = some (.ireturn, 1)) ∧ (fdecl cL_shelfDrop.data.toList 22 = some (.iconst 0, 1)) ∧ (fdecl cL_shelfDrop.data.toList 23 = some (.ireturn, 1)) := by decide +kernel
theorem dL_shelfDrop_0 : decode cL_shelfDrop 0 = .ok (.aload_n 3, 1) := fx_ok0 eL_shelfDrop_0.1
theorem dL_shelfDrop_1 : decode cL_shelfDrop 1 = .ok (.aload_n 0, 1) := fx_ok0 eL_shelfDrop_0.2.1
theorem dL_shelfDrop_2 : decode cL_shelfDrop 2 = .ok (.iload_n 1, 1) := fx_ok0 eL_shelfDrop_0.2.2.1
theorem dL_shelfDrop_3 : decode cL_shelfDrop 3 = .ok (.iload_n 2, 1) := fx_ok0 eL_shelfDrop_0.2.2.2.1
theorem dL_shelfDrop_4 : decode cL_shelfDrop 4 = .ok (.invokevirtual 132, 3) := fx_ok0 eL_shelfDrop_0.2.2.2.2.1
theorem dL_shelfDrop_7 : decode cL_shelfDrop 7 = .ok (.i2l, 1) := fx_ok0 eL_shelfDrop_0.2.2.2.2.2.1
theorem dL_shelfDrop_8 : decode cL_shelfDrop 8 = .ok (.putfield 13, 3) := fx_ok0 eL_shelfDrop_0.2.2.2.2.2.2.1
theorem dL_shelfDrop_11 : decode cL_shelfDrop 11 = .ok (.goto 11, 3) := fx_ok0 eL_shelfDrop_0.2.2.2.2.2.2.2.1
theorem dL_shelfDrop_14 : decode cL_shelfDrop 14 = .ok (.astore 4, 2) := fx_ok0 eL_shelfDrop_0.2.2.2.2.2.2.2.2.1
theorem dL_shelfDrop_16 : decode cL_shelfDrop 16 = .ok (.iconst 1, 1) := fx_ok0 eL_shelfDrop_0.2.2.2.2.2.2.2.2.2.1
theorem dL_shelfDrop_17 : decode cL_shelfDrop 17 = .ok (.ireturn, 1) := fx_ok0 eL_shelfDrop_0.2.2.2.2.2.2.2.2.2.2.1
theorem dL_shelfDrop_18 : decode cL_shelfDrop 18 = .ok (.astore 4, 2) := fx_ok0 eL_shelfDrop_0.2.2.2.2.2.2.2.2.2.2.2.1
theorem dL_shelfDrop_20 : decode cL_shelfDrop 20 = .ok (.iconst 2, 1) := fx_ok0 eL_shelfDrop_0.2.2.2.2.2.2.2.2.2.2.2.2.1
theorem dL_shelfDrop_21 : decode cL_shelfDrop 21 = .ok (.ireturn, 1) := fx_ok0 eL_shelfDrop_0.2.2.2.2.2.2.2.2.2.2.2.2.2.1
theorem dL_shelfDrop_22 : decode cL_shelfDrop 22 = .ok (.iconst 0, 1) := fx_ok0 eL_shelfDrop_0.2.2.2.2.2.2.2.2.2.2.2.2.2.2.1
theorem dL_shelfDrop_23 : decode cL_shelfDrop 23 = .ok (.ireturn, 1) := fx_ok0 eL_shelfDrop_0.2.2.2.2.2.2.2.2.2.2.2.2.2.2.2
theorem eL_shelfCut_0 : (fdecl cL_shelfCut.data.toList 0 = some (.aload 6, 2)) ∧ (fdecl cL_shelfCut.data.toList 2 = some (.aload_n 0, 1)) ∧ (fdecl cL_shelfCut.data.toList 3 = some (.iload_n 1, 1)) ∧ (fdecl cL_shelfCut.data.toList 4 = some (.iload_n 2, 1)) ∧ (fdecl cL_shelfCut.data.toList 5 = some (.iload_n 3, 1)) ∧ (fdecl cL_shelfCut.data.toList 6 = some (.iload 4, 2)) ∧ (fdecl cL_shelfCut.data.toList 8 = some (.iload 5, 2)) ∧ (fdecl cL_shelfCut.data.toList 10 = some (.invokevirtual 135, 3)) ∧ (fdecl cL_shelfCut.data.toList 13 = some (.i2l, 1)) ∧ (fdecl cL_shelfCut.data.toList 14 = some (.putfield 13, 3)) ∧ (fdecl cL_shelfCut.data.toList 17 = some (.goto 11, 3)) ∧ (fdecl cL_shelfCut.data.toList 20 = some (.astore 7, 2)) ∧ (fdecl cL_shelfCut.data.toList 22 = some (.iconst 1, 1)) ∧ (fdecl cL_shelfCut.data.toList 23 = some (.ireturn, 1)) ∧ (fdecl cL_shelfCut.data.toList 24 = some (.astore 7, 2)) ∧ (fdecl cL_shelfCut.data.toList 26 = some (.iconst 2, 1)) := by decide +kernel
theorem dL_shelfCut_0 : decode cL_shelfCut 0 = .ok (.aload 6, 2) := fx_ok0 eL_shelfCut_0.1
theorem dL_shelfCut_2 : decode cL_shelfCut 2 = .ok (.aload_n 0, 1) := fx_ok0 eL_shelfCut_0.2.1
theorem dL_shelfCut_3 : decode cL_shelfCut 3 = .ok (.iload_n 1, 1) := fx_ok0 eL_shelfCut_0.2.2.1
theorem dL_shelfCut_4 : decode cL_shelfCut 4 = .ok (.iload_n 2, 1) := fx_ok0 eL_shelfCut_0.2.2.2.1
theorem dL_shelfCut_5 : decode cL_shelfCut 5 = .ok (.iload_n 3, 1) := fx_ok0 eL_shelfCut_0.2.2.2.2.1
theorem dL_shelfCut_6 : decode cL_shelfCut 6 = .ok (.iload 4, 2) := fx_ok0 eL_shelfCut_0.2.2.2.2.2.1
theorem dL_shelfCut_8 : decode cL_shelfCut 8 = .ok (.iload 5, 2) := fx_ok0 eL_shelfCut_0.2.2.2.2.2.2.1
theorem dL_shelfCut_10 : decode cL_shelfCut 10 = .ok (.invokevirtual 135, 3) := fx_ok0 eL_shelfCut_0.2.2.2.2.2.2.2.1
theorem dL_shelfCut_13 : decode cL_shelfCut 13 = .ok (.i2l, 1) := fx_ok0 eL_shelfCut_0.2.2.2.2.2.2.2.2.1
theorem dL_shelfCut_14 : decode cL_shelfCut 14 = .ok (.putfield 13, 3) := fx_ok0 eL_shelfCut_0.2.2.2.2.2.2.2.2.2.1
theorem dL_shelfCut_17 : decode cL_shelfCut 17 = .ok (.goto 11, 3) := fx_ok0 eL_shelfCut_0.2.2.2.2.2.2.2.2.2.2.1
theorem dL_shelfCut_20 : decode cL_shelfCut 20 = .ok (.astore 7, 2) := fx_ok0 eL_shelfCut_0.2.2.2.2.2.2.2.2.2.2.2.1
theorem dL_shelfCut_22 : decode cL_shelfCut 22 = .ok (.iconst 1, 1) := fx_ok0 eL_shelfCut_0.2.2.2.2.2.2.2.2.2.2.2.2.1
theorem dL_shelfCut_23 : decode cL_shelfCut 23 = .ok (.ireturn, 1) := fx_ok0 eL_shelfCut_0.2.2.2.2.2.2.2.2.2.2.2.2.2.1
theorem dL_shelfCut_24 : decode cL_shelfCut 24 = .ok (.astore 7, 2) := fx_ok0 eL_shelfCut_0.2.2.2.2.2.2.2.2.2.2.2.2.2.2.1
theorem dL_shelfCut_26 : decode cL_shelfCut 26 = .ok (.iconst 2, 1) := fx_ok0 eL_shelfCut_0.2.2.2.2.2.2.2.2.2.2.2.2.2.2.2
theorem eL_shelfCut_27 : (fdecl cL_shelfCut.data.toList 27 = some (.ireturn, 1)) ∧ (fdecl cL_shelfCut.data.toList 28 = some (.iconst 0, 1)) ∧ (fdecl cL_shelfCut.data.toList 29 = some (.ireturn, 1)) := by decide +kernel
theorem dL_shelfCut_27 : decode cL_shelfCut 27 = .ok (.ireturn, 1) := fx_ok0 eL_shelfCut_27.1
theorem dL_shelfCut_28 : decode cL_shelfCut 28 = .ok (.iconst 0, 1) := fx_ok0 eL_shelfCut_27.2.1
theorem dL_shelfCut_29 : decode cL_shelfCut 29 = .ok (.ireturn, 1) := fx_ok0 eL_shelfCut_27.2.2
theorem eL_shelfNear_0 : (fdecl cL_shelfNear.data.toList 0 = some (.aload 4, 2)) ∧ (fdecl cL_shelfNear.data.toList 2 = some (.aload_n 0, 1)) ∧ (fdecl cL_shelfNear.data.toList 3 = some (.iload_n 1, 1)) ∧ (fdecl cL_shelfNear.data.toList 4 = some (.iload_n 2, 1)) ∧ (fdecl cL_shelfNear.data.toList 5 = some (.iload_n 3, 1)) ∧ (fdecl cL_shelfNear.data.toList 6 = some (.invokevirtual 138, 3)) ∧ (fdecl cL_shelfNear.data.toList 9 = some (.i2l, 1)) ∧ (fdecl cL_shelfNear.data.toList 10 = some (.putfield 13, 3)) ∧ (fdecl cL_shelfNear.data.toList 13 = some (.goto 11, 3)) ∧ (fdecl cL_shelfNear.data.toList 16 = some (.astore 5, 2)) ∧ (fdecl cL_shelfNear.data.toList 18 = some (.iconst 1, 1)) ∧ (fdecl cL_shelfNear.data.toList 19 = some (.ireturn, 1)) ∧ (fdecl cL_shelfNear.data.toList 20 = some (.astore 5, 2)) ∧ (fdecl cL_shelfNear.data.toList 22 = some (.iconst 2, 1)) ∧ (fdecl cL_shelfNear.data.toList 23 = some (.ireturn, 1)) ∧ (fdecl cL_shelfNear.data.toList 24 = some (.iconst 0, 1)) := by decide +kernel
theorem dL_shelfNear_0 : decode cL_shelfNear 0 = .ok (.aload 4, 2) := fx_ok0 eL_shelfNear_0.1
theorem dL_shelfNear_2 : decode cL_shelfNear 2 = .ok (.aload_n 0, 1) := fx_ok0 eL_shelfNear_0.2.1
theorem dL_shelfNear_3 : decode cL_shelfNear 3 = .ok (.iload_n 1, 1) := fx_ok0 eL_shelfNear_0.2.2.1
theorem dL_shelfNear_4 : decode cL_shelfNear 4 = .ok (.iload_n 2, 1) := fx_ok0 eL_shelfNear_0.2.2.2.1
theorem dL_shelfNear_5 : decode cL_shelfNear 5 = .ok (.iload_n 3, 1) := fx_ok0 eL_shelfNear_0.2.2.2.2.1
theorem dL_shelfNear_6 : decode cL_shelfNear 6 = .ok (.invokevirtual 138, 3) := fx_ok0 eL_shelfNear_0.2.2.2.2.2.1
theorem dL_shelfNear_9 : decode cL_shelfNear 9 = .ok (.i2l, 1) := fx_ok0 eL_shelfNear_0.2.2.2.2.2.2.1
theorem dL_shelfNear_10 : decode cL_shelfNear 10 = .ok (.putfield 13, 3) := fx_ok0 eL_shelfNear_0.2.2.2.2.2.2.2.1
theorem dL_shelfNear_13 : decode cL_shelfNear 13 = .ok (.goto 11, 3) := fx_ok0 eL_shelfNear_0.2.2.2.2.2.2.2.2.1
theorem dL_shelfNear_16 : decode cL_shelfNear 16 = .ok (.astore 5, 2) := fx_ok0 eL_shelfNear_0.2.2.2.2.2.2.2.2.2.1
theorem dL_shelfNear_18 : decode cL_shelfNear 18 = .ok (.iconst 1, 1) := fx_ok0 eL_shelfNear_0.2.2.2.2.2.2.2.2.2.2.1
theorem dL_shelfNear_19 : decode cL_shelfNear 19 = .ok (.ireturn, 1) := fx_ok0 eL_shelfNear_0.2.2.2.2.2.2.2.2.2.2.2.1
theorem dL_shelfNear_20 : decode cL_shelfNear 20 = .ok (.astore 5, 2) := fx_ok0 eL_shelfNear_0.2.2.2.2.2.2.2.2.2.2.2.2.1
theorem dL_shelfNear_22 : decode cL_shelfNear 22 = .ok (.iconst 2, 1) := fx_ok0 eL_shelfNear_0.2.2.2.2.2.2.2.2.2.2.2.2.2.1
theorem dL_shelfNear_23 : decode cL_shelfNear 23 = .ok (.ireturn, 1) := fx_ok0 eL_shelfNear_0.2.2.2.2.2.2.2.2.2.2.2.2.2.2.1
theorem dL_shelfNear_24 : decode cL_shelfNear 24 = .ok (.iconst 0, 1) := fx_ok0 eL_shelfNear_0.2.2.2.2.2.2.2.2.2.2.2.2.2.2.2
theorem eL_shelfNear_25 : (fdecl cL_shelfNear.data.toList 25 = some (.ireturn, 1)) := by decide +kernel
theorem dL_shelfNear_25 : decode cL_shelfNear 25 = .ok (.ireturn, 1) := fx_ok0 eL_shelfNear_25
theorem eL_shelfTell_0 : (fdecl cL_shelfTell.data.toList 0 = some (.aload_n 3, 1)) ∧ (fdecl cL_shelfTell.data.toList 1 = some (.aload_n 0, 1)) ∧ (fdecl cL_shelfTell.data.toList 2 = some (.iload_n 1, 1)) ∧ (fdecl cL_shelfTell.data.toList 3 = some (.iload_n 2, 1)) ∧ (fdecl cL_shelfTell.data.toList 4 = some (.invokevirtual 141, 3)) ∧ (fdecl cL_shelfTell.data.toList 7 = some (.i2l, 1)) ∧ (fdecl cL_shelfTell.data.toList 8 = some (.putfield 13, 3)) ∧ (fdecl cL_shelfTell.data.toList 11 = some (.goto 11, 3)) ∧ (fdecl cL_shelfTell.data.toList 14 = some (.astore 4, 2)) ∧ (fdecl cL_shelfTell.data.toList 16 = some (.iconst 1, 1)) ∧ (fdecl cL_shelfTell.data.toList 17 = some (.ireturn, 1)) ∧ (fdecl cL_shelfTell.data.toList 18 = some (.astore 4, 2)) ∧ (fdecl cL_shelfTell.data.toList 20 = some (.iconst 2, 1)) ∧ (fdecl cL_shelfTell.data.toList 21 = some (.ireturn, 1)) ∧ (fdecl cL_shelfTell.data.toList 22 = some (.iconst 0, 1)) ∧ (fdecl cL_shelfTell.data.toList 23 = some (.ireturn, 1)) := by decide +kernel
theorem dL_shelfTell_0 : decode cL_shelfTell 0 = .ok (.aload_n 3, 1) := fx_ok0 eL_shelfTell_0.1
theorem dL_shelfTell_1 : decode cL_shelfTell 1 = .ok (.aload_n 0, 1) := fx_ok0 eL_shelfTell_0.2.1
theorem dL_shelfTell_2 : decode cL_shelfTell 2 = .ok (.iload_n 1, 1) := fx_ok0 eL_shelfTell_0.2.2.1
theorem dL_shelfTell_3 : decode cL_shelfTell 3 = .ok (.iload_n 2, 1) := fx_ok0 eL_shelfTell_0.2.2.2.1
theorem dL_shelfTell_4 : decode cL_shelfTell 4 = .ok (.invokevirtual 141, 3) := fx_ok0 eL_shelfTell_0.2.2.2.2.1
theorem dL_shelfTell_7 : decode cL_shelfTell 7 = .ok (.i2l, 1) := fx_ok0 eL_shelfTell_0.2.2.2.2.2.1
theorem dL_shelfTell_8 : decode cL_shelfTell 8 = .ok (.putfield 13, 3) := fx_ok0 eL_shelfTell_0.2.2.2.2.2.2.1
theorem dL_shelfTell_11 : decode cL_shelfTell 11 = .ok (.goto 11, 3) := fx_ok0 eL_shelfTell_0.2.2.2.2.2.2.2.1
theorem dL_shelfTell_14 : decode cL_shelfTell 14 = .ok (.astore 4, 2) := fx_ok0 eL_shelfTell_0.2.2.2.2.2.2.2.2.1
theorem dL_shelfTell_16 : decode cL_shelfTell 16 = .ok (.iconst 1, 1) := fx_ok0 eL_shelfTell_0.2.2.2.2.2.2.2.2.2.1
theorem dL_shelfTell_17 : decode cL_shelfTell 17 = .ok (.ireturn, 1) := fx_ok0 eL_shelfTell_0.2.2.2.2.2.2.2.2.2.2.1
theorem dL_shelfTell_18 : decode cL_shelfTell 18 = .ok (.astore 4, 2) := fx_ok0 eL_shelfTell_0.2.2.2.2.2.2.2.2.2.2.2.1
theorem dL_shelfTell_20 : decode cL_shelfTell 20 = .ok (.iconst 2, 1) := fx_ok0 eL_shelfTell_0.2.2.2.2.2.2.2.2.2.2.2.2.1
theorem dL_shelfTell_21 : decode cL_shelfTell 21 = .ok (.ireturn, 1) := fx_ok0 eL_shelfTell_0.2.2.2.2.2.2.2.2.2.2.2.2.2.1
theorem dL_shelfTell_22 : decode cL_shelfTell 22 = .ok (.iconst 0, 1) := fx_ok0 eL_shelfTell_0.2.2.2.2.2.2.2.2.2.2.2.2.2.2.1
theorem dL_shelfTell_23 : decode cL_shelfTell 23 = .ok (.ireturn, 1) := fx_ok0 eL_shelfTell_0.2.2.2.2.2.2.2.2.2.2.2.2.2.2.2
theorem eL_sameShelves_0 : (fdecl cL_sameShelves.data.toList 0 = some (.aload 4, 2)) ∧ (fdecl cL_sameShelves.data.toList 2 = some (.aload_n 0, 1)) ∧ (fdecl cL_sameShelves.data.toList 3 = some (.iload_n 1, 1)) ∧ (fdecl cL_sameShelves.data.toList 4 = some (.iload_n 2, 1)) ∧ (fdecl cL_sameShelves.data.toList 5 = some (.iload_n 3, 1)) ∧ (fdecl cL_sameShelves.data.toList 6 = some (.invokevirtual 144, 3)) ∧ (fdecl cL_sameShelves.data.toList 9 = some (.ifCond .eq 7, 3)) ∧ (fdecl cL_sameShelves.data.toList 12 = some (.lconst 1, 1)) ∧ (fdecl cL_sameShelves.data.toList 13 = some (.goto 4, 3)) ∧ (fdecl cL_sameShelves.data.toList 16 = some (.lconst 0, 1)) ∧ (fdecl cL_sameShelves.data.toList 17 = some (.putfield 13, 3)) ∧ (fdecl cL_sameShelves.data.toList 20 = some (.goto 11, 3)) ∧ (fdecl cL_sameShelves.data.toList 23 = some (.astore 5, 2)) ∧ (fdecl cL_sameShelves.data.toList 25 = some (.iconst 1, 1)) ∧ (fdecl cL_sameShelves.data.toList 26 = some (.ireturn, 1)) ∧ (fdecl cL_sameShelves.data.toList 27 = some (.astore 5, 2)) := by decide +kernel
theorem dL_sameShelves_0 : decode cL_sameShelves 0 = .ok (.aload 4, 2) := fx_ok0 eL_sameShelves_0.1
theorem dL_sameShelves_2 : decode cL_sameShelves 2 = .ok (.aload_n 0, 1) := fx_ok0 eL_sameShelves_0.2.1
theorem dL_sameShelves_3 : decode cL_sameShelves 3 = .ok (.iload_n 1, 1) := fx_ok0 eL_sameShelves_0.2.2.1
theorem dL_sameShelves_4 : decode cL_sameShelves 4 = .ok (.iload_n 2, 1) := fx_ok0 eL_sameShelves_0.2.2.2.1
theorem dL_sameShelves_5 : decode cL_sameShelves 5 = .ok (.iload_n 3, 1) := fx_ok0 eL_sameShelves_0.2.2.2.2.1
theorem dL_sameShelves_6 : decode cL_sameShelves 6 = .ok (.invokevirtual 144, 3) := fx_ok0 eL_sameShelves_0.2.2.2.2.2.1
theorem dL_sameShelves_9 : decode cL_sameShelves 9 = .ok (.ifCond .eq 7, 3) := fx_ok0 eL_sameShelves_0.2.2.2.2.2.2.1
theorem dL_sameShelves_12 : decode cL_sameShelves 12 = .ok (.lconst 1, 1) := fx_ok0 eL_sameShelves_0.2.2.2.2.2.2.2.1
theorem dL_sameShelves_13 : decode cL_sameShelves 13 = .ok (.goto 4, 3) := fx_ok0 eL_sameShelves_0.2.2.2.2.2.2.2.2.1
theorem dL_sameShelves_16 : decode cL_sameShelves 16 = .ok (.lconst 0, 1) := fx_ok0 eL_sameShelves_0.2.2.2.2.2.2.2.2.2.1
theorem dL_sameShelves_17 : decode cL_sameShelves 17 = .ok (.putfield 13, 3) := fx_ok0 eL_sameShelves_0.2.2.2.2.2.2.2.2.2.2.1
theorem dL_sameShelves_20 : decode cL_sameShelves 20 = .ok (.goto 11, 3) := fx_ok0 eL_sameShelves_0.2.2.2.2.2.2.2.2.2.2.2.1
theorem dL_sameShelves_23 : decode cL_sameShelves 23 = .ok (.astore 5, 2) := fx_ok0 eL_sameShelves_0.2.2.2.2.2.2.2.2.2.2.2.2.1
theorem dL_sameShelves_25 : decode cL_sameShelves 25 = .ok (.iconst 1, 1) := fx_ok0 eL_sameShelves_0.2.2.2.2.2.2.2.2.2.2.2.2.2.1
theorem dL_sameShelves_26 : decode cL_sameShelves 26 = .ok (.ireturn, 1) := fx_ok0 eL_sameShelves_0.2.2.2.2.2.2.2.2.2.2.2.2.2.2.1
theorem dL_sameShelves_27 : decode cL_sameShelves 27 = .ok (.astore 5, 2) := fx_ok0 eL_sameShelves_0.2.2.2.2.2.2.2.2.2.2.2.2.2.2.2
theorem eL_sameShelves_29 : (fdecl cL_sameShelves.data.toList 29 = some (.iconst 2, 1)) ∧ (fdecl cL_sameShelves.data.toList 30 = some (.ireturn, 1)) ∧ (fdecl cL_sameShelves.data.toList 31 = some (.iconst 0, 1)) ∧ (fdecl cL_sameShelves.data.toList 32 = some (.ireturn, 1)) := by decide +kernel
theorem dL_sameShelves_29 : decode cL_sameShelves 29 = .ok (.iconst 2, 1) := fx_ok0 eL_sameShelves_29.1
theorem dL_sameShelves_30 : decode cL_sameShelves 30 = .ok (.ireturn, 1) := fx_ok0 eL_sameShelves_29.2.1
theorem dL_sameShelves_31 : decode cL_sameShelves 31 = .ok (.iconst 0, 1) := fx_ok0 eL_sameShelves_29.2.2.1
theorem dL_sameShelves_32 : decode cL_sameShelves 32 = .ok (.ireturn, 1) := fx_ok0 eL_sameShelves_29.2.2.2
theorem eL_house_0 : (fdecl cL_house.data.toList 0 = some (.aload_n 2, 1)) ∧ (fdecl cL_house.data.toList 1 = some (.aload_n 0, 1)) ∧ (fdecl cL_house.data.toList 2 = some (.iload_n 1, 1)) ∧ (fdecl cL_house.data.toList 3 = some (.invokevirtual 148, 3)) ∧ (fdecl cL_house.data.toList 6 = some (.i2l, 1)) ∧ (fdecl cL_house.data.toList 7 = some (.putfield 13, 3)) ∧ (fdecl cL_house.data.toList 10 = some (.goto 6, 3)) ∧ (fdecl cL_house.data.toList 13 = some (.astore_n 3, 1)) ∧ (fdecl cL_house.data.toList 14 = some (.iconst 1, 1)) ∧ (fdecl cL_house.data.toList 15 = some (.ireturn, 1)) ∧ (fdecl cL_house.data.toList 16 = some (.iconst 0, 1)) ∧ (fdecl cL_house.data.toList 17 = some (.ireturn, 1)) := by decide +kernel
theorem dL_house_0 : decode cL_house 0 = .ok (.aload_n 2, 1) := fx_ok0 eL_house_0.1
theorem dL_house_1 : decode cL_house 1 = .ok (.aload_n 0, 1) := fx_ok0 eL_house_0.2.1
theorem dL_house_2 : decode cL_house 2 = .ok (.iload_n 1, 1) := fx_ok0 eL_house_0.2.2.1
theorem dL_house_3 : decode cL_house 3 = .ok (.invokevirtual 148, 3) := fx_ok0 eL_house_0.2.2.2.1
theorem dL_house_6 : decode cL_house 6 = .ok (.i2l, 1) := fx_ok0 eL_house_0.2.2.2.2.1
theorem dL_house_7 : decode cL_house 7 = .ok (.putfield 13, 3) := fx_ok0 eL_house_0.2.2.2.2.2.1
theorem dL_house_10 : decode cL_house 10 = .ok (.goto 6, 3) := fx_ok0 eL_house_0.2.2.2.2.2.2.1
theorem dL_house_13 : decode cL_house 13 = .ok (.astore_n 3, 1) := fx_ok0 eL_house_0.2.2.2.2.2.2.2.1
theorem dL_house_14 : decode cL_house 14 = .ok (.iconst 1, 1) := fx_ok0 eL_house_0.2.2.2.2.2.2.2.2.1
theorem dL_house_15 : decode cL_house 15 = .ok (.ireturn, 1) := fx_ok0 eL_house_0.2.2.2.2.2.2.2.2.2.1
theorem dL_house_16 : decode cL_house 16 = .ok (.iconst 0, 1) := fx_ok0 eL_house_0.2.2.2.2.2.2.2.2.2.2.1
theorem dL_house_17 : decode cL_house 17 = .ok (.ireturn, 1) := fx_ok0 eL_house_0.2.2.2.2.2.2.2.2.2.2.2
def fAL_law_0 : List UInt8 := [187, 0, 8, 89, 183, 0, 151, 76, 187, 0, 152, 89, 183, 0, 154, 77, 187, 0, 14, 89, 183, 0, 155, 78, 3, 54, 4, 21, 4, 42, 190, 16, 7, 100, 163, 8, 251, 42, 21, 4, 46, 16, 63, 126, 170, 0, 0, 0, 0, 0, 8, 235, 0, 0, 0, 0, 0, 0, 0, 42, 0, 0, 0, 188]
def fAL_law_1 : List UInt8 := [0, 0, 0, 228, 0, 0, 1, 24, 0, 0, 1, 76, 0, 0, 1, 152, 0, 0, 1, 192, 0, 0, 2, 4, 0, 0, 2, 68, 0, 0, 2, 132, 0, 0, 2, 172, 0, 0, 2, 212, 0, 0, 3, 24, 0, 0, 3, 104, 0, 0, 3, 188, 0, 0, 4, 0, 0, 0, 4, 40, 0, 0, 4, 68]
def fAL_law_2 : List UInt8 := [0, 0, 4, 108, 0, 0, 4, 198, 0, 0, 5, 6, 0, 0, 5, 58, 0, 0, 5, 110, 0, 0, 5, 150, 0, 0, 5, 190, 0, 0, 5, 242, 0, 0, 6, 26, 0, 0, 6, 54, 0, 0, 6, 67, 0, 0, 6, 95, 0, 0, 6, 108, 0, 0, 6, 148, 0, 0, 6, 200, 0, 0, 6, 240]
def fAL_law_3 : List UInt8 := [0, 0, 7, 76, 0, 0, 7, 128, 0, 0, 7, 168, 0, 0, 7, 244, 0, 0, 8, 40, 0, 0, 8, 80, 0, 0, 8, 168, 0, 0, 8, 196, 0, 0, 8, 209, 0, 0, 8, 222, 43, 42, 21, 4, 4, 96, 46, 42, 21, 4, 5, 96, 46, 45, 184, 0, 156, 54, 5, 44, 42, 21, 4, 4]
def fAL_law_4 : List UInt8 := [96, 46, 42, 21, 4, 5, 96, 46, 182, 0, 161, 54, 6, 167, 8, 10, 43, 42, 21, 4, 4, 96, 46, 42, 21, 4, 5, 96, 46, 42, 21, 4, 6, 96, 46, 45, 184, 0, 162, 54, 5, 44, 42, 21, 4, 4, 96, 46, 42, 21, 4, 5, 96, 46, 42, 21, 4, 6, 96, 46, 182, 0, 165, 54]
def fAL_law_5 : List UInt8 := [6, 167, 7, 214, 43, 42, 21, 4, 4, 96, 46, 42, 21, 4, 5, 96, 46, 42, 21, 4, 6, 96, 46, 45, 184, 0, 166, 54, 5, 44, 42, 21, 4, 4, 96, 46, 42, 21, 4, 5, 96, 46, 42, 21, 4, 6, 96, 46, 182, 0, 168, 54, 6, 167, 7, 162, 43, 42, 21, 4, 4, 96, 46, 42]
def fAL_law_6 : List UInt8 := [21, 4, 5, 96, 46, 42, 21, 4, 6, 96, 46, 42, 21, 4, 7, 96, 46, 42, 21, 4, 8, 96, 46, 45, 184, 0, 169, 54, 5, 44, 42, 21, 4, 4, 96, 46, 42, 21, 4, 5, 96, 46, 42, 21, 4, 6, 96, 46, 42, 21, 4, 7, 96, 46, 42, 21, 4, 8, 96, 46, 182, 0, 172, 54]
def fAL_law_7 : List UInt8 := [6, 167, 7, 86, 43, 42, 21, 4, 4, 96, 46, 42, 21, 4, 5, 96, 46, 45, 184, 0, 173, 54, 5, 44, 42, 21, 4, 4, 96, 46, 42, 21, 4, 5, 96, 46, 182, 0, 175, 54, 6, 167, 7, 46, 43, 42, 21, 4, 4, 96, 46, 42, 21, 4, 5, 96, 46, 42, 21, 4, 6, 96, 46, 153]
def fAL_law_8 : List UInt8 := [0, 7, 4, 167, 0, 4, 3, 45, 184, 0, 176, 54, 5, 44, 42, 21, 4, 4, 96, 46, 42, 21, 4, 5, 96, 46, 42, 21, 4, 6, 96, 46, 153, 0, 7, 4, 167, 0, 4, 3, 182, 0, 179, 54, 6, 167, 6, 234, 43, 42, 21, 4, 4, 96, 46, 42, 21, 4, 5, 96, 46, 42, 21, 4]
def fAL_law_9 : List UInt8 := [6, 96, 46, 42, 21, 4, 7, 96, 46, 45, 184, 0, 180, 54, 5, 44, 42, 21, 4, 4, 96, 46, 42, 21, 4, 5, 96, 46, 42, 21, 4, 6, 96, 46, 42, 21, 4, 7, 96, 46, 182, 0, 183, 54, 6, 167, 6, 170, 43, 42, 21, 4, 4, 96, 46, 42, 21, 4, 5, 96, 46, 42, 21, 4]
def fAL_law_10 : List UInt8 := [6, 96, 46, 42, 21, 4, 7, 96, 46, 45, 184, 0, 184, 54, 5, 44, 42, 21, 4, 4, 96, 46, 42, 21, 4, 5, 96, 46, 42, 21, 4, 6, 96, 46, 42, 21, 4, 7, 96, 46, 182, 0, 186, 54, 6, 167, 6, 106, 43, 42, 21, 4, 4, 96, 46, 42, 21, 4, 5, 96, 46, 45, 184, 0]
def fAL_law_11 : List UInt8 := [187, 54, 5, 44, 42, 21, 4, 4, 96, 46, 42, 21, 4, 5, 96, 46, 182, 0, 189, 54, 6, 167, 6, 66, 43, 42, 21, 4, 4, 96, 46, 42, 21, 4, 5, 96, 46, 45, 184, 0, 190, 54, 5, 44, 42, 21, 4, 4, 96, 46, 42, 21, 4, 5, 96, 46, 182, 0, 192, 54, 6, 167, 6, 26]
def fAL_law_12 : List UInt8 := [43, 42, 21, 4, 4, 96, 46, 42, 21, 4, 5, 96, 46, 153, 0, 7, 4, 167, 0, 4, 3, 42, 21, 4, 6, 96, 46, 45, 184, 0, 193, 54, 5, 44, 42, 21, 4, 4, 96, 46, 42, 21, 4, 5, 96, 46, 153, 0, 7, 4, 167, 0, 4, 3, 42, 21, 4, 6, 96, 46, 182, 0, 196, 54]
def fAL_law_13 : List UInt8 := [6, 167, 5, 214, 43, 42, 21, 4, 4, 96, 46, 42, 21, 4, 5, 96, 46, 42, 21, 4, 6, 96, 46, 42, 21, 4, 7, 96, 46, 153, 0, 7, 4, 167, 0, 4, 3, 45, 184, 0, 197, 54, 5, 44, 42, 21, 4, 4, 96, 46, 42, 21, 4, 5, 96, 46, 42, 21, 4, 6, 96, 46, 42, 21]
def fAL_law_14 : List UInt8 := [4, 7, 96, 46, 153, 0, 7, 4, 167, 0, 4, 3, 182, 0, 200, 54, 6, 167, 5, 134, 43, 42, 21, 4, 4, 96, 46, 42, 21, 4, 5, 96, 46, 153, 0, 7, 4, 167, 0, 4, 3, 42, 21, 4, 6, 96, 46, 153, 0, 7, 4, 167, 0, 4, 3, 45, 184, 0, 201, 54, 5, 44, 42, 21]
def fAL_law_15 : List UInt8 := [4, 4, 96, 46, 42, 21, 4, 5, 96, 46, 153, 0, 7, 4, 167, 0, 4, 3, 42, 21, 4, 6, 96, 46, 153, 0, 7, 4, 167, 0, 4, 3, 182, 0, 204, 54, 6, 167, 5, 50, 43, 42, 21, 4, 4, 96, 46, 42, 21, 4, 5, 96, 46, 42, 21, 4, 6, 96, 46, 153, 0, 7, 4, 167]
def fAL_law_16 : List UInt8 := [0, 4, 3, 45, 184, 0, 205, 54, 5, 44, 42, 21, 4, 4, 96, 46, 42, 21, 4, 5, 96, 46, 42, 21, 4, 6, 96, 46, 153, 0, 7, 4, 167, 0, 4, 3, 182, 0, 207, 54, 6, 167, 4, 238, 43, 42, 21, 4, 4, 96, 46, 42, 21, 4, 5, 96, 46, 45, 184, 0, 208, 54, 5, 44]
def fAL_law_17 : List UInt8 := [42, 21, 4, 4, 96, 46, 42, 21, 4, 5, 96, 46, 182, 0, 210, 54, 6, 167, 4, 198, 43, 42, 21, 4, 4, 96, 46, 45, 184, 0, 211, 54, 5, 44, 42, 21, 4, 4, 96, 46, 182, 0, 214, 58, 6, 167, 4, 170, 43, 42, 21, 4, 4, 96, 46, 42, 21, 4, 5, 96, 46, 45, 184, 0]
def fAL_law_18 : List UInt8 := [215, 54, 5, 44, 42, 21, 4, 4, 96, 46, 42, 21, 4, 5, 96, 46, 182, 0, 217, 54, 6, 167, 4, 130, 43, 42, 21, 4, 4, 96, 46, 42, 21, 4, 5, 96, 46, 42, 21, 4, 6, 96, 46, 42, 21, 4, 7, 96, 46, 42, 21, 4, 8, 96, 46, 42, 21, 4, 16, 6, 96, 46, 45, 184]
def fAL_law_19 : List UInt8 := [0, 218, 54, 5, 44, 42, 21, 4, 4, 96, 46, 42, 21, 4, 5, 96, 46, 42, 21, 4, 6, 96, 46, 42, 21, 4, 7, 96, 46, 42, 21, 4, 8, 96, 46, 42, 21, 4, 16, 6, 96, 46, 182, 0, 221, 54, 6, 167, 4, 40, 43, 42, 21, 4, 4, 96, 46, 42, 21, 4, 5, 96, 46, 42]
def fAL_law_20 : List UInt8 := [21, 4, 6, 96, 46, 42, 21, 4, 7, 96, 46, 45, 184, 0, 222, 54, 5, 44, 42, 21, 4, 4, 96, 46, 42, 21, 4, 5, 96, 46, 42, 21, 4, 6, 96, 46, 42, 21, 4, 7, 96, 46, 182, 0, 224, 54, 6, 167, 3, 232, 43, 42, 21, 4, 4, 96, 46, 42, 21, 4, 5, 96, 46, 42]
def fAL_law_21 : List UInt8 := [21, 4, 6, 96, 46, 45, 184, 0, 225, 54, 5, 44, 42, 21, 4, 4, 96, 46, 42, 21, 4, 5, 96, 46, 42, 21, 4, 6, 96, 46, 182, 0, 227, 54, 6, 167, 3, 180, 43, 42, 21, 4, 4, 96, 46, 42, 21, 4, 5, 96, 46, 42, 21, 4, 6, 96, 46, 45, 184, 0, 228, 54, 5, 44]
def fAL_law_22 : List UInt8 := [42, 21, 4, 4, 96, 46, 42, 21, 4, 5, 96, 46, 42, 21, 4, 6, 96, 46, 182, 0, 230, 54, 6, 167, 3, 128, 43, 42, 21, 4, 4, 96, 46, 42, 21, 4, 5, 96, 46, 45, 184, 0, 231, 54, 5, 44, 42, 21, 4, 4, 96, 46, 42, 21, 4, 5, 96, 46, 182, 0, 233, 54, 6, 167]
def fAL_law_23 : List UInt8 := [3, 88, 43, 42, 21, 4, 4, 96, 46, 42, 21, 4, 5, 96, 46, 45, 184, 0, 234, 54, 5, 44, 42, 21, 4, 4, 96, 46, 42, 21, 4, 5, 96, 46, 182, 0, 236, 54, 6, 167, 3, 48, 43, 42, 21, 4, 4, 96, 46, 42, 21, 4, 5, 96, 46, 42, 21, 4, 6, 96, 46, 45, 184, 0]
def fAL_law_24 : List UInt8 := [237, 54, 5, 44, 42, 21, 4, 4, 96, 46, 42, 21, 4, 5, 96, 46, 42, 21, 4, 6, 96, 46, 182, 0, 239, 54, 6, 167, 2, 252, 43, 42, 21, 4, 4, 96, 46, 42, 21, 4, 5, 96, 46, 45, 184, 0, 240, 54, 5, 44, 42, 21, 4, 4, 96, 46, 42, 21, 4, 5, 96, 46, 182, 0]
def fAL_law_25 : List UInt8 := [242, 54, 6, 167, 2, 212, 43, 42, 21, 4, 4, 96, 46, 45, 184, 0, 243, 54, 5, 44, 42, 21, 4, 4, 96, 46, 182, 0, 245, 54, 6, 167, 2, 184, 43, 182, 0, 246, 87, 44, 182, 0, 250, 87, 167, 2, 171, 43, 42, 21, 4, 4, 96, 46, 45, 184, 0, 251, 54, 5, 44, 42, 21, 4]
def fAL_law_26 : List UInt8 := [4, 96, 46, 182, 0, 253, 54, 6, 167, 2, 143, 43, 182, 0, 254, 87, 44, 182, 1, 1, 87, 167, 2, 130, 43, 42, 21, 4, 4, 96, 46, 42, 21, 4, 5, 96, 46, 45, 184, 1, 2, 54, 5, 44, 42, 21, 4, 4, 96, 46, 42, 21, 4, 5, 96, 46, 182, 1, 4, 54, 6, 167, 2, 90]
def fAL_law_27 : List UInt8 := [43, 42, 21, 4, 4, 96, 46, 42, 21, 4, 5, 96, 46, 42, 21, 4, 6, 96, 46, 45, 184, 1, 5, 54, 5, 44, 42, 21, 4, 4, 96, 46, 42, 21, 4, 5, 96, 46, 42, 21, 4, 6, 96, 46, 182, 1, 7, 54, 6, 167, 2, 38, 43, 42, 21, 4, 4, 96, 46, 42, 21, 4, 5, 96]
def fAL_law_28 : List UInt8 := [46, 45, 184, 1, 8, 54, 5, 44, 42, 21, 4, 4, 96, 46, 42, 21, 4, 5, 96, 46, 182, 1, 10, 54, 6, 167, 1, 254, 43, 42, 21, 4, 4, 96, 46, 42, 21, 4, 5, 96, 46, 42, 21, 4, 6, 96, 46, 42, 21, 4, 7, 96, 46, 42, 21, 4, 8, 96, 46, 153, 0, 7, 4, 167]
def fAL_law_29 : List UInt8 := [0, 4, 3, 45, 184, 1, 11, 54, 5, 44, 42, 21, 4, 4, 96, 46, 42, 21, 4, 5, 96, 46, 42, 21, 4, 6, 96, 46, 42, 21, 4, 7, 96, 46, 42, 21, 4, 8, 96, 46, 153, 0, 7, 4, 167, 0, 4, 3, 182, 1, 14, 54, 6, 167, 1, 162, 43, 42, 21, 4, 4, 96, 46, 42]
def fAL_law_30 : List UInt8 := [21, 4, 5, 96, 46, 42, 21, 4, 6, 96, 46, 45, 184, 1, 15, 54, 5, 44, 42, 21, 4, 4, 96, 46, 42, 21, 4, 5, 96, 46, 42, 21, 4, 6, 96, 46, 182, 1, 17, 54, 6, 167, 1, 110, 43, 42, 21, 4, 4, 96, 46, 42, 21, 4, 5, 96, 46, 45, 184, 1, 18, 54, 5, 44]
def fAL_law_31 : List UInt8 := [42, 21, 4, 4, 96, 46, 42, 21, 4, 5, 96, 46, 182, 1, 20, 54, 6, 167, 1, 70, 43, 42, 21, 4, 4, 96, 46, 42, 21, 4, 5, 96, 46, 42, 21, 4, 6, 96, 46, 42, 21, 4, 7, 96, 46, 42, 21, 4, 8, 96, 46, 45, 184, 1, 21, 54, 5, 44, 42, 21, 4, 4, 96, 46]
def fAL_law_32 : List UInt8 := [42, 21, 4, 5, 96, 46, 42, 21, 4, 6, 96, 46, 42, 21, 4, 7, 96, 46, 42, 21, 4, 8, 96, 46, 182, 1, 23, 54, 6, 167, 0, 250, 43, 42, 21, 4, 4, 96, 46, 42, 21, 4, 5, 96, 46, 42, 21, 4, 6, 96, 46, 45, 184, 1, 24, 54, 5, 44, 42, 21, 4, 4, 96, 46]
def fAL_law_33 : List UInt8 := [42, 21, 4, 5, 96, 46, 42, 21, 4, 6, 96, 46, 182, 1, 26, 54, 6, 167, 0, 198, 43, 42, 21, 4, 4, 96, 46, 42, 21, 4, 5, 96, 46, 45, 184, 1, 27, 54, 5, 44, 42, 21, 4, 4, 96, 46, 42, 21, 4, 5, 96, 46, 182, 1, 29, 54, 6, 167, 0, 158, 43, 42, 21, 4]
def fAL_law_34 : List UInt8 := [4, 96, 46, 42, 21, 4, 5, 96, 46, 42, 21, 4, 6, 96, 46, 45, 184, 1, 30, 54, 5, 44, 42, 21, 4, 4, 96, 46, 42, 21, 4, 5, 96, 46, 42, 21, 4, 6, 96, 46, 182, 1, 32, 54, 6, 44, 182, 1, 33, 21, 5, 159, 0, 5, 3, 172, 21, 5, 154, 0, 23, 45, 180, 0]
def fAL_law_35 : List UInt8 := [13, 21, 6, 153, 0, 7, 10, 167, 0, 4, 9, 148, 153, 0, 5, 3, 172, 167, 0, 70, 43, 42, 21, 4, 4, 96, 46, 45, 184, 1, 36, 54, 5, 44, 42, 21, 4, 4, 96, 46, 182, 1, 38, 54, 6, 167, 0, 42, 43, 182, 1, 39, 87, 44, 182, 1, 42, 87, 167, 0, 29, 43, 182, 1]
def fAL_law_36 : List UInt8 := [43, 87, 44, 182, 1, 47, 87, 167, 0, 16, 43, 182, 1, 48, 88, 44, 182, 1, 52, 88, 167, 0, 3, 132, 4, 7, 167, 247, 1, 4, 172]
def fTL_law_36 : List UInt8 := fAL_law_36
def fTL_law_35 : List UInt8 := fAL_law_35 ++ fTL_law_36
def fTL_law_34 : List UInt8 := fAL_law_34 ++ fTL_law_35
def fTL_law_33 : List UInt8 := fAL_law_33 ++ fTL_law_34
def fTL_law_32 : List UInt8 := fAL_law_32 ++ fTL_law_33
def fTL_law_31 : List UInt8 := fAL_law_31 ++ fTL_law_32
def fTL_law_30 : List UInt8 := fAL_law_30 ++ fTL_law_31
def fTL_law_29 : List UInt8 := fAL_law_29 ++ fTL_law_30
def fTL_law_28 : List UInt8 := fAL_law_28 ++ fTL_law_29
def fTL_law_27 : List UInt8 := fAL_law_27 ++ fTL_law_28
def fTL_law_26 : List UInt8 := fAL_law_26 ++ fTL_law_27
def fTL_law_25 : List UInt8 := fAL_law_25 ++ fTL_law_26
def fTL_law_24 : List UInt8 := fAL_law_24 ++ fTL_law_25
def fTL_law_23 : List UInt8 := fAL_law_23 ++ fTL_law_24
def fTL_law_22 : List UInt8 := fAL_law_22 ++ fTL_law_23
def fTL_law_21 : List UInt8 := fAL_law_21 ++ fTL_law_22
def fTL_law_20 : List UInt8 := fAL_law_20 ++ fTL_law_21
def fTL_law_19 : List UInt8 := fAL_law_19 ++ fTL_law_20
def fTL_law_18 : List UInt8 := fAL_law_18 ++ fTL_law_19
def fTL_law_17 : List UInt8 := fAL_law_17 ++ fTL_law_18
def fTL_law_16 : List UInt8 := fAL_law_16 ++ fTL_law_17
def fTL_law_15 : List UInt8 := fAL_law_15 ++ fTL_law_16
def fTL_law_14 : List UInt8 := fAL_law_14 ++ fTL_law_15
def fTL_law_13 : List UInt8 := fAL_law_13 ++ fTL_law_14
def fTL_law_12 : List UInt8 := fAL_law_12 ++ fTL_law_13
def fTL_law_11 : List UInt8 := fAL_law_11 ++ fTL_law_12
def fTL_law_10 : List UInt8 := fAL_law_10 ++ fTL_law_11
def fTL_law_9 : List UInt8 := fAL_law_9 ++ fTL_law_10
def fTL_law_8 : List UInt8 := fAL_law_8 ++ fTL_law_9
def fTL_law_7 : List UInt8 := fAL_law_7 ++ fTL_law_8
def fTL_law_6 : List UInt8 := fAL_law_6 ++ fTL_law_7
def fTL_law_5 : List UInt8 := fAL_law_5 ++ fTL_law_6
def fTL_law_4 : List UInt8 := fAL_law_4 ++ fTL_law_5
def fTL_law_3 : List UInt8 := fAL_law_3 ++ fTL_law_4
def fTL_law_2 : List UInt8 := fAL_law_2 ++ fTL_law_3
def fTL_law_1 : List UInt8 := fAL_law_1 ++ fTL_law_2
def fTL_law_0 : List UInt8 := fAL_law_0 ++ fTL_law_1
theorem fDL_law_0 : cL_law.data.toList.drop 0 = fTL_law_0 := eq_of_beq (by decide +kernel)
theorem fDL_law_1 : cL_law.data.toList.drop 64 = fTL_law_1 := fx_nx (d := 0) (n := 64) (a := fAL_law_0) fDL_law_0 rfl
theorem fDL_law_2 : cL_law.data.toList.drop 128 = fTL_law_2 := fx_nx (d := 64) (n := 64) (a := fAL_law_1) fDL_law_1 rfl
theorem fDL_law_3 : cL_law.data.toList.drop 192 = fTL_law_3 := fx_nx (d := 128) (n := 64) (a := fAL_law_2) fDL_law_2 rfl
theorem fDL_law_4 : cL_law.data.toList.drop 256 = fTL_law_4 := fx_nx (d := 192) (n := 64) (a := fAL_law_3) fDL_law_3 rfl
theorem fDL_law_5 : cL_law.data.toList.drop 320 = fTL_law_5 := fx_nx (d := 256) (n := 64) (a := fAL_law_4) fDL_law_4 rfl
theorem fDL_law_6 : cL_law.data.toList.drop 384 = fTL_law_6 := fx_nx (d := 320) (n := 64) (a := fAL_law_5) fDL_law_5 rfl
theorem fDL_law_7 : cL_law.data.toList.drop 448 = fTL_law_7 := fx_nx (d := 384) (n := 64) (a := fAL_law_6) fDL_law_6 rfl
theorem fDL_law_8 : cL_law.data.toList.drop 512 = fTL_law_8 := fx_nx (d := 448) (n := 64) (a := fAL_law_7) fDL_law_7 rfl
theorem fDL_law_9 : cL_law.data.toList.drop 576 = fTL_law_9 := fx_nx (d := 512) (n := 64) (a := fAL_law_8) fDL_law_8 rfl
theorem fDL_law_10 : cL_law.data.toList.drop 640 = fTL_law_10 := fx_nx (d := 576) (n := 64) (a := fAL_law_9) fDL_law_9 rfl
theorem fDL_law_11 : cL_law.data.toList.drop 704 = fTL_law_11 := fx_nx (d := 640) (n := 64) (a := fAL_law_10) fDL_law_10 rfl
theorem fDL_law_12 : cL_law.data.toList.drop 768 = fTL_law_12 := fx_nx (d := 704) (n := 64) (a := fAL_law_11) fDL_law_11 rfl
theorem fDL_law_13 : cL_law.data.toList.drop 832 = fTL_law_13 := fx_nx (d := 768) (n := 64) (a := fAL_law_12) fDL_law_12 rfl
theorem fDL_law_14 : cL_law.data.toList.drop 896 = fTL_law_14 := fx_nx (d := 832) (n := 64) (a := fAL_law_13) fDL_law_13 rfl
theorem fDL_law_15 : cL_law.data.toList.drop 960 = fTL_law_15 := fx_nx (d := 896) (n := 64) (a := fAL_law_14) fDL_law_14 rfl
theorem fDL_law_16 : cL_law.data.toList.drop 1024 = fTL_law_16 := fx_nx (d := 960) (n := 64) (a := fAL_law_15) fDL_law_15 rfl
theorem fDL_law_17 : cL_law.data.toList.drop 1088 = fTL_law_17 := fx_nx (d := 1024) (n := 64) (a := fAL_law_16) fDL_law_16 rfl
theorem fDL_law_18 : cL_law.data.toList.drop 1152 = fTL_law_18 := fx_nx (d := 1088) (n := 64) (a := fAL_law_17) fDL_law_17 rfl
theorem fDL_law_19 : cL_law.data.toList.drop 1216 = fTL_law_19 := fx_nx (d := 1152) (n := 64) (a := fAL_law_18) fDL_law_18 rfl
theorem fDL_law_20 : cL_law.data.toList.drop 1280 = fTL_law_20 := fx_nx (d := 1216) (n := 64) (a := fAL_law_19) fDL_law_19 rfl
theorem fDL_law_21 : cL_law.data.toList.drop 1344 = fTL_law_21 := fx_nx (d := 1280) (n := 64) (a := fAL_law_20) fDL_law_20 rfl
theorem fDL_law_22 : cL_law.data.toList.drop 1408 = fTL_law_22 := fx_nx (d := 1344) (n := 64) (a := fAL_law_21) fDL_law_21 rfl
theorem fDL_law_23 : cL_law.data.toList.drop 1472 = fTL_law_23 := fx_nx (d := 1408) (n := 64) (a := fAL_law_22) fDL_law_22 rfl
theorem fDL_law_24 : cL_law.data.toList.drop 1536 = fTL_law_24 := fx_nx (d := 1472) (n := 64) (a := fAL_law_23) fDL_law_23 rfl
theorem fDL_law_25 : cL_law.data.toList.drop 1600 = fTL_law_25 := fx_nx (d := 1536) (n := 64) (a := fAL_law_24) fDL_law_24 rfl
theorem fDL_law_26 : cL_law.data.toList.drop 1664 = fTL_law_26 := fx_nx (d := 1600) (n := 64) (a := fAL_law_25) fDL_law_25 rfl
theorem fDL_law_27 : cL_law.data.toList.drop 1728 = fTL_law_27 := fx_nx (d := 1664) (n := 64) (a := fAL_law_26) fDL_law_26 rfl
theorem fDL_law_28 : cL_law.data.toList.drop 1792 = fTL_law_28 := fx_nx (d := 1728) (n := 64) (a := fAL_law_27) fDL_law_27 rfl
theorem fDL_law_29 : cL_law.data.toList.drop 1856 = fTL_law_29 := fx_nx (d := 1792) (n := 64) (a := fAL_law_28) fDL_law_28 rfl
theorem fDL_law_30 : cL_law.data.toList.drop 1920 = fTL_law_30 := fx_nx (d := 1856) (n := 64) (a := fAL_law_29) fDL_law_29 rfl
theorem fDL_law_31 : cL_law.data.toList.drop 1984 = fTL_law_31 := fx_nx (d := 1920) (n := 64) (a := fAL_law_30) fDL_law_30 rfl
theorem fDL_law_32 : cL_law.data.toList.drop 2048 = fTL_law_32 := fx_nx (d := 1984) (n := 64) (a := fAL_law_31) fDL_law_31 rfl
theorem fDL_law_33 : cL_law.data.toList.drop 2112 = fTL_law_33 := fx_nx (d := 2048) (n := 64) (a := fAL_law_32) fDL_law_32 rfl
theorem fDL_law_34 : cL_law.data.toList.drop 2176 = fTL_law_34 := fx_nx (d := 2112) (n := 64) (a := fAL_law_33) fDL_law_33 rfl
theorem fDL_law_35 : cL_law.data.toList.drop 2240 = fTL_law_35 := fx_nx (d := 2176) (n := 64) (a := fAL_law_34) fDL_law_34 rfl
theorem fDL_law_36 : cL_law.data.toList.drop 2304 = fTL_law_36 := fx_nx (d := 2240) (n := 64) (a := fAL_law_35) fDL_law_35 rfl
theorem eL_law_0 : (fdecl fTL_law_0 0 = some (.new 8, 3)) ∧ (fdecl fTL_law_0 3 = some (.dup, 1)) ∧ (fdecl fTL_law_0 4 = some (.invokespecial 151, 3)) ∧ (fdecl fTL_law_0 7 = some (.astore_n 1, 1)) ∧ (fdecl fTL_law_0 8 = some (.new 152, 3)) ∧ (fdecl fTL_law_0 11 = some (.dup, 1)) ∧ (fdecl fTL_law_0 12 = some (.invokespecial 154, 3)) ∧ (fdecl fTL_law_0 15 = some (.astore_n 2, 1)) ∧ (fdecl fTL_law_0 16 = some (.new 14, 3)) ∧ (fdecl fTL_law_0 19 = some (.dup, 1)) ∧ (fdecl fTL_law_0 20 = some (.invokespecial 155, 3)) ∧ (fdecl fTL_law_0 23 = some (.astore_n 3, 1)) ∧ (fdecl fTL_law_0 24 = some (.iconst 0, 1)) ∧ (fdecl fTL_law_0 25 = some (.istore 4, 2)) ∧ (fdecl fTL_law_0 27 = some (.iload 4, 2)) ∧ (fdecl fTL_law_0 29 = some (.aload_n 0, 1)) := by decide +kernel
theorem dL_law_0 : decode cL_law 0 = .ok (.new 8, 3) := fx_ok (d := 0) (i := 0) fDL_law_0 eL_law_0.1
theorem dL_law_3 : decode cL_law 3 = .ok (.dup, 1) := fx_ok (d := 0) (i := 3) fDL_law_0 eL_law_0.2.1
theorem dL_law_4 : decode cL_law 4 = .ok (.invokespecial 151, 3) := fx_ok (d := 0) (i := 4) fDL_law_0 eL_law_0.2.2.1
theorem dL_law_7 : decode cL_law 7 = .ok (.astore_n 1, 1) := fx_ok (d := 0) (i := 7) fDL_law_0 eL_law_0.2.2.2.1
theorem dL_law_8 : decode cL_law 8 = .ok (.new 152, 3) := fx_ok (d := 0) (i := 8) fDL_law_0 eL_law_0.2.2.2.2.1
theorem dL_law_11 : decode cL_law 11 = .ok (.dup, 1) := fx_ok (d := 0) (i := 11) fDL_law_0 eL_law_0.2.2.2.2.2.1
theorem dL_law_12 : decode cL_law 12 = .ok (.invokespecial 154, 3) := fx_ok (d := 0) (i := 12) fDL_law_0 eL_law_0.2.2.2.2.2.2.1
theorem dL_law_15 : decode cL_law 15 = .ok (.astore_n 2, 1) := fx_ok (d := 0) (i := 15) fDL_law_0 eL_law_0.2.2.2.2.2.2.2.1
theorem dL_law_16 : decode cL_law 16 = .ok (.new 14, 3) := fx_ok (d := 0) (i := 16) fDL_law_0 eL_law_0.2.2.2.2.2.2.2.2.1
theorem dL_law_19 : decode cL_law 19 = .ok (.dup, 1) := fx_ok (d := 0) (i := 19) fDL_law_0 eL_law_0.2.2.2.2.2.2.2.2.2.1
theorem dL_law_20 : decode cL_law 20 = .ok (.invokespecial 155, 3) := fx_ok (d := 0) (i := 20) fDL_law_0 eL_law_0.2.2.2.2.2.2.2.2.2.2.1
theorem dL_law_23 : decode cL_law 23 = .ok (.astore_n 3, 1) := fx_ok (d := 0) (i := 23) fDL_law_0 eL_law_0.2.2.2.2.2.2.2.2.2.2.2.1
theorem dL_law_24 : decode cL_law 24 = .ok (.iconst 0, 1) := fx_ok (d := 0) (i := 24) fDL_law_0 eL_law_0.2.2.2.2.2.2.2.2.2.2.2.2.1
theorem dL_law_25 : decode cL_law 25 = .ok (.istore 4, 2) := fx_ok (d := 0) (i := 25) fDL_law_0 eL_law_0.2.2.2.2.2.2.2.2.2.2.2.2.2.1
theorem dL_law_27 : decode cL_law 27 = .ok (.iload 4, 2) := fx_ok (d := 0) (i := 27) fDL_law_0 eL_law_0.2.2.2.2.2.2.2.2.2.2.2.2.2.2.1
theorem dL_law_29 : decode cL_law 29 = .ok (.aload_n 0, 1) := fx_ok (d := 0) (i := 29) fDL_law_0 eL_law_0.2.2.2.2.2.2.2.2.2.2.2.2.2.2.2
theorem eL_law_30 : (fdecl fTL_law_0 30 = some (.arraylength, 1)) ∧ (fdecl fTL_law_0 31 = some (.bipush 7, 2)) ∧ (fdecl fTL_law_0 33 = some (.isub, 1)) ∧ (fdecl fTL_law_0 34 = some (.if_icmp .gt 2299, 3)) ∧ (fdecl fTL_law_0 37 = some (.aload_n 0, 1)) ∧ (fdecl fTL_law_0 38 = some (.iload 4, 2)) ∧ (fdecl fTL_law_0 40 = some (.iaload, 1)) ∧ (fdecl fTL_law_0 41 = some (.bipush 63, 2)) ∧ (fdecl fTL_law_0 43 = some (.iand, 1)) ∧ (fdecl fTL_law_3 40 = some (.aload_n 1, 1)) ∧ (fdecl fTL_law_3 41 = some (.aload_n 0, 1)) ∧ (fdecl fTL_law_3 42 = some (.iload 4, 2)) ∧ (fdecl fTL_law_3 44 = some (.iconst 1, 1)) ∧ (fdecl fTL_law_3 45 = some (.iadd, 1)) ∧ (fdecl fTL_law_3 46 = some (.iaload, 1)) ∧ (fdecl fTL_law_3 47 = some (.aload_n 0, 1)) := by decide +kernel
theorem dL_law_30 : decode cL_law 30 = .ok (.arraylength, 1) := fx_ok (d := 0) (i := 30) fDL_law_0 eL_law_30.1
theorem dL_law_31 : decode cL_law 31 = .ok (.bipush 7, 2) := fx_ok (d := 0) (i := 31) fDL_law_0 eL_law_30.2.1
theorem dL_law_33 : decode cL_law 33 = .ok (.isub, 1) := fx_ok (d := 0) (i := 33) fDL_law_0 eL_law_30.2.2.1
theorem dL_law_34 : decode cL_law 34 = .ok (.if_icmp .gt 2299, 3) := fx_ok (d := 0) (i := 34) fDL_law_0 eL_law_30.2.2.2.1
theorem dL_law_37 : decode cL_law 37 = .ok (.aload_n 0, 1) := fx_ok (d := 0) (i := 37) fDL_law_0 eL_law_30.2.2.2.2.1
theorem dL_law_38 : decode cL_law 38 = .ok (.iload 4, 2) := fx_ok (d := 0) (i := 38) fDL_law_0 eL_law_30.2.2.2.2.2.1
theorem dL_law_40 : decode cL_law 40 = .ok (.iaload, 1) := fx_ok (d := 0) (i := 40) fDL_law_0 eL_law_30.2.2.2.2.2.2.1
theorem dL_law_41 : decode cL_law 41 = .ok (.bipush 63, 2) := fx_ok (d := 0) (i := 41) fDL_law_0 eL_law_30.2.2.2.2.2.2.2.1
theorem dL_law_43 : decode cL_law 43 = .ok (.iand, 1) := fx_ok (d := 0) (i := 43) fDL_law_0 eL_law_30.2.2.2.2.2.2.2.2.1
theorem dL_law_232 : decode cL_law 232 = .ok (.aload_n 1, 1) := fx_ok (d := 192) (i := 40) fDL_law_3 eL_law_30.2.2.2.2.2.2.2.2.2.1
theorem dL_law_233 : decode cL_law 233 = .ok (.aload_n 0, 1) := fx_ok (d := 192) (i := 41) fDL_law_3 eL_law_30.2.2.2.2.2.2.2.2.2.2.1
theorem dL_law_234 : decode cL_law 234 = .ok (.iload 4, 2) := fx_ok (d := 192) (i := 42) fDL_law_3 eL_law_30.2.2.2.2.2.2.2.2.2.2.2.1
theorem dL_law_236 : decode cL_law 236 = .ok (.iconst 1, 1) := fx_ok (d := 192) (i := 44) fDL_law_3 eL_law_30.2.2.2.2.2.2.2.2.2.2.2.2.1
theorem dL_law_237 : decode cL_law 237 = .ok (.iadd, 1) := fx_ok (d := 192) (i := 45) fDL_law_3 eL_law_30.2.2.2.2.2.2.2.2.2.2.2.2.2.1
theorem dL_law_238 : decode cL_law 238 = .ok (.iaload, 1) := fx_ok (d := 192) (i := 46) fDL_law_3 eL_law_30.2.2.2.2.2.2.2.2.2.2.2.2.2.2.1
theorem dL_law_239 : decode cL_law 239 = .ok (.aload_n 0, 1) := fx_ok (d := 192) (i := 47) fDL_law_3 eL_law_30.2.2.2.2.2.2.2.2.2.2.2.2.2.2.2
theorem eL_law_240 : (fdecl fTL_law_3 48 = some (.iload 4, 2)) ∧ (fdecl fTL_law_3 50 = some (.iconst 2, 1)) ∧ (fdecl fTL_law_3 51 = some (.iadd, 1)) ∧ (fdecl fTL_law_3 52 = some (.iaload, 1)) ∧ (fdecl fTL_law_3 53 = some (.aload_n 3, 1)) ∧ (fdecl fTL_law_3 54 = some (.invokestatic 156, 3)) ∧ (fdecl fTL_law_3 57 = some (.istore 5, 2)) ∧ (fdecl fTL_law_3 59 = some (.aload_n 2, 1)) ∧ (fdecl fTL_law_3 60 = some (.aload_n 0, 1)) ∧ (fdecl fTL_law_3 61 = some (.iload 4, 2)) ∧ (fdecl fTL_law_3 63 = some (.iconst 1, 1)) ∧ (fdecl fTL_law_4 0 = some (.iadd, 1)) ∧ (fdecl fTL_law_4 1 = some (.iaload, 1)) ∧ (fdecl fTL_law_4 2 = some (.aload_n 0, 1)) ∧ (fdecl fTL_law_4 3 = some (.iload 4, 2)) ∧ (fdecl fTL_law_4 5 = some (.iconst 2, 1)) := by decide +kernel
theorem dL_law_240 : decode cL_law 240 = .ok (.iload 4, 2) := fx_ok (d := 192) (i := 48) fDL_law_3 eL_law_240.1
theorem dL_law_242 : decode cL_law 242 = .ok (.iconst 2, 1) := fx_ok (d := 192) (i := 50) fDL_law_3 eL_law_240.2.1
theorem dL_law_243 : decode cL_law 243 = .ok (.iadd, 1) := fx_ok (d := 192) (i := 51) fDL_law_3 eL_law_240.2.2.1
theorem dL_law_244 : decode cL_law 244 = .ok (.iaload, 1) := fx_ok (d := 192) (i := 52) fDL_law_3 eL_law_240.2.2.2.1
theorem dL_law_245 : decode cL_law 245 = .ok (.aload_n 3, 1) := fx_ok (d := 192) (i := 53) fDL_law_3 eL_law_240.2.2.2.2.1
theorem dL_law_246 : decode cL_law 246 = .ok (.invokestatic 156, 3) := fx_ok (d := 192) (i := 54) fDL_law_3 eL_law_240.2.2.2.2.2.1
theorem dL_law_249 : decode cL_law 249 = .ok (.istore 5, 2) := fx_ok (d := 192) (i := 57) fDL_law_3 eL_law_240.2.2.2.2.2.2.1
theorem dL_law_251 : decode cL_law 251 = .ok (.aload_n 2, 1) := fx_ok (d := 192) (i := 59) fDL_law_3 eL_law_240.2.2.2.2.2.2.2.1
theorem dL_law_252 : decode cL_law 252 = .ok (.aload_n 0, 1) := fx_ok (d := 192) (i := 60) fDL_law_3 eL_law_240.2.2.2.2.2.2.2.2.1
theorem dL_law_253 : decode cL_law 253 = .ok (.iload 4, 2) := fx_ok (d := 192) (i := 61) fDL_law_3 eL_law_240.2.2.2.2.2.2.2.2.2.1
theorem dL_law_255 : decode cL_law 255 = .ok (.iconst 1, 1) := fx_ok (d := 192) (i := 63) fDL_law_3 eL_law_240.2.2.2.2.2.2.2.2.2.2.1
theorem dL_law_256 : decode cL_law 256 = .ok (.iadd, 1) := fx_ok (d := 256) (i := 0) fDL_law_4 eL_law_240.2.2.2.2.2.2.2.2.2.2.2.1
theorem dL_law_257 : decode cL_law 257 = .ok (.iaload, 1) := fx_ok (d := 256) (i := 1) fDL_law_4 eL_law_240.2.2.2.2.2.2.2.2.2.2.2.2.1
theorem dL_law_258 : decode cL_law 258 = .ok (.aload_n 0, 1) := fx_ok (d := 256) (i := 2) fDL_law_4 eL_law_240.2.2.2.2.2.2.2.2.2.2.2.2.2.1
theorem dL_law_259 : decode cL_law 259 = .ok (.iload 4, 2) := fx_ok (d := 256) (i := 3) fDL_law_4 eL_law_240.2.2.2.2.2.2.2.2.2.2.2.2.2.2.1
theorem dL_law_261 : decode cL_law 261 = .ok (.iconst 2, 1) := fx_ok (d := 256) (i := 5) fDL_law_4 eL_law_240.2.2.2.2.2.2.2.2.2.2.2.2.2.2.2
theorem eL_law_262 : (fdecl fTL_law_4 6 = some (.iadd, 1)) ∧ (fdecl fTL_law_4 7 = some (.iaload, 1)) ∧ (fdecl fTL_law_4 8 = some (.invokevirtual 161, 3)) ∧ (fdecl fTL_law_4 11 = some (.istore 6, 2)) ∧ (fdecl fTL_law_4 13 = some (.goto 2058, 3)) ∧ (fdecl fTL_law_4 16 = some (.aload_n 1, 1)) ∧ (fdecl fTL_law_4 17 = some (.aload_n 0, 1)) ∧ (fdecl fTL_law_4 18 = some (.iload 4, 2)) ∧ (fdecl fTL_law_4 20 = some (.iconst 1, 1)) ∧ (fdecl fTL_law_4 21 = some (.iadd, 1)) ∧ (fdecl fTL_law_4 22 = some (.iaload, 1)) ∧ (fdecl fTL_law_4 23 = some (.aload_n 0, 1)) ∧ (fdecl fTL_law_4 24 = some (.iload 4, 2)) ∧ (fdecl fTL_law_4 26 = some (.iconst 2, 1)) ∧ (fdecl fTL_law_4 27 = some (.iadd, 1)) ∧ (fdecl fTL_law_4 28 = some (.iaload, 1)) := by decide +kernel
theorem dL_law_262 : decode cL_law 262 = .ok (.iadd, 1) := fx_ok (d := 256) (i := 6) fDL_law_4 eL_law_262.1
theorem dL_law_263 : decode cL_law 263 = .ok (.iaload, 1) := fx_ok (d := 256) (i := 7) fDL_law_4 eL_law_262.2.1
theorem dL_law_264 : decode cL_law 264 = .ok (.invokevirtual 161, 3) := fx_ok (d := 256) (i := 8) fDL_law_4 eL_law_262.2.2.1
theorem dL_law_267 : decode cL_law 267 = .ok (.istore 6, 2) := fx_ok (d := 256) (i := 11) fDL_law_4 eL_law_262.2.2.2.1
theorem dL_law_269 : decode cL_law 269 = .ok (.goto 2058, 3) := fx_ok (d := 256) (i := 13) fDL_law_4 eL_law_262.2.2.2.2.1
theorem dL_law_272 : decode cL_law 272 = .ok (.aload_n 1, 1) := fx_ok (d := 256) (i := 16) fDL_law_4 eL_law_262.2.2.2.2.2.1
theorem dL_law_273 : decode cL_law 273 = .ok (.aload_n 0, 1) := fx_ok (d := 256) (i := 17) fDL_law_4 eL_law_262.2.2.2.2.2.2.1
theorem dL_law_274 : decode cL_law 274 = .ok (.iload 4, 2) := fx_ok (d := 256) (i := 18) fDL_law_4 eL_law_262.2.2.2.2.2.2.2.1
theorem dL_law_276 : decode cL_law 276 = .ok (.iconst 1, 1) := fx_ok (d := 256) (i := 20) fDL_law_4 eL_law_262.2.2.2.2.2.2.2.2.1
theorem dL_law_277 : decode cL_law 277 = .ok (.iadd, 1) := fx_ok (d := 256) (i := 21) fDL_law_4 eL_law_262.2.2.2.2.2.2.2.2.2.1
theorem dL_law_278 : decode cL_law 278 = .ok (.iaload, 1) := fx_ok (d := 256) (i := 22) fDL_law_4 eL_law_262.2.2.2.2.2.2.2.2.2.2.1
theorem dL_law_279 : decode cL_law 279 = .ok (.aload_n 0, 1) := fx_ok (d := 256) (i := 23) fDL_law_4 eL_law_262.2.2.2.2.2.2.2.2.2.2.2.1
theorem dL_law_280 : decode cL_law 280 = .ok (.iload 4, 2) := fx_ok (d := 256) (i := 24) fDL_law_4 eL_law_262.2.2.2.2.2.2.2.2.2.2.2.2.1
theorem dL_law_282 : decode cL_law 282 = .ok (.iconst 2, 1) := fx_ok (d := 256) (i := 26) fDL_law_4 eL_law_262.2.2.2.2.2.2.2.2.2.2.2.2.2.1
theorem dL_law_283 : decode cL_law 283 = .ok (.iadd, 1) := fx_ok (d := 256) (i := 27) fDL_law_4 eL_law_262.2.2.2.2.2.2.2.2.2.2.2.2.2.2.1
theorem dL_law_284 : decode cL_law 284 = .ok (.iaload, 1) := fx_ok (d := 256) (i := 28) fDL_law_4 eL_law_262.2.2.2.2.2.2.2.2.2.2.2.2.2.2.2
theorem eL_law_285 : (fdecl fTL_law_4 29 = some (.aload_n 0, 1)) ∧ (fdecl fTL_law_4 30 = some (.iload 4, 2)) ∧ (fdecl fTL_law_4 32 = some (.iconst 3, 1)) ∧ (fdecl fTL_law_4 33 = some (.iadd, 1)) ∧ (fdecl fTL_law_4 34 = some (.iaload, 1)) ∧ (fdecl fTL_law_4 35 = some (.aload_n 3, 1)) ∧ (fdecl fTL_law_4 36 = some (.invokestatic 162, 3)) ∧ (fdecl fTL_law_4 39 = some (.istore 5, 2)) ∧ (fdecl fTL_law_4 41 = some (.aload_n 2, 1)) ∧ (fdecl fTL_law_4 42 = some (.aload_n 0, 1)) ∧ (fdecl fTL_law_4 43 = some (.iload 4, 2)) ∧ (fdecl fTL_law_4 45 = some (.iconst 1, 1)) ∧ (fdecl fTL_law_4 46 = some (.iadd, 1)) ∧ (fdecl fTL_law_4 47 = some (.iaload, 1)) ∧ (fdecl fTL_law_4 48 = some (.aload_n 0, 1)) ∧ (fdecl fTL_law_4 49 = some (.iload 4, 2)) := by decide +kernel
theorem dL_law_285 : decode cL_law 285 = .ok (.aload_n 0, 1) := fx_ok (d := 256) (i := 29) fDL_law_4 eL_law_285.1
theorem dL_law_286 : decode cL_law 286 = .ok (.iload 4, 2) := fx_ok (d := 256) (i := 30) fDL_law_4 eL_law_285.2.1
theorem dL_law_288 : decode cL_law 288 = .ok (.iconst 3, 1) := fx_ok (d := 256) (i := 32) fDL_law_4 eL_law_285.2.2.1
theorem dL_law_289 : decode cL_law 289 = .ok (.iadd, 1) := fx_ok (d := 256) (i := 33) fDL_law_4 eL_law_285.2.2.2.1
theorem dL_law_290 : decode cL_law 290 = .ok (.iaload, 1) := fx_ok (d := 256) (i := 34) fDL_law_4 eL_law_285.2.2.2.2.1
theorem dL_law_291 : decode cL_law 291 = .ok (.aload_n 3, 1) := fx_ok (d := 256) (i := 35) fDL_law_4 eL_law_285.2.2.2.2.2.1
theorem dL_law_292 : decode cL_law 292 = .ok (.invokestatic 162, 3) := fx_ok (d := 256) (i := 36) fDL_law_4 eL_law_285.2.2.2.2.2.2.1
theorem dL_law_295 : decode cL_law 295 = .ok (.istore 5, 2) := fx_ok (d := 256) (i := 39) fDL_law_4 eL_law_285.2.2.2.2.2.2.2.1
theorem dL_law_297 : decode cL_law 297 = .ok (.aload_n 2, 1) := fx_ok (d := 256) (i := 41) fDL_law_4 eL_law_285.2.2.2.2.2.2.2.2.1
theorem dL_law_298 : decode cL_law 298 = .ok (.aload_n 0, 1) := fx_ok (d := 256) (i := 42) fDL_law_4 eL_law_285.2.2.2.2.2.2.2.2.2.1
theorem dL_law_299 : decode cL_law 299 = .ok (.iload 4, 2) := fx_ok (d := 256) (i := 43) fDL_law_4 eL_law_285.2.2.2.2.2.2.2.2.2.2.1
theorem dL_law_301 : decode cL_law 301 = .ok (.iconst 1, 1) := fx_ok (d := 256) (i := 45) fDL_law_4 eL_law_285.2.2.2.2.2.2.2.2.2.2.2.1
theorem dL_law_302 : decode cL_law 302 = .ok (.iadd, 1) := fx_ok (d := 256) (i := 46) fDL_law_4 eL_law_285.2.2.2.2.2.2.2.2.2.2.2.2.1
theorem dL_law_303 : decode cL_law 303 = .ok (.iaload, 1) := fx_ok (d := 256) (i := 47) fDL_law_4 eL_law_285.2.2.2.2.2.2.2.2.2.2.2.2.2.1
theorem dL_law_304 : decode cL_law 304 = .ok (.aload_n 0, 1) := fx_ok (d := 256) (i := 48) fDL_law_4 eL_law_285.2.2.2.2.2.2.2.2.2.2.2.2.2.2.1
theorem dL_law_305 : decode cL_law 305 = .ok (.iload 4, 2) := fx_ok (d := 256) (i := 49) fDL_law_4 eL_law_285.2.2.2.2.2.2.2.2.2.2.2.2.2.2.2
theorem eL_law_307 : (fdecl fTL_law_4 51 = some (.iconst 2, 1)) ∧ (fdecl fTL_law_4 52 = some (.iadd, 1)) ∧ (fdecl fTL_law_4 53 = some (.iaload, 1)) ∧ (fdecl fTL_law_4 54 = some (.aload_n 0, 1)) ∧ (fdecl fTL_law_4 55 = some (.iload 4, 2)) ∧ (fdecl fTL_law_4 57 = some (.iconst 3, 1)) ∧ (fdecl fTL_law_4 58 = some (.iadd, 1)) ∧ (fdecl fTL_law_4 59 = some (.iaload, 1)) ∧ (fdecl fTL_law_4 60 = some (.invokevirtual 165, 3)) ∧ (fdecl fTL_law_4 63 = some (.istore 6, 2)) ∧ (fdecl fTL_law_5 1 = some (.goto 2006, 3)) ∧ (fdecl fTL_law_5 4 = some (.aload_n 1, 1)) ∧ (fdecl fTL_law_5 5 = some (.aload_n 0, 1)) ∧ (fdecl fTL_law_5 6 = some (.iload 4, 2)) ∧ (fdecl fTL_law_5 8 = some (.iconst 1, 1)) ∧ (fdecl fTL_law_5 9 = some (.iadd, 1)) := by decide +kernel
theorem dL_law_307 : decode cL_law 307 = .ok (.iconst 2, 1) := fx_ok (d := 256) (i := 51) fDL_law_4 eL_law_307.1
theorem dL_law_308 : decode cL_law 308 = .ok (.iadd, 1) := fx_ok (d := 256) (i := 52) fDL_law_4 eL_law_307.2.1
theorem dL_law_309 : decode cL_law 309 = .ok (.iaload, 1) := fx_ok (d := 256) (i := 53) fDL_law_4 eL_law_307.2.2.1
theorem dL_law_310 : decode cL_law 310 = .ok (.aload_n 0, 1) := fx_ok (d := 256) (i := 54) fDL_law_4 eL_law_307.2.2.2.1
theorem dL_law_311 : decode cL_law 311 = .ok (.iload 4, 2) := fx_ok (d := 256) (i := 55) fDL_law_4 eL_law_307.2.2.2.2.1
theorem dL_law_313 : decode cL_law 313 = .ok (.iconst 3, 1) := fx_ok (d := 256) (i := 57) fDL_law_4 eL_law_307.2.2.2.2.2.1
theorem dL_law_314 : decode cL_law 314 = .ok (.iadd, 1) := fx_ok (d := 256) (i := 58) fDL_law_4 eL_law_307.2.2.2.2.2.2.1
theorem dL_law_315 : decode cL_law 315 = .ok (.iaload, 1) := fx_ok (d := 256) (i := 59) fDL_law_4 eL_law_307.2.2.2.2.2.2.2.1
theorem dL_law_316 : decode cL_law 316 = .ok (.invokevirtual 165, 3) := fx_ok (d := 256) (i := 60) fDL_law_4 eL_law_307.2.2.2.2.2.2.2.2.1
theorem dL_law_319 : decode cL_law 319 = .ok (.istore 6, 2) := fx_ok (d := 256) (i := 63) fDL_law_4 eL_law_307.2.2.2.2.2.2.2.2.2.1
theorem dL_law_321 : decode cL_law 321 = .ok (.goto 2006, 3) := fx_ok (d := 320) (i := 1) fDL_law_5 eL_law_307.2.2.2.2.2.2.2.2.2.2.1
theorem dL_law_324 : decode cL_law 324 = .ok (.aload_n 1, 1) := fx_ok (d := 320) (i := 4) fDL_law_5 eL_law_307.2.2.2.2.2.2.2.2.2.2.2.1
theorem dL_law_325 : decode cL_law 325 = .ok (.aload_n 0, 1) := fx_ok (d := 320) (i := 5) fDL_law_5 eL_law_307.2.2.2.2.2.2.2.2.2.2.2.2.1
theorem dL_law_326 : decode cL_law 326 = .ok (.iload 4, 2) := fx_ok (d := 320) (i := 6) fDL_law_5 eL_law_307.2.2.2.2.2.2.2.2.2.2.2.2.2.1
theorem dL_law_328 : decode cL_law 328 = .ok (.iconst 1, 1) := fx_ok (d := 320) (i := 8) fDL_law_5 eL_law_307.2.2.2.2.2.2.2.2.2.2.2.2.2.2.1
theorem dL_law_329 : decode cL_law 329 = .ok (.iadd, 1) := fx_ok (d := 320) (i := 9) fDL_law_5 eL_law_307.2.2.2.2.2.2.2.2.2.2.2.2.2.2.2
theorem eL_law_330 : (fdecl fTL_law_5 10 = some (.iaload, 1)) ∧ (fdecl fTL_law_5 11 = some (.aload_n 0, 1)) ∧ (fdecl fTL_law_5 12 = some (.iload 4, 2)) ∧ (fdecl fTL_law_5 14 = some (.iconst 2, 1)) ∧ (fdecl fTL_law_5 15 = some (.iadd, 1)) ∧ (fdecl fTL_law_5 16 = some (.iaload, 1)) ∧ (fdecl fTL_law_5 17 = some (.aload_n 0, 1)) ∧ (fdecl fTL_law_5 18 = some (.iload 4, 2)) ∧ (fdecl fTL_law_5 20 = some (.iconst 3, 1)) ∧ (fdecl fTL_law_5 21 = some (.iadd, 1)) ∧ (fdecl fTL_law_5 22 = some (.iaload, 1)) ∧ (fdecl fTL_law_5 23 = some (.aload_n 3, 1)) ∧ (fdecl fTL_law_5 24 = some (.invokestatic 166, 3)) ∧ (fdecl fTL_law_5 27 = some (.istore 5, 2)) ∧ (fdecl fTL_law_5 29 = some (.aload_n 2, 1)) ∧ (fdecl fTL_law_5 30 = some (.aload_n 0, 1)) := by decide +kernel
theorem dL_law_330 : decode cL_law 330 = .ok (.iaload, 1) := fx_ok (d := 320) (i := 10) fDL_law_5 eL_law_330.1
theorem dL_law_331 : decode cL_law 331 = .ok (.aload_n 0, 1) := fx_ok (d := 320) (i := 11) fDL_law_5 eL_law_330.2.1
theorem dL_law_332 : decode cL_law 332 = .ok (.iload 4, 2) := fx_ok (d := 320) (i := 12) fDL_law_5 eL_law_330.2.2.1
theorem dL_law_334 : decode cL_law 334 = .ok (.iconst 2, 1) := fx_ok (d := 320) (i := 14) fDL_law_5 eL_law_330.2.2.2.1
theorem dL_law_335 : decode cL_law 335 = .ok (.iadd, 1) := fx_ok (d := 320) (i := 15) fDL_law_5 eL_law_330.2.2.2.2.1
theorem dL_law_336 : decode cL_law 336 = .ok (.iaload, 1) := fx_ok (d := 320) (i := 16) fDL_law_5 eL_law_330.2.2.2.2.2.1
theorem dL_law_337 : decode cL_law 337 = .ok (.aload_n 0, 1) := fx_ok (d := 320) (i := 17) fDL_law_5 eL_law_330.2.2.2.2.2.2.1
theorem dL_law_338 : decode cL_law 338 = .ok (.iload 4, 2) := fx_ok (d := 320) (i := 18) fDL_law_5 eL_law_330.2.2.2.2.2.2.2.1
theorem dL_law_340 : decode cL_law 340 = .ok (.iconst 3, 1) := fx_ok (d := 320) (i := 20) fDL_law_5 eL_law_330.2.2.2.2.2.2.2.2.1
theorem dL_law_341 : decode cL_law 341 = .ok (.iadd, 1) := fx_ok (d := 320) (i := 21) fDL_law_5 eL_law_330.2.2.2.2.2.2.2.2.2.1
theorem dL_law_342 : decode cL_law 342 = .ok (.iaload, 1) := fx_ok (d := 320) (i := 22) fDL_law_5 eL_law_330.2.2.2.2.2.2.2.2.2.2.1
theorem dL_law_343 : decode cL_law 343 = .ok (.aload_n 3, 1) := fx_ok (d := 320) (i := 23) fDL_law_5 eL_law_330.2.2.2.2.2.2.2.2.2.2.2.1
theorem dL_law_344 : decode cL_law 344 = .ok (.invokestatic 166, 3) := fx_ok (d := 320) (i := 24) fDL_law_5 eL_law_330.2.2.2.2.2.2.2.2.2.2.2.2.1
theorem dL_law_347 : decode cL_law 347 = .ok (.istore 5, 2) := fx_ok (d := 320) (i := 27) fDL_law_5 eL_law_330.2.2.2.2.2.2.2.2.2.2.2.2.2.1
theorem dL_law_349 : decode cL_law 349 = .ok (.aload_n 2, 1) := fx_ok (d := 320) (i := 29) fDL_law_5 eL_law_330.2.2.2.2.2.2.2.2.2.2.2.2.2.2.1
theorem dL_law_350 : decode cL_law 350 = .ok (.aload_n 0, 1) := fx_ok (d := 320) (i := 30) fDL_law_5 eL_law_330.2.2.2.2.2.2.2.2.2.2.2.2.2.2.2
theorem eL_law_351 : (fdecl fTL_law_5 31 = some (.iload 4, 2)) ∧ (fdecl fTL_law_5 33 = some (.iconst 1, 1)) ∧ (fdecl fTL_law_5 34 = some (.iadd, 1)) ∧ (fdecl fTL_law_5 35 = some (.iaload, 1)) ∧ (fdecl fTL_law_5 36 = some (.aload_n 0, 1)) ∧ (fdecl fTL_law_5 37 = some (.iload 4, 2)) ∧ (fdecl fTL_law_5 39 = some (.iconst 2, 1)) ∧ (fdecl fTL_law_5 40 = some (.iadd, 1)) ∧ (fdecl fTL_law_5 41 = some (.iaload, 1)) ∧ (fdecl fTL_law_5 42 = some (.aload_n 0, 1)) ∧ (fdecl fTL_law_5 43 = some (.iload 4, 2)) ∧ (fdecl fTL_law_5 45 = some (.iconst 3, 1)) ∧ (fdecl fTL_law_5 46 = some (.iadd, 1)) ∧ (fdecl fTL_law_5 47 = some (.iaload, 1)) ∧ (fdecl fTL_law_5 48 = some (.invokevirtual 168, 3)) ∧ (fdecl fTL_law_5 51 = some (.istore 6, 2)) := by decide +kernel
theorem dL_law_351 : decode cL_law 351 = .ok (.iload 4, 2) := fx_ok (d := 320) (i := 31) fDL_law_5 eL_law_351.1
theorem dL_law_353 : decode cL_law 353 = .ok (.iconst 1, 1) := fx_ok (d := 320) (i := 33) fDL_law_5 eL_law_351.2.1
theorem dL_law_354 : decode cL_law 354 = .ok (.iadd, 1) := fx_ok (d := 320) (i := 34) fDL_law_5 eL_law_351.2.2.1
theorem dL_law_355 : decode cL_law 355 = .ok (.iaload, 1) := fx_ok (d := 320) (i := 35) fDL_law_5 eL_law_351.2.2.2.1
theorem dL_law_356 : decode cL_law 356 = .ok (.aload_n 0, 1) := fx_ok (d := 320) (i := 36) fDL_law_5 eL_law_351.2.2.2.2.1
theorem dL_law_357 : decode cL_law 357 = .ok (.iload 4, 2) := fx_ok (d := 320) (i := 37) fDL_law_5 eL_law_351.2.2.2.2.2.1
theorem dL_law_359 : decode cL_law 359 = .ok (.iconst 2, 1) := fx_ok (d := 320) (i := 39) fDL_law_5 eL_law_351.2.2.2.2.2.2.1
theorem dL_law_360 : decode cL_law 360 = .ok (.iadd, 1) := fx_ok (d := 320) (i := 40) fDL_law_5 eL_law_351.2.2.2.2.2.2.2.1
theorem dL_law_361 : decode cL_law 361 = .ok (.iaload, 1) := fx_ok (d := 320) (i := 41) fDL_law_5 eL_law_351.2.2.2.2.2.2.2.2.1
theorem dL_law_362 : decode cL_law 362 = .ok (.aload_n 0, 1) := fx_ok (d := 320) (i := 42) fDL_law_5 eL_law_351.2.2.2.2.2.2.2.2.2.1
theorem dL_law_363 : decode cL_law 363 = .ok (.iload 4, 2) := fx_ok (d := 320) (i := 43) fDL_law_5 eL_law_351.2.2.2.2.2.2.2.2.2.2.1
theorem dL_law_365 : decode cL_law 365 = .ok (.iconst 3, 1) := fx_ok (d := 320) (i := 45) fDL_law_5 eL_law_351.2.2.2.2.2.2.2.2.2.2.2.1
theorem dL_law_366 : decode cL_law 366 = .ok (.iadd, 1) := fx_ok (d := 320) (i := 46) fDL_law_5 eL_law_351.2.2.2.2.2.2.2.2.2.2.2.2.1
theorem dL_law_367 : decode cL_law 367 = .ok (.iaload, 1) := fx_ok (d := 320) (i := 47) fDL_law_5 eL_law_351.2.2.2.2.2.2.2.2.2.2.2.2.2.1
theorem dL_law_368 : decode cL_law 368 = .ok (.invokevirtual 168, 3) := fx_ok (d := 320) (i := 48) fDL_law_5 eL_law_351.2.2.2.2.2.2.2.2.2.2.2.2.2.2.1
theorem dL_law_371 : decode cL_law 371 = .ok (.istore 6, 2) := fx_ok (d := 320) (i := 51) fDL_law_5 eL_law_351.2.2.2.2.2.2.2.2.2.2.2.2.2.2.2
theorem eL_law_373 : (fdecl fTL_law_5 53 = some (.goto 1954, 3)) ∧ (fdecl fTL_law_5 56 = some (.aload_n 1, 1)) ∧ (fdecl fTL_law_5 57 = some (.aload_n 0, 1)) ∧ (fdecl fTL_law_5 58 = some (.iload 4, 2)) ∧ (fdecl fTL_law_5 60 = some (.iconst 1, 1)) ∧ (fdecl fTL_law_5 61 = some (.iadd, 1)) ∧ (fdecl fTL_law_5 62 = some (.iaload, 1)) ∧ (fdecl fTL_law_5 63 = some (.aload_n 0, 1)) ∧ (fdecl fTL_law_6 0 = some (.iload 4, 2)) ∧ (fdecl fTL_law_6 2 = some (.iconst 2, 1)) ∧ (fdecl fTL_law_6 3 = some (.iadd, 1)) ∧ (fdecl fTL_law_6 4 = some (.iaload, 1)) ∧ (fdecl fTL_law_6 5 = some (.aload_n 0, 1)) ∧ (fdecl fTL_law_6 6 = some (.iload 4, 2)) ∧ (fdecl fTL_law_6 8 = some (.iconst 3, 1)) ∧ (fdecl fTL_law_6 9 = some (.iadd, 1)) := by decide +kernel
theorem dL_law_373 : decode cL_law 373 = .ok (.goto 1954, 3) := fx_ok (d := 320) (i := 53) fDL_law_5 eL_law_373.1
theorem dL_law_376 : decode cL_law 376 = .ok (.aload_n 1, 1) := fx_ok (d := 320) (i := 56) fDL_law_5 eL_law_373.2.1
theorem dL_law_377 : decode cL_law 377 = .ok (.aload_n 0, 1) := fx_ok (d := 320) (i := 57) fDL_law_5 eL_law_373.2.2.1
theorem dL_law_378 : decode cL_law 378 = .ok (.iload 4, 2) := fx_ok (d := 320) (i := 58) fDL_law_5 eL_law_373.2.2.2.1
theorem dL_law_380 : decode cL_law 380 = .ok (.iconst 1, 1) := fx_ok (d := 320) (i := 60) fDL_law_5 eL_law_373.2.2.2.2.1
theorem dL_law_381 : decode cL_law 381 = .ok (.iadd, 1) := fx_ok (d := 320) (i := 61) fDL_law_5 eL_law_373.2.2.2.2.2.1
theorem dL_law_382 : decode cL_law 382 = .ok (.iaload, 1) := fx_ok (d := 320) (i := 62) fDL_law_5 eL_law_373.2.2.2.2.2.2.1
theorem dL_law_383 : decode cL_law 383 = .ok (.aload_n 0, 1) := fx_ok (d := 320) (i := 63) fDL_law_5 eL_law_373.2.2.2.2.2.2.2.1
theorem dL_law_384 : decode cL_law 384 = .ok (.iload 4, 2) := fx_ok (d := 384) (i := 0) fDL_law_6 eL_law_373.2.2.2.2.2.2.2.2.1
theorem dL_law_386 : decode cL_law 386 = .ok (.iconst 2, 1) := fx_ok (d := 384) (i := 2) fDL_law_6 eL_law_373.2.2.2.2.2.2.2.2.2.1
theorem dL_law_387 : decode cL_law 387 = .ok (.iadd, 1) := fx_ok (d := 384) (i := 3) fDL_law_6 eL_law_373.2.2.2.2.2.2.2.2.2.2.1
theorem dL_law_388 : decode cL_law 388 = .ok (.iaload, 1) := fx_ok (d := 384) (i := 4) fDL_law_6 eL_law_373.2.2.2.2.2.2.2.2.2.2.2.1
theorem dL_law_389 : decode cL_law 389 = .ok (.aload_n 0, 1) := fx_ok (d := 384) (i := 5) fDL_law_6 eL_law_373.2.2.2.2.2.2.2.2.2.2.2.2.1
theorem dL_law_390 : decode cL_law 390 = .ok (.iload 4, 2) := fx_ok (d := 384) (i := 6) fDL_law_6 eL_law_373.2.2.2.2.2.2.2.2.2.2.2.2.2.1
theorem dL_law_392 : decode cL_law 392 = .ok (.iconst 3, 1) := fx_ok (d := 384) (i := 8) fDL_law_6 eL_law_373.2.2.2.2.2.2.2.2.2.2.2.2.2.2.1
theorem dL_law_393 : decode cL_law 393 = .ok (.iadd, 1) := fx_ok (d := 384) (i := 9) fDL_law_6 eL_law_373.2.2.2.2.2.2.2.2.2.2.2.2.2.2.2
theorem eL_law_394 : (fdecl fTL_law_6 10 = some (.iaload, 1)) ∧ (fdecl fTL_law_6 11 = some (.aload_n 0, 1)) ∧ (fdecl fTL_law_6 12 = some (.iload 4, 2)) ∧ (fdecl fTL_law_6 14 = some (.iconst 4, 1)) ∧ (fdecl fTL_law_6 15 = some (.iadd, 1)) ∧ (fdecl fTL_law_6 16 = some (.iaload, 1)) ∧ (fdecl fTL_law_6 17 = some (.aload_n 0, 1)) ∧ (fdecl fTL_law_6 18 = some (.iload 4, 2)) ∧ (fdecl fTL_law_6 20 = some (.iconst 5, 1)) ∧ (fdecl fTL_law_6 21 = some (.iadd, 1)) ∧ (fdecl fTL_law_6 22 = some (.iaload, 1)) ∧ (fdecl fTL_law_6 23 = some (.aload_n 3, 1)) ∧ (fdecl fTL_law_6 24 = some (.invokestatic 169, 3)) ∧ (fdecl fTL_law_6 27 = some (.istore 5, 2)) ∧ (fdecl fTL_law_6 29 = some (.aload_n 2, 1)) ∧ (fdecl fTL_law_6 30 = some (.aload_n 0, 1)) := by decide +kernel
theorem dL_law_394 : decode cL_law 394 = .ok (.iaload, 1) := fx_ok (d := 384) (i := 10) fDL_law_6 eL_law_394.1
theorem dL_law_395 : decode cL_law 395 = .ok (.aload_n 0, 1) := fx_ok (d := 384) (i := 11) fDL_law_6 eL_law_394.2.1
theorem dL_law_396 : decode cL_law 396 = .ok (.iload 4, 2) := fx_ok (d := 384) (i := 12) fDL_law_6 eL_law_394.2.2.1
theorem dL_law_398 : decode cL_law 398 = .ok (.iconst 4, 1) := fx_ok (d := 384) (i := 14) fDL_law_6 eL_law_394.2.2.2.1
theorem dL_law_399 : decode cL_law 399 = .ok (.iadd, 1) := fx_ok (d := 384) (i := 15) fDL_law_6 eL_law_394.2.2.2.2.1
theorem dL_law_400 : decode cL_law 400 = .ok (.iaload, 1) := fx_ok (d := 384) (i := 16) fDL_law_6 eL_law_394.2.2.2.2.2.1
theorem dL_law_401 : decode cL_law 401 = .ok (.aload_n 0, 1) := fx_ok (d := 384) (i := 17) fDL_law_6 eL_law_394.2.2.2.2.2.2.1
theorem dL_law_402 : decode cL_law 402 = .ok (.iload 4, 2) := fx_ok (d := 384) (i := 18) fDL_law_6 eL_law_394.2.2.2.2.2.2.2.1
theorem dL_law_404 : decode cL_law 404 = .ok (.iconst 5, 1) := fx_ok (d := 384) (i := 20) fDL_law_6 eL_law_394.2.2.2.2.2.2.2.2.1
theorem dL_law_405 : decode cL_law 405 = .ok (.iadd, 1) := fx_ok (d := 384) (i := 21) fDL_law_6 eL_law_394.2.2.2.2.2.2.2.2.2.1
theorem dL_law_406 : decode cL_law 406 = .ok (.iaload, 1) := fx_ok (d := 384) (i := 22) fDL_law_6 eL_law_394.2.2.2.2.2.2.2.2.2.2.1
theorem dL_law_407 : decode cL_law 407 = .ok (.aload_n 3, 1) := fx_ok (d := 384) (i := 23) fDL_law_6 eL_law_394.2.2.2.2.2.2.2.2.2.2.2.1
theorem dL_law_408 : decode cL_law 408 = .ok (.invokestatic 169, 3) := fx_ok (d := 384) (i := 24) fDL_law_6 eL_law_394.2.2.2.2.2.2.2.2.2.2.2.2.1
theorem dL_law_411 : decode cL_law 411 = .ok (.istore 5, 2) := fx_ok (d := 384) (i := 27) fDL_law_6 eL_law_394.2.2.2.2.2.2.2.2.2.2.2.2.2.1
theorem dL_law_413 : decode cL_law 413 = .ok (.aload_n 2, 1) := fx_ok (d := 384) (i := 29) fDL_law_6 eL_law_394.2.2.2.2.2.2.2.2.2.2.2.2.2.2.1
theorem dL_law_414 : decode cL_law 414 = .ok (.aload_n 0, 1) := fx_ok (d := 384) (i := 30) fDL_law_6 eL_law_394.2.2.2.2.2.2.2.2.2.2.2.2.2.2.2
theorem eL_law_415 : (fdecl fTL_law_6 31 = some (.iload 4, 2)) ∧ (fdecl fTL_law_6 33 = some (.iconst 1, 1)) ∧ (fdecl fTL_law_6 34 = some (.iadd, 1)) ∧ (fdecl fTL_law_6 35 = some (.iaload, 1)) ∧ (fdecl fTL_law_6 36 = some (.aload_n 0, 1)) ∧ (fdecl fTL_law_6 37 = some (.iload 4, 2)) ∧ (fdecl fTL_law_6 39 = some (.iconst 2, 1)) ∧ (fdecl fTL_law_6 40 = some (.iadd, 1)) ∧ (fdecl fTL_law_6 41 = some (.iaload, 1)) ∧ (fdecl fTL_law_6 42 = some (.aload_n 0, 1)) ∧ (fdecl fTL_law_6 43 = some (.iload 4, 2)) ∧ (fdecl fTL_law_6 45 = some (.iconst 3, 1)) ∧ (fdecl fTL_law_6 46 = some (.iadd, 1)) ∧ (fdecl fTL_law_6 47 = some (.iaload, 1)) ∧ (fdecl fTL_law_6 48 = some (.aload_n 0, 1)) ∧ (fdecl fTL_law_6 49 = some (.iload 4, 2)) := by decide +kernel
theorem dL_law_415 : decode cL_law 415 = .ok (.iload 4, 2) := fx_ok (d := 384) (i := 31) fDL_law_6 eL_law_415.1
theorem dL_law_417 : decode cL_law 417 = .ok (.iconst 1, 1) := fx_ok (d := 384) (i := 33) fDL_law_6 eL_law_415.2.1
theorem dL_law_418 : decode cL_law 418 = .ok (.iadd, 1) := fx_ok (d := 384) (i := 34) fDL_law_6 eL_law_415.2.2.1
theorem dL_law_419 : decode cL_law 419 = .ok (.iaload, 1) := fx_ok (d := 384) (i := 35) fDL_law_6 eL_law_415.2.2.2.1
theorem dL_law_420 : decode cL_law 420 = .ok (.aload_n 0, 1) := fx_ok (d := 384) (i := 36) fDL_law_6 eL_law_415.2.2.2.2.1
theorem dL_law_421 : decode cL_law 421 = .ok (.iload 4, 2) := fx_ok (d := 384) (i := 37) fDL_law_6 eL_law_415.2.2.2.2.2.1
theorem dL_law_423 : decode cL_law 423 = .ok (.iconst 2, 1) := fx_ok (d := 384) (i := 39) fDL_law_6 eL_law_415.2.2.2.2.2.2.1
theorem dL_law_424 : decode cL_law 424 = .ok (.iadd, 1) := fx_ok (d := 384) (i := 40) fDL_law_6 eL_law_415.2.2.2.2.2.2.2.1
theorem dL_law_425 : decode cL_law 425 = .ok (.iaload, 1) := fx_ok (d := 384) (i := 41) fDL_law_6 eL_law_415.2.2.2.2.2.2.2.2.1
theorem dL_law_426 : decode cL_law 426 = .ok (.aload_n 0, 1) := fx_ok (d := 384) (i := 42) fDL_law_6 eL_law_415.2.2.2.2.2.2.2.2.2.1
theorem dL_law_427 : decode cL_law 427 = .ok (.iload 4, 2) := fx_ok (d := 384) (i := 43) fDL_law_6 eL_law_415.2.2.2.2.2.2.2.2.2.2.1
theorem dL_law_429 : decode cL_law 429 = .ok (.iconst 3, 1) := fx_ok (d := 384) (i := 45) fDL_law_6 eL_law_415.2.2.2.2.2.2.2.2.2.2.2.1
theorem dL_law_430 : decode cL_law 430 = .ok (.iadd, 1) := fx_ok (d := 384) (i := 46) fDL_law_6 eL_law_415.2.2.2.2.2.2.2.2.2.2.2.2.1
theorem dL_law_431 : decode cL_law 431 = .ok (.iaload, 1) := fx_ok (d := 384) (i := 47) fDL_law_6 eL_law_415.2.2.2.2.2.2.2.2.2.2.2.2.2.1
theorem dL_law_432 : decode cL_law 432 = .ok (.aload_n 0, 1) := fx_ok (d := 384) (i := 48) fDL_law_6 eL_law_415.2.2.2.2.2.2.2.2.2.2.2.2.2.2.1
theorem dL_law_433 : decode cL_law 433 = .ok (.iload 4, 2) := fx_ok (d := 384) (i := 49) fDL_law_6 eL_law_415.2.2.2.2.2.2.2.2.2.2.2.2.2.2.2
theorem eL_law_435 : (fdecl fTL_law_6 51 = some (.iconst 4, 1)) ∧ (fdecl fTL_law_6 52 = some (.iadd, 1)) ∧ (fdecl fTL_law_6 53 = some (.iaload, 1)) ∧ (fdecl fTL_law_6 54 = some (.aload_n 0, 1)) ∧ (fdecl fTL_law_6 55 = some (.iload 4, 2)) ∧ (fdecl fTL_law_6 57 = some (.iconst 5, 1)) ∧ (fdecl fTL_law_6 58 = some (.iadd, 1)) ∧ (fdecl fTL_law_6 59 = some (.iaload, 1)) ∧ (fdecl fTL_law_6 60 = some (.invokevirtual 172, 3)) ∧ (fdecl fTL_law_6 63 = some (.istore 6, 2)) ∧ (fdecl fTL_law_7 1 = some (.goto 1878, 3)) ∧ (fdecl fTL_law_7 4 = some (.aload_n 1, 1)) ∧ (fdecl fTL_law_7 5 = some (.aload_n 0, 1)) ∧ (fdecl fTL_law_7 6 = some (.iload 4, 2)) ∧ (fdecl fTL_law_7 8 = some (.iconst 1, 1)) ∧ (fdecl fTL_law_7 9 = some (.iadd, 1)) := by decide +kernel
theorem dL_law_435 : decode cL_law 435 = .ok (.iconst 4, 1) := fx_ok (d := 384) (i := 51) fDL_law_6 eL_law_435.1
theorem dL_law_436 : decode cL_law 436 = .ok (.iadd, 1) := fx_ok (d := 384) (i := 52) fDL_law_6 eL_law_435.2.1
theorem dL_law_437 : decode cL_law 437 = .ok (.iaload, 1) := fx_ok (d := 384) (i := 53) fDL_law_6 eL_law_435.2.2.1
theorem dL_law_438 : decode cL_law 438 = .ok (.aload_n 0, 1) := fx_ok (d := 384) (i := 54) fDL_law_6 eL_law_435.2.2.2.1
theorem dL_law_439 : decode cL_law 439 = .ok (.iload 4, 2) := fx_ok (d := 384) (i := 55) fDL_law_6 eL_law_435.2.2.2.2.1
theorem dL_law_441 : decode cL_law 441 = .ok (.iconst 5, 1) := fx_ok (d := 384) (i := 57) fDL_law_6 eL_law_435.2.2.2.2.2.1
theorem dL_law_442 : decode cL_law 442 = .ok (.iadd, 1) := fx_ok (d := 384) (i := 58) fDL_law_6 eL_law_435.2.2.2.2.2.2.1
theorem dL_law_443 : decode cL_law 443 = .ok (.iaload, 1) := fx_ok (d := 384) (i := 59) fDL_law_6 eL_law_435.2.2.2.2.2.2.2.1
theorem dL_law_444 : decode cL_law 444 = .ok (.invokevirtual 172, 3) := fx_ok (d := 384) (i := 60) fDL_law_6 eL_law_435.2.2.2.2.2.2.2.2.1
theorem dL_law_447 : decode cL_law 447 = .ok (.istore 6, 2) := fx_ok (d := 384) (i := 63) fDL_law_6 eL_law_435.2.2.2.2.2.2.2.2.2.1
theorem dL_law_449 : decode cL_law 449 = .ok (.goto 1878, 3) := fx_ok (d := 448) (i := 1) fDL_law_7 eL_law_435.2.2.2.2.2.2.2.2.2.2.1
theorem dL_law_452 : decode cL_law 452 = .ok (.aload_n 1, 1) := fx_ok (d := 448) (i := 4) fDL_law_7 eL_law_435.2.2.2.2.2.2.2.2.2.2.2.1
theorem dL_law_453 : decode cL_law 453 = .ok (.aload_n 0, 1) := fx_ok (d := 448) (i := 5) fDL_law_7 eL_law_435.2.2.2.2.2.2.2.2.2.2.2.2.1
theorem dL_law_454 : decode cL_law 454 = .ok (.iload 4, 2) := fx_ok (d := 448) (i := 6) fDL_law_7 eL_law_435.2.2.2.2.2.2.2.2.2.2.2.2.2.1
theorem dL_law_456 : decode cL_law 456 = .ok (.iconst 1, 1) := fx_ok (d := 448) (i := 8) fDL_law_7 eL_law_435.2.2.2.2.2.2.2.2.2.2.2.2.2.2.1
theorem dL_law_457 : decode cL_law 457 = .ok (.iadd, 1) := fx_ok (d := 448) (i := 9) fDL_law_7 eL_law_435.2.2.2.2.2.2.2.2.2.2.2.2.2.2.2
theorem eL_law_458 : (fdecl fTL_law_7 10 = some (.iaload, 1)) ∧ (fdecl fTL_law_7 11 = some (.aload_n 0, 1)) ∧ (fdecl fTL_law_7 12 = some (.iload 4, 2)) ∧ (fdecl fTL_law_7 14 = some (.iconst 2, 1)) ∧ (fdecl fTL_law_7 15 = some (.iadd, 1)) ∧ (fdecl fTL_law_7 16 = some (.iaload, 1)) ∧ (fdecl fTL_law_7 17 = some (.aload_n 3, 1)) ∧ (fdecl fTL_law_7 18 = some (.invokestatic 173, 3)) ∧ (fdecl fTL_law_7 21 = some (.istore 5, 2)) ∧ (fdecl fTL_law_7 23 = some (.aload_n 2, 1)) ∧ (fdecl fTL_law_7 24 = some (.aload_n 0, 1)) ∧ (fdecl fTL_law_7 25 = some (.iload 4, 2)) ∧ (fdecl fTL_law_7 27 = some (.iconst 1, 1)) ∧ (fdecl fTL_law_7 28 = some (.iadd, 1)) ∧ (fdecl fTL_law_7 29 = some (.iaload, 1)) ∧ (fdecl fTL_law_7 30 = some (.aload_n 0, 1)) := by decide +kernel
theorem dL_law_458 : decode cL_law 458 = .ok (.iaload, 1) := fx_ok (d := 448) (i := 10) fDL_law_7 eL_law_458.1
theorem dL_law_459 : decode cL_law 459 = .ok (.aload_n 0, 1) := fx_ok (d := 448) (i := 11) fDL_law_7 eL_law_458.2.1
theorem dL_law_460 : decode cL_law 460 = .ok (.iload 4, 2) := fx_ok (d := 448) (i := 12) fDL_law_7 eL_law_458.2.2.1
theorem dL_law_462 : decode cL_law 462 = .ok (.iconst 2, 1) := fx_ok (d := 448) (i := 14) fDL_law_7 eL_law_458.2.2.2.1
theorem dL_law_463 : decode cL_law 463 = .ok (.iadd, 1) := fx_ok (d := 448) (i := 15) fDL_law_7 eL_law_458.2.2.2.2.1
theorem dL_law_464 : decode cL_law 464 = .ok (.iaload, 1) := fx_ok (d := 448) (i := 16) fDL_law_7 eL_law_458.2.2.2.2.2.1
theorem dL_law_465 : decode cL_law 465 = .ok (.aload_n 3, 1) := fx_ok (d := 448) (i := 17) fDL_law_7 eL_law_458.2.2.2.2.2.2.1
theorem dL_law_466 : decode cL_law 466 = .ok (.invokestatic 173, 3) := fx_ok (d := 448) (i := 18) fDL_law_7 eL_law_458.2.2.2.2.2.2.2.1
theorem dL_law_469 : decode cL_law 469 = .ok (.istore 5, 2) := fx_ok (d := 448) (i := 21) fDL_law_7 eL_law_458.2.2.2.2.2.2.2.2.1
theorem dL_law_471 : decode cL_law 471 = .ok (.aload_n 2, 1) := fx_ok (d := 448) (i := 23) fDL_law_7 eL_law_458.2.2.2.2.2.2.2.2.2.1
theorem dL_law_472 : decode cL_law 472 = .ok (.aload_n 0, 1) := fx_ok (d := 448) (i := 24) fDL_law_7 eL_law_458.2.2.2.2.2.2.2.2.2.2.1
theorem dL_law_473 : decode cL_law 473 = .ok (.iload 4, 2) := fx_ok (d := 448) (i := 25) fDL_law_7 eL_law_458.2.2.2.2.2.2.2.2.2.2.2.1
theorem dL_law_475 : decode cL_law 475 = .ok (.iconst 1, 1) := fx_ok (d := 448) (i := 27) fDL_law_7 eL_law_458.2.2.2.2.2.2.2.2.2.2.2.2.1
theorem dL_law_476 : decode cL_law 476 = .ok (.iadd, 1) := fx_ok (d := 448) (i := 28) fDL_law_7 eL_law_458.2.2.2.2.2.2.2.2.2.2.2.2.2.1
theorem dL_law_477 : decode cL_law 477 = .ok (.iaload, 1) := fx_ok (d := 448) (i := 29) fDL_law_7 eL_law_458.2.2.2.2.2.2.2.2.2.2.2.2.2.2.1
theorem dL_law_478 : decode cL_law 478 = .ok (.aload_n 0, 1) := fx_ok (d := 448) (i := 30) fDL_law_7 eL_law_458.2.2.2.2.2.2.2.2.2.2.2.2.2.2.2
theorem eL_law_479 : (fdecl fTL_law_7 31 = some (.iload 4, 2)) ∧ (fdecl fTL_law_7 33 = some (.iconst 2, 1)) ∧ (fdecl fTL_law_7 34 = some (.iadd, 1)) ∧ (fdecl fTL_law_7 35 = some (.iaload, 1)) ∧ (fdecl fTL_law_7 36 = some (.invokevirtual 175, 3)) ∧ (fdecl fTL_law_7 39 = some (.istore 6, 2)) ∧ (fdecl fTL_law_7 41 = some (.goto 1838, 3)) ∧ (fdecl fTL_law_7 44 = some (.aload_n 1, 1)) ∧ (fdecl fTL_law_7 45 = some (.aload_n 0, 1)) ∧ (fdecl fTL_law_7 46 = some (.iload 4, 2)) ∧ (fdecl fTL_law_7 48 = some (.iconst 1, 1)) ∧ (fdecl fTL_law_7 49 = some (.iadd, 1)) ∧ (fdecl fTL_law_7 50 = some (.iaload, 1)) ∧ (fdecl fTL_law_7 51 = some (.aload_n 0, 1)) ∧ (fdecl fTL_law_7 52 = some (.iload 4, 2)) ∧ (fdecl fTL_law_7 54 = some (.iconst 2, 1)) := by decide +kernel
theorem dL_law_479 : decode cL_law 479 = .ok (.iload 4, 2) := fx_ok (d := 448) (i := 31) fDL_law_7 eL_law_479.1
theorem dL_law_481 : decode cL_law 481 = .ok (.iconst 2, 1) := fx_ok (d := 448) (i := 33) fDL_law_7 eL_law_479.2.1
theorem dL_law_482 : decode cL_law 482 = .ok (.iadd, 1) := fx_ok (d := 448) (i := 34) fDL_law_7 eL_law_479.2.2.1
theorem dL_law_483 : decode cL_law 483 = .ok (.iaload, 1) := fx_ok (d := 448) (i := 35) fDL_law_7 eL_law_479.2.2.2.1
theorem dL_law_484 : decode cL_law 484 = .ok (.invokevirtual 175, 3) := fx_ok (d := 448) (i := 36) fDL_law_7 eL_law_479.2.2.2.2.1
theorem dL_law_487 : decode cL_law 487 = .ok (.istore 6, 2) := fx_ok (d := 448) (i := 39) fDL_law_7 eL_law_479.2.2.2.2.2.1
theorem dL_law_489 : decode cL_law 489 = .ok (.goto 1838, 3) := fx_ok (d := 448) (i := 41) fDL_law_7 eL_law_479.2.2.2.2.2.2.1
theorem dL_law_492 : decode cL_law 492 = .ok (.aload_n 1, 1) := fx_ok (d := 448) (i := 44) fDL_law_7 eL_law_479.2.2.2.2.2.2.2.1
theorem dL_law_493 : decode cL_law 493 = .ok (.aload_n 0, 1) := fx_ok (d := 448) (i := 45) fDL_law_7 eL_law_479.2.2.2.2.2.2.2.2.1
theorem dL_law_494 : decode cL_law 494 = .ok (.iload 4, 2) := fx_ok (d := 448) (i := 46) fDL_law_7 eL_law_479.2.2.2.2.2.2.2.2.2.1
theorem dL_law_496 : decode cL_law 496 = .ok (.iconst 1, 1) := fx_ok (d := 448) (i := 48) fDL_law_7 eL_law_479.2.2.2.2.2.2.2.2.2.2.1
theorem dL_law_497 : decode cL_law 497 = .ok (.iadd, 1) := fx_ok (d := 448) (i := 49) fDL_law_7 eL_law_479.2.2.2.2.2.2.2.2.2.2.2.1
theorem dL_law_498 : decode cL_law 498 = .ok (.iaload, 1) := fx_ok (d := 448) (i := 50) fDL_law_7 eL_law_479.2.2.2.2.2.2.2.2.2.2.2.2.1
theorem dL_law_499 : decode cL_law 499 = .ok (.aload_n 0, 1) := fx_ok (d := 448) (i := 51) fDL_law_7 eL_law_479.2.2.2.2.2.2.2.2.2.2.2.2.2.1
theorem dL_law_500 : decode cL_law 500 = .ok (.iload 4, 2) := fx_ok (d := 448) (i := 52) fDL_law_7 eL_law_479.2.2.2.2.2.2.2.2.2.2.2.2.2.2.1
theorem dL_law_502 : decode cL_law 502 = .ok (.iconst 2, 1) := fx_ok (d := 448) (i := 54) fDL_law_7 eL_law_479.2.2.2.2.2.2.2.2.2.2.2.2.2.2.2
theorem eL_law_503 : (fdecl fTL_law_7 55 = some (.iadd, 1)) ∧ (fdecl fTL_law_7 56 = some (.iaload, 1)) ∧ (fdecl fTL_law_7 57 = some (.aload_n 0, 1)) ∧ (fdecl fTL_law_7 58 = some (.iload 4, 2)) ∧ (fdecl fTL_law_7 60 = some (.iconst 3, 1)) ∧ (fdecl fTL_law_7 61 = some (.iadd, 1)) ∧ (fdecl fTL_law_7 62 = some (.iaload, 1)) ∧ (fdecl fTL_law_7 63 = some (.ifCond .eq 7, 3)) ∧ (fdecl fTL_law_8 2 = some (.iconst 1, 1)) ∧ (fdecl fTL_law_8 3 = some (.goto 4, 3)) ∧ (fdecl fTL_law_8 6 = some (.iconst 0, 1)) ∧ (fdecl fTL_law_8 7 = some (.aload_n 3, 1)) ∧ (fdecl fTL_law_8 8 = some (.invokestatic 176, 3)) ∧ (fdecl fTL_law_8 11 = some (.istore 5, 2)) ∧ (fdecl fTL_law_8 13 = some (.aload_n 2, 1)) ∧ (fdecl fTL_law_8 14 = some (.aload_n 0, 1)) := by decide +kernel
theorem dL_law_503 : decode cL_law 503 = .ok (.iadd, 1) := fx_ok (d := 448) (i := 55) fDL_law_7 eL_law_503.1
theorem dL_law_504 : decode cL_law 504 = .ok (.iaload, 1) := fx_ok (d := 448) (i := 56) fDL_law_7 eL_law_503.2.1
theorem dL_law_505 : decode cL_law 505 = .ok (.aload_n 0, 1) := fx_ok (d := 448) (i := 57) fDL_law_7 eL_law_503.2.2.1
theorem dL_law_506 : decode cL_law 506 = .ok (.iload 4, 2) := fx_ok (d := 448) (i := 58) fDL_law_7 eL_law_503.2.2.2.1
theorem dL_law_508 : decode cL_law 508 = .ok (.iconst 3, 1) := fx_ok (d := 448) (i := 60) fDL_law_7 eL_law_503.2.2.2.2.1
theorem dL_law_509 : decode cL_law 509 = .ok (.iadd, 1) := fx_ok (d := 448) (i := 61) fDL_law_7 eL_law_503.2.2.2.2.2.1
theorem dL_law_510 : decode cL_law 510 = .ok (.iaload, 1) := fx_ok (d := 448) (i := 62) fDL_law_7 eL_law_503.2.2.2.2.2.2.1
theorem dL_law_511 : decode cL_law 511 = .ok (.ifCond .eq 7, 3) := fx_ok (d := 448) (i := 63) fDL_law_7 eL_law_503.2.2.2.2.2.2.2.1
theorem dL_law_514 : decode cL_law 514 = .ok (.iconst 1, 1) := fx_ok (d := 512) (i := 2) fDL_law_8 eL_law_503.2.2.2.2.2.2.2.2.1
theorem dL_law_515 : decode cL_law 515 = .ok (.goto 4, 3) := fx_ok (d := 512) (i := 3) fDL_law_8 eL_law_503.2.2.2.2.2.2.2.2.2.1
theorem dL_law_518 : decode cL_law 518 = .ok (.iconst 0, 1) := fx_ok (d := 512) (i := 6) fDL_law_8 eL_law_503.2.2.2.2.2.2.2.2.2.2.1
theorem dL_law_519 : decode cL_law 519 = .ok (.aload_n 3, 1) := fx_ok (d := 512) (i := 7) fDL_law_8 eL_law_503.2.2.2.2.2.2.2.2.2.2.2.1
theorem dL_law_520 : decode cL_law 520 = .ok (.invokestatic 176, 3) := fx_ok (d := 512) (i := 8) fDL_law_8 eL_law_503.2.2.2.2.2.2.2.2.2.2.2.2.1
theorem dL_law_523 : decode cL_law 523 = .ok (.istore 5, 2) := fx_ok (d := 512) (i := 11) fDL_law_8 eL_law_503.2.2.2.2.2.2.2.2.2.2.2.2.2.1
theorem dL_law_525 : decode cL_law 525 = .ok (.aload_n 2, 1) := fx_ok (d := 512) (i := 13) fDL_law_8 eL_law_503.2.2.2.2.2.2.2.2.2.2.2.2.2.2.1
theorem dL_law_526 : decode cL_law 526 = .ok (.aload_n 0, 1) := fx_ok (d := 512) (i := 14) fDL_law_8 eL_law_503.2.2.2.2.2.2.2.2.2.2.2.2.2.2.2
theorem eL_law_527 : (fdecl fTL_law_8 15 = some (.iload 4, 2)) ∧ (fdecl fTL_law_8 17 = some (.iconst 1, 1)) ∧ (fdecl fTL_law_8 18 = some (.iadd, 1)) ∧ (fdecl fTL_law_8 19 = some (.iaload, 1)) ∧ (fdecl fTL_law_8 20 = some (.aload_n 0, 1)) ∧ (fdecl fTL_law_8 21 = some (.iload 4, 2)) ∧ (fdecl fTL_law_8 23 = some (.iconst 2, 1)) ∧ (fdecl fTL_law_8 24 = some (.iadd, 1)) ∧ (fdecl fTL_law_8 25 = some (.iaload, 1)) ∧ (fdecl fTL_law_8 26 = some (.aload_n 0, 1)) ∧ (fdecl fTL_law_8 27 = some (.iload 4, 2)) ∧ (fdecl fTL_law_8 29 = some (.iconst 3, 1)) ∧ (fdecl fTL_law_8 30 = some (.iadd, 1)) ∧ (fdecl fTL_law_8 31 = some (.iaload, 1)) ∧ (fdecl fTL_law_8 32 = some (.ifCond .eq 7, 3)) ∧ (fdecl fTL_law_8 35 = some (.iconst 1, 1)) := by decide +kernel
theorem dL_law_527 : decode cL_law 527 = .ok (.iload 4, 2) := fx_ok (d := 512) (i := 15) fDL_law_8 eL_law_527.1
theorem dL_law_529 : decode cL_law 529 = .ok (.iconst 1, 1) := fx_ok (d := 512) (i := 17) fDL_law_8 eL_law_527.2.1
theorem dL_law_530 : decode cL_law 530 = .ok (.iadd, 1) := fx_ok (d := 512) (i := 18) fDL_law_8 eL_law_527.2.2.1
theorem dL_law_531 : decode cL_law 531 = .ok (.iaload, 1) := fx_ok (d := 512) (i := 19) fDL_law_8 eL_law_527.2.2.2.1
theorem dL_law_532 : decode cL_law 532 = .ok (.aload_n 0, 1) := fx_ok (d := 512) (i := 20) fDL_law_8 eL_law_527.2.2.2.2.1
theorem dL_law_533 : decode cL_law 533 = .ok (.iload 4, 2) := fx_ok (d := 512) (i := 21) fDL_law_8 eL_law_527.2.2.2.2.2.1
theorem dL_law_535 : decode cL_law 535 = .ok (.iconst 2, 1) := fx_ok (d := 512) (i := 23) fDL_law_8 eL_law_527.2.2.2.2.2.2.1
theorem dL_law_536 : decode cL_law 536 = .ok (.iadd, 1) := fx_ok (d := 512) (i := 24) fDL_law_8 eL_law_527.2.2.2.2.2.2.2.1
theorem dL_law_537 : decode cL_law 537 = .ok (.iaload, 1) := fx_ok (d := 512) (i := 25) fDL_law_8 eL_law_527.2.2.2.2.2.2.2.2.1
theorem dL_law_538 : decode cL_law 538 = .ok (.aload_n 0, 1) := fx_ok (d := 512) (i := 26) fDL_law_8 eL_law_527.2.2.2.2.2.2.2.2.2.1
theorem dL_law_539 : decode cL_law 539 = .ok (.iload 4, 2) := fx_ok (d := 512) (i := 27) fDL_law_8 eL_law_527.2.2.2.2.2.2.2.2.2.2.1
theorem dL_law_541 : decode cL_law 541 = .ok (.iconst 3, 1) := fx_ok (d := 512) (i := 29) fDL_law_8 eL_law_527.2.2.2.2.2.2.2.2.2.2.2.1
theorem dL_law_542 : decode cL_law 542 = .ok (.iadd, 1) := fx_ok (d := 512) (i := 30) fDL_law_8 eL_law_527.2.2.2.2.2.2.2.2.2.2.2.2.1
theorem dL_law_543 : decode cL_law 543 = .ok (.iaload, 1) := fx_ok (d := 512) (i := 31) fDL_law_8 eL_law_527.2.2.2.2.2.2.2.2.2.2.2.2.2.1
theorem dL_law_544 : decode cL_law 544 = .ok (.ifCond .eq 7, 3) := fx_ok (d := 512) (i := 32) fDL_law_8 eL_law_527.2.2.2.2.2.2.2.2.2.2.2.2.2.2.1
theorem dL_law_547 : decode cL_law 547 = .ok (.iconst 1, 1) := fx_ok (d := 512) (i := 35) fDL_law_8 eL_law_527.2.2.2.2.2.2.2.2.2.2.2.2.2.2.2
theorem eL_law_548 : (fdecl fTL_law_8 36 = some (.goto 4, 3)) ∧ (fdecl fTL_law_8 39 = some (.iconst 0, 1)) ∧ (fdecl fTL_law_8 40 = some (.invokevirtual 179, 3)) ∧ (fdecl fTL_law_8 43 = some (.istore 6, 2)) ∧ (fdecl fTL_law_8 45 = some (.goto 1770, 3)) ∧ (fdecl fTL_law_8 48 = some (.aload_n 1, 1)) ∧ (fdecl fTL_law_8 49 = some (.aload_n 0, 1)) ∧ (fdecl fTL_law_8 50 = some (.iload 4, 2)) ∧ (fdecl fTL_law_8 52 = some (.iconst 1, 1)) ∧ (fdecl fTL_law_8 53 = some (.iadd, 1)) ∧ (fdecl fTL_law_8 54 = some (.iaload, 1)) ∧ (fdecl fTL_law_8 55 = some (.aload_n 0, 1)) ∧ (fdecl fTL_law_8 56 = some (.iload 4, 2)) ∧ (fdecl fTL_law_8 58 = some (.iconst 2, 1)) ∧ (fdecl fTL_law_8 59 = some (.iadd, 1)) ∧ (fdecl fTL_law_8 60 = some (.iaload, 1)) := by decide +kernel
theorem dL_law_548 : decode cL_law 548 = .ok (.goto 4, 3) := fx_ok (d := 512) (i := 36) fDL_law_8 eL_law_548.1
theorem dL_law_551 : decode cL_law 551 = .ok (.iconst 0, 1) := fx_ok (d := 512) (i := 39) fDL_law_8 eL_law_548.2.1
theorem dL_law_552 : decode cL_law 552 = .ok (.invokevirtual 179, 3) := fx_ok (d := 512) (i := 40) fDL_law_8 eL_law_548.2.2.1
theorem dL_law_555 : decode cL_law 555 = .ok (.istore 6, 2) := fx_ok (d := 512) (i := 43) fDL_law_8 eL_law_548.2.2.2.1
theorem dL_law_557 : decode cL_law 557 = .ok (.goto 1770, 3) := fx_ok (d := 512) (i := 45) fDL_law_8 eL_law_548.2.2.2.2.1
theorem dL_law_560 : decode cL_law 560 = .ok (.aload_n 1, 1) := fx_ok (d := 512) (i := 48) fDL_law_8 eL_law_548.2.2.2.2.2.1
theorem dL_law_561 : decode cL_law 561 = .ok (.aload_n 0, 1) := fx_ok (d := 512) (i := 49) fDL_law_8 eL_law_548.2.2.2.2.2.2.1
theorem dL_law_562 : decode cL_law 562 = .ok (.iload 4, 2) := fx_ok (d := 512) (i := 50) fDL_law_8 eL_law_548.2.2.2.2.2.2.2.1
theorem dL_law_564 : decode cL_law 564 = .ok (.iconst 1, 1) := fx_ok (d := 512) (i := 52) fDL_law_8 eL_law_548.2.2.2.2.2.2.2.2.1
theorem dL_law_565 : decode cL_law 565 = .ok (.iadd, 1) := fx_ok (d := 512) (i := 53) fDL_law_8 eL_law_548.2.2.2.2.2.2.2.2.2.1
theorem dL_law_566 : decode cL_law 566 = .ok (.iaload, 1) := fx_ok (d := 512) (i := 54) fDL_law_8 eL_law_548.2.2.2.2.2.2.2.2.2.2.1
theorem dL_law_567 : decode cL_law 567 = .ok (.aload_n 0, 1) := fx_ok (d := 512) (i := 55) fDL_law_8 eL_law_548.2.2.2.2.2.2.2.2.2.2.2.1
theorem dL_law_568 : decode cL_law 568 = .ok (.iload 4, 2) := fx_ok (d := 512) (i := 56) fDL_law_8 eL_law_548.2.2.2.2.2.2.2.2.2.2.2.2.1
theorem dL_law_570 : decode cL_law 570 = .ok (.iconst 2, 1) := fx_ok (d := 512) (i := 58) fDL_law_8 eL_law_548.2.2.2.2.2.2.2.2.2.2.2.2.2.1
theorem dL_law_571 : decode cL_law 571 = .ok (.iadd, 1) := fx_ok (d := 512) (i := 59) fDL_law_8 eL_law_548.2.2.2.2.2.2.2.2.2.2.2.2.2.2.1
theorem dL_law_572 : decode cL_law 572 = .ok (.iaload, 1) := fx_ok (d := 512) (i := 60) fDL_law_8 eL_law_548.2.2.2.2.2.2.2.2.2.2.2.2.2.2.2
theorem eL_law_573 : (fdecl fTL_law_8 61 = some (.aload_n 0, 1)) ∧ (fdecl fTL_law_8 62 = some (.iload 4, 2)) ∧ (fdecl fTL_law_9 0 = some (.iconst 3, 1)) ∧ (fdecl fTL_law_9 1 = some (.iadd, 1)) ∧ (fdecl fTL_law_9 2 = some (.iaload, 1)) ∧ (fdecl fTL_law_9 3 = some (.aload_n 0, 1)) ∧ (fdecl fTL_law_9 4 = some (.iload 4, 2)) ∧ (fdecl fTL_law_9 6 = some (.iconst 4, 1)) ∧ (fdecl fTL_law_9 7 = some (.iadd, 1)) ∧ (fdecl fTL_law_9 8 = some (.iaload, 1)) ∧ (fdecl fTL_law_9 9 = some (.aload_n 3, 1)) ∧ (fdecl fTL_law_9 10 = some (.invokestatic 180, 3)) ∧ (fdecl fTL_law_9 13 = some (.istore 5, 2)) ∧ (fdecl fTL_law_9 15 = some (.aload_n 2, 1)) ∧ (fdecl fTL_law_9 16 = some (.aload_n 0, 1)) ∧ (fdecl fTL_law_9 17 = some (.iload 4, 2)) := by decide +kernel
theorem dL_law_573 : decode cL_law 573 = .ok (.aload_n 0, 1) := fx_ok (d := 512) (i := 61) fDL_law_8 eL_law_573.1
theorem dL_law_574 : decode cL_law 574 = .ok (.iload 4, 2) := fx_ok (d := 512) (i := 62) fDL_law_8 eL_law_573.2.1
theorem dL_law_576 : decode cL_law 576 = .ok (.iconst 3, 1) := fx_ok (d := 576) (i := 0) fDL_law_9 eL_law_573.2.2.1
theorem dL_law_577 : decode cL_law 577 = .ok (.iadd, 1) := fx_ok (d := 576) (i := 1) fDL_law_9 eL_law_573.2.2.2.1
theorem dL_law_578 : decode cL_law 578 = .ok (.iaload, 1) := fx_ok (d := 576) (i := 2) fDL_law_9 eL_law_573.2.2.2.2.1
theorem dL_law_579 : decode cL_law 579 = .ok (.aload_n 0, 1) := fx_ok (d := 576) (i := 3) fDL_law_9 eL_law_573.2.2.2.2.2.1
theorem dL_law_580 : decode cL_law 580 = .ok (.iload 4, 2) := fx_ok (d := 576) (i := 4) fDL_law_9 eL_law_573.2.2.2.2.2.2.1
theorem dL_law_582 : decode cL_law 582 = .ok (.iconst 4, 1) := fx_ok (d := 576) (i := 6) fDL_law_9 eL_law_573.2.2.2.2.2.2.2.1
theorem dL_law_583 : decode cL_law 583 = .ok (.iadd, 1) := fx_ok (d := 576) (i := 7) fDL_law_9 eL_law_573.2.2.2.2.2.2.2.2.1
theorem dL_law_584 : decode cL_law 584 = .ok (.iaload, 1) := fx_ok (d := 576) (i := 8) fDL_law_9 eL_law_573.2.2.2.2.2.2.2.2.2.1
theorem dL_law_585 : decode cL_law 585 = .ok (.aload_n 3, 1) := fx_ok (d := 576) (i := 9) fDL_law_9 eL_law_573.2.2.2.2.2.2.2.2.2.2.1
theorem dL_law_586 : decode cL_law 586 = .ok (.invokestatic 180, 3) := fx_ok (d := 576) (i := 10) fDL_law_9 eL_law_573.2.2.2.2.2.2.2.2.2.2.2.1
theorem dL_law_589 : decode cL_law 589 = .ok (.istore 5, 2) := fx_ok (d := 576) (i := 13) fDL_law_9 eL_law_573.2.2.2.2.2.2.2.2.2.2.2.2.1
theorem dL_law_591 : decode cL_law 591 = .ok (.aload_n 2, 1) := fx_ok (d := 576) (i := 15) fDL_law_9 eL_law_573.2.2.2.2.2.2.2.2.2.2.2.2.2.1
theorem dL_law_592 : decode cL_law 592 = .ok (.aload_n 0, 1) := fx_ok (d := 576) (i := 16) fDL_law_9 eL_law_573.2.2.2.2.2.2.2.2.2.2.2.2.2.2.1
theorem dL_law_593 : decode cL_law 593 = .ok (.iload 4, 2) := fx_ok (d := 576) (i := 17) fDL_law_9 eL_law_573.2.2.2.2.2.2.2.2.2.2.2.2.2.2.2
theorem eL_law_595 : (fdecl fTL_law_9 19 = some (.iconst 1, 1)) ∧ (fdecl fTL_law_9 20 = some (.iadd, 1)) ∧ (fdecl fTL_law_9 21 = some (.iaload, 1)) ∧ (fdecl fTL_law_9 22 = some (.aload_n 0, 1)) ∧ (fdecl fTL_law_9 23 = some (.iload 4, 2)) ∧ (fdecl fTL_law_9 25 = some (.iconst 2, 1)) ∧ (fdecl fTL_law_9 26 = some (.iadd, 1)) ∧ (fdecl fTL_law_9 27 = some (.iaload, 1)) ∧ (fdecl fTL_law_9 28 = some (.aload_n 0, 1)) ∧ (fdecl fTL_law_9 29 = some (.iload 4, 2)) ∧ (fdecl fTL_law_9 31 = some (.iconst 3, 1)) ∧ (fdecl fTL_law_9 32 = some (.iadd, 1)) ∧ (fdecl fTL_law_9 33 = some (.iaload, 1)) ∧ (fdecl fTL_law_9 34 = some (.aload_n 0, 1)) ∧ (fdecl fTL_law_9 35 = some (.iload 4, 2)) ∧ (fdecl fTL_law_9 37 = some (.iconst 4, 1)) := by decide +kernel
theorem dL_law_595 : decode cL_law 595 = .ok (.iconst 1, 1) := fx_ok (d := 576) (i := 19) fDL_law_9 eL_law_595.1
theorem dL_law_596 : decode cL_law 596 = .ok (.iadd, 1) := fx_ok (d := 576) (i := 20) fDL_law_9 eL_law_595.2.1
theorem dL_law_597 : decode cL_law 597 = .ok (.iaload, 1) := fx_ok (d := 576) (i := 21) fDL_law_9 eL_law_595.2.2.1
theorem dL_law_598 : decode cL_law 598 = .ok (.aload_n 0, 1) := fx_ok (d := 576) (i := 22) fDL_law_9 eL_law_595.2.2.2.1
theorem dL_law_599 : decode cL_law 599 = .ok (.iload 4, 2) := fx_ok (d := 576) (i := 23) fDL_law_9 eL_law_595.2.2.2.2.1
theorem dL_law_601 : decode cL_law 601 = .ok (.iconst 2, 1) := fx_ok (d := 576) (i := 25) fDL_law_9 eL_law_595.2.2.2.2.2.1
theorem dL_law_602 : decode cL_law 602 = .ok (.iadd, 1) := fx_ok (d := 576) (i := 26) fDL_law_9 eL_law_595.2.2.2.2.2.2.1
theorem dL_law_603 : decode cL_law 603 = .ok (.iaload, 1) := fx_ok (d := 576) (i := 27) fDL_law_9 eL_law_595.2.2.2.2.2.2.2.1
theorem dL_law_604 : decode cL_law 604 = .ok (.aload_n 0, 1) := fx_ok (d := 576) (i := 28) fDL_law_9 eL_law_595.2.2.2.2.2.2.2.2.1
theorem dL_law_605 : decode cL_law 605 = .ok (.iload 4, 2) := fx_ok (d := 576) (i := 29) fDL_law_9 eL_law_595.2.2.2.2.2.2.2.2.2.1
theorem dL_law_607 : decode cL_law 607 = .ok (.iconst 3, 1) := fx_ok (d := 576) (i := 31) fDL_law_9 eL_law_595.2.2.2.2.2.2.2.2.2.2.1
theorem dL_law_608 : decode cL_law 608 = .ok (.iadd, 1) := fx_ok (d := 576) (i := 32) fDL_law_9 eL_law_595.2.2.2.2.2.2.2.2.2.2.2.1
theorem dL_law_609 : decode cL_law 609 = .ok (.iaload, 1) := fx_ok (d := 576) (i := 33) fDL_law_9 eL_law_595.2.2.2.2.2.2.2.2.2.2.2.2.1
theorem dL_law_610 : decode cL_law 610 = .ok (.aload_n 0, 1) := fx_ok (d := 576) (i := 34) fDL_law_9 eL_law_595.2.2.2.2.2.2.2.2.2.2.2.2.2.1
theorem dL_law_611 : decode cL_law 611 = .ok (.iload 4, 2) := fx_ok (d := 576) (i := 35) fDL_law_9 eL_law_595.2.2.2.2.2.2.2.2.2.2.2.2.2.2.1
theorem dL_law_613 : decode cL_law 613 = .ok (.iconst 4, 1) := fx_ok (d := 576) (i := 37) fDL_law_9 eL_law_595.2.2.2.2.2.2.2.2.2.2.2.2.2.2.2
theorem eL_law_614 : (fdecl fTL_law_9 38 = some (.iadd, 1)) ∧ (fdecl fTL_law_9 39 = some (.iaload, 1)) ∧ (fdecl fTL_law_9 40 = some (.invokevirtual 183, 3)) ∧ (fdecl fTL_law_9 43 = some (.istore 6, 2)) ∧ (fdecl fTL_law_9 45 = some (.goto 1706, 3)) ∧ (fdecl fTL_law_9 48 = some (.aload_n 1, 1)) ∧ (fdecl fTL_law_9 49 = some (.aload_n 0, 1)) ∧ (fdecl fTL_law_9 50 = some (.iload 4, 2)) ∧ (fdecl fTL_law_9 52 = some (.iconst 1, 1)) ∧ (fdecl fTL_law_9 53 = some (.iadd, 1)) ∧ (fdecl fTL_law_9 54 = some (.iaload, 1)) ∧ (fdecl fTL_law_9 55 = some (.aload_n 0, 1)) ∧ (fdecl fTL_law_9 56 = some (.iload 4, 2)) ∧ (fdecl fTL_law_9 58 = some (.iconst 2, 1)) ∧ (fdecl fTL_law_9 59 = some (.iadd, 1)) ∧ (fdecl fTL_law_9 60 = some (.iaload, 1)) := by decide +kernel
theorem dL_law_614 : decode cL_law 614 = .ok (.iadd, 1) := fx_ok (d := 576) (i := 38) fDL_law_9 eL_law_614.1
theorem dL_law_615 : decode cL_law 615 = .ok (.iaload, 1) := fx_ok (d := 576) (i := 39) fDL_law_9 eL_law_614.2.1
theorem dL_law_616 : decode cL_law 616 = .ok (.invokevirtual 183, 3) := fx_ok (d := 576) (i := 40) fDL_law_9 eL_law_614.2.2.1
theorem dL_law_619 : decode cL_law 619 = .ok (.istore 6, 2) := fx_ok (d := 576) (i := 43) fDL_law_9 eL_law_614.2.2.2.1
theorem dL_law_621 : decode cL_law 621 = .ok (.goto 1706, 3) := fx_ok (d := 576) (i := 45) fDL_law_9 eL_law_614.2.2.2.2.1
theorem dL_law_624 : decode cL_law 624 = .ok (.aload_n 1, 1) := fx_ok (d := 576) (i := 48) fDL_law_9 eL_law_614.2.2.2.2.2.1
theorem dL_law_625 : decode cL_law 625 = .ok (.aload_n 0, 1) := fx_ok (d := 576) (i := 49) fDL_law_9 eL_law_614.2.2.2.2.2.2.1
theorem dL_law_626 : decode cL_law 626 = .ok (.iload 4, 2) := fx_ok (d := 576) (i := 50) fDL_law_9 eL_law_614.2.2.2.2.2.2.2.1
theorem dL_law_628 : decode cL_law 628 = .ok (.iconst 1, 1) := fx_ok (d := 576) (i := 52) fDL_law_9 eL_law_614.2.2.2.2.2.2.2.2.1
theorem dL_law_629 : decode cL_law 629 = .ok (.iadd, 1) := fx_ok (d := 576) (i := 53) fDL_law_9 eL_law_614.2.2.2.2.2.2.2.2.2.1
theorem dL_law_630 : decode cL_law 630 = .ok (.iaload, 1) := fx_ok (d := 576) (i := 54) fDL_law_9 eL_law_614.2.2.2.2.2.2.2.2.2.2.1
theorem dL_law_631 : decode cL_law 631 = .ok (.aload_n 0, 1) := fx_ok (d := 576) (i := 55) fDL_law_9 eL_law_614.2.2.2.2.2.2.2.2.2.2.2.1
theorem dL_law_632 : decode cL_law 632 = .ok (.iload 4, 2) := fx_ok (d := 576) (i := 56) fDL_law_9 eL_law_614.2.2.2.2.2.2.2.2.2.2.2.2.1
theorem dL_law_634 : decode cL_law 634 = .ok (.iconst 2, 1) := fx_ok (d := 576) (i := 58) fDL_law_9 eL_law_614.2.2.2.2.2.2.2.2.2.2.2.2.2.1
theorem dL_law_635 : decode cL_law 635 = .ok (.iadd, 1) := fx_ok (d := 576) (i := 59) fDL_law_9 eL_law_614.2.2.2.2.2.2.2.2.2.2.2.2.2.2.1
theorem dL_law_636 : decode cL_law 636 = .ok (.iaload, 1) := fx_ok (d := 576) (i := 60) fDL_law_9 eL_law_614.2.2.2.2.2.2.2.2.2.2.2.2.2.2.2
theorem eL_law_637 : (fdecl fTL_law_9 61 = some (.aload_n 0, 1)) ∧ (fdecl fTL_law_9 62 = some (.iload 4, 2)) ∧ (fdecl fTL_law_10 0 = some (.iconst 3, 1)) ∧ (fdecl fTL_law_10 1 = some (.iadd, 1)) ∧ (fdecl fTL_law_10 2 = some (.iaload, 1)) ∧ (fdecl fTL_law_10 3 = some (.aload_n 0, 1)) ∧ (fdecl fTL_law_10 4 = some (.iload 4, 2)) ∧ (fdecl fTL_law_10 6 = some (.iconst 4, 1)) ∧ (fdecl fTL_law_10 7 = some (.iadd, 1)) ∧ (fdecl fTL_law_10 8 = some (.iaload, 1)) ∧ (fdecl fTL_law_10 9 = some (.aload_n 3, 1)) ∧ (fdecl fTL_law_10 10 = some (.invokestatic 184, 3)) ∧ (fdecl fTL_law_10 13 = some (.istore 5, 2)) ∧ (fdecl fTL_law_10 15 = some (.aload_n 2, 1)) ∧ (fdecl fTL_law_10 16 = some (.aload_n 0, 1)) ∧ (fdecl fTL_law_10 17 = some (.iload 4, 2)) := by decide +kernel
theorem dL_law_637 : decode cL_law 637 = .ok (.aload_n 0, 1) := fx_ok (d := 576) (i := 61) fDL_law_9 eL_law_637.1
theorem dL_law_638 : decode cL_law 638 = .ok (.iload 4, 2) := fx_ok (d := 576) (i := 62) fDL_law_9 eL_law_637.2.1
theorem dL_law_640 : decode cL_law 640 = .ok (.iconst 3, 1) := fx_ok (d := 640) (i := 0) fDL_law_10 eL_law_637.2.2.1
theorem dL_law_641 : decode cL_law 641 = .ok (.iadd, 1) := fx_ok (d := 640) (i := 1) fDL_law_10 eL_law_637.2.2.2.1
theorem dL_law_642 : decode cL_law 642 = .ok (.iaload, 1) := fx_ok (d := 640) (i := 2) fDL_law_10 eL_law_637.2.2.2.2.1
theorem dL_law_643 : decode cL_law 643 = .ok (.aload_n 0, 1) := fx_ok (d := 640) (i := 3) fDL_law_10 eL_law_637.2.2.2.2.2.1
theorem dL_law_644 : decode cL_law 644 = .ok (.iload 4, 2) := fx_ok (d := 640) (i := 4) fDL_law_10 eL_law_637.2.2.2.2.2.2.1
theorem dL_law_646 : decode cL_law 646 = .ok (.iconst 4, 1) := fx_ok (d := 640) (i := 6) fDL_law_10 eL_law_637.2.2.2.2.2.2.2.1
theorem dL_law_647 : decode cL_law 647 = .ok (.iadd, 1) := fx_ok (d := 640) (i := 7) fDL_law_10 eL_law_637.2.2.2.2.2.2.2.2.1
theorem dL_law_648 : decode cL_law 648 = .ok (.iaload, 1) := fx_ok (d := 640) (i := 8) fDL_law_10 eL_law_637.2.2.2.2.2.2.2.2.2.1
theorem dL_law_649 : decode cL_law 649 = .ok (.aload_n 3, 1) := fx_ok (d := 640) (i := 9) fDL_law_10 eL_law_637.2.2.2.2.2.2.2.2.2.2.1
theorem dL_law_650 : decode cL_law 650 = .ok (.invokestatic 184, 3) := fx_ok (d := 640) (i := 10) fDL_law_10 eL_law_637.2.2.2.2.2.2.2.2.2.2.2.1
theorem dL_law_653 : decode cL_law 653 = .ok (.istore 5, 2) := fx_ok (d := 640) (i := 13) fDL_law_10 eL_law_637.2.2.2.2.2.2.2.2.2.2.2.2.1
theorem dL_law_655 : decode cL_law 655 = .ok (.aload_n 2, 1) := fx_ok (d := 640) (i := 15) fDL_law_10 eL_law_637.2.2.2.2.2.2.2.2.2.2.2.2.2.1
theorem dL_law_656 : decode cL_law 656 = .ok (.aload_n 0, 1) := fx_ok (d := 640) (i := 16) fDL_law_10 eL_law_637.2.2.2.2.2.2.2.2.2.2.2.2.2.2.1
theorem dL_law_657 : decode cL_law 657 = .ok (.iload 4, 2) := fx_ok (d := 640) (i := 17) fDL_law_10 eL_law_637.2.2.2.2.2.2.2.2.2.2.2.2.2.2.2
theorem eL_law_659 : (fdecl fTL_law_10 19 = some (.iconst 1, 1)) ∧ (fdecl fTL_law_10 20 = some (.iadd, 1)) ∧ (fdecl fTL_law_10 21 = some (.iaload, 1)) ∧ (fdecl fTL_law_10 22 = some (.aload_n 0, 1)) ∧ (fdecl fTL_law_10 23 = some (.iload 4, 2)) ∧ (fdecl fTL_law_10 25 = some (.iconst 2, 1)) ∧ (fdecl fTL_law_10 26 = some (.iadd, 1)) ∧ (fdecl fTL_law_10 27 = some (.iaload, 1)) ∧ (fdecl fTL_law_10 28 = some (.aload_n 0, 1)) ∧ (fdecl fTL_law_10 29 = some (.iload 4, 2)) ∧ (fdecl fTL_law_10 31 = some (.iconst 3, 1)) ∧ (fdecl fTL_law_10 32 = some (.iadd, 1)) ∧ (fdecl fTL_law_10 33 = some (.iaload, 1)) ∧ (fdecl fTL_law_10 34 = some (.aload_n 0, 1)) ∧ (fdecl fTL_law_10 35 = some (.iload 4, 2)) ∧ (fdecl fTL_law_10 37 = some (.iconst 4, 1)) := by decide +kernel
theorem dL_law_659 : decode cL_law 659 = .ok (.iconst 1, 1) := fx_ok (d := 640) (i := 19) fDL_law_10 eL_law_659.1
theorem dL_law_660 : decode cL_law 660 = .ok (.iadd, 1) := fx_ok (d := 640) (i := 20) fDL_law_10 eL_law_659.2.1
theorem dL_law_661 : decode cL_law 661 = .ok (.iaload, 1) := fx_ok (d := 640) (i := 21) fDL_law_10 eL_law_659.2.2.1
theorem dL_law_662 : decode cL_law 662 = .ok (.aload_n 0, 1) := fx_ok (d := 640) (i := 22) fDL_law_10 eL_law_659.2.2.2.1
theorem dL_law_663 : decode cL_law 663 = .ok (.iload 4, 2) := fx_ok (d := 640) (i := 23) fDL_law_10 eL_law_659.2.2.2.2.1
theorem dL_law_665 : decode cL_law 665 = .ok (.iconst 2, 1) := fx_ok (d := 640) (i := 25) fDL_law_10 eL_law_659.2.2.2.2.2.1
theorem dL_law_666 : decode cL_law 666 = .ok (.iadd, 1) := fx_ok (d := 640) (i := 26) fDL_law_10 eL_law_659.2.2.2.2.2.2.1
theorem dL_law_667 : decode cL_law 667 = .ok (.iaload, 1) := fx_ok (d := 640) (i := 27) fDL_law_10 eL_law_659.2.2.2.2.2.2.2.1
theorem dL_law_668 : decode cL_law 668 = .ok (.aload_n 0, 1) := fx_ok (d := 640) (i := 28) fDL_law_10 eL_law_659.2.2.2.2.2.2.2.2.1
theorem dL_law_669 : decode cL_law 669 = .ok (.iload 4, 2) := fx_ok (d := 640) (i := 29) fDL_law_10 eL_law_659.2.2.2.2.2.2.2.2.2.1
theorem dL_law_671 : decode cL_law 671 = .ok (.iconst 3, 1) := fx_ok (d := 640) (i := 31) fDL_law_10 eL_law_659.2.2.2.2.2.2.2.2.2.2.1
theorem dL_law_672 : decode cL_law 672 = .ok (.iadd, 1) := fx_ok (d := 640) (i := 32) fDL_law_10 eL_law_659.2.2.2.2.2.2.2.2.2.2.2.1
theorem dL_law_673 : decode cL_law 673 = .ok (.iaload, 1) := fx_ok (d := 640) (i := 33) fDL_law_10 eL_law_659.2.2.2.2.2.2.2.2.2.2.2.2.1
theorem dL_law_674 : decode cL_law 674 = .ok (.aload_n 0, 1) := fx_ok (d := 640) (i := 34) fDL_law_10 eL_law_659.2.2.2.2.2.2.2.2.2.2.2.2.2.1
theorem dL_law_675 : decode cL_law 675 = .ok (.iload 4, 2) := fx_ok (d := 640) (i := 35) fDL_law_10 eL_law_659.2.2.2.2.2.2.2.2.2.2.2.2.2.2.1
theorem dL_law_677 : decode cL_law 677 = .ok (.iconst 4, 1) := fx_ok (d := 640) (i := 37) fDL_law_10 eL_law_659.2.2.2.2.2.2.2.2.2.2.2.2.2.2.2
theorem eL_law_678 : (fdecl fTL_law_10 38 = some (.iadd, 1)) ∧ (fdecl fTL_law_10 39 = some (.iaload, 1)) ∧ (fdecl fTL_law_10 40 = some (.invokevirtual 186, 3)) ∧ (fdecl fTL_law_10 43 = some (.istore 6, 2)) ∧ (fdecl fTL_law_10 45 = some (.goto 1642, 3)) ∧ (fdecl fTL_law_10 48 = some (.aload_n 1, 1)) ∧ (fdecl fTL_law_10 49 = some (.aload_n 0, 1)) ∧ (fdecl fTL_law_10 50 = some (.iload 4, 2)) ∧ (fdecl fTL_law_10 52 = some (.iconst 1, 1)) ∧ (fdecl fTL_law_10 53 = some (.iadd, 1)) ∧ (fdecl fTL_law_10 54 = some (.iaload, 1)) ∧ (fdecl fTL_law_10 55 = some (.aload_n 0, 1)) ∧ (fdecl fTL_law_10 56 = some (.iload 4, 2)) ∧ (fdecl fTL_law_10 58 = some (.iconst 2, 1)) ∧ (fdecl fTL_law_10 59 = some (.iadd, 1)) ∧ (fdecl fTL_law_10 60 = some (.iaload, 1)) := by decide +kernel
theorem dL_law_678 : decode cL_law 678 = .ok (.iadd, 1) := fx_ok (d := 640) (i := 38) fDL_law_10 eL_law_678.1
theorem dL_law_679 : decode cL_law 679 = .ok (.iaload, 1) := fx_ok (d := 640) (i := 39) fDL_law_10 eL_law_678.2.1
theorem dL_law_680 : decode cL_law 680 = .ok (.invokevirtual 186, 3) := fx_ok (d := 640) (i := 40) fDL_law_10 eL_law_678.2.2.1
theorem dL_law_683 : decode cL_law 683 = .ok (.istore 6, 2) := fx_ok (d := 640) (i := 43) fDL_law_10 eL_law_678.2.2.2.1
theorem dL_law_685 : decode cL_law 685 = .ok (.goto 1642, 3) := fx_ok (d := 640) (i := 45) fDL_law_10 eL_law_678.2.2.2.2.1
theorem dL_law_688 : decode cL_law 688 = .ok (.aload_n 1, 1) := fx_ok (d := 640) (i := 48) fDL_law_10 eL_law_678.2.2.2.2.2.1
theorem dL_law_689 : decode cL_law 689 = .ok (.aload_n 0, 1) := fx_ok (d := 640) (i := 49) fDL_law_10 eL_law_678.2.2.2.2.2.2.1
theorem dL_law_690 : decode cL_law 690 = .ok (.iload 4, 2) := fx_ok (d := 640) (i := 50) fDL_law_10 eL_law_678.2.2.2.2.2.2.2.1
theorem dL_law_692 : decode cL_law 692 = .ok (.iconst 1, 1) := fx_ok (d := 640) (i := 52) fDL_law_10 eL_law_678.2.2.2.2.2.2.2.2.1
theorem dL_law_693 : decode cL_law 693 = .ok (.iadd, 1) := fx_ok (d := 640) (i := 53) fDL_law_10 eL_law_678.2.2.2.2.2.2.2.2.2.1
theorem dL_law_694 : decode cL_law 694 = .ok (.iaload, 1) := fx_ok (d := 640) (i := 54) fDL_law_10 eL_law_678.2.2.2.2.2.2.2.2.2.2.1
theorem dL_law_695 : decode cL_law 695 = .ok (.aload_n 0, 1) := fx_ok (d := 640) (i := 55) fDL_law_10 eL_law_678.2.2.2.2.2.2.2.2.2.2.2.1
theorem dL_law_696 : decode cL_law 696 = .ok (.iload 4, 2) := fx_ok (d := 640) (i := 56) fDL_law_10 eL_law_678.2.2.2.2.2.2.2.2.2.2.2.2.1
theorem dL_law_698 : decode cL_law 698 = .ok (.iconst 2, 1) := fx_ok (d := 640) (i := 58) fDL_law_10 eL_law_678.2.2.2.2.2.2.2.2.2.2.2.2.2.1
theorem dL_law_699 : decode cL_law 699 = .ok (.iadd, 1) := fx_ok (d := 640) (i := 59) fDL_law_10 eL_law_678.2.2.2.2.2.2.2.2.2.2.2.2.2.2.1
theorem dL_law_700 : decode cL_law 700 = .ok (.iaload, 1) := fx_ok (d := 640) (i := 60) fDL_law_10 eL_law_678.2.2.2.2.2.2.2.2.2.2.2.2.2.2.2
theorem eL_law_701 : (fdecl fTL_law_10 61 = some (.aload_n 3, 1)) ∧ (fdecl fTL_law_10 62 = some (.invokestatic 187, 3)) ∧ (fdecl fTL_law_11 1 = some (.istore 5, 2)) ∧ (fdecl fTL_law_11 3 = some (.aload_n 2, 1)) ∧ (fdecl fTL_law_11 4 = some (.aload_n 0, 1)) ∧ (fdecl fTL_law_11 5 = some (.iload 4, 2)) ∧ (fdecl fTL_law_11 7 = some (.iconst 1, 1)) ∧ (fdecl fTL_law_11 8 = some (.iadd, 1)) ∧ (fdecl fTL_law_11 9 = some (.iaload, 1)) ∧ (fdecl fTL_law_11 10 = some (.aload_n 0, 1)) ∧ (fdecl fTL_law_11 11 = some (.iload 4, 2)) ∧ (fdecl fTL_law_11 13 = some (.iconst 2, 1)) ∧ (fdecl fTL_law_11 14 = some (.iadd, 1)) ∧ (fdecl fTL_law_11 15 = some (.iaload, 1)) ∧ (fdecl fTL_law_11 16 = some (.invokevirtual 189, 3)) ∧ (fdecl fTL_law_11 19 = some (.istore 6, 2)) := by decide +kernel
theorem dL_law_701 : decode cL_law 701 = .ok (.aload_n 3, 1) := fx_ok (d := 640) (i := 61) fDL_law_10 eL_law_701.1
theorem dL_law_702 : decode cL_law 702 = .ok (.invokestatic 187, 3) := fx_ok (d := 640) (i := 62) fDL_law_10 eL_law_701.2.1
theorem dL_law_705 : decode cL_law 705 = .ok (.istore 5, 2) := fx_ok (d := 704) (i := 1) fDL_law_11 eL_law_701.2.2.1
theorem dL_law_707 : decode cL_law 707 = .ok (.aload_n 2, 1) := fx_ok (d := 704) (i := 3) fDL_law_11 eL_law_701.2.2.2.1
theorem dL_law_708 : decode cL_law 708 = .ok (.aload_n 0, 1) := fx_ok (d := 704) (i := 4) fDL_law_11 eL_law_701.2.2.2.2.1
theorem dL_law_709 : decode cL_law 709 = .ok (.iload 4, 2) := fx_ok (d := 704) (i := 5) fDL_law_11 eL_law_701.2.2.2.2.2.1
theorem dL_law_711 : decode cL_law 711 = .ok (.iconst 1, 1) := fx_ok (d := 704) (i := 7) fDL_law_11 eL_law_701.2.2.2.2.2.2.1
theorem dL_law_712 : decode cL_law 712 = .ok (.iadd, 1) := fx_ok (d := 704) (i := 8) fDL_law_11 eL_law_701.2.2.2.2.2.2.2.1
theorem dL_law_713 : decode cL_law 713 = .ok (.iaload, 1) := fx_ok (d := 704) (i := 9) fDL_law_11 eL_law_701.2.2.2.2.2.2.2.2.1
theorem dL_law_714 : decode cL_law 714 = .ok (.aload_n 0, 1) := fx_ok (d := 704) (i := 10) fDL_law_11 eL_law_701.2.2.2.2.2.2.2.2.2.1
theorem dL_law_715 : decode cL_law 715 = .ok (.iload 4, 2) := fx_ok (d := 704) (i := 11) fDL_law_11 eL_law_701.2.2.2.2.2.2.2.2.2.2.1
theorem dL_law_717 : decode cL_law 717 = .ok (.iconst 2, 1) := fx_ok (d := 704) (i := 13) fDL_law_11 eL_law_701.2.2.2.2.2.2.2.2.2.2.2.1
theorem dL_law_718 : decode cL_law 718 = .ok (.iadd, 1) := fx_ok (d := 704) (i := 14) fDL_law_11 eL_law_701.2.2.2.2.2.2.2.2.2.2.2.2.1
theorem dL_law_719 : decode cL_law 719 = .ok (.iaload, 1) := fx_ok (d := 704) (i := 15) fDL_law_11 eL_law_701.2.2.2.2.2.2.2.2.2.2.2.2.2.1
theorem dL_law_720 : decode cL_law 720 = .ok (.invokevirtual 189, 3) := fx_ok (d := 704) (i := 16) fDL_law_11 eL_law_701.2.2.2.2.2.2.2.2.2.2.2.2.2.2.1
theorem dL_law_723 : decode cL_law 723 = .ok (.istore 6, 2) := fx_ok (d := 704) (i := 19) fDL_law_11 eL_law_701.2.2.2.2.2.2.2.2.2.2.2.2.2.2.2
theorem eL_law_725 : (fdecl fTL_law_11 21 = some (.goto 1602, 3)) ∧ (fdecl fTL_law_11 24 = some (.aload_n 1, 1)) ∧ (fdecl fTL_law_11 25 = some (.aload_n 0, 1)) ∧ (fdecl fTL_law_11 26 = some (.iload 4, 2)) ∧ (fdecl fTL_law_11 28 = some (.iconst 1, 1)) ∧ (fdecl fTL_law_11 29 = some (.iadd, 1)) ∧ (fdecl fTL_law_11 30 = some (.iaload, 1)) ∧ (fdecl fTL_law_11 31 = some (.aload_n 0, 1)) ∧ (fdecl fTL_law_11 32 = some (.iload 4, 2)) ∧ (fdecl fTL_law_11 34 = some (.iconst 2, 1)) ∧ (fdecl fTL_law_11 35 = some (.iadd, 1)) ∧ (fdecl fTL_law_11 36 = some (.iaload, 1)) ∧ (fdecl fTL_law_11 37 = some (.aload_n 3, 1)) ∧ (fdecl fTL_law_11 38 = some (.invokestatic 190, 3)) ∧ (fdecl fTL_law_11 41 = some (.istore 5, 2)) ∧ (fdecl fTL_law_11 43 = some (.aload_n 2, 1)) := by decide +kernel
theorem dL_law_725 : decode cL_law 725 = .ok (.goto 1602, 3) := fx_ok (d := 704) (i := 21) fDL_law_11 eL_law_725.1
theorem dL_law_728 : decode cL_law 728 = .ok (.aload_n 1, 1) := fx_ok (d := 704) (i := 24) fDL_law_11 eL_law_725.2.1
theorem dL_law_729 : decode cL_law 729 = .ok (.aload_n 0, 1) := fx_ok (d := 704) (i := 25) fDL_law_11 eL_law_725.2.2.1
theorem dL_law_730 : decode cL_law 730 = .ok (.iload 4, 2) := fx_ok (d := 704) (i := 26) fDL_law_11 eL_law_725.2.2.2.1
theorem dL_law_732 : decode cL_law 732 = .ok (.iconst 1, 1) := fx_ok (d := 704) (i := 28) fDL_law_11 eL_law_725.2.2.2.2.1
theorem dL_law_733 : decode cL_law 733 = .ok (.iadd, 1) := fx_ok (d := 704) (i := 29) fDL_law_11 eL_law_725.2.2.2.2.2.1
theorem dL_law_734 : decode cL_law 734 = .ok (.iaload, 1) := fx_ok (d := 704) (i := 30) fDL_law_11 eL_law_725.2.2.2.2.2.2.1
theorem dL_law_735 : decode cL_law 735 = .ok (.aload_n 0, 1) := fx_ok (d := 704) (i := 31) fDL_law_11 eL_law_725.2.2.2.2.2.2.2.1
theorem dL_law_736 : decode cL_law 736 = .ok (.iload 4, 2) := fx_ok (d := 704) (i := 32) fDL_law_11 eL_law_725.2.2.2.2.2.2.2.2.1
theorem dL_law_738 : decode cL_law 738 = .ok (.iconst 2, 1) := fx_ok (d := 704) (i := 34) fDL_law_11 eL_law_725.2.2.2.2.2.2.2.2.2.1
theorem dL_law_739 : decode cL_law 739 = .ok (.iadd, 1) := fx_ok (d := 704) (i := 35) fDL_law_11 eL_law_725.2.2.2.2.2.2.2.2.2.2.1
theorem dL_law_740 : decode cL_law 740 = .ok (.iaload, 1) := fx_ok (d := 704) (i := 36) fDL_law_11 eL_law_725.2.2.2.2.2.2.2.2.2.2.2.1
theorem dL_law_741 : decode cL_law 741 = .ok (.aload_n 3, 1) := fx_ok (d := 704) (i := 37) fDL_law_11 eL_law_725.2.2.2.2.2.2.2.2.2.2.2.2.1
theorem dL_law_742 : decode cL_law 742 = .ok (.invokestatic 190, 3) := fx_ok (d := 704) (i := 38) fDL_law_11 eL_law_725.2.2.2.2.2.2.2.2.2.2.2.2.2.1
theorem dL_law_745 : decode cL_law 745 = .ok (.istore 5, 2) := fx_ok (d := 704) (i := 41) fDL_law_11 eL_law_725.2.2.2.2.2.2.2.2.2.2.2.2.2.2.1
theorem dL_law_747 : decode cL_law 747 = .ok (.aload_n 2, 1) := fx_ok (d := 704) (i := 43) fDL_law_11 eL_law_725.2.2.2.2.2.2.2.2.2.2.2.2.2.2.2
theorem eL_law_748 : (fdecl fTL_law_11 44 = some (.aload_n 0, 1)) ∧ (fdecl fTL_law_11 45 = some (.iload 4, 2)) ∧ (fdecl fTL_law_11 47 = some (.iconst 1, 1)) ∧ (fdecl fTL_law_11 48 = some (.iadd, 1)) ∧ (fdecl fTL_law_11 49 = some (.iaload, 1)) ∧ (fdecl fTL_law_11 50 = some (.aload_n 0, 1)) ∧ (fdecl fTL_law_11 51 = some (.iload 4, 2)) ∧ (fdecl fTL_law_11 53 = some (.iconst 2, 1)) ∧ (fdecl fTL_law_11 54 = some (.iadd, 1)) ∧ (fdecl fTL_law_11 55 = some (.iaload, 1)) ∧ (fdecl fTL_law_11 56 = some (.invokevirtual 192, 3)) ∧ (fdecl fTL_law_11 59 = some (.istore 6, 2)) ∧ (fdecl fTL_law_11 61 = some (.goto 1562, 3)) ∧ (fdecl fTL_law_12 0 = some (.aload_n 1, 1)) ∧ (fdecl fTL_law_12 1 = some (.aload_n 0, 1)) ∧ (fdecl fTL_law_12 2 = some (.iload 4, 2)) := by decide +kernel
theorem dL_law_748 : decode cL_law 748 = .ok (.aload_n 0, 1) := fx_ok (d := 704) (i := 44) fDL_law_11 eL_law_748.1
theorem dL_law_749 : decode cL_law 749 = .ok (.iload 4, 2) := fx_ok (d := 704) (i := 45) fDL_law_11 eL_law_748.2.1
theorem dL_law_751 : decode cL_law 751 = .ok (.iconst 1, 1) := fx_ok (d := 704) (i := 47) fDL_law_11 eL_law_748.2.2.1
theorem dL_law_752 : decode cL_law 752 = .ok (.iadd, 1) := fx_ok (d := 704) (i := 48) fDL_law_11 eL_law_748.2.2.2.1
theorem dL_law_753 : decode cL_law 753 = .ok (.iaload, 1) := fx_ok (d := 704) (i := 49) fDL_law_11 eL_law_748.2.2.2.2.1
theorem dL_law_754 : decode cL_law 754 = .ok (.aload_n 0, 1) := fx_ok (d := 704) (i := 50) fDL_law_11 eL_law_748.2.2.2.2.2.1
theorem dL_law_755 : decode cL_law 755 = .ok (.iload 4, 2) := fx_ok (d := 704) (i := 51) fDL_law_11 eL_law_748.2.2.2.2.2.2.1
theorem dL_law_757 : decode cL_law 757 = .ok (.iconst 2, 1) := fx_ok (d := 704) (i := 53) fDL_law_11 eL_law_748.2.2.2.2.2.2.2.1
theorem dL_law_758 : decode cL_law 758 = .ok (.iadd, 1) := fx_ok (d := 704) (i := 54) fDL_law_11 eL_law_748.2.2.2.2.2.2.2.2.1
theorem dL_law_759 : decode cL_law 759 = .ok (.iaload, 1) := fx_ok (d := 704) (i := 55) fDL_law_11 eL_law_748.2.2.2.2.2.2.2.2.2.1
theorem dL_law_760 : decode cL_law 760 = .ok (.invokevirtual 192, 3) := fx_ok (d := 704) (i := 56) fDL_law_11 eL_law_748.2.2.2.2.2.2.2.2.2.2.1
theorem dL_law_763 : decode cL_law 763 = .ok (.istore 6, 2) := fx_ok (d := 704) (i := 59) fDL_law_11 eL_law_748.2.2.2.2.2.2.2.2.2.2.2.1
theorem dL_law_765 : decode cL_law 765 = .ok (.goto 1562, 3) := fx_ok (d := 704) (i := 61) fDL_law_11 eL_law_748.2.2.2.2.2.2.2.2.2.2.2.2.1
theorem dL_law_768 : decode cL_law 768 = .ok (.aload_n 1, 1) := fx_ok (d := 768) (i := 0) fDL_law_12 eL_law_748.2.2.2.2.2.2.2.2.2.2.2.2.2.1
theorem dL_law_769 : decode cL_law 769 = .ok (.aload_n 0, 1) := fx_ok (d := 768) (i := 1) fDL_law_12 eL_law_748.2.2.2.2.2.2.2.2.2.2.2.2.2.2.1
theorem dL_law_770 : decode cL_law 770 = .ok (.iload 4, 2) := fx_ok (d := 768) (i := 2) fDL_law_12 eL_law_748.2.2.2.2.2.2.2.2.2.2.2.2.2.2.2
theorem eL_law_772 : (fdecl fTL_law_12 4 = some (.iconst 1, 1)) ∧ (fdecl fTL_law_12 5 = some (.iadd, 1)) ∧ (fdecl fTL_law_12 6 = some (.iaload, 1)) ∧ (fdecl fTL_law_12 7 = some (.aload_n 0, 1)) ∧ (fdecl fTL_law_12 8 = some (.iload 4, 2)) ∧ (fdecl fTL_law_12 10 = some (.iconst 2, 1)) ∧ (fdecl fTL_law_12 11 = some (.iadd, 1)) ∧ (fdecl fTL_law_12 12 = some (.iaload, 1)) ∧ (fdecl fTL_law_12 13 = some (.ifCond .eq 7, 3)) ∧ (fdecl fTL_law_12 16 = some (.iconst 1, 1)) ∧ (fdecl fTL_law_12 17 = some (.goto 4, 3)) ∧ (fdecl fTL_law_12 20 = some (.iconst 0, 1)) ∧ (fdecl fTL_law_12 21 = some (.aload_n 0, 1)) ∧ (fdecl fTL_law_12 22 = some (.iload 4, 2)) ∧ (fdecl fTL_law_12 24 = some (.iconst 3, 1)) ∧ (fdecl fTL_law_12 25 = some (.iadd, 1)) := by decide +kernel
theorem dL_law_772 : decode cL_law 772 = .ok (.iconst 1, 1) := fx_ok (d := 768) (i := 4) fDL_law_12 eL_law_772.1
theorem dL_law_773 : decode cL_law 773 = .ok (.iadd, 1) := fx_ok (d := 768) (i := 5) fDL_law_12 eL_law_772.2.1
theorem dL_law_774 : decode cL_law 774 = .ok (.iaload, 1) := fx_ok (d := 768) (i := 6) fDL_law_12 eL_law_772.2.2.1
theorem dL_law_775 : decode cL_law 775 = .ok (.aload_n 0, 1) := fx_ok (d := 768) (i := 7) fDL_law_12 eL_law_772.2.2.2.1
theorem dL_law_776 : decode cL_law 776 = .ok (.iload 4, 2) := fx_ok (d := 768) (i := 8) fDL_law_12 eL_law_772.2.2.2.2.1
theorem dL_law_778 : decode cL_law 778 = .ok (.iconst 2, 1) := fx_ok (d := 768) (i := 10) fDL_law_12 eL_law_772.2.2.2.2.2.1
theorem dL_law_779 : decode cL_law 779 = .ok (.iadd, 1) := fx_ok (d := 768) (i := 11) fDL_law_12 eL_law_772.2.2.2.2.2.2.1
theorem dL_law_780 : decode cL_law 780 = .ok (.iaload, 1) := fx_ok (d := 768) (i := 12) fDL_law_12 eL_law_772.2.2.2.2.2.2.2.1
theorem dL_law_781 : decode cL_law 781 = .ok (.ifCond .eq 7, 3) := fx_ok (d := 768) (i := 13) fDL_law_12 eL_law_772.2.2.2.2.2.2.2.2.1
theorem dL_law_784 : decode cL_law 784 = .ok (.iconst 1, 1) := fx_ok (d := 768) (i := 16) fDL_law_12 eL_law_772.2.2.2.2.2.2.2.2.2.1
theorem dL_law_785 : decode cL_law 785 = .ok (.goto 4, 3) := fx_ok (d := 768) (i := 17) fDL_law_12 eL_law_772.2.2.2.2.2.2.2.2.2.2.1
theorem dL_law_788 : decode cL_law 788 = .ok (.iconst 0, 1) := fx_ok (d := 768) (i := 20) fDL_law_12 eL_law_772.2.2.2.2.2.2.2.2.2.2.2.1
theorem dL_law_789 : decode cL_law 789 = .ok (.aload_n 0, 1) := fx_ok (d := 768) (i := 21) fDL_law_12 eL_law_772.2.2.2.2.2.2.2.2.2.2.2.2.1
theorem dL_law_790 : decode cL_law 790 = .ok (.iload 4, 2) := fx_ok (d := 768) (i := 22) fDL_law_12 eL_law_772.2.2.2.2.2.2.2.2.2.2.2.2.2.1
theorem dL_law_792 : decode cL_law 792 = .ok (.iconst 3, 1) := fx_ok (d := 768) (i := 24) fDL_law_12 eL_law_772.2.2.2.2.2.2.2.2.2.2.2.2.2.2.1
theorem dL_law_793 : decode cL_law 793 = .ok (.iadd, 1) := fx_ok (d := 768) (i := 25) fDL_law_12 eL_law_772.2.2.2.2.2.2.2.2.2.2.2.2.2.2.2
theorem eL_law_794 : (fdecl fTL_law_12 26 = some (.iaload, 1)) ∧ (fdecl fTL_law_12 27 = some (.aload_n 3, 1)) ∧ (fdecl fTL_law_12 28 = some (.invokestatic 193, 3)) ∧ (fdecl fTL_law_12 31 = some (.istore 5, 2)) ∧ (fdecl fTL_law_12 33 = some (.aload_n 2, 1)) ∧ (fdecl fTL_law_12 34 = some (.aload_n 0, 1)) ∧ (fdecl fTL_law_12 35 = some (.iload 4, 2)) ∧ (fdecl fTL_law_12 37 = some (.iconst 1, 1)) ∧ (fdecl fTL_law_12 38 = some (.iadd, 1)) ∧ (fdecl fTL_law_12 39 = some (.iaload, 1)) ∧ (fdecl fTL_law_12 40 = some (.aload_n 0, 1)) ∧ (fdecl fTL_law_12 41 = some (.iload 4, 2)) ∧ (fdecl fTL_law_12 43 = some (.iconst 2, 1)) ∧ (fdecl fTL_law_12 44 = some (.iadd, 1)) ∧ (fdecl fTL_law_12 45 = some (.iaload, 1)) ∧ (fdecl fTL_law_12 46 = some (.ifCond .eq 7, 3)) := by decide +kernel
theorem dL_law_794 : decode cL_law 794 = .ok (.iaload, 1) := fx_ok (d := 768) (i := 26) fDL_law_12 eL_law_794.1
theorem dL_law_795 : decode cL_law 795 = .ok (.aload_n 3, 1) := fx_ok (d := 768) (i := 27) fDL_law_12 eL_law_794.2.1
theorem dL_law_796 : decode cL_law 796 = .ok (.invokestatic 193, 3) := fx_ok (d := 768) (i := 28) fDL_law_12 eL_law_794.2.2.1
theorem dL_law_799 : decode cL_law 799 = .ok (.istore 5, 2) := fx_ok (d := 768) (i := 31) fDL_law_12 eL_law_794.2.2.2.1
theorem dL_law_801 : decode cL_law 801 = .ok (.aload_n 2, 1) := fx_ok (d := 768) (i := 33) fDL_law_12 eL_law_794.2.2.2.2.1
theorem dL_law_802 : decode cL_law 802 = .ok (.aload_n 0, 1) := fx_ok (d := 768) (i := 34) fDL_law_12 eL_law_794.2.2.2.2.2.1
theorem dL_law_803 : decode cL_law 803 = .ok (.iload 4, 2) := fx_ok (d := 768) (i := 35) fDL_law_12 eL_law_794.2.2.2.2.2.2.1
theorem dL_law_805 : decode cL_law 805 = .ok (.iconst 1, 1) := fx_ok (d := 768) (i := 37) fDL_law_12 eL_law_794.2.2.2.2.2.2.2.1
theorem dL_law_806 : decode cL_law 806 = .ok (.iadd, 1) := fx_ok (d := 768) (i := 38) fDL_law_12 eL_law_794.2.2.2.2.2.2.2.2.1
theorem dL_law_807 : decode cL_law 807 = .ok (.iaload, 1) := fx_ok (d := 768) (i := 39) fDL_law_12 eL_law_794.2.2.2.2.2.2.2.2.2.1
theorem dL_law_808 : decode cL_law 808 = .ok (.aload_n 0, 1) := fx_ok (d := 768) (i := 40) fDL_law_12 eL_law_794.2.2.2.2.2.2.2.2.2.2.1
theorem dL_law_809 : decode cL_law 809 = .ok (.iload 4, 2) := fx_ok (d := 768) (i := 41) fDL_law_12 eL_law_794.2.2.2.2.2.2.2.2.2.2.2.1
theorem dL_law_811 : decode cL_law 811 = .ok (.iconst 2, 1) := fx_ok (d := 768) (i := 43) fDL_law_12 eL_law_794.2.2.2.2.2.2.2.2.2.2.2.2.1
theorem dL_law_812 : decode cL_law 812 = .ok (.iadd, 1) := fx_ok (d := 768) (i := 44) fDL_law_12 eL_law_794.2.2.2.2.2.2.2.2.2.2.2.2.2.1
theorem dL_law_813 : decode cL_law 813 = .ok (.iaload, 1) := fx_ok (d := 768) (i := 45) fDL_law_12 eL_law_794.2.2.2.2.2.2.2.2.2.2.2.2.2.2.1
theorem dL_law_814 : decode cL_law 814 = .ok (.ifCond .eq 7, 3) := fx_ok (d := 768) (i := 46) fDL_law_12 eL_law_794.2.2.2.2.2.2.2.2.2.2.2.2.2.2.2
theorem eL_law_817 : (fdecl fTL_law_12 49 = some (.iconst 1, 1)) ∧ (fdecl fTL_law_12 50 = some (.goto 4, 3)) ∧ (fdecl fTL_law_12 53 = some (.iconst 0, 1)) ∧ (fdecl fTL_law_12 54 = some (.aload_n 0, 1)) ∧ (fdecl fTL_law_12 55 = some (.iload 4, 2)) ∧ (fdecl fTL_law_12 57 = some (.iconst 3, 1)) ∧ (fdecl fTL_law_12 58 = some (.iadd, 1)) ∧ (fdecl fTL_law_12 59 = some (.iaload, 1)) ∧ (fdecl fTL_law_12 60 = some (.invokevirtual 196, 3)) ∧ (fdecl fTL_law_12 63 = some (.istore 6, 2)) ∧ (fdecl fTL_law_13 1 = some (.goto 1494, 3)) ∧ (fdecl fTL_law_13 4 = some (.aload_n 1, 1)) ∧ (fdecl fTL_law_13 5 = some (.aload_n 0, 1)) ∧ (fdecl fTL_law_13 6 = some (.iload 4, 2)) ∧ (fdecl fTL_law_13 8 = some (.iconst 1, 1)) ∧ (fdecl fTL_law_13 9 = some (.iadd, 1)) := by decide +kernel
theorem dL_law_817 : decode cL_law 817 = .ok (.iconst 1, 1) := fx_ok (d := 768) (i := 49) fDL_law_12 eL_law_817.1
theorem dL_law_818 : decode cL_law 818 = .ok (.goto 4, 3) := fx_ok (d := 768) (i := 50) fDL_law_12 eL_law_817.2.1
theorem dL_law_821 : decode cL_law 821 = .ok (.iconst 0, 1) := fx_ok (d := 768) (i := 53) fDL_law_12 eL_law_817.2.2.1
theorem dL_law_822 : decode cL_law 822 = .ok (.aload_n 0, 1) := fx_ok (d := 768) (i := 54) fDL_law_12 eL_law_817.2.2.2.1
theorem dL_law_823 : decode cL_law 823 = .ok (.iload 4, 2) := fx_ok (d := 768) (i := 55) fDL_law_12 eL_law_817.2.2.2.2.1
theorem dL_law_825 : decode cL_law 825 = .ok (.iconst 3, 1) := fx_ok (d := 768) (i := 57) fDL_law_12 eL_law_817.2.2.2.2.2.1
theorem dL_law_826 : decode cL_law 826 = .ok (.iadd, 1) := fx_ok (d := 768) (i := 58) fDL_law_12 eL_law_817.2.2.2.2.2.2.1
theorem dL_law_827 : decode cL_law 827 = .ok (.iaload, 1) := fx_ok (d := 768) (i := 59) fDL_law_12 eL_law_817.2.2.2.2.2.2.2.1
theorem dL_law_828 : decode cL_law 828 = .ok (.invokevirtual 196, 3) := fx_ok (d := 768) (i := 60) fDL_law_12 eL_law_817.2.2.2.2.2.2.2.2.1
theorem dL_law_831 : decode cL_law 831 = .ok (.istore 6, 2) := fx_ok (d := 768) (i := 63) fDL_law_12 eL_law_817.2.2.2.2.2.2.2.2.2.1
theorem dL_law_833 : decode cL_law 833 = .ok (.goto 1494, 3) := fx_ok (d := 832) (i := 1) fDL_law_13 eL_law_817.2.2.2.2.2.2.2.2.2.2.1
theorem dL_law_836 : decode cL_law 836 = .ok (.aload_n 1, 1) := fx_ok (d := 832) (i := 4) fDL_law_13 eL_law_817.2.2.2.2.2.2.2.2.2.2.2.1
theorem dL_law_837 : decode cL_law 837 = .ok (.aload_n 0, 1) := fx_ok (d := 832) (i := 5) fDL_law_13 eL_law_817.2.2.2.2.2.2.2.2.2.2.2.2.1
theorem dL_law_838 : decode cL_law 838 = .ok (.iload 4, 2) := fx_ok (d := 832) (i := 6) fDL_law_13 eL_law_817.2.2.2.2.2.2.2.2.2.2.2.2.2.1
theorem dL_law_840 : decode cL_law 840 = .ok (.iconst 1, 1) := fx_ok (d := 832) (i := 8) fDL_law_13 eL_law_817.2.2.2.2.2.2.2.2.2.2.2.2.2.2.1
theorem dL_law_841 : decode cL_law 841 = .ok (.iadd, 1) := fx_ok (d := 832) (i := 9) fDL_law_13 eL_law_817.2.2.2.2.2.2.2.2.2.2.2.2.2.2.2
theorem eL_law_842 : (fdecl fTL_law_13 10 = some (.iaload, 1)) ∧ (fdecl fTL_law_13 11 = some (.aload_n 0, 1)) ∧ (fdecl fTL_law_13 12 = some (.iload 4, 2)) ∧ (fdecl fTL_law_13 14 = some (.iconst 2, 1)) ∧ (fdecl fTL_law_13 15 = some (.iadd, 1)) ∧ (fdecl fTL_law_13 16 = some (.iaload, 1)) ∧ (fdecl fTL_law_13 17 = some (.aload_n 0, 1)) ∧ (fdecl fTL_law_13 18 = some (.iload 4, 2)) ∧ (fdecl fTL_law_13 20 = some (.iconst 3, 1)) ∧ (fdecl fTL_law_13 21 = some (.iadd, 1)) ∧ (fdecl fTL_law_13 22 = some (.iaload, 1)) ∧ (fdecl fTL_law_13 23 = some (.aload_n 0, 1)) ∧ (fdecl fTL_law_13 24 = some (.iload 4, 2)) ∧ (fdecl fTL_law_13 26 = some (.iconst 4, 1)) ∧ (fdecl fTL_law_13 27 = some (.iadd, 1)) ∧ (fdecl fTL_law_13 28 = some (.iaload, 1)) := by decide +kernel
theorem dL_law_842 : decode cL_law 842 = .ok (.iaload, 1) := fx_ok (d := 832) (i := 10) fDL_law_13 eL_law_842.1
theorem dL_law_843 : decode cL_law 843 = .ok (.aload_n 0, 1) := fx_ok (d := 832) (i := 11) fDL_law_13 eL_law_842.2.1
theorem dL_law_844 : decode cL_law 844 = .ok (.iload 4, 2) := fx_ok (d := 832) (i := 12) fDL_law_13 eL_law_842.2.2.1
theorem dL_law_846 : decode cL_law 846 = .ok (.iconst 2, 1) := fx_ok (d := 832) (i := 14) fDL_law_13 eL_law_842.2.2.2.1
theorem dL_law_847 : decode cL_law 847 = .ok (.iadd, 1) := fx_ok (d := 832) (i := 15) fDL_law_13 eL_law_842.2.2.2.2.1
theorem dL_law_848 : decode cL_law 848 = .ok (.iaload, 1) := fx_ok (d := 832) (i := 16) fDL_law_13 eL_law_842.2.2.2.2.2.1
theorem dL_law_849 : decode cL_law 849 = .ok (.aload_n 0, 1) := fx_ok (d := 832) (i := 17) fDL_law_13 eL_law_842.2.2.2.2.2.2.1
theorem dL_law_850 : decode cL_law 850 = .ok (.iload 4, 2) := fx_ok (d := 832) (i := 18) fDL_law_13 eL_law_842.2.2.2.2.2.2.2.1
theorem dL_law_852 : decode cL_law 852 = .ok (.iconst 3, 1) := fx_ok (d := 832) (i := 20) fDL_law_13 eL_law_842.2.2.2.2.2.2.2.2.1
theorem dL_law_853 : decode cL_law 853 = .ok (.iadd, 1) := fx_ok (d := 832) (i := 21) fDL_law_13 eL_law_842.2.2.2.2.2.2.2.2.2.1
theorem dL_law_854 : decode cL_law 854 = .ok (.iaload, 1) := fx_ok (d := 832) (i := 22) fDL_law_13 eL_law_842.2.2.2.2.2.2.2.2.2.2.1
theorem dL_law_855 : decode cL_law 855 = .ok (.aload_n 0, 1) := fx_ok (d := 832) (i := 23) fDL_law_13 eL_law_842.2.2.2.2.2.2.2.2.2.2.2.1
theorem dL_law_856 : decode cL_law 856 = .ok (.iload 4, 2) := fx_ok (d := 832) (i := 24) fDL_law_13 eL_law_842.2.2.2.2.2.2.2.2.2.2.2.2.1
theorem dL_law_858 : decode cL_law 858 = .ok (.iconst 4, 1) := fx_ok (d := 832) (i := 26) fDL_law_13 eL_law_842.2.2.2.2.2.2.2.2.2.2.2.2.2.1
theorem dL_law_859 : decode cL_law 859 = .ok (.iadd, 1) := fx_ok (d := 832) (i := 27) fDL_law_13 eL_law_842.2.2.2.2.2.2.2.2.2.2.2.2.2.2.1
theorem dL_law_860 : decode cL_law 860 = .ok (.iaload, 1) := fx_ok (d := 832) (i := 28) fDL_law_13 eL_law_842.2.2.2.2.2.2.2.2.2.2.2.2.2.2.2
theorem eL_law_861 : (fdecl fTL_law_13 29 = some (.ifCond .eq 7, 3)) ∧ (fdecl fTL_law_13 32 = some (.iconst 1, 1)) ∧ (fdecl fTL_law_13 33 = some (.goto 4, 3)) ∧ (fdecl fTL_law_13 36 = some (.iconst 0, 1)) ∧ (fdecl fTL_law_13 37 = some (.aload_n 3, 1)) ∧ (fdecl fTL_law_13 38 = some (.invokestatic 197, 3)) ∧ (fdecl fTL_law_13 41 = some (.istore 5, 2)) ∧ (fdecl fTL_law_13 43 = some (.aload_n 2, 1)) ∧ (fdecl fTL_law_13 44 = some (.aload_n 0, 1)) ∧ (fdecl fTL_law_13 45 = some (.iload 4, 2)) ∧ (fdecl fTL_law_13 47 = some (.iconst 1, 1)) ∧ (fdecl fTL_law_13 48 = some (.iadd, 1)) ∧ (fdecl fTL_law_13 49 = some (.iaload, 1)) ∧ (fdecl fTL_law_13 50 = some (.aload_n 0, 1)) ∧ (fdecl fTL_law_13 51 = some (.iload 4, 2)) ∧ (fdecl fTL_law_13 53 = some (.iconst 2, 1)) := by decide +kernel
theorem dL_law_861 : decode cL_law 861 = .ok (.ifCond .eq 7, 3) := fx_ok (d := 832) (i := 29) fDL_law_13 eL_law_861.1
theorem dL_law_864 : decode cL_law 864 = .ok (.iconst 1, 1) := fx_ok (d := 832) (i := 32) fDL_law_13 eL_law_861.2.1
theorem dL_law_865 : decode cL_law 865 = .ok (.goto 4, 3) := fx_ok (d := 832) (i := 33) fDL_law_13 eL_law_861.2.2.1
theorem dL_law_868 : decode cL_law 868 = .ok (.iconst 0, 1) := fx_ok (d := 832) (i := 36) fDL_law_13 eL_law_861.2.2.2.1
theorem dL_law_869 : decode cL_law 869 = .ok (.aload_n 3, 1) := fx_ok (d := 832) (i := 37) fDL_law_13 eL_law_861.2.2.2.2.1
theorem dL_law_870 : decode cL_law 870 = .ok (.invokestatic 197, 3) := fx_ok (d := 832) (i := 38) fDL_law_13 eL_law_861.2.2.2.2.2.1
theorem dL_law_873 : decode cL_law 873 = .ok (.istore 5, 2) := fx_ok (d := 832) (i := 41) fDL_law_13 eL_law_861.2.2.2.2.2.2.1
theorem dL_law_875 : decode cL_law 875 = .ok (.aload_n 2, 1) := fx_ok (d := 832) (i := 43) fDL_law_13 eL_law_861.2.2.2.2.2.2.2.1
theorem dL_law_876 : decode cL_law 876 = .ok (.aload_n 0, 1) := fx_ok (d := 832) (i := 44) fDL_law_13 eL_law_861.2.2.2.2.2.2.2.2.1
theorem dL_law_877 : decode cL_law 877 = .ok (.iload 4, 2) := fx_ok (d := 832) (i := 45) fDL_law_13 eL_law_861.2.2.2.2.2.2.2.2.2.1
theorem dL_law_879 : decode cL_law 879 = .ok (.iconst 1, 1) := fx_ok (d := 832) (i := 47) fDL_law_13 eL_law_861.2.2.2.2.2.2.2.2.2.2.1
theorem dL_law_880 : decode cL_law 880 = .ok (.iadd, 1) := fx_ok (d := 832) (i := 48) fDL_law_13 eL_law_861.2.2.2.2.2.2.2.2.2.2.2.1
theorem dL_law_881 : decode cL_law 881 = .ok (.iaload, 1) := fx_ok (d := 832) (i := 49) fDL_law_13 eL_law_861.2.2.2.2.2.2.2.2.2.2.2.2.1
theorem dL_law_882 : decode cL_law 882 = .ok (.aload_n 0, 1) := fx_ok (d := 832) (i := 50) fDL_law_13 eL_law_861.2.2.2.2.2.2.2.2.2.2.2.2.2.1
theorem dL_law_883 : decode cL_law 883 = .ok (.iload 4, 2) := fx_ok (d := 832) (i := 51) fDL_law_13 eL_law_861.2.2.2.2.2.2.2.2.2.2.2.2.2.2.1
theorem dL_law_885 : decode cL_law 885 = .ok (.iconst 2, 1) := fx_ok (d := 832) (i := 53) fDL_law_13 eL_law_861.2.2.2.2.2.2.2.2.2.2.2.2.2.2.2
theorem eL_law_886 : (fdecl fTL_law_13 54 = some (.iadd, 1)) ∧ (fdecl fTL_law_13 55 = some (.iaload, 1)) ∧ (fdecl fTL_law_13 56 = some (.aload_n 0, 1)) ∧ (fdecl fTL_law_13 57 = some (.iload 4, 2)) ∧ (fdecl fTL_law_13 59 = some (.iconst 3, 1)) ∧ (fdecl fTL_law_13 60 = some (.iadd, 1)) ∧ (fdecl fTL_law_13 61 = some (.iaload, 1)) ∧ (fdecl fTL_law_13 62 = some (.aload_n 0, 1)) ∧ (fdecl fTL_law_13 63 = some (.iload 4, 2)) ∧ (fdecl fTL_law_14 1 = some (.iconst 4, 1)) ∧ (fdecl fTL_law_14 2 = some (.iadd, 1)) ∧ (fdecl fTL_law_14 3 = some (.iaload, 1)) ∧ (fdecl fTL_law_14 4 = some (.ifCond .eq 7, 3)) ∧ (fdecl fTL_law_14 7 = some (.iconst 1, 1)) ∧ (fdecl fTL_law_14 8 = some (.goto 4, 3)) ∧ (fdecl fTL_law_14 11 = some (.iconst 0, 1)) := by decide +kernel
theorem dL_law_886 : decode cL_law 886 = .ok (.iadd, 1) := fx_ok (d := 832) (i := 54) fDL_law_13 eL_law_886.1
theorem dL_law_887 : decode cL_law 887 = .ok (.iaload, 1) := fx_ok (d := 832) (i := 55) fDL_law_13 eL_law_886.2.1
theorem dL_law_888 : decode cL_law 888 = .ok (.aload_n 0, 1) := fx_ok (d := 832) (i := 56) fDL_law_13 eL_law_886.2.2.1
theorem dL_law_889 : decode cL_law 889 = .ok (.iload 4, 2) := fx_ok (d := 832) (i := 57) fDL_law_13 eL_law_886.2.2.2.1
theorem dL_law_891 : decode cL_law 891 = .ok (.iconst 3, 1) := fx_ok (d := 832) (i := 59) fDL_law_13 eL_law_886.2.2.2.2.1
theorem dL_law_892 : decode cL_law 892 = .ok (.iadd, 1) := fx_ok (d := 832) (i := 60) fDL_law_13 eL_law_886.2.2.2.2.2.1
theorem dL_law_893 : decode cL_law 893 = .ok (.iaload, 1) := fx_ok (d := 832) (i := 61) fDL_law_13 eL_law_886.2.2.2.2.2.2.1
theorem dL_law_894 : decode cL_law 894 = .ok (.aload_n 0, 1) := fx_ok (d := 832) (i := 62) fDL_law_13 eL_law_886.2.2.2.2.2.2.2.1
theorem dL_law_895 : decode cL_law 895 = .ok (.iload 4, 2) := fx_ok (d := 832) (i := 63) fDL_law_13 eL_law_886.2.2.2.2.2.2.2.2.1
theorem dL_law_897 : decode cL_law 897 = .ok (.iconst 4, 1) := fx_ok (d := 896) (i := 1) fDL_law_14 eL_law_886.2.2.2.2.2.2.2.2.2.1
theorem dL_law_898 : decode cL_law 898 = .ok (.iadd, 1) := fx_ok (d := 896) (i := 2) fDL_law_14 eL_law_886.2.2.2.2.2.2.2.2.2.2.1
theorem dL_law_899 : decode cL_law 899 = .ok (.iaload, 1) := fx_ok (d := 896) (i := 3) fDL_law_14 eL_law_886.2.2.2.2.2.2.2.2.2.2.2.1
theorem dL_law_900 : decode cL_law 900 = .ok (.ifCond .eq 7, 3) := fx_ok (d := 896) (i := 4) fDL_law_14 eL_law_886.2.2.2.2.2.2.2.2.2.2.2.2.1
theorem dL_law_903 : decode cL_law 903 = .ok (.iconst 1, 1) := fx_ok (d := 896) (i := 7) fDL_law_14 eL_law_886.2.2.2.2.2.2.2.2.2.2.2.2.2.1
theorem dL_law_904 : decode cL_law 904 = .ok (.goto 4, 3) := fx_ok (d := 896) (i := 8) fDL_law_14 eL_law_886.2.2.2.2.2.2.2.2.2.2.2.2.2.2.1
theorem dL_law_907 : decode cL_law 907 = .ok (.iconst 0, 1) := fx_ok (d := 896) (i := 11) fDL_law_14 eL_law_886.2.2.2.2.2.2.2.2.2.2.2.2.2.2.2
theorem eL_law_908 : (fdecl fTL_law_14 12 = some (.invokevirtual 200, 3)) ∧ (fdecl fTL_law_14 15 = some (.istore 6, 2)) ∧ (fdecl fTL_law_14 17 = some (.goto 1414, 3)) ∧ (fdecl fTL_law_14 20 = some (.aload_n 1, 1)) ∧ (fdecl fTL_law_14 21 = some (.aload_n 0, 1)) ∧ (fdecl fTL_law_14 22 = some (.iload 4, 2)) ∧ (fdecl fTL_law_14 24 = some (.iconst 1, 1)) ∧ (fdecl fTL_law_14 25 = some (.iadd, 1)) ∧ (fdecl fTL_law_14 26 = some (.iaload, 1)) ∧ (fdecl fTL_law_14 27 = some (.aload_n 0, 1)) ∧ (fdecl fTL_law_14 28 = some (.iload 4, 2)) ∧ (fdecl fTL_law_14 30 = some (.iconst 2, 1)) ∧ (fdecl fTL_law_14 31 = some (.iadd, 1)) ∧ (fdecl fTL_law_14 32 = some (.iaload, 1)) ∧ (fdecl fTL_law_14 33 = some (.ifCond .eq 7, 3)) ∧ (fdecl fTL_law_14 36 = some (.iconst 1, 1)) := by decide +kernel
theorem dL_law_908 : decode cL_law 908 = .ok (.invokevirtual 200, 3) := fx_ok (d := 896) (i := 12) fDL_law_14 eL_law_908.1
theorem dL_law_911 : decode cL_law 911 = .ok (.istore 6, 2) := fx_ok (d := 896) (i := 15) fDL_law_14 eL_law_908.2.1
theorem dL_law_913 : decode cL_law 913 = .ok (.goto 1414, 3) := fx_ok (d := 896) (i := 17) fDL_law_14 eL_law_908.2.2.1
theorem dL_law_916 : decode cL_law 916 = .ok (.aload_n 1, 1) := fx_ok (d := 896) (i := 20) fDL_law_14 eL_law_908.2.2.2.1
theorem dL_law_917 : decode cL_law 917 = .ok (.aload_n 0, 1) := fx_ok (d := 896) (i := 21) fDL_law_14 eL_law_908.2.2.2.2.1
theorem dL_law_918 : decode cL_law 918 = .ok (.iload 4, 2) := fx_ok (d := 896) (i := 22) fDL_law_14 eL_law_908.2.2.2.2.2.1
theorem dL_law_920 : decode cL_law 920 = .ok (.iconst 1, 1) := fx_ok (d := 896) (i := 24) fDL_law_14 eL_law_908.2.2.2.2.2.2.1
theorem dL_law_921 : decode cL_law 921 = .ok (.iadd, 1) := fx_ok (d := 896) (i := 25) fDL_law_14 eL_law_908.2.2.2.2.2.2.2.1
theorem dL_law_922 : decode cL_law 922 = .ok (.iaload, 1) := fx_ok (d := 896) (i := 26) fDL_law_14 eL_law_908.2.2.2.2.2.2.2.2.1
theorem dL_law_923 : decode cL_law 923 = .ok (.aload_n 0, 1) := fx_ok (d := 896) (i := 27) fDL_law_14 eL_law_908.2.2.2.2.2.2.2.2.2.1
theorem dL_law_924 : decode cL_law 924 = .ok (.iload 4, 2) := fx_ok (d := 896) (i := 28) fDL_law_14 eL_law_908.2.2.2.2.2.2.2.2.2.2.1
theorem dL_law_926 : decode cL_law 926 = .ok (.iconst 2, 1) := fx_ok (d := 896) (i := 30) fDL_law_14 eL_law_908.2.2.2.2.2.2.2.2.2.2.2.1
theorem dL_law_927 : decode cL_law 927 = .ok (.iadd, 1) := fx_ok (d := 896) (i := 31) fDL_law_14 eL_law_908.2.2.2.2.2.2.2.2.2.2.2.2.1
theorem dL_law_928 : decode cL_law 928 = .ok (.iaload, 1) := fx_ok (d := 896) (i := 32) fDL_law_14 eL_law_908.2.2.2.2.2.2.2.2.2.2.2.2.2.1
theorem dL_law_929 : decode cL_law 929 = .ok (.ifCond .eq 7, 3) := fx_ok (d := 896) (i := 33) fDL_law_14 eL_law_908.2.2.2.2.2.2.2.2.2.2.2.2.2.2.1
theorem dL_law_932 : decode cL_law 932 = .ok (.iconst 1, 1) := fx_ok (d := 896) (i := 36) fDL_law_14 eL_law_908.2.2.2.2.2.2.2.2.2.2.2.2.2.2.2
theorem eL_law_933 : (fdecl fTL_law_14 37 = some (.goto 4, 3)) ∧ (fdecl fTL_law_14 40 = some (.iconst 0, 1)) ∧ (fdecl fTL_law_14 41 = some (.aload_n 0, 1)) ∧ (fdecl fTL_law_14 42 = some (.iload 4, 2)) ∧ (fdecl fTL_law_14 44 = some (.iconst 3, 1)) ∧ (fdecl fTL_law_14 45 = some (.iadd, 1)) ∧ (fdecl fTL_law_14 46 = some (.iaload, 1)) ∧ (fdecl fTL_law_14 47 = some (.ifCond .eq 7, 3)) ∧ (fdecl fTL_law_14 50 = some (.iconst 1, 1)) ∧ (fdecl fTL_law_14 51 = some (.goto 4, 3)) ∧ (fdecl fTL_law_14 54 = some (.iconst 0, 1)) ∧ (fdecl fTL_law_14 55 = some (.aload_n 3, 1)) ∧ (fdecl fTL_law_14 56 = some (.invokestatic 201, 3)) ∧ (fdecl fTL_law_14 59 = some (.istore 5, 2)) ∧ (fdecl fTL_law_14 61 = some (.aload_n 2, 1)) ∧ (fdecl fTL_law_14 62 = some (.aload_n 0, 1)) := by decide +kernel
theorem dL_law_933 : decode cL_law 933 = .ok (.goto 4, 3) := fx_ok (d := 896) (i := 37) fDL_law_14 eL_law_933.1
theorem dL_law_936 : decode cL_law 936 = .ok (.iconst 0, 1) := fx_ok (d := 896) (i := 40) fDL_law_14 eL_law_933.2.1
theorem dL_law_937 : decode cL_law 937 = .ok (.aload_n 0, 1) := fx_ok (d := 896) (i := 41) fDL_law_14 eL_law_933.2.2.1
theorem dL_law_938 : decode cL_law 938 = .ok (.iload 4, 2) := fx_ok (d := 896) (i := 42) fDL_law_14 eL_law_933.2.2.2.1
theorem dL_law_940 : decode cL_law 940 = .ok (.iconst 3, 1) := fx_ok (d := 896) (i := 44) fDL_law_14 eL_law_933.2.2.2.2.1
theorem dL_law_941 : decode cL_law 941 = .ok (.iadd, 1) := fx_ok (d := 896) (i := 45) fDL_law_14 eL_law_933.2.2.2.2.2.1
theorem dL_law_942 : decode cL_law 942 = .ok (.iaload, 1) := fx_ok (d := 896) (i := 46) fDL_law_14 eL_law_933.2.2.2.2.2.2.1
theorem dL_law_943 : decode cL_law 943 = .ok (.ifCond .eq 7, 3) := fx_ok (d := 896) (i := 47) fDL_law_14 eL_law_933.2.2.2.2.2.2.2.1
theorem dL_law_946 : decode cL_law 946 = .ok (.iconst 1, 1) := fx_ok (d := 896) (i := 50) fDL_law_14 eL_law_933.2.2.2.2.2.2.2.2.1
theorem dL_law_947 : decode cL_law 947 = .ok (.goto 4, 3) := fx_ok (d := 896) (i := 51) fDL_law_14 eL_law_933.2.2.2.2.2.2.2.2.2.1
theorem dL_law_950 : decode cL_law 950 = .ok (.iconst 0, 1) := fx_ok (d := 896) (i := 54) fDL_law_14 eL_law_933.2.2.2.2.2.2.2.2.2.2.1
theorem dL_law_951 : decode cL_law 951 = .ok (.aload_n 3, 1) := fx_ok (d := 896) (i := 55) fDL_law_14 eL_law_933.2.2.2.2.2.2.2.2.2.2.2.1
theorem dL_law_952 : decode cL_law 952 = .ok (.invokestatic 201, 3) := fx_ok (d := 896) (i := 56) fDL_law_14 eL_law_933.2.2.2.2.2.2.2.2.2.2.2.2.1
theorem dL_law_955 : decode cL_law 955 = .ok (.istore 5, 2) := fx_ok (d := 896) (i := 59) fDL_law_14 eL_law_933.2.2.2.2.2.2.2.2.2.2.2.2.2.1
theorem dL_law_957 : decode cL_law 957 = .ok (.aload_n 2, 1) := fx_ok (d := 896) (i := 61) fDL_law_14 eL_law_933.2.2.2.2.2.2.2.2.2.2.2.2.2.2.1
theorem dL_law_958 : decode cL_law 958 = .ok (.aload_n 0, 1) := fx_ok (d := 896) (i := 62) fDL_law_14 eL_law_933.2.2.2.2.2.2.2.2.2.2.2.2.2.2.2
theorem eL_law_959 : (fdecl fTL_law_14 63 = some (.iload 4, 2)) ∧ (fdecl fTL_law_15 1 = some (.iconst 1, 1)) ∧ (fdecl fTL_law_15 2 = some (.iadd, 1)) ∧ (fdecl fTL_law_15 3 = some (.iaload, 1)) ∧ (fdecl fTL_law_15 4 = some (.aload_n 0, 1)) ∧ (fdecl fTL_law_15 5 = some (.iload 4, 2)) ∧ (fdecl fTL_law_15 7 = some (.iconst 2, 1)) ∧ (fdecl fTL_law_15 8 = some (.iadd, 1)) ∧ (fdecl fTL_law_15 9 = some (.iaload, 1)) ∧ (fdecl fTL_law_15 10 = some (.ifCond .eq 7, 3)) ∧ (fdecl fTL_law_15 13 = some (.iconst 1, 1)) ∧ (fdecl fTL_law_15 14 = some (.goto 4, 3)) ∧ (fdecl fTL_law_15 17 = some (.iconst 0, 1)) ∧ (fdecl fTL_law_15 18 = some (.aload_n 0, 1)) ∧ (fdecl fTL_law_15 19 = some (.iload 4, 2)) ∧ (fdecl fTL_law_15 21 = some (.iconst 3, 1)) := by decide +kernel
theorem dL_law_959 : decode cL_law 959 = .ok (.iload 4, 2) := fx_ok (d := 896) (i := 63) fDL_law_14 eL_law_959.1
theorem dL_law_961 : decode cL_law 961 = .ok (.iconst 1, 1) := fx_ok (d := 960) (i := 1) fDL_law_15 eL_law_959.2.1
theorem dL_law_962 : decode cL_law 962 = .ok (.iadd, 1) := fx_ok (d := 960) (i := 2) fDL_law_15 eL_law_959.2.2.1
theorem dL_law_963 : decode cL_law 963 = .ok (.iaload, 1) := fx_ok (d := 960) (i := 3) fDL_law_15 eL_law_959.2.2.2.1
theorem dL_law_964 : decode cL_law 964 = .ok (.aload_n 0, 1) := fx_ok (d := 960) (i := 4) fDL_law_15 eL_law_959.2.2.2.2.1
theorem dL_law_965 : decode cL_law 965 = .ok (.iload 4, 2) := fx_ok (d := 960) (i := 5) fDL_law_15 eL_law_959.2.2.2.2.2.1
theorem dL_law_967 : decode cL_law 967 = .ok (.iconst 2, 1) := fx_ok (d := 960) (i := 7) fDL_law_15 eL_law_959.2.2.2.2.2.2.1
theorem dL_law_968 : decode cL_law 968 = .ok (.iadd, 1) := fx_ok (d := 960) (i := 8) fDL_law_15 eL_law_959.2.2.2.2.2.2.2.1
theorem dL_law_969 : decode cL_law 969 = .ok (.iaload, 1) := fx_ok (d := 960) (i := 9) fDL_law_15 eL_law_959.2.2.2.2.2.2.2.2.1
theorem dL_law_970 : decode cL_law 970 = .ok (.ifCond .eq 7, 3) := fx_ok (d := 960) (i := 10) fDL_law_15 eL_law_959.2.2.2.2.2.2.2.2.2.1
theorem dL_law_973 : decode cL_law 973 = .ok (.iconst 1, 1) := fx_ok (d := 960) (i := 13) fDL_law_15 eL_law_959.2.2.2.2.2.2.2.2.2.2.1
theorem dL_law_974 : decode cL_law 974 = .ok (.goto 4, 3) := fx_ok (d := 960) (i := 14) fDL_law_15 eL_law_959.2.2.2.2.2.2.2.2.2.2.2.1
theorem dL_law_977 : decode cL_law 977 = .ok (.iconst 0, 1) := fx_ok (d := 960) (i := 17) fDL_law_15 eL_law_959.2.2.2.2.2.2.2.2.2.2.2.2.1
theorem dL_law_978 : decode cL_law 978 = .ok (.aload_n 0, 1) := fx_ok (d := 960) (i := 18) fDL_law_15 eL_law_959.2.2.2.2.2.2.2.2.2.2.2.2.2.1
theorem dL_law_979 : decode cL_law 979 = .ok (.iload 4, 2) := fx_ok (d := 960) (i := 19) fDL_law_15 eL_law_959.2.2.2.2.2.2.2.2.2.2.2.2.2.2.1
theorem dL_law_981 : decode cL_law 981 = .ok (.iconst 3, 1) := fx_ok (d := 960) (i := 21) fDL_law_15 eL_law_959.2.2.2.2.2.2.2.2.2.2.2.2.2.2.2
theorem eL_law_982 : (fdecl fTL_law_15 22 = some (.iadd, 1)) ∧ (fdecl fTL_law_15 23 = some (.iaload, 1)) ∧ (fdecl fTL_law_15 24 = some (.ifCond .eq 7, 3)) ∧ (fdecl fTL_law_15 27 = some (.iconst 1, 1)) ∧ (fdecl fTL_law_15 28 = some (.goto 4, 3)) ∧ (fdecl fTL_law_15 31 = some (.iconst 0, 1)) ∧ (fdecl fTL_law_15 32 = some (.invokevirtual 204, 3)) ∧ (fdecl fTL_law_15 35 = some (.istore 6, 2)) ∧ (fdecl fTL_law_15 37 = some (.goto 1330, 3)) ∧ (fdecl fTL_law_15 40 = some (.aload_n 1, 1)) ∧ (fdecl fTL_law_15 41 = some (.aload_n 0, 1)) ∧ (fdecl fTL_law_15 42 = some (.iload 4, 2)) ∧ (fdecl fTL_law_15 44 = some (.iconst 1, 1)) ∧ (fdecl fTL_law_15 45 = some (.iadd, 1)) ∧ (fdecl fTL_law_15 46 = some (.iaload, 1)) ∧ (fdecl fTL_law_15 47 = some (.aload_n 0, 1)) := by decide +kernel
theorem dL_law_982 : decode cL_law 982 = .ok (.iadd, 1) := fx_ok (d := 960) (i := 22) fDL_law_15 eL_law_982.1
theorem dL_law_983 : decode cL_law 983 = .ok (.iaload, 1) := fx_ok (d := 960) (i := 23) fDL_law_15 eL_law_982.2.1
theorem dL_law_984 : decode cL_law 984 = .ok (.ifCond .eq 7, 3) := fx_ok (d := 960) (i := 24) fDL_law_15 eL_law_982.2.2.1
theorem dL_law_987 : decode cL_law 987 = .ok (.iconst 1, 1) := fx_ok (d := 960) (i := 27) fDL_law_15 eL_law_982.2.2.2.1
theorem dL_law_988 : decode cL_law 988 = .ok (.goto 4, 3) := fx_ok (d := 960) (i := 28) fDL_law_15 eL_law_982.2.2.2.2.1
theorem dL_law_991 : decode cL_law 991 = .ok (.iconst 0, 1) := fx_ok (d := 960) (i := 31) fDL_law_15 eL_law_982.2.2.2.2.2.1
theorem dL_law_992 : decode cL_law 992 = .ok (.invokevirtual 204, 3) := fx_ok (d := 960) (i := 32) fDL_law_15 eL_law_982.2.2.2.2.2.2.1
theorem dL_law_995 : decode cL_law 995 = .ok (.istore 6, 2) := fx_ok (d := 960) (i := 35) fDL_law_15 eL_law_982.2.2.2.2.2.2.2.1
theorem dL_law_997 : decode cL_law 997 = .ok (.goto 1330, 3) := fx_ok (d := 960) (i := 37) fDL_law_15 eL_law_982.2.2.2.2.2.2.2.2.1
theorem dL_law_1000 : decode cL_law 1000 = .ok (.aload_n 1, 1) := fx_ok (d := 960) (i := 40) fDL_law_15 eL_law_982.2.2.2.2.2.2.2.2.2.1
theorem dL_law_1001 : decode cL_law 1001 = .ok (.aload_n 0, 1) := fx_ok (d := 960) (i := 41) fDL_law_15 eL_law_982.2.2.2.2.2.2.2.2.2.2.1
theorem dL_law_1002 : decode cL_law 1002 = .ok (.iload 4, 2) := fx_ok (d := 960) (i := 42) fDL_law_15 eL_law_982.2.2.2.2.2.2.2.2.2.2.2.1
theorem dL_law_1004 : decode cL_law 1004 = .ok (.iconst 1, 1) := fx_ok (d := 960) (i := 44) fDL_law_15 eL_law_982.2.2.2.2.2.2.2.2.2.2.2.2.1
theorem dL_law_1005 : decode cL_law 1005 = .ok (.iadd, 1) := fx_ok (d := 960) (i := 45) fDL_law_15 eL_law_982.2.2.2.2.2.2.2.2.2.2.2.2.2.1
theorem dL_law_1006 : decode cL_law 1006 = .ok (.iaload, 1) := fx_ok (d := 960) (i := 46) fDL_law_15 eL_law_982.2.2.2.2.2.2.2.2.2.2.2.2.2.2.1
theorem dL_law_1007 : decode cL_law 1007 = .ok (.aload_n 0, 1) := fx_ok (d := 960) (i := 47) fDL_law_15 eL_law_982.2.2.2.2.2.2.2.2.2.2.2.2.2.2.2
theorem eL_law_1008 : (fdecl fTL_law_15 48 = some (.iload 4, 2)) ∧ (fdecl fTL_law_15 50 = some (.iconst 2, 1)) ∧ (fdecl fTL_law_15 51 = some (.iadd, 1)) ∧ (fdecl fTL_law_15 52 = some (.iaload, 1)) ∧ (fdecl fTL_law_15 53 = some (.aload_n 0, 1)) ∧ (fdecl fTL_law_15 54 = some (.iload 4, 2)) ∧ (fdecl fTL_law_15 56 = some (.iconst 3, 1)) ∧ (fdecl fTL_law_15 57 = some (.iadd, 1)) ∧ (fdecl fTL_law_15 58 = some (.iaload, 1)) ∧ (fdecl fTL_law_15 59 = some (.ifCond .eq 7, 3)) ∧ (fdecl fTL_law_15 62 = some (.iconst 1, 1)) ∧ (fdecl fTL_law_15 63 = some (.goto 4, 3)) ∧ (fdecl fTL_law_16 2 = some (.iconst 0, 1)) ∧ (fdecl fTL_law_16 3 = some (.aload_n 3, 1)) ∧ (fdecl fTL_law_16 4 = some (.invokestatic 205, 3)) ∧ (fdecl fTL_law_16 7 = some (.istore 5, 2)) := by decide +kernel
theorem dL_law_1008 : decode cL_law 1008 = .ok (.iload 4, 2) := fx_ok (d := 960) (i := 48) fDL_law_15 eL_law_1008.1
theorem dL_law_1010 : decode cL_law 1010 = .ok (.iconst 2, 1) := fx_ok (d := 960) (i := 50) fDL_law_15 eL_law_1008.2.1
theorem dL_law_1011 : decode cL_law 1011 = .ok (.iadd, 1) := fx_ok (d := 960) (i := 51) fDL_law_15 eL_law_1008.2.2.1
theorem dL_law_1012 : decode cL_law 1012 = .ok (.iaload, 1) := fx_ok (d := 960) (i := 52) fDL_law_15 eL_law_1008.2.2.2.1
theorem dL_law_1013 : decode cL_law 1013 = .ok (.aload_n 0, 1) := fx_ok (d := 960) (i := 53) fDL_law_15 eL_law_1008.2.2.2.2.1
theorem dL_law_1014 : decode cL_law 1014 = .ok (.iload 4, 2) := fx_ok (d := 960) (i := 54) fDL_law_15 eL_law_1008.2.2.2.2.2.1
theorem dL_law_1016 : decode cL_law 1016 = .ok (.iconst 3, 1) := fx_ok (d := 960) (i := 56) fDL_law_15 eL_law_1008.2.2.2.2.2.2.1
theorem dL_law_1017 : decode cL_law 1017 = .ok (.iadd, 1) := fx_ok (d := 960) (i := 57) fDL_law_15 eL_law_1008.2.2.2.2.2.2.2.1
theorem dL_law_1018 : decode cL_law 1018 = .ok (.iaload, 1) := fx_ok (d := 960) (i := 58) fDL_law_15 eL_law_1008.2.2.2.2.2.2.2.2.1
theorem dL_law_1019 : decode cL_law 1019 = .ok (.ifCond .eq 7, 3) := fx_ok (d := 960) (i := 59) fDL_law_15 eL_law_1008.2.2.2.2.2.2.2.2.2.1
theorem dL_law_1022 : decode cL_law 1022 = .ok (.iconst 1, 1) := fx_ok (d := 960) (i := 62) fDL_law_15 eL_law_1008.2.2.2.2.2.2.2.2.2.2.1
theorem dL_law_1023 : decode cL_law 1023 = .ok (.goto 4, 3) := fx_ok (d := 960) (i := 63) fDL_law_15 eL_law_1008.2.2.2.2.2.2.2.2.2.2.2.1
theorem dL_law_1026 : decode cL_law 1026 = .ok (.iconst 0, 1) := fx_ok (d := 1024) (i := 2) fDL_law_16 eL_law_1008.2.2.2.2.2.2.2.2.2.2.2.2.1
theorem dL_law_1027 : decode cL_law 1027 = .ok (.aload_n 3, 1) := fx_ok (d := 1024) (i := 3) fDL_law_16 eL_law_1008.2.2.2.2.2.2.2.2.2.2.2.2.2.1
theorem dL_law_1028 : decode cL_law 1028 = .ok (.invokestatic 205, 3) := fx_ok (d := 1024) (i := 4) fDL_law_16 eL_law_1008.2.2.2.2.2.2.2.2.2.2.2.2.2.2.1
theorem dL_law_1031 : decode cL_law 1031 = .ok (.istore 5, 2) := fx_ok (d := 1024) (i := 7) fDL_law_16 eL_law_1008.2.2.2.2.2.2.2.2.2.2.2.2.2.2.2
theorem eL_law_1033 : (fdecl fTL_law_16 9 = some (.aload_n 2, 1)) ∧ (fdecl fTL_law_16 10 = some (.aload_n 0, 1)) ∧ (fdecl fTL_law_16 11 = some (.iload 4, 2)) ∧ (fdecl fTL_law_16 13 = some (.iconst 1, 1)) ∧ (fdecl fTL_law_16 14 = some (.iadd, 1)) ∧ (fdecl fTL_law_16 15 = some (.iaload, 1)) ∧ (fdecl fTL_law_16 16 = some (.aload_n 0, 1)) ∧ (fdecl fTL_law_16 17 = some (.iload 4, 2)) ∧ (fdecl fTL_law_16 19 = some (.iconst 2, 1)) ∧ (fdecl fTL_law_16 20 = some (.iadd, 1)) ∧ (fdecl fTL_law_16 21 = some (.iaload, 1)) ∧ (fdecl fTL_law_16 22 = some (.aload_n 0, 1)) ∧ (fdecl fTL_law_16 23 = some (.iload 4, 2)) ∧ (fdecl fTL_law_16 25 = some (.iconst 3, 1)) ∧ (fdecl fTL_law_16 26 = some (.iadd, 1)) ∧ (fdecl fTL_law_16 27 = some (.iaload, 1)) := by decide +kernel
theorem dL_law_1033 : decode cL_law 1033 = .ok (.aload_n 2, 1) := fx_ok (d := 1024) (i := 9) fDL_law_16 eL_law_1033.1
theorem dL_law_1034 : decode cL_law 1034 = .ok (.aload_n 0, 1) := fx_ok (d := 1024) (i := 10) fDL_law_16 eL_law_1033.2.1
theorem dL_law_1035 : decode cL_law 1035 = .ok (.iload 4, 2) := fx_ok (d := 1024) (i := 11) fDL_law_16 eL_law_1033.2.2.1
theorem dL_law_1037 : decode cL_law 1037 = .ok (.iconst 1, 1) := fx_ok (d := 1024) (i := 13) fDL_law_16 eL_law_1033.2.2.2.1
theorem dL_law_1038 : decode cL_law 1038 = .ok (.iadd, 1) := fx_ok (d := 1024) (i := 14) fDL_law_16 eL_law_1033.2.2.2.2.1
theorem dL_law_1039 : decode cL_law 1039 = .ok (.iaload, 1) := fx_ok (d := 1024) (i := 15) fDL_law_16 eL_law_1033.2.2.2.2.2.1
theorem dL_law_1040 : decode cL_law 1040 = .ok (.aload_n 0, 1) := fx_ok (d := 1024) (i := 16) fDL_law_16 eL_law_1033.2.2.2.2.2.2.1
theorem dL_law_1041 : decode cL_law 1041 = .ok (.iload 4, 2) := fx_ok (d := 1024) (i := 17) fDL_law_16 eL_law_1033.2.2.2.2.2.2.2.1
theorem dL_law_1043 : decode cL_law 1043 = .ok (.iconst 2, 1) := fx_ok (d := 1024) (i := 19) fDL_law_16 eL_law_1033.2.2.2.2.2.2.2.2.1
theorem dL_law_1044 : decode cL_law 1044 = .ok (.iadd, 1) := fx_ok (d := 1024) (i := 20) fDL_law_16 eL_law_1033.2.2.2.2.2.2.2.2.2.1
theorem dL_law_1045 : decode cL_law 1045 = .ok (.iaload, 1) := fx_ok (d := 1024) (i := 21) fDL_law_16 eL_law_1033.2.2.2.2.2.2.2.2.2.2.1
theorem dL_law_1046 : decode cL_law 1046 = .ok (.aload_n 0, 1) := fx_ok (d := 1024) (i := 22) fDL_law_16 eL_law_1033.2.2.2.2.2.2.2.2.2.2.2.1
theorem dL_law_1047 : decode cL_law 1047 = .ok (.iload 4, 2) := fx_ok (d := 1024) (i := 23) fDL_law_16 eL_law_1033.2.2.2.2.2.2.2.2.2.2.2.2.1
theorem dL_law_1049 : decode cL_law 1049 = .ok (.iconst 3, 1) := fx_ok (d := 1024) (i := 25) fDL_law_16 eL_law_1033.2.2.2.2.2.2.2.2.2.2.2.2.2.1
theorem dL_law_1050 : decode cL_law 1050 = .ok (.iadd, 1) := fx_ok (d := 1024) (i := 26) fDL_law_16 eL_law_1033.2.2.2.2.2.2.2.2.2.2.2.2.2.2.1
theorem dL_law_1051 : decode cL_law 1051 = .ok (.iaload, 1) := fx_ok (d := 1024) (i := 27) fDL_law_16 eL_law_1033.2.2.2.2.2.2.2.2.2.2.2.2.2.2.2
theorem eL_law_1052 : (fdecl fTL_law_16 28 = some (.ifCond .eq 7, 3)) ∧ (fdecl fTL_law_16 31 = some (.iconst 1, 1)) ∧ (fdecl fTL_law_16 32 = some (.goto 4, 3)) ∧ (fdecl fTL_law_16 35 = some (.iconst 0, 1)) ∧ (fdecl fTL_law_16 36 = some (.invokevirtual 207, 3)) ∧ (fdecl fTL_law_16 39 = some (.istore 6, 2)) ∧ (fdecl fTL_law_16 41 = some (.goto 1262, 3)) ∧ (fdecl fTL_law_16 44 = some (.aload_n 1, 1)) ∧ (fdecl fTL_law_16 45 = some (.aload_n 0, 1)) ∧ (fdecl fTL_law_16 46 = some (.iload 4, 2)) ∧ (fdecl fTL_law_16 48 = some (.iconst 1, 1)) ∧ (fdecl fTL_law_16 49 = some (.iadd, 1)) ∧ (fdecl fTL_law_16 50 = some (.iaload, 1)) ∧ (fdecl fTL_law_16 51 = some (.aload_n 0, 1)) ∧ (fdecl fTL_law_16 52 = some (.iload 4, 2)) ∧ (fdecl fTL_law_16 54 = some (.iconst 2, 1)) := by decide +kernel
theorem dL_law_1052 : decode cL_law 1052 = .ok (.ifCond .eq 7, 3) := fx_ok (d := 1024) (i := 28) fDL_law_16 eL_law_1052.1
theorem dL_law_1055 : decode cL_law 1055 = .ok (.iconst 1, 1) := fx_ok (d := 1024) (i := 31) fDL_law_16 eL_law_1052.2.1
theorem dL_law_1056 : decode cL_law 1056 = .ok (.goto 4, 3) := fx_ok (d := 1024) (i := 32) fDL_law_16 eL_law_1052.2.2.1
theorem dL_law_1059 : decode cL_law 1059 = .ok (.iconst 0, 1) := fx_ok (d := 1024) (i := 35) fDL_law_16 eL_law_1052.2.2.2.1
theorem dL_law_1060 : decode cL_law 1060 = .ok (.invokevirtual 207, 3) := fx_ok (d := 1024) (i := 36) fDL_law_16 eL_law_1052.2.2.2.2.1
theorem dL_law_1063 : decode cL_law 1063 = .ok (.istore 6, 2) := fx_ok (d := 1024) (i := 39) fDL_law_16 eL_law_1052.2.2.2.2.2.1
theorem dL_law_1065 : decode cL_law 1065 = .ok (.goto 1262, 3) := fx_ok (d := 1024) (i := 41) fDL_law_16 eL_law_1052.2.2.2.2.2.2.1
theorem dL_law_1068 : decode cL_law 1068 = .ok (.aload_n 1, 1) := fx_ok (d := 1024) (i := 44) fDL_law_16 eL_law_1052.2.2.2.2.2.2.2.1
theorem dL_law_1069 : decode cL_law 1069 = .ok (.aload_n 0, 1) := fx_ok (d := 1024) (i := 45) fDL_law_16 eL_law_1052.2.2.2.2.2.2.2.2.1
theorem dL_law_1070 : decode cL_law 1070 = .ok (.iload 4, 2) := fx_ok (d := 1024) (i := 46) fDL_law_16 eL_law_1052.2.2.2.2.2.2.2.2.2.1
theorem dL_law_1072 : decode cL_law 1072 = .ok (.iconst 1, 1) := fx_ok (d := 1024) (i := 48) fDL_law_16 eL_law_1052.2.2.2.2.2.2.2.2.2.2.1
theorem dL_law_1073 : decode cL_law 1073 = .ok (.iadd, 1) := fx_ok (d := 1024) (i := 49) fDL_law_16 eL_law_1052.2.2.2.2.2.2.2.2.2.2.2.1
theorem dL_law_1074 : decode cL_law 1074 = .ok (.iaload, 1) := fx_ok (d := 1024) (i := 50) fDL_law_16 eL_law_1052.2.2.2.2.2.2.2.2.2.2.2.2.1
theorem dL_law_1075 : decode cL_law 1075 = .ok (.aload_n 0, 1) := fx_ok (d := 1024) (i := 51) fDL_law_16 eL_law_1052.2.2.2.2.2.2.2.2.2.2.2.2.2.1
theorem dL_law_1076 : decode cL_law 1076 = .ok (.iload 4, 2) := fx_ok (d := 1024) (i := 52) fDL_law_16 eL_law_1052.2.2.2.2.2.2.2.2.2.2.2.2.2.2.1
theorem dL_law_1078 : decode cL_law 1078 = .ok (.iconst 2, 1) := fx_ok (d := 1024) (i := 54) fDL_law_16 eL_law_1052.2.2.2.2.2.2.2.2.2.2.2.2.2.2.2
theorem eL_law_1079 : (fdecl fTL_law_16 55 = some (.iadd, 1)) ∧ (fdecl fTL_law_16 56 = some (.iaload, 1)) ∧ (fdecl fTL_law_16 57 = some (.aload_n 3, 1)) ∧ (fdecl fTL_law_16 58 = some (.invokestatic 208, 3)) ∧ (fdecl fTL_law_16 61 = some (.istore 5, 2)) ∧ (fdecl fTL_law_16 63 = some (.aload_n 2, 1)) ∧ (fdecl fTL_law_17 0 = some (.aload_n 0, 1)) ∧ (fdecl fTL_law_17 1 = some (.iload 4, 2)) ∧ (fdecl fTL_law_17 3 = some (.iconst 1, 1)) ∧ (fdecl fTL_law_17 4 = some (.iadd, 1)) ∧ (fdecl fTL_law_17 5 = some (.iaload, 1)) ∧ (fdecl fTL_law_17 6 = some (.aload_n 0, 1)) ∧ (fdecl fTL_law_17 7 = some (.iload 4, 2)) ∧ (fdecl fTL_law_17 9 = some (.iconst 2, 1)) ∧ (fdecl fTL_law_17 10 = some (.iadd, 1)) ∧ (fdecl fTL_law_17 11 = some (.iaload, 1)) := by decide +kernel
theorem dL_law_1079 : decode cL_law 1079 = .ok (.iadd, 1) := fx_ok (d := 1024) (i := 55) fDL_law_16 eL_law_1079.1
theorem dL_law_1080 : decode cL_law 1080 = .ok (.iaload, 1) := fx_ok (d := 1024) (i := 56) fDL_law_16 eL_law_1079.2.1
theorem dL_law_1081 : decode cL_law 1081 = .ok (.aload_n 3, 1) := fx_ok (d := 1024) (i := 57) fDL_law_16 eL_law_1079.2.2.1
theorem dL_law_1082 : decode cL_law 1082 = .ok (.invokestatic 208, 3) := fx_ok (d := 1024) (i := 58) fDL_law_16 eL_law_1079.2.2.2.1
theorem dL_law_1085 : decode cL_law 1085 = .ok (.istore 5, 2) := fx_ok (d := 1024) (i := 61) fDL_law_16 eL_law_1079.2.2.2.2.1
theorem dL_law_1087 : decode cL_law 1087 = .ok (.aload_n 2, 1) := fx_ok (d := 1024) (i := 63) fDL_law_16 eL_law_1079.2.2.2.2.2.1
theorem dL_law_1088 : decode cL_law 1088 = .ok (.aload_n 0, 1) := fx_ok (d := 1088) (i := 0) fDL_law_17 eL_law_1079.2.2.2.2.2.2.1
theorem dL_law_1089 : decode cL_law 1089 = .ok (.iload 4, 2) := fx_ok (d := 1088) (i := 1) fDL_law_17 eL_law_1079.2.2.2.2.2.2.2.1
theorem dL_law_1091 : decode cL_law 1091 = .ok (.iconst 1, 1) := fx_ok (d := 1088) (i := 3) fDL_law_17 eL_law_1079.2.2.2.2.2.2.2.2.1
theorem dL_law_1092 : decode cL_law 1092 = .ok (.iadd, 1) := fx_ok (d := 1088) (i := 4) fDL_law_17 eL_law_1079.2.2.2.2.2.2.2.2.2.1
theorem dL_law_1093 : decode cL_law 1093 = .ok (.iaload, 1) := fx_ok (d := 1088) (i := 5) fDL_law_17 eL_law_1079.2.2.2.2.2.2.2.2.2.2.1
theorem dL_law_1094 : decode cL_law 1094 = .ok (.aload_n 0, 1) := fx_ok (d := 1088) (i := 6) fDL_law_17 eL_law_1079.2.2.2.2.2.2.2.2.2.2.2.1
theorem dL_law_1095 : decode cL_law 1095 = .ok (.iload 4, 2) := fx_ok (d := 1088) (i := 7) fDL_law_17 eL_law_1079.2.2.2.2.2.2.2.2.2.2.2.2.1
theorem dL_law_1097 : decode cL_law 1097 = .ok (.iconst 2, 1) := fx_ok (d := 1088) (i := 9) fDL_law_17 eL_law_1079.2.2.2.2.2.2.2.2.2.2.2.2.2.1
theorem dL_law_1098 : decode cL_law 1098 = .ok (.iadd, 1) := fx_ok (d := 1088) (i := 10) fDL_law_17 eL_law_1079.2.2.2.2.2.2.2.2.2.2.2.2.2.2.1
theorem dL_law_1099 : decode cL_law 1099 = .ok (.iaload, 1) := fx_ok (d := 1088) (i := 11) fDL_law_17 eL_law_1079.2.2.2.2.2.2.2.2.2.2.2.2.2.2.2
theorem eL_law_1100 : (fdecl fTL_law_17 12 = some (.invokevirtual 210, 3)) ∧ (fdecl fTL_law_17 15 = some (.istore 6, 2)) ∧ (fdecl fTL_law_17 17 = some (.goto 1222, 3)) ∧ (fdecl fTL_law_17 20 = some (.aload_n 1, 1)) ∧ (fdecl fTL_law_17 21 = some (.aload_n 0, 1)) ∧ (fdecl fTL_law_17 22 = some (.iload 4, 2)) ∧ (fdecl fTL_law_17 24 = some (.iconst 1, 1)) ∧ (fdecl fTL_law_17 25 = some (.iadd, 1)) ∧ (fdecl fTL_law_17 26 = some (.iaload, 1)) ∧ (fdecl fTL_law_17 27 = some (.aload_n 3, 1)) ∧ (fdecl fTL_law_17 28 = some (.invokestatic 211, 3)) ∧ (fdecl fTL_law_17 31 = some (.istore 5, 2)) ∧ (fdecl fTL_law_17 33 = some (.aload_n 2, 1)) ∧ (fdecl fTL_law_17 34 = some (.aload_n 0, 1)) ∧ (fdecl fTL_law_17 35 = some (.iload 4, 2)) ∧ (fdecl fTL_law_17 37 = some (.iconst 1, 1)) := by decide +kernel
theorem dL_law_1100 : decode cL_law 1100 = .ok (.invokevirtual 210, 3) := fx_ok (d := 1088) (i := 12) fDL_law_17 eL_law_1100.1
theorem dL_law_1103 : decode cL_law 1103 = .ok (.istore 6, 2) := fx_ok (d := 1088) (i := 15) fDL_law_17 eL_law_1100.2.1
theorem dL_law_1105 : decode cL_law 1105 = .ok (.goto 1222, 3) := fx_ok (d := 1088) (i := 17) fDL_law_17 eL_law_1100.2.2.1
theorem dL_law_1108 : decode cL_law 1108 = .ok (.aload_n 1, 1) := fx_ok (d := 1088) (i := 20) fDL_law_17 eL_law_1100.2.2.2.1
theorem dL_law_1109 : decode cL_law 1109 = .ok (.aload_n 0, 1) := fx_ok (d := 1088) (i := 21) fDL_law_17 eL_law_1100.2.2.2.2.1
theorem dL_law_1110 : decode cL_law 1110 = .ok (.iload 4, 2) := fx_ok (d := 1088) (i := 22) fDL_law_17 eL_law_1100.2.2.2.2.2.1
theorem dL_law_1112 : decode cL_law 1112 = .ok (.iconst 1, 1) := fx_ok (d := 1088) (i := 24) fDL_law_17 eL_law_1100.2.2.2.2.2.2.1
theorem dL_law_1113 : decode cL_law 1113 = .ok (.iadd, 1) := fx_ok (d := 1088) (i := 25) fDL_law_17 eL_law_1100.2.2.2.2.2.2.2.1
theorem dL_law_1114 : decode cL_law 1114 = .ok (.iaload, 1) := fx_ok (d := 1088) (i := 26) fDL_law_17 eL_law_1100.2.2.2.2.2.2.2.2.1
theorem dL_law_1115 : decode cL_law 1115 = .ok (.aload_n 3, 1) := fx_ok (d := 1088) (i := 27) fDL_law_17 eL_law_1100.2.2.2.2.2.2.2.2.2.1
theorem dL_law_1116 : decode cL_law 1116 = .ok (.invokestatic 211, 3) := fx_ok (d := 1088) (i := 28) fDL_law_17 eL_law_1100.2.2.2.2.2.2.2.2.2.2.1
theorem dL_law_1119 : decode cL_law 1119 = .ok (.istore 5, 2) := fx_ok (d := 1088) (i := 31) fDL_law_17 eL_law_1100.2.2.2.2.2.2.2.2.2.2.2.1
theorem dL_law_1121 : decode cL_law 1121 = .ok (.aload_n 2, 1) := fx_ok (d := 1088) (i := 33) fDL_law_17 eL_law_1100.2.2.2.2.2.2.2.2.2.2.2.2.1
theorem dL_law_1122 : decode cL_law 1122 = .ok (.aload_n 0, 1) := fx_ok (d := 1088) (i := 34) fDL_law_17 eL_law_1100.2.2.2.2.2.2.2.2.2.2.2.2.2.1
theorem dL_law_1123 : decode cL_law 1123 = .ok (.iload 4, 2) := fx_ok (d := 1088) (i := 35) fDL_law_17 eL_law_1100.2.2.2.2.2.2.2.2.2.2.2.2.2.2.1
theorem dL_law_1125 : decode cL_law 1125 = .ok (.iconst 1, 1) := fx_ok (d := 1088) (i := 37) fDL_law_17 eL_law_1100.2.2.2.2.2.2.2.2.2.2.2.2.2.2.2
theorem eL_law_1126 : (fdecl fTL_law_17 38 = some (.iadd, 1)) ∧ (fdecl fTL_law_17 39 = some (.iaload, 1)) ∧ (fdecl fTL_law_17 40 = some (.invokevirtual 214, 3)) ∧ (fdecl fTL_law_17 43 = some (.astore 6, 2)) ∧ (fdecl fTL_law_17 45 = some (.goto 1194, 3)) ∧ (fdecl fTL_law_17 48 = some (.aload_n 1, 1)) ∧ (fdecl fTL_law_17 49 = some (.aload_n 0, 1)) ∧ (fdecl fTL_law_17 50 = some (.iload 4, 2)) ∧ (fdecl fTL_law_17 52 = some (.iconst 1, 1)) ∧ (fdecl fTL_law_17 53 = some (.iadd, 1)) ∧ (fdecl fTL_law_17 54 = some (.iaload, 1)) ∧ (fdecl fTL_law_17 55 = some (.aload_n 0, 1)) ∧ (fdecl fTL_law_17 56 = some (.iload 4, 2)) ∧ (fdecl fTL_law_17 58 = some (.iconst 2, 1)) ∧ (fdecl fTL_law_17 59 = some (.iadd, 1)) ∧ (fdecl fTL_law_17 60 = some (.iaload, 1)) := by decide +kernel
theorem dL_law_1126 : decode cL_law 1126 = .ok (.iadd, 1) := fx_ok (d := 1088) (i := 38) fDL_law_17 eL_law_1126.1
theorem dL_law_1127 : decode cL_law 1127 = .ok (.iaload, 1) := fx_ok (d := 1088) (i := 39) fDL_law_17 eL_law_1126.2.1
theorem dL_law_1128 : decode cL_law 1128 = .ok (.invokevirtual 214, 3) := fx_ok (d := 1088) (i := 40) fDL_law_17 eL_law_1126.2.2.1
theorem dL_law_1131 : decode cL_law 1131 = .ok (.astore 6, 2) := fx_ok (d := 1088) (i := 43) fDL_law_17 eL_law_1126.2.2.2.1
theorem dL_law_1133 : decode cL_law 1133 = .ok (.goto 1194, 3) := fx_ok (d := 1088) (i := 45) fDL_law_17 eL_law_1126.2.2.2.2.1
theorem dL_law_1136 : decode cL_law 1136 = .ok (.aload_n 1, 1) := fx_ok (d := 1088) (i := 48) fDL_law_17 eL_law_1126.2.2.2.2.2.1
theorem dL_law_1137 : decode cL_law 1137 = .ok (.aload_n 0, 1) := fx_ok (d := 1088) (i := 49) fDL_law_17 eL_law_1126.2.2.2.2.2.2.1
theorem dL_law_1138 : decode cL_law 1138 = .ok (.iload 4, 2) := fx_ok (d := 1088) (i := 50) fDL_law_17 eL_law_1126.2.2.2.2.2.2.2.1
theorem dL_law_1140 : decode cL_law 1140 = .ok (.iconst 1, 1) := fx_ok (d := 1088) (i := 52) fDL_law_17 eL_law_1126.2.2.2.2.2.2.2.2.1
theorem dL_law_1141 : decode cL_law 1141 = .ok (.iadd, 1) := fx_ok (d := 1088) (i := 53) fDL_law_17 eL_law_1126.2.2.2.2.2.2.2.2.2.1
theorem dL_law_1142 : decode cL_law 1142 = .ok (.iaload, 1) := fx_ok (d := 1088) (i := 54) fDL_law_17 eL_law_1126.2.2.2.2.2.2.2.2.2.2.1
theorem dL_law_1143 : decode cL_law 1143 = .ok (.aload_n 0, 1) := fx_ok (d := 1088) (i := 55) fDL_law_17 eL_law_1126.2.2.2.2.2.2.2.2.2.2.2.1
theorem dL_law_1144 : decode cL_law 1144 = .ok (.iload 4, 2) := fx_ok (d := 1088) (i := 56) fDL_law_17 eL_law_1126.2.2.2.2.2.2.2.2.2.2.2.2.1
theorem dL_law_1146 : decode cL_law 1146 = .ok (.iconst 2, 1) := fx_ok (d := 1088) (i := 58) fDL_law_17 eL_law_1126.2.2.2.2.2.2.2.2.2.2.2.2.2.1
theorem dL_law_1147 : decode cL_law 1147 = .ok (.iadd, 1) := fx_ok (d := 1088) (i := 59) fDL_law_17 eL_law_1126.2.2.2.2.2.2.2.2.2.2.2.2.2.2.1
theorem dL_law_1148 : decode cL_law 1148 = .ok (.iaload, 1) := fx_ok (d := 1088) (i := 60) fDL_law_17 eL_law_1126.2.2.2.2.2.2.2.2.2.2.2.2.2.2.2
theorem eL_law_1149 : (fdecl fTL_law_17 61 = some (.aload_n 3, 1)) ∧ (fdecl fTL_law_17 62 = some (.invokestatic 215, 3)) ∧ (fdecl fTL_law_18 1 = some (.istore 5, 2)) ∧ (fdecl fTL_law_18 3 = some (.aload_n 2, 1)) ∧ (fdecl fTL_law_18 4 = some (.aload_n 0, 1)) ∧ (fdecl fTL_law_18 5 = some (.iload 4, 2)) ∧ (fdecl fTL_law_18 7 = some (.iconst 1, 1)) ∧ (fdecl fTL_law_18 8 = some (.iadd, 1)) ∧ (fdecl fTL_law_18 9 = some (.iaload, 1)) ∧ (fdecl fTL_law_18 10 = some (.aload_n 0, 1)) ∧ (fdecl fTL_law_18 11 = some (.iload 4, 2)) ∧ (fdecl fTL_law_18 13 = some (.iconst 2, 1)) ∧ (fdecl fTL_law_18 14 = some (.iadd, 1)) ∧ (fdecl fTL_law_18 15 = some (.iaload, 1)) ∧ (fdecl fTL_law_18 16 = some (.invokevirtual 217, 3)) ∧ (fdecl fTL_law_18 19 = some (.istore 6, 2)) := by decide +kernel
theorem dL_law_1149 : decode cL_law 1149 = .ok (.aload_n 3, 1) := fx_ok (d := 1088) (i := 61) fDL_law_17 eL_law_1149.1
theorem dL_law_1150 : decode cL_law 1150 = .ok (.invokestatic 215, 3) := fx_ok (d := 1088) (i := 62) fDL_law_17 eL_law_1149.2.1
theorem dL_law_1153 : decode cL_law 1153 = .ok (.istore 5, 2) := fx_ok (d := 1152) (i := 1) fDL_law_18 eL_law_1149.2.2.1
theorem dL_law_1155 : decode cL_law 1155 = .ok (.aload_n 2, 1) := fx_ok (d := 1152) (i := 3) fDL_law_18 eL_law_1149.2.2.2.1
theorem dL_law_1156 : decode cL_law 1156 = .ok (.aload_n 0, 1) := fx_ok (d := 1152) (i := 4) fDL_law_18 eL_law_1149.2.2.2.2.1
theorem dL_law_1157 : decode cL_law 1157 = .ok (.iload 4, 2) := fx_ok (d := 1152) (i := 5) fDL_law_18 eL_law_1149.2.2.2.2.2.1
theorem dL_law_1159 : decode cL_law 1159 = .ok (.iconst 1, 1) := fx_ok (d := 1152) (i := 7) fDL_law_18 eL_law_1149.2.2.2.2.2.2.1
theorem dL_law_1160 : decode cL_law 1160 = .ok (.iadd, 1) := fx_ok (d := 1152) (i := 8) fDL_law_18 eL_law_1149.2.2.2.2.2.2.2.1
theorem dL_law_1161 : decode cL_law 1161 = .ok (.iaload, 1) := fx_ok (d := 1152) (i := 9) fDL_law_18 eL_law_1149.2.2.2.2.2.2.2.2.1
theorem dL_law_1162 : decode cL_law 1162 = .ok (.aload_n 0, 1) := fx_ok (d := 1152) (i := 10) fDL_law_18 eL_law_1149.2.2.2.2.2.2.2.2.2.1
theorem dL_law_1163 : decode cL_law 1163 = .ok (.iload 4, 2) := fx_ok (d := 1152) (i := 11) fDL_law_18 eL_law_1149.2.2.2.2.2.2.2.2.2.2.1
theorem dL_law_1165 : decode cL_law 1165 = .ok (.iconst 2, 1) := fx_ok (d := 1152) (i := 13) fDL_law_18 eL_law_1149.2.2.2.2.2.2.2.2.2.2.2.1
theorem dL_law_1166 : decode cL_law 1166 = .ok (.iadd, 1) := fx_ok (d := 1152) (i := 14) fDL_law_18 eL_law_1149.2.2.2.2.2.2.2.2.2.2.2.2.1
theorem dL_law_1167 : decode cL_law 1167 = .ok (.iaload, 1) := fx_ok (d := 1152) (i := 15) fDL_law_18 eL_law_1149.2.2.2.2.2.2.2.2.2.2.2.2.2.1
theorem dL_law_1168 : decode cL_law 1168 = .ok (.invokevirtual 217, 3) := fx_ok (d := 1152) (i := 16) fDL_law_18 eL_law_1149.2.2.2.2.2.2.2.2.2.2.2.2.2.2.1
theorem dL_law_1171 : decode cL_law 1171 = .ok (.istore 6, 2) := fx_ok (d := 1152) (i := 19) fDL_law_18 eL_law_1149.2.2.2.2.2.2.2.2.2.2.2.2.2.2.2
theorem eL_law_1173 : (fdecl fTL_law_18 21 = some (.goto 1154, 3)) ∧ (fdecl fTL_law_18 24 = some (.aload_n 1, 1)) ∧ (fdecl fTL_law_18 25 = some (.aload_n 0, 1)) ∧ (fdecl fTL_law_18 26 = some (.iload 4, 2)) ∧ (fdecl fTL_law_18 28 = some (.iconst 1, 1)) ∧ (fdecl fTL_law_18 29 = some (.iadd, 1)) ∧ (fdecl fTL_law_18 30 = some (.iaload, 1)) ∧ (fdecl fTL_law_18 31 = some (.aload_n 0, 1)) ∧ (fdecl fTL_law_18 32 = some (.iload 4, 2)) ∧ (fdecl fTL_law_18 34 = some (.iconst 2, 1)) ∧ (fdecl fTL_law_18 35 = some (.iadd, 1)) ∧ (fdecl fTL_law_18 36 = some (.iaload, 1)) ∧ (fdecl fTL_law_18 37 = some (.aload_n 0, 1)) ∧ (fdecl fTL_law_18 38 = some (.iload 4, 2)) ∧ (fdecl fTL_law_18 40 = some (.iconst 3, 1)) ∧ (fdecl fTL_law_18 41 = some (.iadd, 1)) := by decide +kernel
theorem dL_law_1173 : decode cL_law 1173 = .ok (.goto 1154, 3) := fx_ok (d := 1152) (i := 21) fDL_law_18 eL_law_1173.1
theorem dL_law_1176 : decode cL_law 1176 = .ok (.aload_n 1, 1) := fx_ok (d := 1152) (i := 24) fDL_law_18 eL_law_1173.2.1
theorem dL_law_1177 : decode cL_law 1177 = .ok (.aload_n 0, 1) := fx_ok (d := 1152) (i := 25) fDL_law_18 eL_law_1173.2.2.1
theorem dL_law_1178 : decode cL_law 1178 = .ok (.iload 4, 2) := fx_ok (d := 1152) (i := 26) fDL_law_18 eL_law_1173.2.2.2.1
theorem dL_law_1180 : decode cL_law 1180 = .ok (.iconst 1, 1) := fx_ok (d := 1152) (i := 28) fDL_law_18 eL_law_1173.2.2.2.2.1
theorem dL_law_1181 : decode cL_law 1181 = .ok (.iadd, 1) := fx_ok (d := 1152) (i := 29) fDL_law_18 eL_law_1173.2.2.2.2.2.1
theorem dL_law_1182 : decode cL_law 1182 = .ok (.iaload, 1) := fx_ok (d := 1152) (i := 30) fDL_law_18 eL_law_1173.2.2.2.2.2.2.1
theorem dL_law_1183 : decode cL_law 1183 = .ok (.aload_n 0, 1) := fx_ok (d := 1152) (i := 31) fDL_law_18 eL_law_1173.2.2.2.2.2.2.2.1
theorem dL_law_1184 : decode cL_law 1184 = .ok (.iload 4, 2) := fx_ok (d := 1152) (i := 32) fDL_law_18 eL_law_1173.2.2.2.2.2.2.2.2.1
theorem dL_law_1186 : decode cL_law 1186 = .ok (.iconst 2, 1) := fx_ok (d := 1152) (i := 34) fDL_law_18 eL_law_1173.2.2.2.2.2.2.2.2.2.1
theorem dL_law_1187 : decode cL_law 1187 = .ok (.iadd, 1) := fx_ok (d := 1152) (i := 35) fDL_law_18 eL_law_1173.2.2.2.2.2.2.2.2.2.2.1
theorem dL_law_1188 : decode cL_law 1188 = .ok (.iaload, 1) := fx_ok (d := 1152) (i := 36) fDL_law_18 eL_law_1173.2.2.2.2.2.2.2.2.2.2.2.1
theorem dL_law_1189 : decode cL_law 1189 = .ok (.aload_n 0, 1) := fx_ok (d := 1152) (i := 37) fDL_law_18 eL_law_1173.2.2.2.2.2.2.2.2.2.2.2.2.1
theorem dL_law_1190 : decode cL_law 1190 = .ok (.iload 4, 2) := fx_ok (d := 1152) (i := 38) fDL_law_18 eL_law_1173.2.2.2.2.2.2.2.2.2.2.2.2.2.1
theorem dL_law_1192 : decode cL_law 1192 = .ok (.iconst 3, 1) := fx_ok (d := 1152) (i := 40) fDL_law_18 eL_law_1173.2.2.2.2.2.2.2.2.2.2.2.2.2.2.1
theorem dL_law_1193 : decode cL_law 1193 = .ok (.iadd, 1) := fx_ok (d := 1152) (i := 41) fDL_law_18 eL_law_1173.2.2.2.2.2.2.2.2.2.2.2.2.2.2.2
theorem eL_law_1194 : (fdecl fTL_law_18 42 = some (.iaload, 1)) ∧ (fdecl fTL_law_18 43 = some (.aload_n 0, 1)) ∧ (fdecl fTL_law_18 44 = some (.iload 4, 2)) ∧ (fdecl fTL_law_18 46 = some (.iconst 4, 1)) ∧ (fdecl fTL_law_18 47 = some (.iadd, 1)) ∧ (fdecl fTL_law_18 48 = some (.iaload, 1)) ∧ (fdecl fTL_law_18 49 = some (.aload_n 0, 1)) ∧ (fdecl fTL_law_18 50 = some (.iload 4, 2)) ∧ (fdecl fTL_law_18 52 = some (.iconst 5, 1)) ∧ (fdecl fTL_law_18 53 = some (.iadd, 1)) ∧ (fdecl fTL_law_18 54 = some (.iaload, 1)) ∧ (fdecl fTL_law_18 55 = some (.aload_n 0, 1)) ∧ (fdecl fTL_law_18 56 = some (.iload 4, 2)) ∧ (fdecl fTL_law_18 58 = some (.bipush 6, 2)) ∧ (fdecl fTL_law_18 60 = some (.iadd, 1)) ∧ (fdecl fTL_law_18 61 = some (.iaload, 1)) := by decide +kernel
theorem dL_law_1194 : decode cL_law 1194 = .ok (.iaload, 1) := fx_ok (d := 1152) (i := 42) fDL_law_18 eL_law_1194.1
theorem dL_law_1195 : decode cL_law 1195 = .ok (.aload_n 0, 1) := fx_ok (d := 1152) (i := 43) fDL_law_18 eL_law_1194.2.1
theorem dL_law_1196 : decode cL_law 1196 = .ok (.iload 4, 2) := fx_ok (d := 1152) (i := 44) fDL_law_18 eL_law_1194.2.2.1
theorem dL_law_1198 : decode cL_law 1198 = .ok (.iconst 4, 1) := fx_ok (d := 1152) (i := 46) fDL_law_18 eL_law_1194.2.2.2.1
theorem dL_law_1199 : decode cL_law 1199 = .ok (.iadd, 1) := fx_ok (d := 1152) (i := 47) fDL_law_18 eL_law_1194.2.2.2.2.1
theorem dL_law_1200 : decode cL_law 1200 = .ok (.iaload, 1) := fx_ok (d := 1152) (i := 48) fDL_law_18 eL_law_1194.2.2.2.2.2.1
theorem dL_law_1201 : decode cL_law 1201 = .ok (.aload_n 0, 1) := fx_ok (d := 1152) (i := 49) fDL_law_18 eL_law_1194.2.2.2.2.2.2.1
theorem dL_law_1202 : decode cL_law 1202 = .ok (.iload 4, 2) := fx_ok (d := 1152) (i := 50) fDL_law_18 eL_law_1194.2.2.2.2.2.2.2.1
theorem dL_law_1204 : decode cL_law 1204 = .ok (.iconst 5, 1) := fx_ok (d := 1152) (i := 52) fDL_law_18 eL_law_1194.2.2.2.2.2.2.2.2.1
theorem dL_law_1205 : decode cL_law 1205 = .ok (.iadd, 1) := fx_ok (d := 1152) (i := 53) fDL_law_18 eL_law_1194.2.2.2.2.2.2.2.2.2.1
theorem dL_law_1206 : decode cL_law 1206 = .ok (.iaload, 1) := fx_ok (d := 1152) (i := 54) fDL_law_18 eL_law_1194.2.2.2.2.2.2.2.2.2.2.1
theorem dL_law_1207 : decode cL_law 1207 = .ok (.aload_n 0, 1) := fx_ok (d := 1152) (i := 55) fDL_law_18 eL_law_1194.2.2.2.2.2.2.2.2.2.2.2.1
theorem dL_law_1208 : decode cL_law 1208 = .ok (.iload 4, 2) := fx_ok (d := 1152) (i := 56) fDL_law_18 eL_law_1194.2.2.2.2.2.2.2.2.2.2.2.2.1
theorem dL_law_1210 : decode cL_law 1210 = .ok (.bipush 6, 2) := fx_ok (d := 1152) (i := 58) fDL_law_18 eL_law_1194.2.2.2.2.2.2.2.2.2.2.2.2.2.1
theorem dL_law_1212 : decode cL_law 1212 = .ok (.iadd, 1) := fx_ok (d := 1152) (i := 60) fDL_law_18 eL_law_1194.2.2.2.2.2.2.2.2.2.2.2.2.2.2.1
theorem dL_law_1213 : decode cL_law 1213 = .ok (.iaload, 1) := fx_ok (d := 1152) (i := 61) fDL_law_18 eL_law_1194.2.2.2.2.2.2.2.2.2.2.2.2.2.2.2
theorem eL_law_1214 : (fdecl fTL_law_18 62 = some (.aload_n 3, 1)) ∧ (fdecl fTL_law_18 63 = some (.invokestatic 218, 3)) ∧ (fdecl fTL_law_19 2 = some (.istore 5, 2)) ∧ (fdecl fTL_law_19 4 = some (.aload_n 2, 1)) ∧ (fdecl fTL_law_19 5 = some (.aload_n 0, 1)) ∧ (fdecl fTL_law_19 6 = some (.iload 4, 2)) ∧ (fdecl fTL_law_19 8 = some (.iconst 1, 1)) ∧ (fdecl fTL_law_19 9 = some (.iadd, 1)) ∧ (fdecl fTL_law_19 10 = some (.iaload, 1)) ∧ (fdecl fTL_law_19 11 = some (.aload_n 0, 1)) ∧ (fdecl fTL_law_19 12 = some (.iload 4, 2)) ∧ (fdecl fTL_law_19 14 = some (.iconst 2, 1)) ∧ (fdecl fTL_law_19 15 = some (.iadd, 1)) ∧ (fdecl fTL_law_19 16 = some (.iaload, 1)) ∧ (fdecl fTL_law_19 17 = some (.aload_n 0, 1)) ∧ (fdecl fTL_law_19 18 = some (.iload 4, 2)) := by decide +kernel
theorem dL_law_1214 : decode cL_law 1214 = .ok (.aload_n 3, 1) := fx_ok (d := 1152) (i := 62) fDL_law_18 eL_law_1214.1
theorem dL_law_1215 : decode cL_law 1215 = .ok (.invokestatic 218, 3) := fx_ok (d := 1152) (i := 63) fDL_law_18 eL_law_1214.2.1
theorem dL_law_1218 : decode cL_law 1218 = .ok (.istore 5, 2) := fx_ok (d := 1216) (i := 2) fDL_law_19 eL_law_1214.2.2.1
theorem dL_law_1220 : decode cL_law 1220 = .ok (.aload_n 2, 1) := fx_ok (d := 1216) (i := 4) fDL_law_19 eL_law_1214.2.2.2.1
theorem dL_law_1221 : decode cL_law 1221 = .ok (.aload_n 0, 1) := fx_ok (d := 1216) (i := 5) fDL_law_19 eL_law_1214.2.2.2.2.1
theorem dL_law_1222 : decode cL_law 1222 = .ok (.iload 4, 2) := fx_ok (d := 1216) (i := 6) fDL_law_19 eL_law_1214.2.2.2.2.2.1
theorem dL_law_1224 : decode cL_law 1224 = .ok (.iconst 1, 1) := fx_ok (d := 1216) (i := 8) fDL_law_19 eL_law_1214.2.2.2.2.2.2.1
theorem dL_law_1225 : decode cL_law 1225 = .ok (.iadd, 1) := fx_ok (d := 1216) (i := 9) fDL_law_19 eL_law_1214.2.2.2.2.2.2.2.1
theorem dL_law_1226 : decode cL_law 1226 = .ok (.iaload, 1) := fx_ok (d := 1216) (i := 10) fDL_law_19 eL_law_1214.2.2.2.2.2.2.2.2.1
theorem dL_law_1227 : decode cL_law 1227 = .ok (.aload_n 0, 1) := fx_ok (d := 1216) (i := 11) fDL_law_19 eL_law_1214.2.2.2.2.2.2.2.2.2.1
theorem dL_law_1228 : decode cL_law 1228 = .ok (.iload 4, 2) := fx_ok (d := 1216) (i := 12) fDL_law_19 eL_law_1214.2.2.2.2.2.2.2.2.2.2.1
theorem dL_law_1230 : decode cL_law 1230 = .ok (.iconst 2, 1) := fx_ok (d := 1216) (i := 14) fDL_law_19 eL_law_1214.2.2.2.2.2.2.2.2.2.2.2.1
theorem dL_law_1231 : decode cL_law 1231 = .ok (.iadd, 1) := fx_ok (d := 1216) (i := 15) fDL_law_19 eL_law_1214.2.2.2.2.2.2.2.2.2.2.2.2.1
theorem dL_law_1232 : decode cL_law 1232 = .ok (.iaload, 1) := fx_ok (d := 1216) (i := 16) fDL_law_19 eL_law_1214.2.2.2.2.2.2.2.2.2.2.2.2.2.1
theorem dL_law_1233 : decode cL_law 1233 = .ok (.aload_n 0, 1) := fx_ok (d := 1216) (i := 17) fDL_law_19 eL_law_1214.2.2.2.2.2.2.2.2.2.2.2.2.2.2.1
theorem dL_law_1234 : decode cL_law 1234 = .ok (.iload 4, 2) := fx_ok (d := 1216) (i := 18) fDL_law_19 eL_law_1214.2.2.2.2.2.2.2.2.2.2.2.2.2.2.2
theorem eL_law_1236 : (fdecl fTL_law_19 20 = some (.iconst 3, 1)) ∧ (fdecl fTL_law_19 21 = some (.iadd, 1)) ∧ (fdecl fTL_law_19 22 = some (.iaload, 1)) ∧ (fdecl fTL_law_19 23 = some (.aload_n 0, 1)) ∧ (fdecl fTL_law_19 24 = some (.iload 4, 2)) ∧ (fdecl fTL_law_19 26 = some (.iconst 4, 1)) ∧ (fdecl fTL_law_19 27 = some (.iadd, 1)) ∧ (fdecl fTL_law_19 28 = some (.iaload, 1)) ∧ (fdecl fTL_law_19 29 = some (.aload_n 0, 1)) ∧ (fdecl fTL_law_19 30 = some (.iload 4, 2)) ∧ (fdecl fTL_law_19 32 = some (.iconst 5, 1)) ∧ (fdecl fTL_law_19 33 = some (.iadd, 1)) ∧ (fdecl fTL_law_19 34 = some (.iaload, 1)) ∧ (fdecl fTL_law_19 35 = some (.aload_n 0, 1)) ∧ (fdecl fTL_law_19 36 = some (.iload 4, 2)) ∧ (fdecl fTL_law_19 38 = some (.bipush 6, 2)) := by decide +kernel
theorem dL_law_1236 : decode cL_law 1236 = .ok (.iconst 3, 1) := fx_ok (d := 1216) (i := 20) fDL_law_19 eL_law_1236.1
theorem dL_law_1237 : decode cL_law 1237 = .ok (.iadd, 1) := fx_ok (d := 1216) (i := 21) fDL_law_19 eL_law_1236.2.1
theorem dL_law_1238 : decode cL_law 1238 = .ok (.iaload, 1) := fx_ok (d := 1216) (i := 22) fDL_law_19 eL_law_1236.2.2.1
theorem dL_law_1239 : decode cL_law 1239 = .ok (.aload_n 0, 1) := fx_ok (d := 1216) (i := 23) fDL_law_19 eL_law_1236.2.2.2.1
theorem dL_law_1240 : decode cL_law 1240 = .ok (.iload 4, 2) := fx_ok (d := 1216) (i := 24) fDL_law_19 eL_law_1236.2.2.2.2.1
theorem dL_law_1242 : decode cL_law 1242 = .ok (.iconst 4, 1) := fx_ok (d := 1216) (i := 26) fDL_law_19 eL_law_1236.2.2.2.2.2.1
theorem dL_law_1243 : decode cL_law 1243 = .ok (.iadd, 1) := fx_ok (d := 1216) (i := 27) fDL_law_19 eL_law_1236.2.2.2.2.2.2.1
theorem dL_law_1244 : decode cL_law 1244 = .ok (.iaload, 1) := fx_ok (d := 1216) (i := 28) fDL_law_19 eL_law_1236.2.2.2.2.2.2.2.1
theorem dL_law_1245 : decode cL_law 1245 = .ok (.aload_n 0, 1) := fx_ok (d := 1216) (i := 29) fDL_law_19 eL_law_1236.2.2.2.2.2.2.2.2.1
theorem dL_law_1246 : decode cL_law 1246 = .ok (.iload 4, 2) := fx_ok (d := 1216) (i := 30) fDL_law_19 eL_law_1236.2.2.2.2.2.2.2.2.2.1
theorem dL_law_1248 : decode cL_law 1248 = .ok (.iconst 5, 1) := fx_ok (d := 1216) (i := 32) fDL_law_19 eL_law_1236.2.2.2.2.2.2.2.2.2.2.1
theorem dL_law_1249 : decode cL_law 1249 = .ok (.iadd, 1) := fx_ok (d := 1216) (i := 33) fDL_law_19 eL_law_1236.2.2.2.2.2.2.2.2.2.2.2.1
theorem dL_law_1250 : decode cL_law 1250 = .ok (.iaload, 1) := fx_ok (d := 1216) (i := 34) fDL_law_19 eL_law_1236.2.2.2.2.2.2.2.2.2.2.2.2.1
theorem dL_law_1251 : decode cL_law 1251 = .ok (.aload_n 0, 1) := fx_ok (d := 1216) (i := 35) fDL_law_19 eL_law_1236.2.2.2.2.2.2.2.2.2.2.2.2.2.1
theorem dL_law_1252 : decode cL_law 1252 = .ok (.iload 4, 2) := fx_ok (d := 1216) (i := 36) fDL_law_19 eL_law_1236.2.2.2.2.2.2.2.2.2.2.2.2.2.2.1
theorem dL_law_1254 : decode cL_law 1254 = .ok (.bipush 6, 2) := fx_ok (d := 1216) (i := 38) fDL_law_19 eL_law_1236.2.2.2.2.2.2.2.2.2.2.2.2.2.2.2
theorem eL_law_1256 : (fdecl fTL_law_19 40 = some (.iadd, 1)) ∧ (fdecl fTL_law_19 41 = some (.iaload, 1)) ∧ (fdecl fTL_law_19 42 = some (.invokevirtual 221, 3)) ∧ (fdecl fTL_law_19 45 = some (.istore 6, 2)) ∧ (fdecl fTL_law_19 47 = some (.goto 1064, 3)) ∧ (fdecl fTL_law_19 50 = some (.aload_n 1, 1)) ∧ (fdecl fTL_law_19 51 = some (.aload_n 0, 1)) ∧ (fdecl fTL_law_19 52 = some (.iload 4, 2)) ∧ (fdecl fTL_law_19 54 = some (.iconst 1, 1)) ∧ (fdecl fTL_law_19 55 = some (.iadd, 1)) ∧ (fdecl fTL_law_19 56 = some (.iaload, 1)) ∧ (fdecl fTL_law_19 57 = some (.aload_n 0, 1)) ∧ (fdecl fTL_law_19 58 = some (.iload 4, 2)) ∧ (fdecl fTL_law_19 60 = some (.iconst 2, 1)) ∧ (fdecl fTL_law_19 61 = some (.iadd, 1)) ∧ (fdecl fTL_law_19 62 = some (.iaload, 1)) := by decide +kernel
theorem dL_law_1256 : decode cL_law 1256 = .ok (.iadd, 1) := fx_ok (d := 1216) (i := 40) fDL_law_19 eL_law_1256.1
theorem dL_law_1257 : decode cL_law 1257 = .ok (.iaload, 1) := fx_ok (d := 1216) (i := 41) fDL_law_19 eL_law_1256.2.1
theorem dL_law_1258 : decode cL_law 1258 = .ok (.invokevirtual 221, 3) := fx_ok (d := 1216) (i := 42) fDL_law_19 eL_law_1256.2.2.1
theorem dL_law_1261 : decode cL_law 1261 = .ok (.istore 6, 2) := fx_ok (d := 1216) (i := 45) fDL_law_19 eL_law_1256.2.2.2.1
theorem dL_law_1263 : decode cL_law 1263 = .ok (.goto 1064, 3) := fx_ok (d := 1216) (i := 47) fDL_law_19 eL_law_1256.2.2.2.2.1
theorem dL_law_1266 : decode cL_law 1266 = .ok (.aload_n 1, 1) := fx_ok (d := 1216) (i := 50) fDL_law_19 eL_law_1256.2.2.2.2.2.1
theorem dL_law_1267 : decode cL_law 1267 = .ok (.aload_n 0, 1) := fx_ok (d := 1216) (i := 51) fDL_law_19 eL_law_1256.2.2.2.2.2.2.1
theorem dL_law_1268 : decode cL_law 1268 = .ok (.iload 4, 2) := fx_ok (d := 1216) (i := 52) fDL_law_19 eL_law_1256.2.2.2.2.2.2.2.1
theorem dL_law_1270 : decode cL_law 1270 = .ok (.iconst 1, 1) := fx_ok (d := 1216) (i := 54) fDL_law_19 eL_law_1256.2.2.2.2.2.2.2.2.1
theorem dL_law_1271 : decode cL_law 1271 = .ok (.iadd, 1) := fx_ok (d := 1216) (i := 55) fDL_law_19 eL_law_1256.2.2.2.2.2.2.2.2.2.1
theorem dL_law_1272 : decode cL_law 1272 = .ok (.iaload, 1) := fx_ok (d := 1216) (i := 56) fDL_law_19 eL_law_1256.2.2.2.2.2.2.2.2.2.2.1
theorem dL_law_1273 : decode cL_law 1273 = .ok (.aload_n 0, 1) := fx_ok (d := 1216) (i := 57) fDL_law_19 eL_law_1256.2.2.2.2.2.2.2.2.2.2.2.1
theorem dL_law_1274 : decode cL_law 1274 = .ok (.iload 4, 2) := fx_ok (d := 1216) (i := 58) fDL_law_19 eL_law_1256.2.2.2.2.2.2.2.2.2.2.2.2.1
theorem dL_law_1276 : decode cL_law 1276 = .ok (.iconst 2, 1) := fx_ok (d := 1216) (i := 60) fDL_law_19 eL_law_1256.2.2.2.2.2.2.2.2.2.2.2.2.2.1
theorem dL_law_1277 : decode cL_law 1277 = .ok (.iadd, 1) := fx_ok (d := 1216) (i := 61) fDL_law_19 eL_law_1256.2.2.2.2.2.2.2.2.2.2.2.2.2.2.1
theorem dL_law_1278 : decode cL_law 1278 = .ok (.iaload, 1) := fx_ok (d := 1216) (i := 62) fDL_law_19 eL_law_1256.2.2.2.2.2.2.2.2.2.2.2.2.2.2.2
theorem eL_law_1279 : (fdecl fTL_law_19 63 = some (.aload_n 0, 1)) ∧ (fdecl fTL_law_20 0 = some (.iload 4, 2)) ∧ (fdecl fTL_law_20 2 = some (.iconst 3, 1)) ∧ (fdecl fTL_law_20 3 = some (.iadd, 1)) ∧ (fdecl fTL_law_20 4 = some (.iaload, 1)) ∧ (fdecl fTL_law_20 5 = some (.aload_n 0, 1)) ∧ (fdecl fTL_law_20 6 = some (.iload 4, 2)) ∧ (fdecl fTL_law_20 8 = some (.iconst 4, 1)) ∧ (fdecl fTL_law_20 9 = some (.iadd, 1)) ∧ (fdecl fTL_law_20 10 = some (.iaload, 1)) ∧ (fdecl fTL_law_20 11 = some (.aload_n 3, 1)) ∧ (fdecl fTL_law_20 12 = some (.invokestatic 222, 3)) ∧ (fdecl fTL_law_20 15 = some (.istore 5, 2)) ∧ (fdecl fTL_law_20 17 = some (.aload_n 2, 1)) ∧ (fdecl fTL_law_20 18 = some (.aload_n 0, 1)) ∧ (fdecl fTL_law_20 19 = some (.iload 4, 2)) := by decide +kernel
theorem dL_law_1279 : decode cL_law 1279 = .ok (.aload_n 0, 1) := fx_ok (d := 1216) (i := 63) fDL_law_19 eL_law_1279.1
theorem dL_law_1280 : decode cL_law 1280 = .ok (.iload 4, 2) := fx_ok (d := 1280) (i := 0) fDL_law_20 eL_law_1279.2.1
theorem dL_law_1282 : decode cL_law 1282 = .ok (.iconst 3, 1) := fx_ok (d := 1280) (i := 2) fDL_law_20 eL_law_1279.2.2.1
theorem dL_law_1283 : decode cL_law 1283 = .ok (.iadd, 1) := fx_ok (d := 1280) (i := 3) fDL_law_20 eL_law_1279.2.2.2.1
theorem dL_law_1284 : decode cL_law 1284 = .ok (.iaload, 1) := fx_ok (d := 1280) (i := 4) fDL_law_20 eL_law_1279.2.2.2.2.1
theorem dL_law_1285 : decode cL_law 1285 = .ok (.aload_n 0, 1) := fx_ok (d := 1280) (i := 5) fDL_law_20 eL_law_1279.2.2.2.2.2.1
theorem dL_law_1286 : decode cL_law 1286 = .ok (.iload 4, 2) := fx_ok (d := 1280) (i := 6) fDL_law_20 eL_law_1279.2.2.2.2.2.2.1
theorem dL_law_1288 : decode cL_law 1288 = .ok (.iconst 4, 1) := fx_ok (d := 1280) (i := 8) fDL_law_20 eL_law_1279.2.2.2.2.2.2.2.1
theorem dL_law_1289 : decode cL_law 1289 = .ok (.iadd, 1) := fx_ok (d := 1280) (i := 9) fDL_law_20 eL_law_1279.2.2.2.2.2.2.2.2.1
theorem dL_law_1290 : decode cL_law 1290 = .ok (.iaload, 1) := fx_ok (d := 1280) (i := 10) fDL_law_20 eL_law_1279.2.2.2.2.2.2.2.2.2.1
theorem dL_law_1291 : decode cL_law 1291 = .ok (.aload_n 3, 1) := fx_ok (d := 1280) (i := 11) fDL_law_20 eL_law_1279.2.2.2.2.2.2.2.2.2.2.1
theorem dL_law_1292 : decode cL_law 1292 = .ok (.invokestatic 222, 3) := fx_ok (d := 1280) (i := 12) fDL_law_20 eL_law_1279.2.2.2.2.2.2.2.2.2.2.2.1
theorem dL_law_1295 : decode cL_law 1295 = .ok (.istore 5, 2) := fx_ok (d := 1280) (i := 15) fDL_law_20 eL_law_1279.2.2.2.2.2.2.2.2.2.2.2.2.1
theorem dL_law_1297 : decode cL_law 1297 = .ok (.aload_n 2, 1) := fx_ok (d := 1280) (i := 17) fDL_law_20 eL_law_1279.2.2.2.2.2.2.2.2.2.2.2.2.2.1
theorem dL_law_1298 : decode cL_law 1298 = .ok (.aload_n 0, 1) := fx_ok (d := 1280) (i := 18) fDL_law_20 eL_law_1279.2.2.2.2.2.2.2.2.2.2.2.2.2.2.1
theorem dL_law_1299 : decode cL_law 1299 = .ok (.iload 4, 2) := fx_ok (d := 1280) (i := 19) fDL_law_20 eL_law_1279.2.2.2.2.2.2.2.2.2.2.2.2.2.2.2
theorem eL_law_1301 : (fdecl fTL_law_20 21 = some (.iconst 1, 1)) ∧ (fdecl fTL_law_20 22 = some (.iadd, 1)) ∧ (fdecl fTL_law_20 23 = some (.iaload, 1)) ∧ (fdecl fTL_law_20 24 = some (.aload_n 0, 1)) ∧ (fdecl fTL_law_20 25 = some (.iload 4, 2)) ∧ (fdecl fTL_law_20 27 = some (.iconst 2, 1)) ∧ (fdecl fTL_law_20 28 = some (.iadd, 1)) ∧ (fdecl fTL_law_20 29 = some (.iaload, 1)) ∧ (fdecl fTL_law_20 30 = some (.aload_n 0, 1)) ∧ (fdecl fTL_law_20 31 = some (.iload 4, 2)) ∧ (fdecl fTL_law_20 33 = some (.iconst 3, 1)) ∧ (fdecl fTL_law_20 34 = some (.iadd, 1)) ∧ (fdecl fTL_law_20 35 = some (.iaload, 1)) ∧ (fdecl fTL_law_20 36 = some (.aload_n 0, 1)) ∧ (fdecl fTL_law_20 37 = some (.iload 4, 2)) ∧ (fdecl fTL_law_20 39 = some (.iconst 4, 1)) := by decide +kernel
theorem dL_law_1301 : decode cL_law 1301 = .ok (.iconst 1, 1) := fx_ok (d := 1280) (i := 21) fDL_law_20 eL_law_1301.1
theorem dL_law_1302 : decode cL_law 1302 = .ok (.iadd, 1) := fx_ok (d := 1280) (i := 22) fDL_law_20 eL_law_1301.2.1
theorem dL_law_1303 : decode cL_law 1303 = .ok (.iaload, 1) := fx_ok (d := 1280) (i := 23) fDL_law_20 eL_law_1301.2.2.1
theorem dL_law_1304 : decode cL_law 1304 = .ok (.aload_n 0, 1) := fx_ok (d := 1280) (i := 24) fDL_law_20 eL_law_1301.2.2.2.1
theorem dL_law_1305 : decode cL_law 1305 = .ok (.iload 4, 2) := fx_ok (d := 1280) (i := 25) fDL_law_20 eL_law_1301.2.2.2.2.1
theorem dL_law_1307 : decode cL_law 1307 = .ok (.iconst 2, 1) := fx_ok (d := 1280) (i := 27) fDL_law_20 eL_law_1301.2.2.2.2.2.1
theorem dL_law_1308 : decode cL_law 1308 = .ok (.iadd, 1) := fx_ok (d := 1280) (i := 28) fDL_law_20 eL_law_1301.2.2.2.2.2.2.1
theorem dL_law_1309 : decode cL_law 1309 = .ok (.iaload, 1) := fx_ok (d := 1280) (i := 29) fDL_law_20 eL_law_1301.2.2.2.2.2.2.2.1
theorem dL_law_1310 : decode cL_law 1310 = .ok (.aload_n 0, 1) := fx_ok (d := 1280) (i := 30) fDL_law_20 eL_law_1301.2.2.2.2.2.2.2.2.1
theorem dL_law_1311 : decode cL_law 1311 = .ok (.iload 4, 2) := fx_ok (d := 1280) (i := 31) fDL_law_20 eL_law_1301.2.2.2.2.2.2.2.2.2.1
theorem dL_law_1313 : decode cL_law 1313 = .ok (.iconst 3, 1) := fx_ok (d := 1280) (i := 33) fDL_law_20 eL_law_1301.2.2.2.2.2.2.2.2.2.2.1
theorem dL_law_1314 : decode cL_law 1314 = .ok (.iadd, 1) := fx_ok (d := 1280) (i := 34) fDL_law_20 eL_law_1301.2.2.2.2.2.2.2.2.2.2.2.1
theorem dL_law_1315 : decode cL_law 1315 = .ok (.iaload, 1) := fx_ok (d := 1280) (i := 35) fDL_law_20 eL_law_1301.2.2.2.2.2.2.2.2.2.2.2.2.1
theorem dL_law_1316 : decode cL_law 1316 = .ok (.aload_n 0, 1) := fx_ok (d := 1280) (i := 36) fDL_law_20 eL_law_1301.2.2.2.2.2.2.2.2.2.2.2.2.2.1
theorem dL_law_1317 : decode cL_law 1317 = .ok (.iload 4, 2) := fx_ok (d := 1280) (i := 37) fDL_law_20 eL_law_1301.2.2.2.2.2.2.2.2.2.2.2.2.2.2.1
theorem dL_law_1319 : decode cL_law 1319 = .ok (.iconst 4, 1) := fx_ok (d := 1280) (i := 39) fDL_law_20 eL_law_1301.2.2.2.2.2.2.2.2.2.2.2.2.2.2.2
theorem eL_law_1320 : (fdecl fTL_law_20 40 = some (.iadd, 1)) ∧ (fdecl fTL_law_20 41 = some (.iaload, 1)) ∧ (fdecl fTL_law_20 42 = some (.invokevirtual 224, 3)) ∧ (fdecl fTL_law_20 45 = some (.istore 6, 2)) ∧ (fdecl fTL_law_20 47 = some (.goto 1000, 3)) ∧ (fdecl fTL_law_20 50 = some (.aload_n 1, 1)) ∧ (fdecl fTL_law_20 51 = some (.aload_n 0, 1)) ∧ (fdecl fTL_law_20 52 = some (.iload 4, 2)) ∧ (fdecl fTL_law_20 54 = some (.iconst 1, 1)) ∧ (fdecl fTL_law_20 55 = some (.iadd, 1)) ∧ (fdecl fTL_law_20 56 = some (.iaload, 1)) ∧ (fdecl fTL_law_20 57 = some (.aload_n 0, 1)) ∧ (fdecl fTL_law_20 58 = some (.iload 4, 2)) ∧ (fdecl fTL_law_20 60 = some (.iconst 2, 1)) ∧ (fdecl fTL_law_20 61 = some (.iadd, 1)) ∧ (fdecl fTL_law_20 62 = some (.iaload, 1)) := by decide +kernel
theorem dL_law_1320 : decode cL_law 1320 = .ok (.iadd, 1) := fx_ok (d := 1280) (i := 40) fDL_law_20 eL_law_1320.1
theorem dL_law_1321 : decode cL_law 1321 = .ok (.iaload, 1) := fx_ok (d := 1280) (i := 41) fDL_law_20 eL_law_1320.2.1
theorem dL_law_1322 : decode cL_law 1322 = .ok (.invokevirtual 224, 3) := fx_ok (d := 1280) (i := 42) fDL_law_20 eL_law_1320.2.2.1
theorem dL_law_1325 : decode cL_law 1325 = .ok (.istore 6, 2) := fx_ok (d := 1280) (i := 45) fDL_law_20 eL_law_1320.2.2.2.1
theorem dL_law_1327 : decode cL_law 1327 = .ok (.goto 1000, 3) := fx_ok (d := 1280) (i := 47) fDL_law_20 eL_law_1320.2.2.2.2.1
theorem dL_law_1330 : decode cL_law 1330 = .ok (.aload_n 1, 1) := fx_ok (d := 1280) (i := 50) fDL_law_20 eL_law_1320.2.2.2.2.2.1
theorem dL_law_1331 : decode cL_law 1331 = .ok (.aload_n 0, 1) := fx_ok (d := 1280) (i := 51) fDL_law_20 eL_law_1320.2.2.2.2.2.2.1
theorem dL_law_1332 : decode cL_law 1332 = .ok (.iload 4, 2) := fx_ok (d := 1280) (i := 52) fDL_law_20 eL_law_1320.2.2.2.2.2.2.2.1
theorem dL_law_1334 : decode cL_law 1334 = .ok (.iconst 1, 1) := fx_ok (d := 1280) (i := 54) fDL_law_20 eL_law_1320.2.2.2.2.2.2.2.2.1
theorem dL_law_1335 : decode cL_law 1335 = .ok (.iadd, 1) := fx_ok (d := 1280) (i := 55) fDL_law_20 eL_law_1320.2.2.2.2.2.2.2.2.2.1
theorem dL_law_1336 : decode cL_law 1336 = .ok (.iaload, 1) := fx_ok (d := 1280) (i := 56) fDL_law_20 eL_law_1320.2.2.2.2.2.2.2.2.2.2.1
theorem dL_law_1337 : decode cL_law 1337 = .ok (.aload_n 0, 1) := fx_ok (d := 1280) (i := 57) fDL_law_20 eL_law_1320.2.2.2.2.2.2.2.2.2.2.2.1
theorem dL_law_1338 : decode cL_law 1338 = .ok (.iload 4, 2) := fx_ok (d := 1280) (i := 58) fDL_law_20 eL_law_1320.2.2.2.2.2.2.2.2.2.2.2.2.1
theorem dL_law_1340 : decode cL_law 1340 = .ok (.iconst 2, 1) := fx_ok (d := 1280) (i := 60) fDL_law_20 eL_law_1320.2.2.2.2.2.2.2.2.2.2.2.2.2.1
theorem dL_law_1341 : decode cL_law 1341 = .ok (.iadd, 1) := fx_ok (d := 1280) (i := 61) fDL_law_20 eL_law_1320.2.2.2.2.2.2.2.2.2.2.2.2.2.2.1
theorem dL_law_1342 : decode cL_law 1342 = .ok (.iaload, 1) := fx_ok (d := 1280) (i := 62) fDL_law_20 eL_law_1320.2.2.2.2.2.2.2.2.2.2.2.2.2.2.2
theorem eL_law_1343 : (fdecl fTL_law_20 63 = some (.aload_n 0, 1)) ∧ (fdecl fTL_law_21 0 = some (.iload 4, 2)) ∧ (fdecl fTL_law_21 2 = some (.iconst 3, 1)) ∧ (fdecl fTL_law_21 3 = some (.iadd, 1)) ∧ (fdecl fTL_law_21 4 = some (.iaload, 1)) ∧ (fdecl fTL_law_21 5 = some (.aload_n 3, 1)) ∧ (fdecl fTL_law_21 6 = some (.invokestatic 225, 3)) ∧ (fdecl fTL_law_21 9 = some (.istore 5, 2)) ∧ (fdecl fTL_law_21 11 = some (.aload_n 2, 1)) ∧ (fdecl fTL_law_21 12 = some (.aload_n 0, 1)) ∧ (fdecl fTL_law_21 13 = some (.iload 4, 2)) ∧ (fdecl fTL_law_21 15 = some (.iconst 1, 1)) ∧ (fdecl fTL_law_21 16 = some (.iadd, 1)) ∧ (fdecl fTL_law_21 17 = some (.iaload, 1)) ∧ (fdecl fTL_law_21 18 = some (.aload_n 0, 1)) ∧ (fdecl fTL_law_21 19 = some (.iload 4, 2)) := by decide +kernel
theorem dL_law_1343 : decode cL_law 1343 = .ok (.aload_n 0, 1) := fx_ok (d := 1280) (i := 63) fDL_law_20 eL_law_1343.1
theorem dL_law_1344 : decode cL_law 1344 = .ok (.iload 4, 2) := fx_ok (d := 1344) (i := 0) fDL_law_21 eL_law_1343.2.1
theorem dL_law_1346 : decode cL_law 1346 = .ok (.iconst 3, 1) := fx_ok (d := 1344) (i := 2) fDL_law_21 eL_law_1343.2.2.1
theorem dL_law_1347 : decode cL_law 1347 = .ok (.iadd, 1) := fx_ok (d := 1344) (i := 3) fDL_law_21 eL_law_1343.2.2.2.1
theorem dL_law_1348 : decode cL_law 1348 = .ok (.iaload, 1) := fx_ok (d := 1344) (i := 4) fDL_law_21 eL_law_1343.2.2.2.2.1
theorem dL_law_1349 : decode cL_law 1349 = .ok (.aload_n 3, 1) := fx_ok (d := 1344) (i := 5) fDL_law_21 eL_law_1343.2.2.2.2.2.1
theorem dL_law_1350 : decode cL_law 1350 = .ok (.invokestatic 225, 3) := fx_ok (d := 1344) (i := 6) fDL_law_21 eL_law_1343.2.2.2.2.2.2.1
theorem dL_law_1353 : decode cL_law 1353 = .ok (.istore 5, 2) := fx_ok (d := 1344) (i := 9) fDL_law_21 eL_law_1343.2.2.2.2.2.2.2.1
theorem dL_law_1355 : decode cL_law 1355 = .ok (.aload_n 2, 1) := fx_ok (d := 1344) (i := 11) fDL_law_21 eL_law_1343.2.2.2.2.2.2.2.2.1
theorem dL_law_1356 : decode cL_law 1356 = .ok (.aload_n 0, 1) := fx_ok (d := 1344) (i := 12) fDL_law_21 eL_law_1343.2.2.2.2.2.2.2.2.2.1
theorem dL_law_1357 : decode cL_law 1357 = .ok (.iload 4, 2) := fx_ok (d := 1344) (i := 13) fDL_law_21 eL_law_1343.2.2.2.2.2.2.2.2.2.2.1
theorem dL_law_1359 : decode cL_law 1359 = .ok (.iconst 1, 1) := fx_ok (d := 1344) (i := 15) fDL_law_21 eL_law_1343.2.2.2.2.2.2.2.2.2.2.2.1
theorem dL_law_1360 : decode cL_law 1360 = .ok (.iadd, 1) := fx_ok (d := 1344) (i := 16) fDL_law_21 eL_law_1343.2.2.2.2.2.2.2.2.2.2.2.2.1
theorem dL_law_1361 : decode cL_law 1361 = .ok (.iaload, 1) := fx_ok (d := 1344) (i := 17) fDL_law_21 eL_law_1343.2.2.2.2.2.2.2.2.2.2.2.2.2.1
theorem dL_law_1362 : decode cL_law 1362 = .ok (.aload_n 0, 1) := fx_ok (d := 1344) (i := 18) fDL_law_21 eL_law_1343.2.2.2.2.2.2.2.2.2.2.2.2.2.2.1
theorem dL_law_1363 : decode cL_law 1363 = .ok (.iload 4, 2) := fx_ok (d := 1344) (i := 19) fDL_law_21 eL_law_1343.2.2.2.2.2.2.2.2.2.2.2.2.2.2.2
theorem eL_law_1365 : (fdecl fTL_law_21 21 = some (.iconst 2, 1)) ∧ (fdecl fTL_law_21 22 = some (.iadd, 1)) ∧ (fdecl fTL_law_21 23 = some (.iaload, 1)) ∧ (fdecl fTL_law_21 24 = some (.aload_n 0, 1)) ∧ (fdecl fTL_law_21 25 = some (.iload 4, 2)) ∧ (fdecl fTL_law_21 27 = some (.iconst 3, 1)) ∧ (fdecl fTL_law_21 28 = some (.iadd, 1)) ∧ (fdecl fTL_law_21 29 = some (.iaload, 1)) ∧ (fdecl fTL_law_21 30 = some (.invokevirtual 227, 3)) ∧ (fdecl fTL_law_21 33 = some (.istore 6, 2)) ∧ (fdecl fTL_law_21 35 = some (.goto 948, 3)) ∧ (fdecl fTL_law_21 38 = some (.aload_n 1, 1)) ∧ (fdecl fTL_law_21 39 = some (.aload_n 0, 1)) ∧ (fdecl fTL_law_21 40 = some (.iload 4, 2)) ∧ (fdecl fTL_law_21 42 = some (.iconst 1, 1)) ∧ (fdecl fTL_law_21 43 = some (.iadd, 1)) := by decide +kernel
theorem dL_law_1365 : decode cL_law 1365 = .ok (.iconst 2, 1) := fx_ok (d := 1344) (i := 21) fDL_law_21 eL_law_1365.1
theorem dL_law_1366 : decode cL_law 1366 = .ok (.iadd, 1) := fx_ok (d := 1344) (i := 22) fDL_law_21 eL_law_1365.2.1
theorem dL_law_1367 : decode cL_law 1367 = .ok (.iaload, 1) := fx_ok (d := 1344) (i := 23) fDL_law_21 eL_law_1365.2.2.1
theorem dL_law_1368 : decode cL_law 1368 = .ok (.aload_n 0, 1) := fx_ok (d := 1344) (i := 24) fDL_law_21 eL_law_1365.2.2.2.1
theorem dL_law_1369 : decode cL_law 1369 = .ok (.iload 4, 2) := fx_ok (d := 1344) (i := 25) fDL_law_21 eL_law_1365.2.2.2.2.1
theorem dL_law_1371 : decode cL_law 1371 = .ok (.iconst 3, 1) := fx_ok (d := 1344) (i := 27) fDL_law_21 eL_law_1365.2.2.2.2.2.1
theorem dL_law_1372 : decode cL_law 1372 = .ok (.iadd, 1) := fx_ok (d := 1344) (i := 28) fDL_law_21 eL_law_1365.2.2.2.2.2.2.1
theorem dL_law_1373 : decode cL_law 1373 = .ok (.iaload, 1) := fx_ok (d := 1344) (i := 29) fDL_law_21 eL_law_1365.2.2.2.2.2.2.2.1
theorem dL_law_1374 : decode cL_law 1374 = .ok (.invokevirtual 227, 3) := fx_ok (d := 1344) (i := 30) fDL_law_21 eL_law_1365.2.2.2.2.2.2.2.2.1
theorem dL_law_1377 : decode cL_law 1377 = .ok (.istore 6, 2) := fx_ok (d := 1344) (i := 33) fDL_law_21 eL_law_1365.2.2.2.2.2.2.2.2.2.1
theorem dL_law_1379 : decode cL_law 1379 = .ok (.goto 948, 3) := fx_ok (d := 1344) (i := 35) fDL_law_21 eL_law_1365.2.2.2.2.2.2.2.2.2.2.1
theorem dL_law_1382 : decode cL_law 1382 = .ok (.aload_n 1, 1) := fx_ok (d := 1344) (i := 38) fDL_law_21 eL_law_1365.2.2.2.2.2.2.2.2.2.2.2.1
theorem dL_law_1383 : decode cL_law 1383 = .ok (.aload_n 0, 1) := fx_ok (d := 1344) (i := 39) fDL_law_21 eL_law_1365.2.2.2.2.2.2.2.2.2.2.2.2.1
theorem dL_law_1384 : decode cL_law 1384 = .ok (.iload 4, 2) := fx_ok (d := 1344) (i := 40) fDL_law_21 eL_law_1365.2.2.2.2.2.2.2.2.2.2.2.2.2.1
theorem dL_law_1386 : decode cL_law 1386 = .ok (.iconst 1, 1) := fx_ok (d := 1344) (i := 42) fDL_law_21 eL_law_1365.2.2.2.2.2.2.2.2.2.2.2.2.2.2.1
theorem dL_law_1387 : decode cL_law 1387 = .ok (.iadd, 1) := fx_ok (d := 1344) (i := 43) fDL_law_21 eL_law_1365.2.2.2.2.2.2.2.2.2.2.2.2.2.2.2
theorem eL_law_1388 : (fdecl fTL_law_21 44 = some (.iaload, 1)) ∧ (fdecl fTL_law_21 45 = some (.aload_n 0, 1)) ∧ (fdecl fTL_law_21 46 = some (.iload 4, 2)) ∧ (fdecl fTL_law_21 48 = some (.iconst 2, 1)) ∧ (fdecl fTL_law_21 49 = some (.iadd, 1)) ∧ (fdecl fTL_law_21 50 = some (.iaload, 1)) ∧ (fdecl fTL_law_21 51 = some (.aload_n 0, 1)) ∧ (fdecl fTL_law_21 52 = some (.iload 4, 2)) ∧ (fdecl fTL_law_21 54 = some (.iconst 3, 1)) ∧ (fdecl fTL_law_21 55 = some (.iadd, 1)) ∧ (fdecl fTL_law_21 56 = some (.iaload, 1)) ∧ (fdecl fTL_law_21 57 = some (.aload_n 3, 1)) ∧ (fdecl fTL_law_21 58 = some (.invokestatic 228, 3)) ∧ (fdecl fTL_law_21 61 = some (.istore 5, 2)) ∧ (fdecl fTL_law_21 63 = some (.aload_n 2, 1)) ∧ (fdecl fTL_law_22 0 = some (.aload_n 0, 1)) := by decide +kernel
theorem dL_law_1388 : decode cL_law 1388 = .ok (.iaload, 1) := fx_ok (d := 1344) (i := 44) fDL_law_21 eL_law_1388.1
theorem dL_law_1389 : decode cL_law 1389 = .ok (.aload_n 0, 1) := fx_ok (d := 1344) (i := 45) fDL_law_21 eL_law_1388.2.1
theorem dL_law_1390 : decode cL_law 1390 = .ok (.iload 4, 2) := fx_ok (d := 1344) (i := 46) fDL_law_21 eL_law_1388.2.2.1
theorem dL_law_1392 : decode cL_law 1392 = .ok (.iconst 2, 1) := fx_ok (d := 1344) (i := 48) fDL_law_21 eL_law_1388.2.2.2.1
theorem dL_law_1393 : decode cL_law 1393 = .ok (.iadd, 1) := fx_ok (d := 1344) (i := 49) fDL_law_21 eL_law_1388.2.2.2.2.1
theorem dL_law_1394 : decode cL_law 1394 = .ok (.iaload, 1) := fx_ok (d := 1344) (i := 50) fDL_law_21 eL_law_1388.2.2.2.2.2.1
theorem dL_law_1395 : decode cL_law 1395 = .ok (.aload_n 0, 1) := fx_ok (d := 1344) (i := 51) fDL_law_21 eL_law_1388.2.2.2.2.2.2.1
theorem dL_law_1396 : decode cL_law 1396 = .ok (.iload 4, 2) := fx_ok (d := 1344) (i := 52) fDL_law_21 eL_law_1388.2.2.2.2.2.2.2.1
theorem dL_law_1398 : decode cL_law 1398 = .ok (.iconst 3, 1) := fx_ok (d := 1344) (i := 54) fDL_law_21 eL_law_1388.2.2.2.2.2.2.2.2.1
theorem dL_law_1399 : decode cL_law 1399 = .ok (.iadd, 1) := fx_ok (d := 1344) (i := 55) fDL_law_21 eL_law_1388.2.2.2.2.2.2.2.2.2.1
theorem dL_law_1400 : decode cL_law 1400 = .ok (.iaload, 1) := fx_ok (d := 1344) (i := 56) fDL_law_21 eL_law_1388.2.2.2.2.2.2.2.2.2.2.1
theorem dL_law_1401 : decode cL_law 1401 = .ok (.aload_n 3, 1) := fx_ok (d := 1344) (i := 57) fDL_law_21 eL_law_1388.2.2.2.2.2.2.2.2.2.2.2.1
theorem dL_law_1402 : decode cL_law 1402 = .ok (.invokestatic 228, 3) := fx_ok (d := 1344) (i := 58) fDL_law_21 eL_law_1388.2.2.2.2.2.2.2.2.2.2.2.2.1
theorem dL_law_1405 : decode cL_law 1405 = .ok (.istore 5, 2) := fx_ok (d := 1344) (i := 61) fDL_law_21 eL_law_1388.2.2.2.2.2.2.2.2.2.2.2.2.2.1
theorem dL_law_1407 : decode cL_law 1407 = .ok (.aload_n 2, 1) := fx_ok (d := 1344) (i := 63) fDL_law_21 eL_law_1388.2.2.2.2.2.2.2.2.2.2.2.2.2.2.1
theorem dL_law_1408 : decode cL_law 1408 = .ok (.aload_n 0, 1) := fx_ok (d := 1408) (i := 0) fDL_law_22 eL_law_1388.2.2.2.2.2.2.2.2.2.2.2.2.2.2.2
theorem eL_law_1409 : (fdecl fTL_law_22 1 = some (.iload 4, 2)) ∧ (fdecl fTL_law_22 3 = some (.iconst 1, 1)) ∧ (fdecl fTL_law_22 4 = some (.iadd, 1)) ∧ (fdecl fTL_law_22 5 = some (.iaload, 1)) ∧ (fdecl fTL_law_22 6 = some (.aload_n 0, 1)) ∧ (fdecl fTL_law_22 7 = some (.iload 4, 2)) ∧ (fdecl fTL_law_22 9 = some (.iconst 2, 1)) ∧ (fdecl fTL_law_22 10 = some (.iadd, 1)) ∧ (fdecl fTL_law_22 11 = some (.iaload, 1)) ∧ (fdecl fTL_law_22 12 = some (.aload_n 0, 1)) ∧ (fdecl fTL_law_22 13 = some (.iload 4, 2)) ∧ (fdecl fTL_law_22 15 = some (.iconst 3, 1)) ∧ (fdecl fTL_law_22 16 = some (.iadd, 1)) ∧ (fdecl fTL_law_22 17 = some (.iaload, 1)) ∧ (fdecl fTL_law_22 18 = some (.invokevirtual 230, 3)) ∧ (fdecl fTL_law_22 21 = some (.istore 6, 2)) := by decide +kernel
theorem dL_law_1409 : decode cL_law 1409 = .ok (.iload 4, 2) := fx_ok (d := 1408) (i := 1) fDL_law_22 eL_law_1409.1
theorem dL_law_1411 : decode cL_law 1411 = .ok (.iconst 1, 1) := fx_ok (d := 1408) (i := 3) fDL_law_22 eL_law_1409.2.1
theorem dL_law_1412 : decode cL_law 1412 = .ok (.iadd, 1) := fx_ok (d := 1408) (i := 4) fDL_law_22 eL_law_1409.2.2.1
theorem dL_law_1413 : decode cL_law 1413 = .ok (.iaload, 1) := fx_ok (d := 1408) (i := 5) fDL_law_22 eL_law_1409.2.2.2.1
theorem dL_law_1414 : decode cL_law 1414 = .ok (.aload_n 0, 1) := fx_ok (d := 1408) (i := 6) fDL_law_22 eL_law_1409.2.2.2.2.1
theorem dL_law_1415 : decode cL_law 1415 = .ok (.iload 4, 2) := fx_ok (d := 1408) (i := 7) fDL_law_22 eL_law_1409.2.2.2.2.2.1
theorem dL_law_1417 : decode cL_law 1417 = .ok (.iconst 2, 1) := fx_ok (d := 1408) (i := 9) fDL_law_22 eL_law_1409.2.2.2.2.2.2.1
theorem dL_law_1418 : decode cL_law 1418 = .ok (.iadd, 1) := fx_ok (d := 1408) (i := 10) fDL_law_22 eL_law_1409.2.2.2.2.2.2.2.1
theorem dL_law_1419 : decode cL_law 1419 = .ok (.iaload, 1) := fx_ok (d := 1408) (i := 11) fDL_law_22 eL_law_1409.2.2.2.2.2.2.2.2.1
theorem dL_law_1420 : decode cL_law 1420 = .ok (.aload_n 0, 1) := fx_ok (d := 1408) (i := 12) fDL_law_22 eL_law_1409.2.2.2.2.2.2.2.2.2.1
theorem dL_law_1421 : decode cL_law 1421 = .ok (.iload 4, 2) := fx_ok (d := 1408) (i := 13) fDL_law_22 eL_law_1409.2.2.2.2.2.2.2.2.2.2.1
theorem dL_law_1423 : decode cL_law 1423 = .ok (.iconst 3, 1) := fx_ok (d := 1408) (i := 15) fDL_law_22 eL_law_1409.2.2.2.2.2.2.2.2.2.2.2.1
theorem dL_law_1424 : decode cL_law 1424 = .ok (.iadd, 1) := fx_ok (d := 1408) (i := 16) fDL_law_22 eL_law_1409.2.2.2.2.2.2.2.2.2.2.2.2.1
theorem dL_law_1425 : decode cL_law 1425 = .ok (.iaload, 1) := fx_ok (d := 1408) (i := 17) fDL_law_22 eL_law_1409.2.2.2.2.2.2.2.2.2.2.2.2.2.1
theorem dL_law_1426 : decode cL_law 1426 = .ok (.invokevirtual 230, 3) := fx_ok (d := 1408) (i := 18) fDL_law_22 eL_law_1409.2.2.2.2.2.2.2.2.2.2.2.2.2.2.1
theorem dL_law_1429 : decode cL_law 1429 = .ok (.istore 6, 2) := fx_ok (d := 1408) (i := 21) fDL_law_22 eL_law_1409.2.2.2.2.2.2.2.2.2.2.2.2.2.2.2
theorem eL_law_1431 : (fdecl fTL_law_22 23 = some (.goto 896, 3)) ∧ (fdecl fTL_law_22 26 = some (.aload_n 1, 1)) ∧ (fdecl fTL_law_22 27 = some (.aload_n 0, 1)) ∧ (fdecl fTL_law_22 28 = some (.iload 4, 2)) ∧ (fdecl fTL_law_22 30 = some (.iconst 1, 1)) ∧ (fdecl fTL_law_22 31 = some (.iadd, 1)) ∧ (fdecl fTL_law_22 32 = some (.iaload, 1)) ∧ (fdecl fTL_law_22 33 = some (.aload_n 0, 1)) ∧ (fdecl fTL_law_22 34 = some (.iload 4, 2)) ∧ (fdecl fTL_law_22 36 = some (.iconst 2, 1)) ∧ (fdecl fTL_law_22 37 = some (.iadd, 1)) ∧ (fdecl fTL_law_22 38 = some (.iaload, 1)) ∧ (fdecl fTL_law_22 39 = some (.aload_n 3, 1)) ∧ (fdecl fTL_law_22 40 = some (.invokestatic 231, 3)) ∧ (fdecl fTL_law_22 43 = some (.istore 5, 2)) ∧ (fdecl fTL_law_22 45 = some (.aload_n 2, 1)) := by decide +kernel
theorem dL_law_1431 : decode cL_law 1431 = .ok (.goto 896, 3) := fx_ok (d := 1408) (i := 23) fDL_law_22 eL_law_1431.1
theorem dL_law_1434 : decode cL_law 1434 = .ok (.aload_n 1, 1) := fx_ok (d := 1408) (i := 26) fDL_law_22 eL_law_1431.2.1
theorem dL_law_1435 : decode cL_law 1435 = .ok (.aload_n 0, 1) := fx_ok (d := 1408) (i := 27) fDL_law_22 eL_law_1431.2.2.1
theorem dL_law_1436 : decode cL_law 1436 = .ok (.iload 4, 2) := fx_ok (d := 1408) (i := 28) fDL_law_22 eL_law_1431.2.2.2.1
theorem dL_law_1438 : decode cL_law 1438 = .ok (.iconst 1, 1) := fx_ok (d := 1408) (i := 30) fDL_law_22 eL_law_1431.2.2.2.2.1
theorem dL_law_1439 : decode cL_law 1439 = .ok (.iadd, 1) := fx_ok (d := 1408) (i := 31) fDL_law_22 eL_law_1431.2.2.2.2.2.1
theorem dL_law_1440 : decode cL_law 1440 = .ok (.iaload, 1) := fx_ok (d := 1408) (i := 32) fDL_law_22 eL_law_1431.2.2.2.2.2.2.1
theorem dL_law_1441 : decode cL_law 1441 = .ok (.aload_n 0, 1) := fx_ok (d := 1408) (i := 33) fDL_law_22 eL_law_1431.2.2.2.2.2.2.2.1
theorem dL_law_1442 : decode cL_law 1442 = .ok (.iload 4, 2) := fx_ok (d := 1408) (i := 34) fDL_law_22 eL_law_1431.2.2.2.2.2.2.2.2.1
theorem dL_law_1444 : decode cL_law 1444 = .ok (.iconst 2, 1) := fx_ok (d := 1408) (i := 36) fDL_law_22 eL_law_1431.2.2.2.2.2.2.2.2.2.1
theorem dL_law_1445 : decode cL_law 1445 = .ok (.iadd, 1) := fx_ok (d := 1408) (i := 37) fDL_law_22 eL_law_1431.2.2.2.2.2.2.2.2.2.2.1
theorem dL_law_1446 : decode cL_law 1446 = .ok (.iaload, 1) := fx_ok (d := 1408) (i := 38) fDL_law_22 eL_law_1431.2.2.2.2.2.2.2.2.2.2.2.1
theorem dL_law_1447 : decode cL_law 1447 = .ok (.aload_n 3, 1) := fx_ok (d := 1408) (i := 39) fDL_law_22 eL_law_1431.2.2.2.2.2.2.2.2.2.2.2.2.1
theorem dL_law_1448 : decode cL_law 1448 = .ok (.invokestatic 231, 3) := fx_ok (d := 1408) (i := 40) fDL_law_22 eL_law_1431.2.2.2.2.2.2.2.2.2.2.2.2.2.1
theorem dL_law_1451 : decode cL_law 1451 = .ok (.istore 5, 2) := fx_ok (d := 1408) (i := 43) fDL_law_22 eL_law_1431.2.2.2.2.2.2.2.2.2.2.2.2.2.2.1
theorem dL_law_1453 : decode cL_law 1453 = .ok (.aload_n 2, 1) := fx_ok (d := 1408) (i := 45) fDL_law_22 eL_law_1431.2.2.2.2.2.2.2.2.2.2.2.2.2.2.2
theorem eL_law_1454 : (fdecl fTL_law_22 46 = some (.aload_n 0, 1)) ∧ (fdecl fTL_law_22 47 = some (.iload 4, 2)) ∧ (fdecl fTL_law_22 49 = some (.iconst 1, 1)) ∧ (fdecl fTL_law_22 50 = some (.iadd, 1)) ∧ (fdecl fTL_law_22 51 = some (.iaload, 1)) ∧ (fdecl fTL_law_22 52 = some (.aload_n 0, 1)) ∧ (fdecl fTL_law_22 53 = some (.iload 4, 2)) ∧ (fdecl fTL_law_22 55 = some (.iconst 2, 1)) ∧ (fdecl fTL_law_22 56 = some (.iadd, 1)) ∧ (fdecl fTL_law_22 57 = some (.iaload, 1)) ∧ (fdecl fTL_law_22 58 = some (.invokevirtual 233, 3)) ∧ (fdecl fTL_law_22 61 = some (.istore 6, 2)) ∧ (fdecl fTL_law_22 63 = some (.goto 856, 3)) ∧ (fdecl fTL_law_23 2 = some (.aload_n 1, 1)) ∧ (fdecl fTL_law_23 3 = some (.aload_n 0, 1)) ∧ (fdecl fTL_law_23 4 = some (.iload 4, 2)) := by decide +kernel
theorem dL_law_1454 : decode cL_law 1454 = .ok (.aload_n 0, 1) := fx_ok (d := 1408) (i := 46) fDL_law_22 eL_law_1454.1
theorem dL_law_1455 : decode cL_law 1455 = .ok (.iload 4, 2) := fx_ok (d := 1408) (i := 47) fDL_law_22 eL_law_1454.2.1
theorem dL_law_1457 : decode cL_law 1457 = .ok (.iconst 1, 1) := fx_ok (d := 1408) (i := 49) fDL_law_22 eL_law_1454.2.2.1
theorem dL_law_1458 : decode cL_law 1458 = .ok (.iadd, 1) := fx_ok (d := 1408) (i := 50) fDL_law_22 eL_law_1454.2.2.2.1
theorem dL_law_1459 : decode cL_law 1459 = .ok (.iaload, 1) := fx_ok (d := 1408) (i := 51) fDL_law_22 eL_law_1454.2.2.2.2.1
theorem dL_law_1460 : decode cL_law 1460 = .ok (.aload_n 0, 1) := fx_ok (d := 1408) (i := 52) fDL_law_22 eL_law_1454.2.2.2.2.2.1
theorem dL_law_1461 : decode cL_law 1461 = .ok (.iload 4, 2) := fx_ok (d := 1408) (i := 53) fDL_law_22 eL_law_1454.2.2.2.2.2.2.1
theorem dL_law_1463 : decode cL_law 1463 = .ok (.iconst 2, 1) := fx_ok (d := 1408) (i := 55) fDL_law_22 eL_law_1454.2.2.2.2.2.2.2.1
theorem dL_law_1464 : decode cL_law 1464 = .ok (.iadd, 1) := fx_ok (d := 1408) (i := 56) fDL_law_22 eL_law_1454.2.2.2.2.2.2.2.2.1
theorem dL_law_1465 : decode cL_law 1465 = .ok (.iaload, 1) := fx_ok (d := 1408) (i := 57) fDL_law_22 eL_law_1454.2.2.2.2.2.2.2.2.2.1
theorem dL_law_1466 : decode cL_law 1466 = .ok (.invokevirtual 233, 3) := fx_ok (d := 1408) (i := 58) fDL_law_22 eL_law_1454.2.2.2.2.2.2.2.2.2.2.1
theorem dL_law_1469 : decode cL_law 1469 = .ok (.istore 6, 2) := fx_ok (d := 1408) (i := 61) fDL_law_22 eL_law_1454.2.2.2.2.2.2.2.2.2.2.2.1
theorem dL_law_1471 : decode cL_law 1471 = .ok (.goto 856, 3) := fx_ok (d := 1408) (i := 63) fDL_law_22 eL_law_1454.2.2.2.2.2.2.2.2.2.2.2.2.1
theorem dL_law_1474 : decode cL_law 1474 = .ok (.aload_n 1, 1) := fx_ok (d := 1472) (i := 2) fDL_law_23 eL_law_1454.2.2.2.2.2.2.2.2.2.2.2.2.2.1
theorem dL_law_1475 : decode cL_law 1475 = .ok (.aload_n 0, 1) := fx_ok (d := 1472) (i := 3) fDL_law_23 eL_law_1454.2.2.2.2.2.2.2.2.2.2.2.2.2.2.1
theorem dL_law_1476 : decode cL_law 1476 = .ok (.iload 4, 2) := fx_ok (d := 1472) (i := 4) fDL_law_23 eL_law_1454.2.2.2.2.2.2.2.2.2.2.2.2.2.2.2
theorem eL_law_1478 : (fdecl fTL_law_23 6 = some (.iconst 1, 1)) ∧ (fdecl fTL_law_23 7 = some (.iadd, 1)) ∧ (fdecl fTL_law_23 8 = some (.iaload, 1)) ∧ (fdecl fTL_law_23 9 = some (.aload_n 0, 1)) ∧ (fdecl fTL_law_23 10 = some (.iload 4, 2)) ∧ (fdecl fTL_law_23 12 = some (.iconst 2, 1)) ∧ (fdecl fTL_law_23 13 = some (.iadd, 1)) ∧ (fdecl fTL_law_23 14 = some (.iaload, 1)) ∧ (fdecl fTL_law_23 15 = some (.aload_n 3, 1)) ∧ (fdecl fTL_law_23 16 = some (.invokestatic 234, 3)) ∧ (fdecl fTL_law_23 19 = some (.istore 5, 2)) ∧ (fdecl fTL_law_23 21 = some (.aload_n 2, 1)) ∧ (fdecl fTL_law_23 22 = some (.aload_n 0, 1)) ∧ (fdecl fTL_law_23 23 = some (.iload 4, 2)) ∧ (fdecl fTL_law_23 25 = some (.iconst 1, 1)) ∧ (fdecl fTL_law_23 26 = some (.iadd, 1)) := by decide +kernel
theorem dL_law_1478 : decode cL_law 1478 = .ok (.iconst 1, 1) := fx_ok (d := 1472) (i := 6) fDL_law_23 eL_law_1478.1
theorem dL_law_1479 : decode cL_law 1479 = .ok (.iadd, 1) := fx_ok (d := 1472) (i := 7) fDL_law_23 eL_law_1478.2.1
theorem dL_law_1480 : decode cL_law 1480 = .ok (.iaload, 1) := fx_ok (d := 1472) (i := 8) fDL_law_23 eL_law_1478.2.2.1
theorem dL_law_1481 : decode cL_law 1481 = .ok (.aload_n 0, 1) := fx_ok (d := 1472) (i := 9) fDL_law_23 eL_law_1478.2.2.2.1
theorem dL_law_1482 : decode cL_law 1482 = .ok (.iload 4, 2) := fx_ok (d := 1472) (i := 10) fDL_law_23 eL_law_1478.2.2.2.2.1
theorem dL_law_1484 : decode cL_law 1484 = .ok (.iconst 2, 1) := fx_ok (d := 1472) (i := 12) fDL_law_23 eL_law_1478.2.2.2.2.2.1
theorem dL_law_1485 : decode cL_law 1485 = .ok (.iadd, 1) := fx_ok (d := 1472) (i := 13) fDL_law_23 eL_law_1478.2.2.2.2.2.2.1
theorem dL_law_1486 : decode cL_law 1486 = .ok (.iaload, 1) := fx_ok (d := 1472) (i := 14) fDL_law_23 eL_law_1478.2.2.2.2.2.2.2.1
theorem dL_law_1487 : decode cL_law 1487 = .ok (.aload_n 3, 1) := fx_ok (d := 1472) (i := 15) fDL_law_23 eL_law_1478.2.2.2.2.2.2.2.2.1
theorem dL_law_1488 : decode cL_law 1488 = .ok (.invokestatic 234, 3) := fx_ok (d := 1472) (i := 16) fDL_law_23 eL_law_1478.2.2.2.2.2.2.2.2.2.1
theorem dL_law_1491 : decode cL_law 1491 = .ok (.istore 5, 2) := fx_ok (d := 1472) (i := 19) fDL_law_23 eL_law_1478.2.2.2.2.2.2.2.2.2.2.1
theorem dL_law_1493 : decode cL_law 1493 = .ok (.aload_n 2, 1) := fx_ok (d := 1472) (i := 21) fDL_law_23 eL_law_1478.2.2.2.2.2.2.2.2.2.2.2.1
theorem dL_law_1494 : decode cL_law 1494 = .ok (.aload_n 0, 1) := fx_ok (d := 1472) (i := 22) fDL_law_23 eL_law_1478.2.2.2.2.2.2.2.2.2.2.2.2.1
theorem dL_law_1495 : decode cL_law 1495 = .ok (.iload 4, 2) := fx_ok (d := 1472) (i := 23) fDL_law_23 eL_law_1478.2.2.2.2.2.2.2.2.2.2.2.2.2.1
theorem dL_law_1497 : decode cL_law 1497 = .ok (.iconst 1, 1) := fx_ok (d := 1472) (i := 25) fDL_law_23 eL_law_1478.2.2.2.2.2.2.2.2.2.2.2.2.2.2.1
theorem dL_law_1498 : decode cL_law 1498 = .ok (.iadd, 1) := fx_ok (d := 1472) (i := 26) fDL_law_23 eL_law_1478.2.2.2.2.2.2.2.2.2.2.2.2.2.2.2
theorem eL_law_1499 : (fdecl fTL_law_23 27 = some (.iaload, 1)) ∧ (fdecl fTL_law_23 28 = some (.aload_n 0, 1)) ∧ (fdecl fTL_law_23 29 = some (.iload 4, 2)) ∧ (fdecl fTL_law_23 31 = some (.iconst 2, 1)) ∧ (fdecl fTL_law_23 32 = some (.iadd, 1)) ∧ (fdecl fTL_law_23 33 = some (.iaload, 1)) ∧ (fdecl fTL_law_23 34 = some (.invokevirtual 236, 3)) ∧ (fdecl fTL_law_23 37 = some (.istore 6, 2)) ∧ (fdecl fTL_law_23 39 = some (.goto 816, 3)) ∧ (fdecl fTL_law_23 42 = some (.aload_n 1, 1)) ∧ (fdecl fTL_law_23 43 = some (.aload_n 0, 1)) ∧ (fdecl fTL_law_23 44 = some (.iload 4, 2)) ∧ (fdecl fTL_law_23 46 = some (.iconst 1, 1)) ∧ (fdecl fTL_law_23 47 = some (.iadd, 1)) ∧ (fdecl fTL_law_23 48 = some (.iaload, 1)) ∧ (fdecl fTL_law_23 49 = some (.aload_n 0, 1)) := by decide +kernel
theorem dL_law_1499 : decode cL_law 1499 = .ok (.iaload, 1) := fx_ok (d := 1472) (i := 27) fDL_law_23 eL_law_1499.1
theorem dL_law_1500 : decode cL_law 1500 = .ok (.aload_n 0, 1) := fx_ok (d := 1472) (i := 28) fDL_law_23 eL_law_1499.2.1
theorem dL_law_1501 : decode cL_law 1501 = .ok (.iload 4, 2) := fx_ok (d := 1472) (i := 29) fDL_law_23 eL_law_1499.2.2.1
theorem dL_law_1503 : decode cL_law 1503 = .ok (.iconst 2, 1) := fx_ok (d := 1472) (i := 31) fDL_law_23 eL_law_1499.2.2.2.1
theorem dL_law_1504 : decode cL_law 1504 = .ok (.iadd, 1) := fx_ok (d := 1472) (i := 32) fDL_law_23 eL_law_1499.2.2.2.2.1
theorem dL_law_1505 : decode cL_law 1505 = .ok (.iaload, 1) := fx_ok (d := 1472) (i := 33) fDL_law_23 eL_law_1499.2.2.2.2.2.1
theorem dL_law_1506 : decode cL_law 1506 = .ok (.invokevirtual 236, 3) := fx_ok (d := 1472) (i := 34) fDL_law_23 eL_law_1499.2.2.2.2.2.2.1
theorem dL_law_1509 : decode cL_law 1509 = .ok (.istore 6, 2) := fx_ok (d := 1472) (i := 37) fDL_law_23 eL_law_1499.2.2.2.2.2.2.2.1
theorem dL_law_1511 : decode cL_law 1511 = .ok (.goto 816, 3) := fx_ok (d := 1472) (i := 39) fDL_law_23 eL_law_1499.2.2.2.2.2.2.2.2.1
theorem dL_law_1514 : decode cL_law 1514 = .ok (.aload_n 1, 1) := fx_ok (d := 1472) (i := 42) fDL_law_23 eL_law_1499.2.2.2.2.2.2.2.2.2.1
theorem dL_law_1515 : decode cL_law 1515 = .ok (.aload_n 0, 1) := fx_ok (d := 1472) (i := 43) fDL_law_23 eL_law_1499.2.2.2.2.2.2.2.2.2.2.1
theorem dL_law_1516 : decode cL_law 1516 = .ok (.iload 4, 2) := fx_ok (d := 1472) (i := 44) fDL_law_23 eL_law_1499.2.2.2.2.2.2.2.2.2.2.2.1
theorem dL_law_1518 : decode cL_law 1518 = .ok (.iconst 1, 1) := fx_ok (d := 1472) (i := 46) fDL_law_23 eL_law_1499.2.2.2.2.2.2.2.2.2.2.2.2.1
theorem dL_law_1519 : decode cL_law 1519 = .ok (.iadd, 1) := fx_ok (d := 1472) (i := 47) fDL_law_23 eL_law_1499.2.2.2.2.2.2.2.2.2.2.2.2.2.1
theorem dL_law_1520 : decode cL_law 1520 = .ok (.iaload, 1) := fx_ok (d := 1472) (i := 48) fDL_law_23 eL_law_1499.2.2.2.2.2.2.2.2.2.2.2.2.2.2.1
theorem dL_law_1521 : decode cL_law 1521 = .ok (.aload_n 0, 1) := fx_ok (d := 1472) (i := 49) fDL_law_23 eL_law_1499.2.2.2.2.2.2.2.2.2.2.2.2.2.2.2
theorem eL_law_1522 : (fdecl fTL_law_23 50 = some (.iload 4, 2)) ∧ (fdecl fTL_law_23 52 = some (.iconst 2, 1)) ∧ (fdecl fTL_law_23 53 = some (.iadd, 1)) ∧ (fdecl fTL_law_23 54 = some (.iaload, 1)) ∧ (fdecl fTL_law_23 55 = some (.aload_n 0, 1)) ∧ (fdecl fTL_law_23 56 = some (.iload 4, 2)) ∧ (fdecl fTL_law_23 58 = some (.iconst 3, 1)) ∧ (fdecl fTL_law_23 59 = some (.iadd, 1)) ∧ (fdecl fTL_law_23 60 = some (.iaload, 1)) ∧ (fdecl fTL_law_23 61 = some (.aload_n 3, 1)) ∧ (fdecl fTL_law_23 62 = some (.invokestatic 237, 3)) ∧ (fdecl fTL_law_24 1 = some (.istore 5, 2)) ∧ (fdecl fTL_law_24 3 = some (.aload_n 2, 1)) ∧ (fdecl fTL_law_24 4 = some (.aload_n 0, 1)) ∧ (fdecl fTL_law_24 5 = some (.iload 4, 2)) ∧ (fdecl fTL_law_24 7 = some (.iconst 1, 1)) := by decide +kernel
theorem dL_law_1522 : decode cL_law 1522 = .ok (.iload 4, 2) := fx_ok (d := 1472) (i := 50) fDL_law_23 eL_law_1522.1
theorem dL_law_1524 : decode cL_law 1524 = .ok (.iconst 2, 1) := fx_ok (d := 1472) (i := 52) fDL_law_23 eL_law_1522.2.1
theorem dL_law_1525 : decode cL_law 1525 = .ok (.iadd, 1) := fx_ok (d := 1472) (i := 53) fDL_law_23 eL_law_1522.2.2.1
theorem dL_law_1526 : decode cL_law 1526 = .ok (.iaload, 1) := fx_ok (d := 1472) (i := 54) fDL_law_23 eL_law_1522.2.2.2.1
theorem dL_law_1527 : decode cL_law 1527 = .ok (.aload_n 0, 1) := fx_ok (d := 1472) (i := 55) fDL_law_23 eL_law_1522.2.2.2.2.1
theorem dL_law_1528 : decode cL_law 1528 = .ok (.iload 4, 2) := fx_ok (d := 1472) (i := 56) fDL_law_23 eL_law_1522.2.2.2.2.2.1
theorem dL_law_1530 : decode cL_law 1530 = .ok (.iconst 3, 1) := fx_ok (d := 1472) (i := 58) fDL_law_23 eL_law_1522.2.2.2.2.2.2.1
theorem dL_law_1531 : decode cL_law 1531 = .ok (.iadd, 1) := fx_ok (d := 1472) (i := 59) fDL_law_23 eL_law_1522.2.2.2.2.2.2.2.1
theorem dL_law_1532 : decode cL_law 1532 = .ok (.iaload, 1) := fx_ok (d := 1472) (i := 60) fDL_law_23 eL_law_1522.2.2.2.2.2.2.2.2.1
theorem dL_law_1533 : decode cL_law 1533 = .ok (.aload_n 3, 1) := fx_ok (d := 1472) (i := 61) fDL_law_23 eL_law_1522.2.2.2.2.2.2.2.2.2.1
theorem dL_law_1534 : decode cL_law 1534 = .ok (.invokestatic 237, 3) := fx_ok (d := 1472) (i := 62) fDL_law_23 eL_law_1522.2.2.2.2.2.2.2.2.2.2.1
theorem dL_law_1537 : decode cL_law 1537 = .ok (.istore 5, 2) := fx_ok (d := 1536) (i := 1) fDL_law_24 eL_law_1522.2.2.2.2.2.2.2.2.2.2.2.1
theorem dL_law_1539 : decode cL_law 1539 = .ok (.aload_n 2, 1) := fx_ok (d := 1536) (i := 3) fDL_law_24 eL_law_1522.2.2.2.2.2.2.2.2.2.2.2.2.1
theorem dL_law_1540 : decode cL_law 1540 = .ok (.aload_n 0, 1) := fx_ok (d := 1536) (i := 4) fDL_law_24 eL_law_1522.2.2.2.2.2.2.2.2.2.2.2.2.2.1
theorem dL_law_1541 : decode cL_law 1541 = .ok (.iload 4, 2) := fx_ok (d := 1536) (i := 5) fDL_law_24 eL_law_1522.2.2.2.2.2.2.2.2.2.2.2.2.2.2.1
theorem dL_law_1543 : decode cL_law 1543 = .ok (.iconst 1, 1) := fx_ok (d := 1536) (i := 7) fDL_law_24 eL_law_1522.2.2.2.2.2.2.2.2.2.2.2.2.2.2.2
theorem eL_law_1544 : (fdecl fTL_law_24 8 = some (.iadd, 1)) ∧ (fdecl fTL_law_24 9 = some (.iaload, 1)) ∧ (fdecl fTL_law_24 10 = some (.aload_n 0, 1)) ∧ (fdecl fTL_law_24 11 = some (.iload 4, 2)) ∧ (fdecl fTL_law_24 13 = some (.iconst 2, 1)) ∧ (fdecl fTL_law_24 14 = some (.iadd, 1)) ∧ (fdecl fTL_law_24 15 = some (.iaload, 1)) ∧ (fdecl fTL_law_24 16 = some (.aload_n 0, 1)) ∧ (fdecl fTL_law_24 17 = some (.iload 4, 2)) ∧ (fdecl fTL_law_24 19 = some (.iconst 3, 1)) ∧ (fdecl fTL_law_24 20 = some (.iadd, 1)) ∧ (fdecl fTL_law_24 21 = some (.iaload, 1)) ∧ (fdecl fTL_law_24 22 = some (.invokevirtual 239, 3)) ∧ (fdecl fTL_law_24 25 = some (.istore 6, 2)) ∧ (fdecl fTL_law_24 27 = some (.goto 764, 3)) ∧ (fdecl fTL_law_24 30 = some (.aload_n 1, 1)) := by decide +kernel
theorem dL_law_1544 : decode cL_law 1544 = .ok (.iadd, 1) := fx_ok (d := 1536) (i := 8) fDL_law_24 eL_law_1544.1
theorem dL_law_1545 : decode cL_law 1545 = .ok (.iaload, 1) := fx_ok (d := 1536) (i := 9) fDL_law_24 eL_law_1544.2.1
theorem dL_law_1546 : decode cL_law 1546 = .ok (.aload_n 0, 1) := fx_ok (d := 1536) (i := 10) fDL_law_24 eL_law_1544.2.2.1
theorem dL_law_1547 : decode cL_law 1547 = .ok (.iload 4, 2) := fx_ok (d := 1536) (i := 11) fDL_law_24 eL_law_1544.2.2.2.1
theorem dL_law_1549 : decode cL_law 1549 = .ok (.iconst 2, 1) := fx_ok (d := 1536) (i := 13) fDL_law_24 eL_law_1544.2.2.2.2.1
theorem dL_law_1550 : decode cL_law 1550 = .ok (.iadd, 1) := fx_ok (d := 1536) (i := 14) fDL_law_24 eL_law_1544.2.2.2.2.2.1
theorem dL_law_1551 : decode cL_law 1551 = .ok (.iaload, 1) := fx_ok (d := 1536) (i := 15) fDL_law_24 eL_law_1544.2.2.2.2.2.2.1
theorem dL_law_1552 : decode cL_law 1552 = .ok (.aload_n 0, 1) := fx_ok (d := 1536) (i := 16) fDL_law_24 eL_law_1544.2.2.2.2.2.2.2.1
theorem dL_law_1553 : decode cL_law 1553 = .ok (.iload 4, 2) := fx_ok (d := 1536) (i := 17) fDL_law_24 eL_law_1544.2.2.2.2.2.2.2.2.1
theorem dL_law_1555 : decode cL_law 1555 = .ok (.iconst 3, 1) := fx_ok (d := 1536) (i := 19) fDL_law_24 eL_law_1544.2.2.2.2.2.2.2.2.2.1
theorem dL_law_1556 : decode cL_law 1556 = .ok (.iadd, 1) := fx_ok (d := 1536) (i := 20) fDL_law_24 eL_law_1544.2.2.2.2.2.2.2.2.2.2.1
theorem dL_law_1557 : decode cL_law 1557 = .ok (.iaload, 1) := fx_ok (d := 1536) (i := 21) fDL_law_24 eL_law_1544.2.2.2.2.2.2.2.2.2.2.2.1
theorem dL_law_1558 : decode cL_law 1558 = .ok (.invokevirtual 239, 3) := fx_ok (d := 1536) (i := 22) fDL_law_24 eL_law_1544.2.2.2.2.2.2.2.2.2.2.2.2.1
theorem dL_law_1561 : decode cL_law 1561 = .ok (.istore 6, 2) := fx_ok (d := 1536) (i := 25) fDL_law_24 eL_law_1544.2.2.2.2.2.2.2.2.2.2.2.2.2.1
theorem dL_law_1563 : decode cL_law 1563 = .ok (.goto 764, 3) := fx_ok (d := 1536) (i := 27) fDL_law_24 eL_law_1544.2.2.2.2.2.2.2.2.2.2.2.2.2.2.1
theorem dL_law_1566 : decode cL_law 1566 = .ok (.aload_n 1, 1) := fx_ok (d := 1536) (i := 30) fDL_law_24 eL_law_1544.2.2.2.2.2.2.2.2.2.2.2.2.2.2.2
theorem eL_law_1567 : (fdecl fTL_law_24 31 = some (.aload_n 0, 1)) ∧ (fdecl fTL_law_24 32 = some (.iload 4, 2)) ∧ (fdecl fTL_law_24 34 = some (.iconst 1, 1)) ∧ (fdecl fTL_law_24 35 = some (.iadd, 1)) ∧ (fdecl fTL_law_24 36 = some (.iaload, 1)) ∧ (fdecl fTL_law_24 37 = some (.aload_n 0, 1)) ∧ (fdecl fTL_law_24 38 = some (.iload 4, 2)) ∧ (fdecl fTL_law_24 40 = some (.iconst 2, 1)) ∧ (fdecl fTL_law_24 41 = some (.iadd, 1)) ∧ (fdecl fTL_law_24 42 = some (.iaload, 1)) ∧ (fdecl fTL_law_24 43 = some (.aload_n 3, 1)) ∧ (fdecl fTL_law_24 44 = some (.invokestatic 240, 3)) ∧ (fdecl fTL_law_24 47 = some (.istore 5, 2)) ∧ (fdecl fTL_law_24 49 = some (.aload_n 2, 1)) ∧ (fdecl fTL_law_24 50 = some (.aload_n 0, 1)) ∧ (fdecl fTL_law_24 51 = some (.iload 4, 2)) := by decide +kernel
theorem dL_law_1567 : decode cL_law 1567 = .ok (.aload_n 0, 1) := fx_ok (d := 1536) (i := 31) fDL_law_24 eL_law_1567.1
theorem dL_law_1568 : decode cL_law 1568 = .ok (.iload 4, 2) := fx_ok (d := 1536) (i := 32) fDL_law_24 eL_law_1567.2.1
theorem dL_law_1570 : decode cL_law 1570 = .ok (.iconst 1, 1) := fx_ok (d := 1536) (i := 34) fDL_law_24 eL_law_1567.2.2.1
theorem dL_law_1571 : decode cL_law 1571 = .ok (.iadd, 1) := fx_ok (d := 1536) (i := 35) fDL_law_24 eL_law_1567.2.2.2.1
theorem dL_law_1572 : decode cL_law 1572 = .ok (.iaload, 1) := fx_ok (d := 1536) (i := 36) fDL_law_24 eL_law_1567.2.2.2.2.1
theorem dL_law_1573 : decode cL_law 1573 = .ok (.aload_n 0, 1) := fx_ok (d := 1536) (i := 37) fDL_law_24 eL_law_1567.2.2.2.2.2.1
theorem dL_law_1574 : decode cL_law 1574 = .ok (.iload 4, 2) := fx_ok (d := 1536) (i := 38) fDL_law_24 eL_law_1567.2.2.2.2.2.2.1
theorem dL_law_1576 : decode cL_law 1576 = .ok (.iconst 2, 1) := fx_ok (d := 1536) (i := 40) fDL_law_24 eL_law_1567.2.2.2.2.2.2.2.1
theorem dL_law_1577 : decode cL_law 1577 = .ok (.iadd, 1) := fx_ok (d := 1536) (i := 41) fDL_law_24 eL_law_1567.2.2.2.2.2.2.2.2.1
theorem dL_law_1578 : decode cL_law 1578 = .ok (.iaload, 1) := fx_ok (d := 1536) (i := 42) fDL_law_24 eL_law_1567.2.2.2.2.2.2.2.2.2.1
theorem dL_law_1579 : decode cL_law 1579 = .ok (.aload_n 3, 1) := fx_ok (d := 1536) (i := 43) fDL_law_24 eL_law_1567.2.2.2.2.2.2.2.2.2.2.1
theorem dL_law_1580 : decode cL_law 1580 = .ok (.invokestatic 240, 3) := fx_ok (d := 1536) (i := 44) fDL_law_24 eL_law_1567.2.2.2.2.2.2.2.2.2.2.2.1
theorem dL_law_1583 : decode cL_law 1583 = .ok (.istore 5, 2) := fx_ok (d := 1536) (i := 47) fDL_law_24 eL_law_1567.2.2.2.2.2.2.2.2.2.2.2.2.1
theorem dL_law_1585 : decode cL_law 1585 = .ok (.aload_n 2, 1) := fx_ok (d := 1536) (i := 49) fDL_law_24 eL_law_1567.2.2.2.2.2.2.2.2.2.2.2.2.2.1
theorem dL_law_1586 : decode cL_law 1586 = .ok (.aload_n 0, 1) := fx_ok (d := 1536) (i := 50) fDL_law_24 eL_law_1567.2.2.2.2.2.2.2.2.2.2.2.2.2.2.1
theorem dL_law_1587 : decode cL_law 1587 = .ok (.iload 4, 2) := fx_ok (d := 1536) (i := 51) fDL_law_24 eL_law_1567.2.2.2.2.2.2.2.2.2.2.2.2.2.2.2
theorem eL_law_1589 : (fdecl fTL_law_24 53 = some (.iconst 1, 1)) ∧ (fdecl fTL_law_24 54 = some (.iadd, 1)) ∧ (fdecl fTL_law_24 55 = some (.iaload, 1)) ∧ (fdecl fTL_law_24 56 = some (.aload_n 0, 1)) ∧ (fdecl fTL_law_24 57 = some (.iload 4, 2)) ∧ (fdecl fTL_law_24 59 = some (.iconst 2, 1)) ∧ (fdecl fTL_law_24 60 = some (.iadd, 1)) ∧ (fdecl fTL_law_24 61 = some (.iaload, 1)) ∧ (fdecl fTL_law_24 62 = some (.invokevirtual 242, 3)) ∧ (fdecl fTL_law_25 1 = some (.istore 6, 2)) ∧ (fdecl fTL_law_25 3 = some (.goto 724, 3)) ∧ (fdecl fTL_law_25 6 = some (.aload_n 1, 1)) ∧ (fdecl fTL_law_25 7 = some (.aload_n 0, 1)) ∧ (fdecl fTL_law_25 8 = some (.iload 4, 2)) ∧ (fdecl fTL_law_25 10 = some (.iconst 1, 1)) ∧ (fdecl fTL_law_25 11 = some (.iadd, 1)) := by decide +kernel
theorem dL_law_1589 : decode cL_law 1589 = .ok (.iconst 1, 1) := fx_ok (d := 1536) (i := 53) fDL_law_24 eL_law_1589.1
theorem dL_law_1590 : decode cL_law 1590 = .ok (.iadd, 1) := fx_ok (d := 1536) (i := 54) fDL_law_24 eL_law_1589.2.1
theorem dL_law_1591 : decode cL_law 1591 = .ok (.iaload, 1) := fx_ok (d := 1536) (i := 55) fDL_law_24 eL_law_1589.2.2.1
theorem dL_law_1592 : decode cL_law 1592 = .ok (.aload_n 0, 1) := fx_ok (d := 1536) (i := 56) fDL_law_24 eL_law_1589.2.2.2.1
theorem dL_law_1593 : decode cL_law 1593 = .ok (.iload 4, 2) := fx_ok (d := 1536) (i := 57) fDL_law_24 eL_law_1589.2.2.2.2.1
theorem dL_law_1595 : decode cL_law 1595 = .ok (.iconst 2, 1) := fx_ok (d := 1536) (i := 59) fDL_law_24 eL_law_1589.2.2.2.2.2.1
theorem dL_law_1596 : decode cL_law 1596 = .ok (.iadd, 1) := fx_ok (d := 1536) (i := 60) fDL_law_24 eL_law_1589.2.2.2.2.2.2.1
theorem dL_law_1597 : decode cL_law 1597 = .ok (.iaload, 1) := fx_ok (d := 1536) (i := 61) fDL_law_24 eL_law_1589.2.2.2.2.2.2.2.1
theorem dL_law_1598 : decode cL_law 1598 = .ok (.invokevirtual 242, 3) := fx_ok (d := 1536) (i := 62) fDL_law_24 eL_law_1589.2.2.2.2.2.2.2.2.1
theorem dL_law_1601 : decode cL_law 1601 = .ok (.istore 6, 2) := fx_ok (d := 1600) (i := 1) fDL_law_25 eL_law_1589.2.2.2.2.2.2.2.2.2.1
theorem dL_law_1603 : decode cL_law 1603 = .ok (.goto 724, 3) := fx_ok (d := 1600) (i := 3) fDL_law_25 eL_law_1589.2.2.2.2.2.2.2.2.2.2.1
theorem dL_law_1606 : decode cL_law 1606 = .ok (.aload_n 1, 1) := fx_ok (d := 1600) (i := 6) fDL_law_25 eL_law_1589.2.2.2.2.2.2.2.2.2.2.2.1
theorem dL_law_1607 : decode cL_law 1607 = .ok (.aload_n 0, 1) := fx_ok (d := 1600) (i := 7) fDL_law_25 eL_law_1589.2.2.2.2.2.2.2.2.2.2.2.2.1
theorem dL_law_1608 : decode cL_law 1608 = .ok (.iload 4, 2) := fx_ok (d := 1600) (i := 8) fDL_law_25 eL_law_1589.2.2.2.2.2.2.2.2.2.2.2.2.2.1
theorem dL_law_1610 : decode cL_law 1610 = .ok (.iconst 1, 1) := fx_ok (d := 1600) (i := 10) fDL_law_25 eL_law_1589.2.2.2.2.2.2.2.2.2.2.2.2.2.2.1
theorem dL_law_1611 : decode cL_law 1611 = .ok (.iadd, 1) := fx_ok (d := 1600) (i := 11) fDL_law_25 eL_law_1589.2.2.2.2.2.2.2.2.2.2.2.2.2.2.2
theorem eL_law_1612 : (fdecl fTL_law_25 12 = some (.iaload, 1)) ∧ (fdecl fTL_law_25 13 = some (.aload_n 3, 1)) ∧ (fdecl fTL_law_25 14 = some (.invokestatic 243, 3)) ∧ (fdecl fTL_law_25 17 = some (.istore 5, 2)) ∧ (fdecl fTL_law_25 19 = some (.aload_n 2, 1)) ∧ (fdecl fTL_law_25 20 = some (.aload_n 0, 1)) ∧ (fdecl fTL_law_25 21 = some (.iload 4, 2)) ∧ (fdecl fTL_law_25 23 = some (.iconst 1, 1)) ∧ (fdecl fTL_law_25 24 = some (.iadd, 1)) ∧ (fdecl fTL_law_25 25 = some (.iaload, 1)) ∧ (fdecl fTL_law_25 26 = some (.invokevirtual 245, 3)) ∧ (fdecl fTL_law_25 29 = some (.istore 6, 2)) ∧ (fdecl fTL_law_25 31 = some (.goto 696, 3)) ∧ (fdecl fTL_law_25 34 = some (.aload_n 1, 1)) ∧ (fdecl fTL_law_25 35 = some (.invokevirtual 246, 3)) ∧ (fdecl fTL_law_25 38 = some (.pop, 1)) := by decide +kernel
theorem dL_law_1612 : decode cL_law 1612 = .ok (.iaload, 1) := fx_ok (d := 1600) (i := 12) fDL_law_25 eL_law_1612.1
theorem dL_law_1613 : decode cL_law 1613 = .ok (.aload_n 3, 1) := fx_ok (d := 1600) (i := 13) fDL_law_25 eL_law_1612.2.1
theorem dL_law_1614 : decode cL_law 1614 = .ok (.invokestatic 243, 3) := fx_ok (d := 1600) (i := 14) fDL_law_25 eL_law_1612.2.2.1
theorem dL_law_1617 : decode cL_law 1617 = .ok (.istore 5, 2) := fx_ok (d := 1600) (i := 17) fDL_law_25 eL_law_1612.2.2.2.1
theorem dL_law_1619 : decode cL_law 1619 = .ok (.aload_n 2, 1) := fx_ok (d := 1600) (i := 19) fDL_law_25 eL_law_1612.2.2.2.2.1
theorem dL_law_1620 : decode cL_law 1620 = .ok (.aload_n 0, 1) := fx_ok (d := 1600) (i := 20) fDL_law_25 eL_law_1612.2.2.2.2.2.1
theorem dL_law_1621 : decode cL_law 1621 = .ok (.iload 4, 2) := fx_ok (d := 1600) (i := 21) fDL_law_25 eL_law_1612.2.2.2.2.2.2.1
theorem dL_law_1623 : decode cL_law 1623 = .ok (.iconst 1, 1) := fx_ok (d := 1600) (i := 23) fDL_law_25 eL_law_1612.2.2.2.2.2.2.2.1
theorem dL_law_1624 : decode cL_law 1624 = .ok (.iadd, 1) := fx_ok (d := 1600) (i := 24) fDL_law_25 eL_law_1612.2.2.2.2.2.2.2.2.1
theorem dL_law_1625 : decode cL_law 1625 = .ok (.iaload, 1) := fx_ok (d := 1600) (i := 25) fDL_law_25 eL_law_1612.2.2.2.2.2.2.2.2.2.1
theorem dL_law_1626 : decode cL_law 1626 = .ok (.invokevirtual 245, 3) := fx_ok (d := 1600) (i := 26) fDL_law_25 eL_law_1612.2.2.2.2.2.2.2.2.2.2.1
theorem dL_law_1629 : decode cL_law 1629 = .ok (.istore 6, 2) := fx_ok (d := 1600) (i := 29) fDL_law_25 eL_law_1612.2.2.2.2.2.2.2.2.2.2.2.1
theorem dL_law_1631 : decode cL_law 1631 = .ok (.goto 696, 3) := fx_ok (d := 1600) (i := 31) fDL_law_25 eL_law_1612.2.2.2.2.2.2.2.2.2.2.2.2.1
theorem dL_law_1634 : decode cL_law 1634 = .ok (.aload_n 1, 1) := fx_ok (d := 1600) (i := 34) fDL_law_25 eL_law_1612.2.2.2.2.2.2.2.2.2.2.2.2.2.1
theorem dL_law_1635 : decode cL_law 1635 = .ok (.invokevirtual 246, 3) := fx_ok (d := 1600) (i := 35) fDL_law_25 eL_law_1612.2.2.2.2.2.2.2.2.2.2.2.2.2.2.1
theorem dL_law_1638 : decode cL_law 1638 = .ok (.pop, 1) := fx_ok (d := 1600) (i := 38) fDL_law_25 eL_law_1612.2.2.2.2.2.2.2.2.2.2.2.2.2.2.2
theorem eL_law_1639 : (fdecl fTL_law_25 39 = some (.aload_n 2, 1)) ∧ (fdecl fTL_law_25 40 = some (.invokevirtual 250, 3)) ∧ (fdecl fTL_law_25 43 = some (.pop, 1)) ∧ (fdecl fTL_law_25 44 = some (.goto 683, 3)) ∧ (fdecl fTL_law_25 47 = some (.aload_n 1, 1)) ∧ (fdecl fTL_law_25 48 = some (.aload_n 0, 1)) ∧ (fdecl fTL_law_25 49 = some (.iload 4, 2)) ∧ (fdecl fTL_law_25 51 = some (.iconst 1, 1)) ∧ (fdecl fTL_law_25 52 = some (.iadd, 1)) ∧ (fdecl fTL_law_25 53 = some (.iaload, 1)) ∧ (fdecl fTL_law_25 54 = some (.aload_n 3, 1)) ∧ (fdecl fTL_law_25 55 = some (.invokestatic 251, 3)) ∧ (fdecl fTL_law_25 58 = some (.istore 5, 2)) ∧ (fdecl fTL_law_25 60 = some (.aload_n 2, 1)) ∧ (fdecl fTL_law_25 61 = some (.aload_n 0, 1)) ∧ (fdecl fTL_law_25 62 = some (.iload 4, 2)) := by decide +kernel
theorem dL_law_1639 : decode cL_law 1639 = .ok (.aload_n 2, 1) := fx_ok (d := 1600) (i := 39) fDL_law_25 eL_law_1639.1
theorem dL_law_1640 : decode cL_law 1640 = .ok (.invokevirtual 250, 3) := fx_ok (d := 1600) (i := 40) fDL_law_25 eL_law_1639.2.1
theorem dL_law_1643 : decode cL_law 1643 = .ok (.pop, 1) := fx_ok (d := 1600) (i := 43) fDL_law_25 eL_law_1639.2.2.1
theorem dL_law_1644 : decode cL_law 1644 = .ok (.goto 683, 3) := fx_ok (d := 1600) (i := 44) fDL_law_25 eL_law_1639.2.2.2.1
theorem dL_law_1647 : decode cL_law 1647 = .ok (.aload_n 1, 1) := fx_ok (d := 1600) (i := 47) fDL_law_25 eL_law_1639.2.2.2.2.1
theorem dL_law_1648 : decode cL_law 1648 = .ok (.aload_n 0, 1) := fx_ok (d := 1600) (i := 48) fDL_law_25 eL_law_1639.2.2.2.2.2.1
theorem dL_law_1649 : decode cL_law 1649 = .ok (.iload 4, 2) := fx_ok (d := 1600) (i := 49) fDL_law_25 eL_law_1639.2.2.2.2.2.2.1
theorem dL_law_1651 : decode cL_law 1651 = .ok (.iconst 1, 1) := fx_ok (d := 1600) (i := 51) fDL_law_25 eL_law_1639.2.2.2.2.2.2.2.1
theorem dL_law_1652 : decode cL_law 1652 = .ok (.iadd, 1) := fx_ok (d := 1600) (i := 52) fDL_law_25 eL_law_1639.2.2.2.2.2.2.2.2.1
theorem dL_law_1653 : decode cL_law 1653 = .ok (.iaload, 1) := fx_ok (d := 1600) (i := 53) fDL_law_25 eL_law_1639.2.2.2.2.2.2.2.2.2.1
theorem dL_law_1654 : decode cL_law 1654 = .ok (.aload_n 3, 1) := fx_ok (d := 1600) (i := 54) fDL_law_25 eL_law_1639.2.2.2.2.2.2.2.2.2.2.1
theorem dL_law_1655 : decode cL_law 1655 = .ok (.invokestatic 251, 3) := fx_ok (d := 1600) (i := 55) fDL_law_25 eL_law_1639.2.2.2.2.2.2.2.2.2.2.2.1
theorem dL_law_1658 : decode cL_law 1658 = .ok (.istore 5, 2) := fx_ok (d := 1600) (i := 58) fDL_law_25 eL_law_1639.2.2.2.2.2.2.2.2.2.2.2.2.1
theorem dL_law_1660 : decode cL_law 1660 = .ok (.aload_n 2, 1) := fx_ok (d := 1600) (i := 60) fDL_law_25 eL_law_1639.2.2.2.2.2.2.2.2.2.2.2.2.2.1
theorem dL_law_1661 : decode cL_law 1661 = .ok (.aload_n 0, 1) := fx_ok (d := 1600) (i := 61) fDL_law_25 eL_law_1639.2.2.2.2.2.2.2.2.2.2.2.2.2.2.1
theorem dL_law_1662 : decode cL_law 1662 = .ok (.iload 4, 2) := fx_ok (d := 1600) (i := 62) fDL_law_25 eL_law_1639.2.2.2.2.2.2.2.2.2.2.2.2.2.2.2
theorem eL_law_1664 : (fdecl fTL_law_26 0 = some (.iconst 1, 1)) ∧ (fdecl fTL_law_26 1 = some (.iadd, 1)) ∧ (fdecl fTL_law_26 2 = some (.iaload, 1)) ∧ (fdecl fTL_law_26 3 = some (.invokevirtual 253, 3)) ∧ (fdecl fTL_law_26 6 = some (.istore 6, 2)) ∧ (fdecl fTL_law_26 8 = some (.goto 655, 3)) ∧ (fdecl fTL_law_26 11 = some (.aload_n 1, 1)) ∧ (fdecl fTL_law_26 12 = some (.invokevirtual 254, 3)) ∧ (fdecl fTL_law_26 15 = some (.pop, 1)) ∧ (fdecl fTL_law_26 16 = some (.aload_n 2, 1)) ∧ (fdecl fTL_law_26 17 = some (.invokevirtual 257, 3)) ∧ (fdecl fTL_law_26 20 = some (.pop, 1)) ∧ (fdecl fTL_law_26 21 = some (.goto 642, 3)) ∧ (fdecl fTL_law_26 24 = some (.aload_n 1, 1)) ∧ (fdecl fTL_law_26 25 = some (.aload_n 0, 1)) ∧ (fdecl fTL_law_26 26 = some (.iload 4, 2)) := by decide +kernel
theorem dL_law_1664 : decode cL_law 1664 = .ok (.iconst 1, 1) := fx_ok (d := 1664) (i := 0) fDL_law_26 eL_law_1664.1
theorem dL_law_1665 : decode cL_law 1665 = .ok (.iadd, 1) := fx_ok (d := 1664) (i := 1) fDL_law_26 eL_law_1664.2.1
theorem dL_law_1666 : decode cL_law 1666 = .ok (.iaload, 1) := fx_ok (d := 1664) (i := 2) fDL_law_26 eL_law_1664.2.2.1
theorem dL_law_1667 : decode cL_law 1667 = .ok (.invokevirtual 253, 3) := fx_ok (d := 1664) (i := 3) fDL_law_26 eL_law_1664.2.2.2.1
theorem dL_law_1670 : decode cL_law 1670 = .ok (.istore 6, 2) := fx_ok (d := 1664) (i := 6) fDL_law_26 eL_law_1664.2.2.2.2.1
theorem dL_law_1672 : decode cL_law 1672 = .ok (.goto 655, 3) := fx_ok (d := 1664) (i := 8) fDL_law_26 eL_law_1664.2.2.2.2.2.1
theorem dL_law_1675 : decode cL_law 1675 = .ok (.aload_n 1, 1) := fx_ok (d := 1664) (i := 11) fDL_law_26 eL_law_1664.2.2.2.2.2.2.1
theorem dL_law_1676 : decode cL_law 1676 = .ok (.invokevirtual 254, 3) := fx_ok (d := 1664) (i := 12) fDL_law_26 eL_law_1664.2.2.2.2.2.2.2.1
theorem dL_law_1679 : decode cL_law 1679 = .ok (.pop, 1) := fx_ok (d := 1664) (i := 15) fDL_law_26 eL_law_1664.2.2.2.2.2.2.2.2.1
theorem dL_law_1680 : decode cL_law 1680 = .ok (.aload_n 2, 1) := fx_ok (d := 1664) (i := 16) fDL_law_26 eL_law_1664.2.2.2.2.2.2.2.2.2.1
theorem dL_law_1681 : decode cL_law 1681 = .ok (.invokevirtual 257, 3) := fx_ok (d := 1664) (i := 17) fDL_law_26 eL_law_1664.2.2.2.2.2.2.2.2.2.2.1
theorem dL_law_1684 : decode cL_law 1684 = .ok (.pop, 1) := fx_ok (d := 1664) (i := 20) fDL_law_26 eL_law_1664.2.2.2.2.2.2.2.2.2.2.2.1
theorem dL_law_1685 : decode cL_law 1685 = .ok (.goto 642, 3) := fx_ok (d := 1664) (i := 21) fDL_law_26 eL_law_1664.2.2.2.2.2.2.2.2.2.2.2.2.1
theorem dL_law_1688 : decode cL_law 1688 = .ok (.aload_n 1, 1) := fx_ok (d := 1664) (i := 24) fDL_law_26 eL_law_1664.2.2.2.2.2.2.2.2.2.2.2.2.2.1
theorem dL_law_1689 : decode cL_law 1689 = .ok (.aload_n 0, 1) := fx_ok (d := 1664) (i := 25) fDL_law_26 eL_law_1664.2.2.2.2.2.2.2.2.2.2.2.2.2.2.1
theorem dL_law_1690 : decode cL_law 1690 = .ok (.iload 4, 2) := fx_ok (d := 1664) (i := 26) fDL_law_26 eL_law_1664.2.2.2.2.2.2.2.2.2.2.2.2.2.2.2
theorem eL_law_1692 : (fdecl fTL_law_26 28 = some (.iconst 1, 1)) ∧ (fdecl fTL_law_26 29 = some (.iadd, 1)) ∧ (fdecl fTL_law_26 30 = some (.iaload, 1)) ∧ (fdecl fTL_law_26 31 = some (.aload_n 0, 1)) ∧ (fdecl fTL_law_26 32 = some (.iload 4, 2)) ∧ (fdecl fTL_law_26 34 = some (.iconst 2, 1)) ∧ (fdecl fTL_law_26 35 = some (.iadd, 1)) ∧ (fdecl fTL_law_26 36 = some (.iaload, 1)) ∧ (fdecl fTL_law_26 37 = some (.aload_n 3, 1)) ∧ (fdecl fTL_law_26 38 = some (.invokestatic 258, 3)) ∧ (fdecl fTL_law_26 41 = some (.istore 5, 2)) ∧ (fdecl fTL_law_26 43 = some (.aload_n 2, 1)) ∧ (fdecl fTL_law_26 44 = some (.aload_n 0, 1)) ∧ (fdecl fTL_law_26 45 = some (.iload 4, 2)) ∧ (fdecl fTL_law_26 47 = some (.iconst 1, 1)) ∧ (fdecl fTL_law_26 48 = some (.iadd, 1)) := by decide +kernel
theorem dL_law_1692 : decode cL_law 1692 = .ok (.iconst 1, 1) := fx_ok (d := 1664) (i := 28) fDL_law_26 eL_law_1692.1
theorem dL_law_1693 : decode cL_law 1693 = .ok (.iadd, 1) := fx_ok (d := 1664) (i := 29) fDL_law_26 eL_law_1692.2.1
theorem dL_law_1694 : decode cL_law 1694 = .ok (.iaload, 1) := fx_ok (d := 1664) (i := 30) fDL_law_26 eL_law_1692.2.2.1
theorem dL_law_1695 : decode cL_law 1695 = .ok (.aload_n 0, 1) := fx_ok (d := 1664) (i := 31) fDL_law_26 eL_law_1692.2.2.2.1
theorem dL_law_1696 : decode cL_law 1696 = .ok (.iload 4, 2) := fx_ok (d := 1664) (i := 32) fDL_law_26 eL_law_1692.2.2.2.2.1
theorem dL_law_1698 : decode cL_law 1698 = .ok (.iconst 2, 1) := fx_ok (d := 1664) (i := 34) fDL_law_26 eL_law_1692.2.2.2.2.2.1
theorem dL_law_1699 : decode cL_law 1699 = .ok (.iadd, 1) := fx_ok (d := 1664) (i := 35) fDL_law_26 eL_law_1692.2.2.2.2.2.2.1
theorem dL_law_1700 : decode cL_law 1700 = .ok (.iaload, 1) := fx_ok (d := 1664) (i := 36) fDL_law_26 eL_law_1692.2.2.2.2.2.2.2.1
theorem dL_law_1701 : decode cL_law 1701 = .ok (.aload_n 3, 1) := fx_ok (d := 1664) (i := 37) fDL_law_26 eL_law_1692.2.2.2.2.2.2.2.2.1
theorem dL_law_1702 : decode cL_law 1702 = .ok (.invokestatic 258, 3) := fx_ok (d := 1664) (i := 38) fDL_law_26 eL_law_1692.2.2.2.2.2.2.2.2.2.1
theorem dL_law_1705 : decode cL_law 1705 = .ok (.istore 5, 2) := fx_ok (d := 1664) (i := 41) fDL_law_26 eL_law_1692.2.2.2.2.2.2.2.2.2.2.1
theorem dL_law_1707 : decode cL_law 1707 = .ok (.aload_n 2, 1) := fx_ok (d := 1664) (i := 43) fDL_law_26 eL_law_1692.2.2.2.2.2.2.2.2.2.2.2.1
theorem dL_law_1708 : decode cL_law 1708 = .ok (.aload_n 0, 1) := fx_ok (d := 1664) (i := 44) fDL_law_26 eL_law_1692.2.2.2.2.2.2.2.2.2.2.2.2.1
theorem dL_law_1709 : decode cL_law 1709 = .ok (.iload 4, 2) := fx_ok (d := 1664) (i := 45) fDL_law_26 eL_law_1692.2.2.2.2.2.2.2.2.2.2.2.2.2.1
theorem dL_law_1711 : decode cL_law 1711 = .ok (.iconst 1, 1) := fx_ok (d := 1664) (i := 47) fDL_law_26 eL_law_1692.2.2.2.2.2.2.2.2.2.2.2.2.2.2.1
theorem dL_law_1712 : decode cL_law 1712 = .ok (.iadd, 1) := fx_ok (d := 1664) (i := 48) fDL_law_26 eL_law_1692.2.2.2.2.2.2.2.2.2.2.2.2.2.2.2
theorem eL_law_1713 : (fdecl fTL_law_26 49 = some (.iaload, 1)) ∧ (fdecl fTL_law_26 50 = some (.aload_n 0, 1)) ∧ (fdecl fTL_law_26 51 = some (.iload 4, 2)) ∧ (fdecl fTL_law_26 53 = some (.iconst 2, 1)) ∧ (fdecl fTL_law_26 54 = some (.iadd, 1)) ∧ (fdecl fTL_law_26 55 = some (.iaload, 1)) ∧ (fdecl fTL_law_26 56 = some (.invokevirtual 260, 3)) ∧ (fdecl fTL_law_26 59 = some (.istore 6, 2)) ∧ (fdecl fTL_law_26 61 = some (.goto 602, 3)) ∧ (fdecl fTL_law_27 0 = some (.aload_n 1, 1)) ∧ (fdecl fTL_law_27 1 = some (.aload_n 0, 1)) ∧ (fdecl fTL_law_27 2 = some (.iload 4, 2)) ∧ (fdecl fTL_law_27 4 = some (.iconst 1, 1)) ∧ (fdecl fTL_law_27 5 = some (.iadd, 1)) ∧ (fdecl fTL_law_27 6 = some (.iaload, 1)) ∧ (fdecl fTL_law_27 7 = some (.aload_n 0, 1)) := by decide +kernel
theorem dL_law_1713 : decode cL_law 1713 = .ok (.iaload, 1) := fx_ok (d := 1664) (i := 49) fDL_law_26 eL_law_1713.1
theorem dL_law_1714 : decode cL_law 1714 = .ok (.aload_n 0, 1) := fx_ok (d := 1664) (i := 50) fDL_law_26 eL_law_1713.2.1
theorem dL_law_1715 : decode cL_law 1715 = .ok (.iload 4, 2) := fx_ok (d := 1664) (i := 51) fDL_law_26 eL_law_1713.2.2.1
theorem dL_law_1717 : decode cL_law 1717 = .ok (.iconst 2, 1) := fx_ok (d := 1664) (i := 53) fDL_law_26 eL_law_1713.2.2.2.1
theorem dL_law_1718 : decode cL_law 1718 = .ok (.iadd, 1) := fx_ok (d := 1664) (i := 54) fDL_law_26 eL_law_1713.2.2.2.2.1
theorem dL_law_1719 : decode cL_law 1719 = .ok (.iaload, 1) := fx_ok (d := 1664) (i := 55) fDL_law_26 eL_law_1713.2.2.2.2.2.1
theorem dL_law_1720 : decode cL_law 1720 = .ok (.invokevirtual 260, 3) := fx_ok (d := 1664) (i := 56) fDL_law_26 eL_law_1713.2.2.2.2.2.2.1
theorem dL_law_1723 : decode cL_law 1723 = .ok (.istore 6, 2) := fx_ok (d := 1664) (i := 59) fDL_law_26 eL_law_1713.2.2.2.2.2.2.2.1
theorem dL_law_1725 : decode cL_law 1725 = .ok (.goto 602, 3) := fx_ok (d := 1664) (i := 61) fDL_law_26 eL_law_1713.2.2.2.2.2.2.2.2.1
theorem dL_law_1728 : decode cL_law 1728 = .ok (.aload_n 1, 1) := fx_ok (d := 1728) (i := 0) fDL_law_27 eL_law_1713.2.2.2.2.2.2.2.2.2.1
theorem dL_law_1729 : decode cL_law 1729 = .ok (.aload_n 0, 1) := fx_ok (d := 1728) (i := 1) fDL_law_27 eL_law_1713.2.2.2.2.2.2.2.2.2.2.1
theorem dL_law_1730 : decode cL_law 1730 = .ok (.iload 4, 2) := fx_ok (d := 1728) (i := 2) fDL_law_27 eL_law_1713.2.2.2.2.2.2.2.2.2.2.2.1
theorem dL_law_1732 : decode cL_law 1732 = .ok (.iconst 1, 1) := fx_ok (d := 1728) (i := 4) fDL_law_27 eL_law_1713.2.2.2.2.2.2.2.2.2.2.2.2.1
theorem dL_law_1733 : decode cL_law 1733 = .ok (.iadd, 1) := fx_ok (d := 1728) (i := 5) fDL_law_27 eL_law_1713.2.2.2.2.2.2.2.2.2.2.2.2.2.1
theorem dL_law_1734 : decode cL_law 1734 = .ok (.iaload, 1) := fx_ok (d := 1728) (i := 6) fDL_law_27 eL_law_1713.2.2.2.2.2.2.2.2.2.2.2.2.2.2.1
theorem dL_law_1735 : decode cL_law 1735 = .ok (.aload_n 0, 1) := fx_ok (d := 1728) (i := 7) fDL_law_27 eL_law_1713.2.2.2.2.2.2.2.2.2.2.2.2.2.2.2
theorem eL_law_1736 : (fdecl fTL_law_27 8 = some (.iload 4, 2)) ∧ (fdecl fTL_law_27 10 = some (.iconst 2, 1)) ∧ (fdecl fTL_law_27 11 = some (.iadd, 1)) ∧ (fdecl fTL_law_27 12 = some (.iaload, 1)) ∧ (fdecl fTL_law_27 13 = some (.aload_n 0, 1)) ∧ (fdecl fTL_law_27 14 = some (.iload 4, 2)) ∧ (fdecl fTL_law_27 16 = some (.iconst 3, 1)) ∧ (fdecl fTL_law_27 17 = some (.iadd, 1)) ∧ (fdecl fTL_law_27 18 = some (.iaload, 1)) ∧ (fdecl fTL_law_27 19 = some (.aload_n 3, 1)) ∧ (fdecl fTL_law_27 20 = some (.invokestatic 261, 3)) ∧ (fdecl fTL_law_27 23 = some (.istore 5, 2)) ∧ (fdecl fTL_law_27 25 = some (.aload_n 2, 1)) ∧ (fdecl fTL_law_27 26 = some (.aload_n 0, 1)) ∧ (fdecl fTL_law_27 27 = some (.iload 4, 2)) ∧ (fdecl fTL_law_27 29 = some (.iconst 1, 1)) := by decide +kernel
theorem dL_law_1736 : decode cL_law 1736 = .ok (.iload 4, 2) := fx_ok (d := 1728) (i := 8) fDL_law_27 eL_law_1736.1
theorem dL_law_1738 : decode cL_law 1738 = .ok (.iconst 2, 1) := fx_ok (d := 1728) (i := 10) fDL_law_27 eL_law_1736.2.1
theorem dL_law_1739 : decode cL_law 1739 = .ok (.iadd, 1) := fx_ok (d := 1728) (i := 11) fDL_law_27 eL_law_1736.2.2.1
theorem dL_law_1740 : decode cL_law 1740 = .ok (.iaload, 1) := fx_ok (d := 1728) (i := 12) fDL_law_27 eL_law_1736.2.2.2.1
theorem dL_law_1741 : decode cL_law 1741 = .ok (.aload_n 0, 1) := fx_ok (d := 1728) (i := 13) fDL_law_27 eL_law_1736.2.2.2.2.1
theorem dL_law_1742 : decode cL_law 1742 = .ok (.iload 4, 2) := fx_ok (d := 1728) (i := 14) fDL_law_27 eL_law_1736.2.2.2.2.2.1
theorem dL_law_1744 : decode cL_law 1744 = .ok (.iconst 3, 1) := fx_ok (d := 1728) (i := 16) fDL_law_27 eL_law_1736.2.2.2.2.2.2.1
theorem dL_law_1745 : decode cL_law 1745 = .ok (.iadd, 1) := fx_ok (d := 1728) (i := 17) fDL_law_27 eL_law_1736.2.2.2.2.2.2.2.1
theorem dL_law_1746 : decode cL_law 1746 = .ok (.iaload, 1) := fx_ok (d := 1728) (i := 18) fDL_law_27 eL_law_1736.2.2.2.2.2.2.2.2.1
theorem dL_law_1747 : decode cL_law 1747 = .ok (.aload_n 3, 1) := fx_ok (d := 1728) (i := 19) fDL_law_27 eL_law_1736.2.2.2.2.2.2.2.2.2.1
theorem dL_law_1748 : decode cL_law 1748 = .ok (.invokestatic 261, 3) := fx_ok (d := 1728) (i := 20) fDL_law_27 eL_law_1736.2.2.2.2.2.2.2.2.2.2.1
theorem dL_law_1751 : decode cL_law 1751 = .ok (.istore 5, 2) := fx_ok (d := 1728) (i := 23) fDL_law_27 eL_law_1736.2.2.2.2.2.2.2.2.2.2.2.1
theorem dL_law_1753 : decode cL_law 1753 = .ok (.aload_n 2, 1) := fx_ok (d := 1728) (i := 25) fDL_law_27 eL_law_1736.2.2.2.2.2.2.2.2.2.2.2.2.1
theorem dL_law_1754 : decode cL_law 1754 = .ok (.aload_n 0, 1) := fx_ok (d := 1728) (i := 26) fDL_law_27 eL_law_1736.2.2.2.2.2.2.2.2.2.2.2.2.2.1
theorem dL_law_1755 : decode cL_law 1755 = .ok (.iload 4, 2) := fx_ok (d := 1728) (i := 27) fDL_law_27 eL_law_1736.2.2.2.2.2.2.2.2.2.2.2.2.2.2.1
theorem dL_law_1757 : decode cL_law 1757 = .ok (.iconst 1, 1) := fx_ok (d := 1728) (i := 29) fDL_law_27 eL_law_1736.2.2.2.2.2.2.2.2.2.2.2.2.2.2.2
theorem eL_law_1758 : (fdecl fTL_law_27 30 = some (.iadd, 1)) ∧ (fdecl fTL_law_27 31 = some (.iaload, 1)) ∧ (fdecl fTL_law_27 32 = some (.aload_n 0, 1)) ∧ (fdecl fTL_law_27 33 = some (.iload 4, 2)) ∧ (fdecl fTL_law_27 35 = some (.iconst 2, 1)) ∧ (fdecl fTL_law_27 36 = some (.iadd, 1)) ∧ (fdecl fTL_law_27 37 = some (.iaload, 1)) ∧ (fdecl fTL_law_27 38 = some (.aload_n 0, 1)) ∧ (fdecl fTL_law_27 39 = some (.iload 4, 2)) ∧ (fdecl fTL_law_27 41 = some (.iconst 3, 1)) ∧ (fdecl fTL_law_27 42 = some (.iadd, 1)) ∧ (fdecl fTL_law_27 43 = some (.iaload, 1)) ∧ (fdecl fTL_law_27 44 = some (.invokevirtual 263, 3)) ∧ (fdecl fTL_law_27 47 = some (.istore 6, 2)) ∧ (fdecl fTL_law_27 49 = some (.goto 550, 3)) ∧ (fdecl fTL_law_27 52 = some (.aload_n 1, 1)) := by decide +kernel
theorem dL_law_1758 : decode cL_law 1758 = .ok (.iadd, 1) := fx_ok (d := 1728) (i := 30) fDL_law_27 eL_law_1758.1
theorem dL_law_1759 : decode cL_law 1759 = .ok (.iaload, 1) := fx_ok (d := 1728) (i := 31) fDL_law_27 eL_law_1758.2.1
theorem dL_law_1760 : decode cL_law 1760 = .ok (.aload_n 0, 1) := fx_ok (d := 1728) (i := 32) fDL_law_27 eL_law_1758.2.2.1
theorem dL_law_1761 : decode cL_law 1761 = .ok (.iload 4, 2) := fx_ok (d := 1728) (i := 33) fDL_law_27 eL_law_1758.2.2.2.1
theorem dL_law_1763 : decode cL_law 1763 = .ok (.iconst 2, 1) := fx_ok (d := 1728) (i := 35) fDL_law_27 eL_law_1758.2.2.2.2.1
theorem dL_law_1764 : decode cL_law 1764 = .ok (.iadd, 1) := fx_ok (d := 1728) (i := 36) fDL_law_27 eL_law_1758.2.2.2.2.2.1
theorem dL_law_1765 : decode cL_law 1765 = .ok (.iaload, 1) := fx_ok (d := 1728) (i := 37) fDL_law_27 eL_law_1758.2.2.2.2.2.2.1
theorem dL_law_1766 : decode cL_law 1766 = .ok (.aload_n 0, 1) := fx_ok (d := 1728) (i := 38) fDL_law_27 eL_law_1758.2.2.2.2.2.2.2.1
theorem dL_law_1767 : decode cL_law 1767 = .ok (.iload 4, 2) := fx_ok (d := 1728) (i := 39) fDL_law_27 eL_law_1758.2.2.2.2.2.2.2.2.1
theorem dL_law_1769 : decode cL_law 1769 = .ok (.iconst 3, 1) := fx_ok (d := 1728) (i := 41) fDL_law_27 eL_law_1758.2.2.2.2.2.2.2.2.2.1
theorem dL_law_1770 : decode cL_law 1770 = .ok (.iadd, 1) := fx_ok (d := 1728) (i := 42) fDL_law_27 eL_law_1758.2.2.2.2.2.2.2.2.2.2.1
theorem dL_law_1771 : decode cL_law 1771 = .ok (.iaload, 1) := fx_ok (d := 1728) (i := 43) fDL_law_27 eL_law_1758.2.2.2.2.2.2.2.2.2.2.2.1
theorem dL_law_1772 : decode cL_law 1772 = .ok (.invokevirtual 263, 3) := fx_ok (d := 1728) (i := 44) fDL_law_27 eL_law_1758.2.2.2.2.2.2.2.2.2.2.2.2.1
theorem dL_law_1775 : decode cL_law 1775 = .ok (.istore 6, 2) := fx_ok (d := 1728) (i := 47) fDL_law_27 eL_law_1758.2.2.2.2.2.2.2.2.2.2.2.2.2.1
theorem dL_law_1777 : decode cL_law 1777 = .ok (.goto 550, 3) := fx_ok (d := 1728) (i := 49) fDL_law_27 eL_law_1758.2.2.2.2.2.2.2.2.2.2.2.2.2.2.1
theorem dL_law_1780 : decode cL_law 1780 = .ok (.aload_n 1, 1) := fx_ok (d := 1728) (i := 52) fDL_law_27 eL_law_1758.2.2.2.2.2.2.2.2.2.2.2.2.2.2.2
theorem eL_law_1781 : (fdecl fTL_law_27 53 = some (.aload_n 0, 1)) ∧ (fdecl fTL_law_27 54 = some (.iload 4, 2)) ∧ (fdecl fTL_law_27 56 = some (.iconst 1, 1)) ∧ (fdecl fTL_law_27 57 = some (.iadd, 1)) ∧ (fdecl fTL_law_27 58 = some (.iaload, 1)) ∧ (fdecl fTL_law_27 59 = some (.aload_n 0, 1)) ∧ (fdecl fTL_law_27 60 = some (.iload 4, 2)) ∧ (fdecl fTL_law_27 62 = some (.iconst 2, 1)) ∧ (fdecl fTL_law_27 63 = some (.iadd, 1)) ∧ (fdecl fTL_law_28 0 = some (.iaload, 1)) ∧ (fdecl fTL_law_28 1 = some (.aload_n 3, 1)) ∧ (fdecl fTL_law_28 2 = some (.invokestatic 264, 3)) ∧ (fdecl fTL_law_28 5 = some (.istore 5, 2)) ∧ (fdecl fTL_law_28 7 = some (.aload_n 2, 1)) ∧ (fdecl fTL_law_28 8 = some (.aload_n 0, 1)) ∧ (fdecl fTL_law_28 9 = some (.iload 4, 2)) := by decide +kernel
theorem dL_law_1781 : decode cL_law 1781 = .ok (.aload_n 0, 1) := fx_ok (d := 1728) (i := 53) fDL_law_27 eL_law_1781.1
theorem dL_law_1782 : decode cL_law 1782 = .ok (.iload 4, 2) := fx_ok (d := 1728) (i := 54) fDL_law_27 eL_law_1781.2.1
theorem dL_law_1784 : decode cL_law 1784 = .ok (.iconst 1, 1) := fx_ok (d := 1728) (i := 56) fDL_law_27 eL_law_1781.2.2.1
theorem dL_law_1785 : decode cL_law 1785 = .ok (.iadd, 1) := fx_ok (d := 1728) (i := 57) fDL_law_27 eL_law_1781.2.2.2.1
theorem dL_law_1786 : decode cL_law 1786 = .ok (.iaload, 1) := fx_ok (d := 1728) (i := 58) fDL_law_27 eL_law_1781.2.2.2.2.1
theorem dL_law_1787 : decode cL_law 1787 = .ok (.aload_n 0, 1) := fx_ok (d := 1728) (i := 59) fDL_law_27 eL_law_1781.2.2.2.2.2.1
theorem dL_law_1788 : decode cL_law 1788 = .ok (.iload 4, 2) := fx_ok (d := 1728) (i := 60) fDL_law_27 eL_law_1781.2.2.2.2.2.2.1
theorem dL_law_1790 : decode cL_law 1790 = .ok (.iconst 2, 1) := fx_ok (d := 1728) (i := 62) fDL_law_27 eL_law_1781.2.2.2.2.2.2.2.1
theorem dL_law_1791 : decode cL_law 1791 = .ok (.iadd, 1) := fx_ok (d := 1728) (i := 63) fDL_law_27 eL_law_1781.2.2.2.2.2.2.2.2.1
theorem dL_law_1792 : decode cL_law 1792 = .ok (.iaload, 1) := fx_ok (d := 1792) (i := 0) fDL_law_28 eL_law_1781.2.2.2.2.2.2.2.2.2.1
theorem dL_law_1793 : decode cL_law 1793 = .ok (.aload_n 3, 1) := fx_ok (d := 1792) (i := 1) fDL_law_28 eL_law_1781.2.2.2.2.2.2.2.2.2.2.1
theorem dL_law_1794 : decode cL_law 1794 = .ok (.invokestatic 264, 3) := fx_ok (d := 1792) (i := 2) fDL_law_28 eL_law_1781.2.2.2.2.2.2.2.2.2.2.2.1
theorem dL_law_1797 : decode cL_law 1797 = .ok (.istore 5, 2) := fx_ok (d := 1792) (i := 5) fDL_law_28 eL_law_1781.2.2.2.2.2.2.2.2.2.2.2.2.1
theorem dL_law_1799 : decode cL_law 1799 = .ok (.aload_n 2, 1) := fx_ok (d := 1792) (i := 7) fDL_law_28 eL_law_1781.2.2.2.2.2.2.2.2.2.2.2.2.2.1
theorem dL_law_1800 : decode cL_law 1800 = .ok (.aload_n 0, 1) := fx_ok (d := 1792) (i := 8) fDL_law_28 eL_law_1781.2.2.2.2.2.2.2.2.2.2.2.2.2.2.1
theorem dL_law_1801 : decode cL_law 1801 = .ok (.iload 4, 2) := fx_ok (d := 1792) (i := 9) fDL_law_28 eL_law_1781.2.2.2.2.2.2.2.2.2.2.2.2.2.2.2
theorem eL_law_1803 : (fdecl fTL_law_28 11 = some (.iconst 1, 1)) ∧ (fdecl fTL_law_28 12 = some (.iadd, 1)) ∧ (fdecl fTL_law_28 13 = some (.iaload, 1)) ∧ (fdecl fTL_law_28 14 = some (.aload_n 0, 1)) ∧ (fdecl fTL_law_28 15 = some (.iload 4, 2)) ∧ (fdecl fTL_law_28 17 = some (.iconst 2, 1)) ∧ (fdecl fTL_law_28 18 = some (.iadd, 1)) ∧ (fdecl fTL_law_28 19 = some (.iaload, 1)) ∧ (fdecl fTL_law_28 20 = some (.invokevirtual 266, 3)) ∧ (fdecl fTL_law_28 23 = some (.istore 6, 2)) ∧ (fdecl fTL_law_28 25 = some (.goto 510, 3)) ∧ (fdecl fTL_law_28 28 = some (.aload_n 1, 1)) ∧ (fdecl fTL_law_28 29 = some (.aload_n 0, 1)) ∧ (fdecl fTL_law_28 30 = some (.iload 4, 2)) ∧ (fdecl fTL_law_28 32 = some (.iconst 1, 1)) ∧ (fdecl fTL_law_28 33 = some (.iadd, 1)) := by decide +kernel
theorem dL_law_1803 : decode cL_law 1803 = .ok (.iconst 1, 1) := fx_ok (d := 1792) (i := 11) fDL_law_28 eL_law_1803.1
theorem dL_law_1804 : decode cL_law 1804 = .ok (.iadd, 1) := fx_ok (d := 1792) (i := 12) fDL_law_28 eL_law_1803.2.1
theorem dL_law_1805 : decode cL_law 1805 = .ok (.iaload, 1) := fx_ok (d := 1792) (i := 13) fDL_law_28 eL_law_1803.2.2.1
theorem dL_law_1806 : decode cL_law 1806 = .ok (.aload_n 0, 1) := fx_ok (d := 1792) (i := 14) fDL_law_28 eL_law_1803.2.2.2.1
theorem dL_law_1807 : decode cL_law 1807 = .ok (.iload 4, 2) := fx_ok (d := 1792) (i := 15) fDL_law_28 eL_law_1803.2.2.2.2.1
theorem dL_law_1809 : decode cL_law 1809 = .ok (.iconst 2, 1) := fx_ok (d := 1792) (i := 17) fDL_law_28 eL_law_1803.2.2.2.2.2.1
theorem dL_law_1810 : decode cL_law 1810 = .ok (.iadd, 1) := fx_ok (d := 1792) (i := 18) fDL_law_28 eL_law_1803.2.2.2.2.2.2.1
theorem dL_law_1811 : decode cL_law 1811 = .ok (.iaload, 1) := fx_ok (d := 1792) (i := 19) fDL_law_28 eL_law_1803.2.2.2.2.2.2.2.1
theorem dL_law_1812 : decode cL_law 1812 = .ok (.invokevirtual 266, 3) := fx_ok (d := 1792) (i := 20) fDL_law_28 eL_law_1803.2.2.2.2.2.2.2.2.1
theorem dL_law_1815 : decode cL_law 1815 = .ok (.istore 6, 2) := fx_ok (d := 1792) (i := 23) fDL_law_28 eL_law_1803.2.2.2.2.2.2.2.2.2.1
theorem dL_law_1817 : decode cL_law 1817 = .ok (.goto 510, 3) := fx_ok (d := 1792) (i := 25) fDL_law_28 eL_law_1803.2.2.2.2.2.2.2.2.2.2.1
theorem dL_law_1820 : decode cL_law 1820 = .ok (.aload_n 1, 1) := fx_ok (d := 1792) (i := 28) fDL_law_28 eL_law_1803.2.2.2.2.2.2.2.2.2.2.2.1
theorem dL_law_1821 : decode cL_law 1821 = .ok (.aload_n 0, 1) := fx_ok (d := 1792) (i := 29) fDL_law_28 eL_law_1803.2.2.2.2.2.2.2.2.2.2.2.2.1
theorem dL_law_1822 : decode cL_law 1822 = .ok (.iload 4, 2) := fx_ok (d := 1792) (i := 30) fDL_law_28 eL_law_1803.2.2.2.2.2.2.2.2.2.2.2.2.2.1
theorem dL_law_1824 : decode cL_law 1824 = .ok (.iconst 1, 1) := fx_ok (d := 1792) (i := 32) fDL_law_28 eL_law_1803.2.2.2.2.2.2.2.2.2.2.2.2.2.2.1
theorem dL_law_1825 : decode cL_law 1825 = .ok (.iadd, 1) := fx_ok (d := 1792) (i := 33) fDL_law_28 eL_law_1803.2.2.2.2.2.2.2.2.2.2.2.2.2.2.2
theorem eL_law_1826 : (fdecl fTL_law_28 34 = some (.iaload, 1)) ∧ (fdecl fTL_law_28 35 = some (.aload_n 0, 1)) ∧ (fdecl fTL_law_28 36 = some (.iload 4, 2)) ∧ (fdecl fTL_law_28 38 = some (.iconst 2, 1)) ∧ (fdecl fTL_law_28 39 = some (.iadd, 1)) ∧ (fdecl fTL_law_28 40 = some (.iaload, 1)) ∧ (fdecl fTL_law_28 41 = some (.aload_n 0, 1)) ∧ (fdecl fTL_law_28 42 = some (.iload 4, 2)) ∧ (fdecl fTL_law_28 44 = some (.iconst 3, 1)) ∧ (fdecl fTL_law_28 45 = some (.iadd, 1)) ∧ (fdecl fTL_law_28 46 = some (.iaload, 1)) ∧ (fdecl fTL_law_28 47 = some (.aload_n 0, 1)) ∧ (fdecl fTL_law_28 48 = some (.iload 4, 2)) ∧ (fdecl fTL_law_28 50 = some (.iconst 4, 1)) ∧ (fdecl fTL_law_28 51 = some (.iadd, 1)) ∧ (fdecl fTL_law_28 52 = some (.iaload, 1)) := by decide +kernel
theorem dL_law_1826 : decode cL_law 1826 = .ok (.iaload, 1) := fx_ok (d := 1792) (i := 34) fDL_law_28 eL_law_1826.1
theorem dL_law_1827 : decode cL_law 1827 = .ok (.aload_n 0, 1) := fx_ok (d := 1792) (i := 35) fDL_law_28 eL_law_1826.2.1
theorem dL_law_1828 : decode cL_law 1828 = .ok (.iload 4, 2) := fx_ok (d := 1792) (i := 36) fDL_law_28 eL_law_1826.2.2.1
theorem dL_law_1830 : decode cL_law 1830 = .ok (.iconst 2, 1) := fx_ok (d := 1792) (i := 38) fDL_law_28 eL_law_1826.2.2.2.1
theorem dL_law_1831 : decode cL_law 1831 = .ok (.iadd, 1) := fx_ok (d := 1792) (i := 39) fDL_law_28 eL_law_1826.2.2.2.2.1
theorem dL_law_1832 : decode cL_law 1832 = .ok (.iaload, 1) := fx_ok (d := 1792) (i := 40) fDL_law_28 eL_law_1826.2.2.2.2.2.1
theorem dL_law_1833 : decode cL_law 1833 = .ok (.aload_n 0, 1) := fx_ok (d := 1792) (i := 41) fDL_law_28 eL_law_1826.2.2.2.2.2.2.1
theorem dL_law_1834 : decode cL_law 1834 = .ok (.iload 4, 2) := fx_ok (d := 1792) (i := 42) fDL_law_28 eL_law_1826.2.2.2.2.2.2.2.1
theorem dL_law_1836 : decode cL_law 1836 = .ok (.iconst 3, 1) := fx_ok (d := 1792) (i := 44) fDL_law_28 eL_law_1826.2.2.2.2.2.2.2.2.1
theorem dL_law_1837 : decode cL_law 1837 = .ok (.iadd, 1) := fx_ok (d := 1792) (i := 45) fDL_law_28 eL_law_1826.2.2.2.2.2.2.2.2.2.1
theorem dL_law_1838 : decode cL_law 1838 = .ok (.iaload, 1) := fx_ok (d := 1792) (i := 46) fDL_law_28 eL_law_1826.2.2.2.2.2.2.2.2.2.2.1
theorem dL_law_1839 : decode cL_law 1839 = .ok (.aload_n 0, 1) := fx_ok (d := 1792) (i := 47) fDL_law_28 eL_law_1826.2.2.2.2.2.2.2.2.2.2.2.1
theorem dL_law_1840 : decode cL_law 1840 = .ok (.iload 4, 2) := fx_ok (d := 1792) (i := 48) fDL_law_28 eL_law_1826.2.2.2.2.2.2.2.2.2.2.2.2.1
theorem dL_law_1842 : decode cL_law 1842 = .ok (.iconst 4, 1) := fx_ok (d := 1792) (i := 50) fDL_law_28 eL_law_1826.2.2.2.2.2.2.2.2.2.2.2.2.2.1
theorem dL_law_1843 : decode cL_law 1843 = .ok (.iadd, 1) := fx_ok (d := 1792) (i := 51) fDL_law_28 eL_law_1826.2.2.2.2.2.2.2.2.2.2.2.2.2.2.1
theorem dL_law_1844 : decode cL_law 1844 = .ok (.iaload, 1) := fx_ok (d := 1792) (i := 52) fDL_law_28 eL_law_1826.2.2.2.2.2.2.2.2.2.2.2.2.2.2.2
theorem eL_law_1845 : (fdecl fTL_law_28 53 = some (.aload_n 0, 1)) ∧ (fdecl fTL_law_28 54 = some (.iload 4, 2)) ∧ (fdecl fTL_law_28 56 = some (.iconst 5, 1)) ∧ (fdecl fTL_law_28 57 = some (.iadd, 1)) ∧ (fdecl fTL_law_28 58 = some (.iaload, 1)) ∧ (fdecl fTL_law_28 59 = some (.ifCond .eq 7, 3)) ∧ (fdecl fTL_law_28 62 = some (.iconst 1, 1)) ∧ (fdecl fTL_law_28 63 = some (.goto 4, 3)) ∧ (fdecl fTL_law_29 2 = some (.iconst 0, 1)) ∧ (fdecl fTL_law_29 3 = some (.aload_n 3, 1)) ∧ (fdecl fTL_law_29 4 = some (.invokestatic 267, 3)) ∧ (fdecl fTL_law_29 7 = some (.istore 5, 2)) ∧ (fdecl fTL_law_29 9 = some (.aload_n 2, 1)) ∧ (fdecl fTL_law_29 10 = some (.aload_n 0, 1)) ∧ (fdecl fTL_law_29 11 = some (.iload 4, 2)) ∧ (fdecl fTL_law_29 13 = some (.iconst 1, 1)) := by decide +kernel
theorem dL_law_1845 : decode cL_law 1845 = .ok (.aload_n 0, 1) := fx_ok (d := 1792) (i := 53) fDL_law_28 eL_law_1845.1
theorem dL_law_1846 : decode cL_law 1846 = .ok (.iload 4, 2) := fx_ok (d := 1792) (i := 54) fDL_law_28 eL_law_1845.2.1
theorem dL_law_1848 : decode cL_law 1848 = .ok (.iconst 5, 1) := fx_ok (d := 1792) (i := 56) fDL_law_28 eL_law_1845.2.2.1
theorem dL_law_1849 : decode cL_law 1849 = .ok (.iadd, 1) := fx_ok (d := 1792) (i := 57) fDL_law_28 eL_law_1845.2.2.2.1
theorem dL_law_1850 : decode cL_law 1850 = .ok (.iaload, 1) := fx_ok (d := 1792) (i := 58) fDL_law_28 eL_law_1845.2.2.2.2.1
theorem dL_law_1851 : decode cL_law 1851 = .ok (.ifCond .eq 7, 3) := fx_ok (d := 1792) (i := 59) fDL_law_28 eL_law_1845.2.2.2.2.2.1
theorem dL_law_1854 : decode cL_law 1854 = .ok (.iconst 1, 1) := fx_ok (d := 1792) (i := 62) fDL_law_28 eL_law_1845.2.2.2.2.2.2.1
theorem dL_law_1855 : decode cL_law 1855 = .ok (.goto 4, 3) := fx_ok (d := 1792) (i := 63) fDL_law_28 eL_law_1845.2.2.2.2.2.2.2.1
theorem dL_law_1858 : decode cL_law 1858 = .ok (.iconst 0, 1) := fx_ok (d := 1856) (i := 2) fDL_law_29 eL_law_1845.2.2.2.2.2.2.2.2.1
theorem dL_law_1859 : decode cL_law 1859 = .ok (.aload_n 3, 1) := fx_ok (d := 1856) (i := 3) fDL_law_29 eL_law_1845.2.2.2.2.2.2.2.2.2.1
theorem dL_law_1860 : decode cL_law 1860 = .ok (.invokestatic 267, 3) := fx_ok (d := 1856) (i := 4) fDL_law_29 eL_law_1845.2.2.2.2.2.2.2.2.2.2.1
theorem dL_law_1863 : decode cL_law 1863 = .ok (.istore 5, 2) := fx_ok (d := 1856) (i := 7) fDL_law_29 eL_law_1845.2.2.2.2.2.2.2.2.2.2.2.1
theorem dL_law_1865 : decode cL_law 1865 = .ok (.aload_n 2, 1) := fx_ok (d := 1856) (i := 9) fDL_law_29 eL_law_1845.2.2.2.2.2.2.2.2.2.2.2.2.1
theorem dL_law_1866 : decode cL_law 1866 = .ok (.aload_n 0, 1) := fx_ok (d := 1856) (i := 10) fDL_law_29 eL_law_1845.2.2.2.2.2.2.2.2.2.2.2.2.2.1
theorem dL_law_1867 : decode cL_law 1867 = .ok (.iload 4, 2) := fx_ok (d := 1856) (i := 11) fDL_law_29 eL_law_1845.2.2.2.2.2.2.2.2.2.2.2.2.2.2.1
theorem dL_law_1869 : decode cL_law 1869 = .ok (.iconst 1, 1) := fx_ok (d := 1856) (i := 13) fDL_law_29 eL_law_1845.2.2.2.2.2.2.2.2.2.2.2.2.2.2.2
theorem eL_law_1870 : (fdecl fTL_law_29 14 = some (.iadd, 1)) ∧ (fdecl fTL_law_29 15 = some (.iaload, 1)) ∧ (fdecl fTL_law_29 16 = some (.aload_n 0, 1)) ∧ (fdecl fTL_law_29 17 = some (.iload 4, 2)) ∧ (fdecl fTL_law_29 19 = some (.iconst 2, 1)) ∧ (fdecl fTL_law_29 20 = some (.iadd, 1)) ∧ (fdecl fTL_law_29 21 = some (.iaload, 1)) ∧ (fdecl fTL_law_29 22 = some (.aload_n 0, 1)) ∧ (fdecl fTL_law_29 23 = some (.iload 4, 2)) ∧ (fdecl fTL_law_29 25 = some (.iconst 3, 1)) ∧ (fdecl fTL_law_29 26 = some (.iadd, 1)) ∧ (fdecl fTL_law_29 27 = some (.iaload, 1)) ∧ (fdecl fTL_law_29 28 = some (.aload_n 0, 1)) ∧ (fdecl fTL_law_29 29 = some (.iload 4, 2)) ∧ (fdecl fTL_law_29 31 = some (.iconst 4, 1)) ∧ (fdecl fTL_law_29 32 = some (.iadd, 1)) := by decide +kernel
theorem dL_law_1870 : decode cL_law 1870 = .ok (.iadd, 1) := fx_ok (d := 1856) (i := 14) fDL_law_29 eL_law_1870.1
theorem dL_law_1871 : decode cL_law 1871 = .ok (.iaload, 1) := fx_ok (d := 1856) (i := 15) fDL_law_29 eL_law_1870.2.1
theorem dL_law_1872 : decode cL_law 1872 = .ok (.aload_n 0, 1) := fx_ok (d := 1856) (i := 16) fDL_law_29 eL_law_1870.2.2.1
theorem dL_law_1873 : decode cL_law 1873 = .ok (.iload 4, 2) := fx_ok (d := 1856) (i := 17) fDL_law_29 eL_law_1870.2.2.2.1
theorem dL_law_1875 : decode cL_law 1875 = .ok (.iconst 2, 1) := fx_ok (d := 1856) (i := 19) fDL_law_29 eL_law_1870.2.2.2.2.1
theorem dL_law_1876 : decode cL_law 1876 = .ok (.iadd, 1) := fx_ok (d := 1856) (i := 20) fDL_law_29 eL_law_1870.2.2.2.2.2.1
theorem dL_law_1877 : decode cL_law 1877 = .ok (.iaload, 1) := fx_ok (d := 1856) (i := 21) fDL_law_29 eL_law_1870.2.2.2.2.2.2.1
theorem dL_law_1878 : decode cL_law 1878 = .ok (.aload_n 0, 1) := fx_ok (d := 1856) (i := 22) fDL_law_29 eL_law_1870.2.2.2.2.2.2.2.1
theorem dL_law_1879 : decode cL_law 1879 = .ok (.iload 4, 2) := fx_ok (d := 1856) (i := 23) fDL_law_29 eL_law_1870.2.2.2.2.2.2.2.2.1
theorem dL_law_1881 : decode cL_law 1881 = .ok (.iconst 3, 1) := fx_ok (d := 1856) (i := 25) fDL_law_29 eL_law_1870.2.2.2.2.2.2.2.2.2.1
theorem dL_law_1882 : decode cL_law 1882 = .ok (.iadd, 1) := fx_ok (d := 1856) (i := 26) fDL_law_29 eL_law_1870.2.2.2.2.2.2.2.2.2.2.1
theorem dL_law_1883 : decode cL_law 1883 = .ok (.iaload, 1) := fx_ok (d := 1856) (i := 27) fDL_law_29 eL_law_1870.2.2.2.2.2.2.2.2.2.2.2.1
theorem dL_law_1884 : decode cL_law 1884 = .ok (.aload_n 0, 1) := fx_ok (d := 1856) (i := 28) fDL_law_29 eL_law_1870.2.2.2.2.2.2.2.2.2.2.2.2.1
theorem dL_law_1885 : decode cL_law 1885 = .ok (.iload 4, 2) := fx_ok (d := 1856) (i := 29) fDL_law_29 eL_law_1870.2.2.2.2.2.2.2.2.2.2.2.2.2.1
theorem dL_law_1887 : decode cL_law 1887 = .ok (.iconst 4, 1) := fx_ok (d := 1856) (i := 31) fDL_law_29 eL_law_1870.2.2.2.2.2.2.2.2.2.2.2.2.2.2.1
theorem dL_law_1888 : decode cL_law 1888 = .ok (.iadd, 1) := fx_ok (d := 1856) (i := 32) fDL_law_29 eL_law_1870.2.2.2.2.2.2.2.2.2.2.2.2.2.2.2
theorem eL_law_1889 : (fdecl fTL_law_29 33 = some (.iaload, 1)) ∧ (fdecl fTL_law_29 34 = some (.aload_n 0, 1)) ∧ (fdecl fTL_law_29 35 = some (.iload 4, 2)) ∧ (fdecl fTL_law_29 37 = some (.iconst 5, 1)) ∧ (fdecl fTL_law_29 38 = some (.iadd, 1)) ∧ (fdecl fTL_law_29 39 = some (.iaload, 1)) ∧ (fdecl fTL_law_29 40 = some (.ifCond .eq 7, 3)) ∧ (fdecl fTL_law_29 43 = some (.iconst 1, 1)) ∧ (fdecl fTL_law_29 44 = some (.goto 4, 3)) ∧ (fdecl fTL_law_29 47 = some (.iconst 0, 1)) ∧ (fdecl fTL_law_29 48 = some (.invokevirtual 270, 3)) ∧ (fdecl fTL_law_29 51 = some (.istore 6, 2)) ∧ (fdecl fTL_law_29 53 = some (.goto 418, 3)) ∧ (fdecl fTL_law_29 56 = some (.aload_n 1, 1)) ∧ (fdecl fTL_law_29 57 = some (.aload_n 0, 1)) ∧ (fdecl fTL_law_29 58 = some (.iload 4, 2)) := by decide +kernel
theorem dL_law_1889 : decode cL_law 1889 = .ok (.iaload, 1) := fx_ok (d := 1856) (i := 33) fDL_law_29 eL_law_1889.1
theorem dL_law_1890 : decode cL_law 1890 = .ok (.aload_n 0, 1) := fx_ok (d := 1856) (i := 34) fDL_law_29 eL_law_1889.2.1
theorem dL_law_1891 : decode cL_law 1891 = .ok (.iload 4, 2) := fx_ok (d := 1856) (i := 35) fDL_law_29 eL_law_1889.2.2.1
theorem dL_law_1893 : decode cL_law 1893 = .ok (.iconst 5, 1) := fx_ok (d := 1856) (i := 37) fDL_law_29 eL_law_1889.2.2.2.1
theorem dL_law_1894 : decode cL_law 1894 = .ok (.iadd, 1) := fx_ok (d := 1856) (i := 38) fDL_law_29 eL_law_1889.2.2.2.2.1
theorem dL_law_1895 : decode cL_law 1895 = .ok (.iaload, 1) := fx_ok (d := 1856) (i := 39) fDL_law_29 eL_law_1889.2.2.2.2.2.1
theorem dL_law_1896 : decode cL_law 1896 = .ok (.ifCond .eq 7, 3) := fx_ok (d := 1856) (i := 40) fDL_law_29 eL_law_1889.2.2.2.2.2.2.1
theorem dL_law_1899 : decode cL_law 1899 = .ok (.iconst 1, 1) := fx_ok (d := 1856) (i := 43) fDL_law_29 eL_law_1889.2.2.2.2.2.2.2.1
theorem dL_law_1900 : decode cL_law 1900 = .ok (.goto 4, 3) := fx_ok (d := 1856) (i := 44) fDL_law_29 eL_law_1889.2.2.2.2.2.2.2.2.1
theorem dL_law_1903 : decode cL_law 1903 = .ok (.iconst 0, 1) := fx_ok (d := 1856) (i := 47) fDL_law_29 eL_law_1889.2.2.2.2.2.2.2.2.2.1
theorem dL_law_1904 : decode cL_law 1904 = .ok (.invokevirtual 270, 3) := fx_ok (d := 1856) (i := 48) fDL_law_29 eL_law_1889.2.2.2.2.2.2.2.2.2.2.1
theorem dL_law_1907 : decode cL_law 1907 = .ok (.istore 6, 2) := fx_ok (d := 1856) (i := 51) fDL_law_29 eL_law_1889.2.2.2.2.2.2.2.2.2.2.2.1
theorem dL_law_1909 : decode cL_law 1909 = .ok (.goto 418, 3) := fx_ok (d := 1856) (i := 53) fDL_law_29 eL_law_1889.2.2.2.2.2.2.2.2.2.2.2.2.1
theorem dL_law_1912 : decode cL_law 1912 = .ok (.aload_n 1, 1) := fx_ok (d := 1856) (i := 56) fDL_law_29 eL_law_1889.2.2.2.2.2.2.2.2.2.2.2.2.2.1
theorem dL_law_1913 : decode cL_law 1913 = .ok (.aload_n 0, 1) := fx_ok (d := 1856) (i := 57) fDL_law_29 eL_law_1889.2.2.2.2.2.2.2.2.2.2.2.2.2.2.1
theorem dL_law_1914 : decode cL_law 1914 = .ok (.iload 4, 2) := fx_ok (d := 1856) (i := 58) fDL_law_29 eL_law_1889.2.2.2.2.2.2.2.2.2.2.2.2.2.2.2
theorem eL_law_1916 : (fdecl fTL_law_29 60 = some (.iconst 1, 1)) ∧ (fdecl fTL_law_29 61 = some (.iadd, 1)) ∧ (fdecl fTL_law_29 62 = some (.iaload, 1)) ∧ (fdecl fTL_law_29 63 = some (.aload_n 0, 1)) ∧ (fdecl fTL_law_30 0 = some (.iload 4, 2)) ∧ (fdecl fTL_law_30 2 = some (.iconst 2, 1)) ∧ (fdecl fTL_law_30 3 = some (.iadd, 1)) ∧ (fdecl fTL_law_30 4 = some (.iaload, 1)) ∧ (fdecl fTL_law_30 5 = some (.aload_n 0, 1)) ∧ (fdecl fTL_law_30 6 = some (.iload 4, 2)) ∧ (fdecl fTL_law_30 8 = some (.iconst 3, 1)) ∧ (fdecl fTL_law_30 9 = some (.iadd, 1)) ∧ (fdecl fTL_law_30 10 = some (.iaload, 1)) ∧ (fdecl fTL_law_30 11 = some (.aload_n 3, 1)) ∧ (fdecl fTL_law_30 12 = some (.invokestatic 271, 3)) ∧ (fdecl fTL_law_30 15 = some (.istore 5, 2)) := by decide +kernel
theorem dL_law_1916 : decode cL_law 1916 = .ok (.iconst 1, 1) := fx_ok (d := 1856) (i := 60) fDL_law_29 eL_law_1916.1
theorem dL_law_1917 : decode cL_law 1917 = .ok (.iadd, 1) := fx_ok (d := 1856) (i := 61) fDL_law_29 eL_law_1916.2.1
theorem dL_law_1918 : decode cL_law 1918 = .ok (.iaload, 1) := fx_ok (d := 1856) (i := 62) fDL_law_29 eL_law_1916.2.2.1
theorem dL_law_1919 : decode cL_law 1919 = .ok (.aload_n 0, 1) := fx_ok (d := 1856) (i := 63) fDL_law_29 eL_law_1916.2.2.2.1
theorem dL_law_1920 : decode cL_law 1920 = .ok (.iload 4, 2) := fx_ok (d := 1920) (i := 0) fDL_law_30 eL_law_1916.2.2.2.2.1
theorem dL_law_1922 : decode cL_law 1922 = .ok (.iconst 2, 1) := fx_ok (d := 1920) (i := 2) fDL_law_30 eL_law_1916.2.2.2.2.2.1
theorem dL_law_1923 : decode cL_law 1923 = .ok (.iadd, 1) := fx_ok (d := 1920) (i := 3) fDL_law_30 eL_law_1916.2.2.2.2.2.2.1
theorem dL_law_1924 : decode cL_law 1924 = .ok (.iaload, 1) := fx_ok (d := 1920) (i := 4) fDL_law_30 eL_law_1916.2.2.2.2.2.2.2.1
theorem dL_law_1925 : decode cL_law 1925 = .ok (.aload_n 0, 1) := fx_ok (d := 1920) (i := 5) fDL_law_30 eL_law_1916.2.2.2.2.2.2.2.2.1
theorem dL_law_1926 : decode cL_law 1926 = .ok (.iload 4, 2) := fx_ok (d := 1920) (i := 6) fDL_law_30 eL_law_1916.2.2.2.2.2.2.2.2.2.1
theorem dL_law_1928 : decode cL_law 1928 = .ok (.iconst 3, 1) := fx_ok (d := 1920) (i := 8) fDL_law_30 eL_law_1916.2.2.2.2.2.2.2.2.2.2.1
theorem dL_law_1929 : decode cL_law 1929 = .ok (.iadd, 1) := fx_ok (d := 1920) (i := 9) fDL_law_30 eL_law_1916.2.2.2.2.2.2.2.2.2.2.2.1
theorem dL_law_1930 : decode cL_law 1930 = .ok (.iaload, 1) := fx_ok (d := 1920) (i := 10) fDL_law_30 eL_law_1916.2.2.2.2.2.2.2.2.2.2.2.2.1
theorem dL_law_1931 : decode cL_law 1931 = .ok (.aload_n 3, 1) := fx_ok (d := 1920) (i := 11) fDL_law_30 eL_law_1916.2.2.2.2.2.2.2.2.2.2.2.2.2.1
theorem dL_law_1932 : decode cL_law 1932 = .ok (.invokestatic 271, 3) := fx_ok (d := 1920) (i := 12) fDL_law_30 eL_law_1916.2.2.2.2.2.2.2.2.2.2.2.2.2.2.1
theorem dL_law_1935 : decode cL_law 1935 = .ok (.istore 5, 2) := fx_ok (d := 1920) (i := 15) fDL_law_30 eL_law_1916.2.2.2.2.2.2.2.2.2.2.2.2.2.2.2
theorem eL_law_1937 : (fdecl fTL_law_30 17 = some (.aload_n 2, 1)) ∧ (fdecl fTL_law_30 18 = some (.aload_n 0, 1)) ∧ (fdecl fTL_law_30 19 = some (.iload 4, 2)) ∧ (fdecl fTL_law_30 21 = some (.iconst 1, 1)) ∧ (fdecl fTL_law_30 22 = some (.iadd, 1)) ∧ (fdecl fTL_law_30 23 = some (.iaload, 1)) ∧ (fdecl fTL_law_30 24 = some (.aload_n 0, 1)) ∧ (fdecl fTL_law_30 25 = some (.iload 4, 2)) ∧ (fdecl fTL_law_30 27 = some (.iconst 2, 1)) ∧ (fdecl fTL_law_30 28 = some (.iadd, 1)) ∧ (fdecl fTL_law_30 29 = some (.iaload, 1)) ∧ (fdecl fTL_law_30 30 = some (.aload_n 0, 1)) ∧ (fdecl fTL_law_30 31 = some (.iload 4, 2)) ∧ (fdecl fTL_law_30 33 = some (.iconst 3, 1)) ∧ (fdecl fTL_law_30 34 = some (.iadd, 1)) ∧ (fdecl fTL_law_30 35 = some (.iaload, 1)) := by decide +kernel
theorem dL_law_1937 : decode cL_law 1937 = .ok (.aload_n 2, 1) := fx_ok (d := 1920) (i := 17) fDL_law_30 eL_law_1937.1
theorem dL_law_1938 : decode cL_law 1938 = .ok (.aload_n 0, 1) := fx_ok (d := 1920) (i := 18) fDL_law_30 eL_law_1937.2.1
theorem dL_law_1939 : decode cL_law 1939 = .ok (.iload 4, 2) := fx_ok (d := 1920) (i := 19) fDL_law_30 eL_law_1937.2.2.1
theorem dL_law_1941 : decode cL_law 1941 = .ok (.iconst 1, 1) := fx_ok (d := 1920) (i := 21) fDL_law_30 eL_law_1937.2.2.2.1
theorem dL_law_1942 : decode cL_law 1942 = .ok (.iadd, 1) := fx_ok (d := 1920) (i := 22) fDL_law_30 eL_law_1937.2.2.2.2.1
theorem dL_law_1943 : decode cL_law 1943 = .ok (.iaload, 1) := fx_ok (d := 1920) (i := 23) fDL_law_30 eL_law_1937.2.2.2.2.2.1
theorem dL_law_1944 : decode cL_law 1944 = .ok (.aload_n 0, 1) := fx_ok (d := 1920) (i := 24) fDL_law_30 eL_law_1937.2.2.2.2.2.2.1
theorem dL_law_1945 : decode cL_law 1945 = .ok (.iload 4, 2) := fx_ok (d := 1920) (i := 25) fDL_law_30 eL_law_1937.2.2.2.2.2.2.2.1
theorem dL_law_1947 : decode cL_law 1947 = .ok (.iconst 2, 1) := fx_ok (d := 1920) (i := 27) fDL_law_30 eL_law_1937.2.2.2.2.2.2.2.2.1
theorem dL_law_1948 : decode cL_law 1948 = .ok (.iadd, 1) := fx_ok (d := 1920) (i := 28) fDL_law_30 eL_law_1937.2.2.2.2.2.2.2.2.2.1
theorem dL_law_1949 : decode cL_law 1949 = .ok (.iaload, 1) := fx_ok (d := 1920) (i := 29) fDL_law_30 eL_law_1937.2.2.2.2.2.2.2.2.2.2.1
theorem dL_law_1950 : decode cL_law 1950 = .ok (.aload_n 0, 1) := fx_ok (d := 1920) (i := 30) fDL_law_30 eL_law_1937.2.2.2.2.2.2.2.2.2.2.2.1
theorem dL_law_1951 : decode cL_law 1951 = .ok (.iload 4, 2) := fx_ok (d := 1920) (i := 31) fDL_law_30 eL_law_1937.2.2.2.2.2.2.2.2.2.2.2.2.1
theorem dL_law_1953 : decode cL_law 1953 = .ok (.iconst 3, 1) := fx_ok (d := 1920) (i := 33) fDL_law_30 eL_law_1937.2.2.2.2.2.2.2.2.2.2.2.2.2.1
theorem dL_law_1954 : decode cL_law 1954 = .ok (.iadd, 1) := fx_ok (d := 1920) (i := 34) fDL_law_30 eL_law_1937.2.2.2.2.2.2.2.2.2.2.2.2.2.2.1
theorem dL_law_1955 : decode cL_law 1955 = .ok (.iaload, 1) := fx_ok (d := 1920) (i := 35) fDL_law_30 eL_law_1937.2.2.2.2.2.2.2.2.2.2.2.2.2.2.2
theorem eL_law_1956 : (fdecl fTL_law_30 36 = some (.invokevirtual 273, 3)) ∧ (fdecl fTL_law_30 39 = some (.istore 6, 2)) ∧ (fdecl fTL_law_30 41 = some (.goto 366, 3)) ∧ (fdecl fTL_law_30 44 = some (.aload_n 1, 1)) ∧ (fdecl fTL_law_30 45 = some (.aload_n 0, 1)) ∧ (fdecl fTL_law_30 46 = some (.iload 4, 2)) ∧ (fdecl fTL_law_30 48 = some (.iconst 1, 1)) ∧ (fdecl fTL_law_30 49 = some (.iadd, 1)) ∧ (fdecl fTL_law_30 50 = some (.iaload, 1)) ∧ (fdecl fTL_law_30 51 = some (.aload_n 0, 1)) ∧ (fdecl fTL_law_30 52 = some (.iload 4, 2)) ∧ (fdecl fTL_law_30 54 = some (.iconst 2, 1)) ∧ (fdecl fTL_law_30 55 = some (.iadd, 1)) ∧ (fdecl fTL_law_30 56 = some (.iaload, 1)) ∧ (fdecl fTL_law_30 57 = some (.aload_n 3, 1)) ∧ (fdecl fTL_law_30 58 = some (.invokestatic 274, 3)) := by decide +kernel
theorem dL_law_1956 : decode cL_law 1956 = .ok (.invokevirtual 273, 3) := fx_ok (d := 1920) (i := 36) fDL_law_30 eL_law_1956.1
theorem dL_law_1959 : decode cL_law 1959 = .ok (.istore 6, 2) := fx_ok (d := 1920) (i := 39) fDL_law_30 eL_law_1956.2.1
theorem dL_law_1961 : decode cL_law 1961 = .ok (.goto 366, 3) := fx_ok (d := 1920) (i := 41) fDL_law_30 eL_law_1956.2.2.1
theorem dL_law_1964 : decode cL_law 1964 = .ok (.aload_n 1, 1) := fx_ok (d := 1920) (i := 44) fDL_law_30 eL_law_1956.2.2.2.1
theorem dL_law_1965 : decode cL_law 1965 = .ok (.aload_n 0, 1) := fx_ok (d := 1920) (i := 45) fDL_law_30 eL_law_1956.2.2.2.2.1
theorem dL_law_1966 : decode cL_law 1966 = .ok (.iload 4, 2) := fx_ok (d := 1920) (i := 46) fDL_law_30 eL_law_1956.2.2.2.2.2.1
theorem dL_law_1968 : decode cL_law 1968 = .ok (.iconst 1, 1) := fx_ok (d := 1920) (i := 48) fDL_law_30 eL_law_1956.2.2.2.2.2.2.1
theorem dL_law_1969 : decode cL_law 1969 = .ok (.iadd, 1) := fx_ok (d := 1920) (i := 49) fDL_law_30 eL_law_1956.2.2.2.2.2.2.2.1
theorem dL_law_1970 : decode cL_law 1970 = .ok (.iaload, 1) := fx_ok (d := 1920) (i := 50) fDL_law_30 eL_law_1956.2.2.2.2.2.2.2.2.1
theorem dL_law_1971 : decode cL_law 1971 = .ok (.aload_n 0, 1) := fx_ok (d := 1920) (i := 51) fDL_law_30 eL_law_1956.2.2.2.2.2.2.2.2.2.1
theorem dL_law_1972 : decode cL_law 1972 = .ok (.iload 4, 2) := fx_ok (d := 1920) (i := 52) fDL_law_30 eL_law_1956.2.2.2.2.2.2.2.2.2.2.1
theorem dL_law_1974 : decode cL_law 1974 = .ok (.iconst 2, 1) := fx_ok (d := 1920) (i := 54) fDL_law_30 eL_law_1956.2.2.2.2.2.2.2.2.2.2.2.1
theorem dL_law_1975 : decode cL_law 1975 = .ok (.iadd, 1) := fx_ok (d := 1920) (i := 55) fDL_law_30 eL_law_1956.2.2.2.2.2.2.2.2.2.2.2.2.1
theorem dL_law_1976 : decode cL_law 1976 = .ok (.iaload, 1) := fx_ok (d := 1920) (i := 56) fDL_law_30 eL_law_1956.2.2.2.2.2.2.2.2.2.2.2.2.2.1
theorem dL_law_1977 : decode cL_law 1977 = .ok (.aload_n 3, 1) := fx_ok (d := 1920) (i := 57) fDL_law_30 eL_law_1956.2.2.2.2.2.2.2.2.2.2.2.2.2.2.1
theorem dL_law_1978 : decode cL_law 1978 = .ok (.invokestatic 274, 3) := fx_ok (d := 1920) (i := 58) fDL_law_30 eL_law_1956.2.2.2.2.2.2.2.2.2.2.2.2.2.2.2
theorem eL_law_1981 : (fdecl fTL_law_30 61 = some (.istore 5, 2)) ∧ (fdecl fTL_law_30 63 = some (.aload_n 2, 1)) ∧ (fdecl fTL_law_31 0 = some (.aload_n 0, 1)) ∧ (fdecl fTL_law_31 1 = some (.iload 4, 2)) ∧ (fdecl fTL_law_31 3 = some (.iconst 1, 1)) ∧ (fdecl fTL_law_31 4 = some (.iadd, 1)) ∧ (fdecl fTL_law_31 5 = some (.iaload, 1)) ∧ (fdecl fTL_law_31 6 = some (.aload_n 0, 1)) ∧ (fdecl fTL_law_31 7 = some (.iload 4, 2)) ∧ (fdecl fTL_law_31 9 = some (.iconst 2, 1)) ∧ (fdecl fTL_law_31 10 = some (.iadd, 1)) ∧ (fdecl fTL_law_31 11 = some (.iaload, 1)) ∧ (fdecl fTL_law_31 12 = some (.invokevirtual 276, 3)) ∧ (fdecl fTL_law_31 15 = some (.istore 6, 2)) ∧ (fdecl fTL_law_31 17 = some (.goto 326, 3)) ∧ (fdecl fTL_law_31 20 = some (.aload_n 1, 1)) := by decide +kernel
theorem dL_law_1981 : decode cL_law 1981 = .ok (.istore 5, 2) := fx_ok (d := 1920) (i := 61) fDL_law_30 eL_law_1981.1
theorem dL_law_1983 : decode cL_law 1983 = .ok (.aload_n 2, 1) := fx_ok (d := 1920) (i := 63) fDL_law_30 eL_law_1981.2.1
theorem dL_law_1984 : decode cL_law 1984 = .ok (.aload_n 0, 1) := fx_ok (d := 1984) (i := 0) fDL_law_31 eL_law_1981.2.2.1
theorem dL_law_1985 : decode cL_law 1985 = .ok (.iload 4, 2) := fx_ok (d := 1984) (i := 1) fDL_law_31 eL_law_1981.2.2.2.1
theorem dL_law_1987 : decode cL_law 1987 = .ok (.iconst 1, 1) := fx_ok (d := 1984) (i := 3) fDL_law_31 eL_law_1981.2.2.2.2.1
theorem dL_law_1988 : decode cL_law 1988 = .ok (.iadd, 1) := fx_ok (d := 1984) (i := 4) fDL_law_31 eL_law_1981.2.2.2.2.2.1
theorem dL_law_1989 : decode cL_law 1989 = .ok (.iaload, 1) := fx_ok (d := 1984) (i := 5) fDL_law_31 eL_law_1981.2.2.2.2.2.2.1
theorem dL_law_1990 : decode cL_law 1990 = .ok (.aload_n 0, 1) := fx_ok (d := 1984) (i := 6) fDL_law_31 eL_law_1981.2.2.2.2.2.2.2.1
theorem dL_law_1991 : decode cL_law 1991 = .ok (.iload 4, 2) := fx_ok (d := 1984) (i := 7) fDL_law_31 eL_law_1981.2.2.2.2.2.2.2.2.1
theorem dL_law_1993 : decode cL_law 1993 = .ok (.iconst 2, 1) := fx_ok (d := 1984) (i := 9) fDL_law_31 eL_law_1981.2.2.2.2.2.2.2.2.2.1
theorem dL_law_1994 : decode cL_law 1994 = .ok (.iadd, 1) := fx_ok (d := 1984) (i := 10) fDL_law_31 eL_law_1981.2.2.2.2.2.2.2.2.2.2.1
theorem dL_law_1995 : decode cL_law 1995 = .ok (.iaload, 1) := fx_ok (d := 1984) (i := 11) fDL_law_31 eL_law_1981.2.2.2.2.2.2.2.2.2.2.2.1
theorem dL_law_1996 : decode cL_law 1996 = .ok (.invokevirtual 276, 3) := fx_ok (d := 1984) (i := 12) fDL_law_31 eL_law_1981.2.2.2.2.2.2.2.2.2.2.2.2.1
theorem dL_law_1999 : decode cL_law 1999 = .ok (.istore 6, 2) := fx_ok (d := 1984) (i := 15) fDL_law_31 eL_law_1981.2.2.2.2.2.2.2.2.2.2.2.2.2.1
theorem dL_law_2001 : decode cL_law 2001 = .ok (.goto 326, 3) := fx_ok (d := 1984) (i := 17) fDL_law_31 eL_law_1981.2.2.2.2.2.2.2.2.2.2.2.2.2.2.1
theorem dL_law_2004 : decode cL_law 2004 = .ok (.aload_n 1, 1) := fx_ok (d := 1984) (i := 20) fDL_law_31 eL_law_1981.2.2.2.2.2.2.2.2.2.2.2.2.2.2.2
theorem eL_law_2005 : (fdecl fTL_law_31 21 = some (.aload_n 0, 1)) ∧ (fdecl fTL_law_31 22 = some (.iload 4, 2)) ∧ (fdecl fTL_law_31 24 = some (.iconst 1, 1)) ∧ (fdecl fTL_law_31 25 = some (.iadd, 1)) ∧ (fdecl fTL_law_31 26 = some (.iaload, 1)) ∧ (fdecl fTL_law_31 27 = some (.aload_n 0, 1)) ∧ (fdecl fTL_law_31 28 = some (.iload 4, 2)) ∧ (fdecl fTL_law_31 30 = some (.iconst 2, 1)) ∧ (fdecl fTL_law_31 31 = some (.iadd, 1)) ∧ (fdecl fTL_law_31 32 = some (.iaload, 1)) ∧ (fdecl fTL_law_31 33 = some (.aload_n 0, 1)) ∧ (fdecl fTL_law_31 34 = some (.iload 4, 2)) ∧ (fdecl fTL_law_31 36 = some (.iconst 3, 1)) ∧ (fdecl fTL_law_31 37 = some (.iadd, 1)) ∧ (fdecl fTL_law_31 38 = some (.iaload, 1)) ∧ (fdecl fTL_law_31 39 = some (.aload_n 0, 1)) := by decide +kernel
theorem dL_law_2005 : decode cL_law 2005 = .ok (.aload_n 0, 1) := fx_ok (d := 1984) (i := 21) fDL_law_31 eL_law_2005.1
theorem dL_law_2006 : decode cL_law 2006 = .ok (.iload 4, 2) := fx_ok (d := 1984) (i := 22) fDL_law_31 eL_law_2005.2.1
theorem dL_law_2008 : decode cL_law 2008 = .ok (.iconst 1, 1) := fx_ok (d := 1984) (i := 24) fDL_law_31 eL_law_2005.2.2.1
theorem dL_law_2009 : decode cL_law 2009 = .ok (.iadd, 1) := fx_ok (d := 1984) (i := 25) fDL_law_31 eL_law_2005.2.2.2.1
theorem dL_law_2010 : decode cL_law 2010 = .ok (.iaload, 1) := fx_ok (d := 1984) (i := 26) fDL_law_31 eL_law_2005.2.2.2.2.1
theorem dL_law_2011 : decode cL_law 2011 = .ok (.aload_n 0, 1) := fx_ok (d := 1984) (i := 27) fDL_law_31 eL_law_2005.2.2.2.2.2.1
theorem dL_law_2012 : decode cL_law 2012 = .ok (.iload 4, 2) := fx_ok (d := 1984) (i := 28) fDL_law_31 eL_law_2005.2.2.2.2.2.2.1
theorem dL_law_2014 : decode cL_law 2014 = .ok (.iconst 2, 1) := fx_ok (d := 1984) (i := 30) fDL_law_31 eL_law_2005.2.2.2.2.2.2.2.1
theorem dL_law_2015 : decode cL_law 2015 = .ok (.iadd, 1) := fx_ok (d := 1984) (i := 31) fDL_law_31 eL_law_2005.2.2.2.2.2.2.2.2.1
theorem dL_law_2016 : decode cL_law 2016 = .ok (.iaload, 1) := fx_ok (d := 1984) (i := 32) fDL_law_31 eL_law_2005.2.2.2.2.2.2.2.2.2.1
theorem dL_law_2017 : decode cL_law 2017 = .ok (.aload_n 0, 1) := fx_ok (d := 1984) (i := 33) fDL_law_31 eL_law_2005.2.2.2.2.2.2.2.2.2.2.1
theorem dL_law_2018 : decode cL_law 2018 = .ok (.iload 4, 2) := fx_ok (d := 1984) (i := 34) fDL_law_31 eL_law_2005.2.2.2.2.2.2.2.2.2.2.2.1
theorem dL_law_2020 : decode cL_law 2020 = .ok (.iconst 3, 1) := fx_ok (d := 1984) (i := 36) fDL_law_31 eL_law_2005.2.2.2.2.2.2.2.2.2.2.2.2.1
theorem dL_law_2021 : decode cL_law 2021 = .ok (.iadd, 1) := fx_ok (d := 1984) (i := 37) fDL_law_31 eL_law_2005.2.2.2.2.2.2.2.2.2.2.2.2.2.1
theorem dL_law_2022 : decode cL_law 2022 = .ok (.iaload, 1) := fx_ok (d := 1984) (i := 38) fDL_law_31 eL_law_2005.2.2.2.2.2.2.2.2.2.2.2.2.2.2.1
theorem dL_law_2023 : decode cL_law 2023 = .ok (.aload_n 0, 1) := fx_ok (d := 1984) (i := 39) fDL_law_31 eL_law_2005.2.2.2.2.2.2.2.2.2.2.2.2.2.2.2
theorem eL_law_2024 : (fdecl fTL_law_31 40 = some (.iload 4, 2)) ∧ (fdecl fTL_law_31 42 = some (.iconst 4, 1)) ∧ (fdecl fTL_law_31 43 = some (.iadd, 1)) ∧ (fdecl fTL_law_31 44 = some (.iaload, 1)) ∧ (fdecl fTL_law_31 45 = some (.aload_n 0, 1)) ∧ (fdecl fTL_law_31 46 = some (.iload 4, 2)) ∧ (fdecl fTL_law_31 48 = some (.iconst 5, 1)) ∧ (fdecl fTL_law_31 49 = some (.iadd, 1)) ∧ (fdecl fTL_law_31 50 = some (.iaload, 1)) ∧ (fdecl fTL_law_31 51 = some (.aload_n 3, 1)) ∧ (fdecl fTL_law_31 52 = some (.invokestatic 277, 3)) ∧ (fdecl fTL_law_31 55 = some (.istore 5, 2)) ∧ (fdecl fTL_law_31 57 = some (.aload_n 2, 1)) ∧ (fdecl fTL_law_31 58 = some (.aload_n 0, 1)) ∧ (fdecl fTL_law_31 59 = some (.iload 4, 2)) ∧ (fdecl fTL_law_31 61 = some (.iconst 1, 1)) := by decide +kernel
theorem dL_law_2024 : decode cL_law 2024 = .ok (.iload 4, 2) := fx_ok (d := 1984) (i := 40) fDL_law_31 eL_law_2024.1
theorem dL_law_2026 : decode cL_law 2026 = .ok (.iconst 4, 1) := fx_ok (d := 1984) (i := 42) fDL_law_31 eL_law_2024.2.1
theorem dL_law_2027 : decode cL_law 2027 = .ok (.iadd, 1) := fx_ok (d := 1984) (i := 43) fDL_law_31 eL_law_2024.2.2.1
theorem dL_law_2028 : decode cL_law 2028 = .ok (.iaload, 1) := fx_ok (d := 1984) (i := 44) fDL_law_31 eL_law_2024.2.2.2.1
theorem dL_law_2029 : decode cL_law 2029 = .ok (.aload_n 0, 1) := fx_ok (d := 1984) (i := 45) fDL_law_31 eL_law_2024.2.2.2.2.1
theorem dL_law_2030 : decode cL_law 2030 = .ok (.iload 4, 2) := fx_ok (d := 1984) (i := 46) fDL_law_31 eL_law_2024.2.2.2.2.2.1
theorem dL_law_2032 : decode cL_law 2032 = .ok (.iconst 5, 1) := fx_ok (d := 1984) (i := 48) fDL_law_31 eL_law_2024.2.2.2.2.2.2.1
theorem dL_law_2033 : decode cL_law 2033 = .ok (.iadd, 1) := fx_ok (d := 1984) (i := 49) fDL_law_31 eL_law_2024.2.2.2.2.2.2.2.1
theorem dL_law_2034 : decode cL_law 2034 = .ok (.iaload, 1) := fx_ok (d := 1984) (i := 50) fDL_law_31 eL_law_2024.2.2.2.2.2.2.2.2.1
theorem dL_law_2035 : decode cL_law 2035 = .ok (.aload_n 3, 1) := fx_ok (d := 1984) (i := 51) fDL_law_31 eL_law_2024.2.2.2.2.2.2.2.2.2.1
theorem dL_law_2036 : decode cL_law 2036 = .ok (.invokestatic 277, 3) := fx_ok (d := 1984) (i := 52) fDL_law_31 eL_law_2024.2.2.2.2.2.2.2.2.2.2.1
theorem dL_law_2039 : decode cL_law 2039 = .ok (.istore 5, 2) := fx_ok (d := 1984) (i := 55) fDL_law_31 eL_law_2024.2.2.2.2.2.2.2.2.2.2.2.1
theorem dL_law_2041 : decode cL_law 2041 = .ok (.aload_n 2, 1) := fx_ok (d := 1984) (i := 57) fDL_law_31 eL_law_2024.2.2.2.2.2.2.2.2.2.2.2.2.1
theorem dL_law_2042 : decode cL_law 2042 = .ok (.aload_n 0, 1) := fx_ok (d := 1984) (i := 58) fDL_law_31 eL_law_2024.2.2.2.2.2.2.2.2.2.2.2.2.2.1
theorem dL_law_2043 : decode cL_law 2043 = .ok (.iload 4, 2) := fx_ok (d := 1984) (i := 59) fDL_law_31 eL_law_2024.2.2.2.2.2.2.2.2.2.2.2.2.2.2.1
theorem dL_law_2045 : decode cL_law 2045 = .ok (.iconst 1, 1) := fx_ok (d := 1984) (i := 61) fDL_law_31 eL_law_2024.2.2.2.2.2.2.2.2.2.2.2.2.2.2.2
theorem eL_law_2046 : (fdecl fTL_law_31 62 = some (.iadd, 1)) ∧ (fdecl fTL_law_31 63 = some (.iaload, 1)) ∧ (fdecl fTL_law_32 0 = some (.aload_n 0, 1)) ∧ (fdecl fTL_law_32 1 = some (.iload 4, 2)) ∧ (fdecl fTL_law_32 3 = some (.iconst 2, 1)) ∧ (fdecl fTL_law_32 4 = some (.iadd, 1)) ∧ (fdecl fTL_law_32 5 = some (.iaload, 1)) ∧ (fdecl fTL_law_32 6 = some (.aload_n 0, 1)) ∧ (fdecl fTL_law_32 7 = some (.iload 4, 2)) ∧ (fdecl fTL_law_32 9 = some (.iconst 3, 1)) ∧ (fdecl fTL_law_32 10 = some (.iadd, 1)) ∧ (fdecl fTL_law_32 11 = some (.iaload, 1)) ∧ (fdecl fTL_law_32 12 = some (.aload_n 0, 1)) ∧ (fdecl fTL_law_32 13 = some (.iload 4, 2)) ∧ (fdecl fTL_law_32 15 = some (.iconst 4, 1)) ∧ (fdecl fTL_law_32 16 = some (.iadd, 1)) := by decide +kernel
theorem dL_law_2046 : decode cL_law 2046 = .ok (.iadd, 1) := fx_ok (d := 1984) (i := 62) fDL_law_31 eL_law_2046.1
theorem dL_law_2047 : decode cL_law 2047 = .ok (.iaload, 1) := fx_ok (d := 1984) (i := 63) fDL_law_31 eL_law_2046.2.1
theorem dL_law_2048 : decode cL_law 2048 = .ok (.aload_n 0, 1) := fx_ok (d := 2048) (i := 0) fDL_law_32 eL_law_2046.2.2.1
theorem dL_law_2049 : decode cL_law 2049 = .ok (.iload 4, 2) := fx_ok (d := 2048) (i := 1) fDL_law_32 eL_law_2046.2.2.2.1
theorem dL_law_2051 : decode cL_law 2051 = .ok (.iconst 2, 1) := fx_ok (d := 2048) (i := 3) fDL_law_32 eL_law_2046.2.2.2.2.1
theorem dL_law_2052 : decode cL_law 2052 = .ok (.iadd, 1) := fx_ok (d := 2048) (i := 4) fDL_law_32 eL_law_2046.2.2.2.2.2.1
theorem dL_law_2053 : decode cL_law 2053 = .ok (.iaload, 1) := fx_ok (d := 2048) (i := 5) fDL_law_32 eL_law_2046.2.2.2.2.2.2.1
theorem dL_law_2054 : decode cL_law 2054 = .ok (.aload_n 0, 1) := fx_ok (d := 2048) (i := 6) fDL_law_32 eL_law_2046.2.2.2.2.2.2.2.1
theorem dL_law_2055 : decode cL_law 2055 = .ok (.iload 4, 2) := fx_ok (d := 2048) (i := 7) fDL_law_32 eL_law_2046.2.2.2.2.2.2.2.2.1
theorem dL_law_2057 : decode cL_law 2057 = .ok (.iconst 3, 1) := fx_ok (d := 2048) (i := 9) fDL_law_32 eL_law_2046.2.2.2.2.2.2.2.2.2.1
theorem dL_law_2058 : decode cL_law 2058 = .ok (.iadd, 1) := fx_ok (d := 2048) (i := 10) fDL_law_32 eL_law_2046.2.2.2.2.2.2.2.2.2.2.1
theorem dL_law_2059 : decode cL_law 2059 = .ok (.iaload, 1) := fx_ok (d := 2048) (i := 11) fDL_law_32 eL_law_2046.2.2.2.2.2.2.2.2.2.2.2.1
theorem dL_law_2060 : decode cL_law 2060 = .ok (.aload_n 0, 1) := fx_ok (d := 2048) (i := 12) fDL_law_32 eL_law_2046.2.2.2.2.2.2.2.2.2.2.2.2.1
theorem dL_law_2061 : decode cL_law 2061 = .ok (.iload 4, 2) := fx_ok (d := 2048) (i := 13) fDL_law_32 eL_law_2046.2.2.2.2.2.2.2.2.2.2.2.2.2.1
theorem dL_law_2063 : decode cL_law 2063 = .ok (.iconst 4, 1) := fx_ok (d := 2048) (i := 15) fDL_law_32 eL_law_2046.2.2.2.2.2.2.2.2.2.2.2.2.2.2.1
theorem dL_law_2064 : decode cL_law 2064 = .ok (.iadd, 1) := fx_ok (d := 2048) (i := 16) fDL_law_32 eL_law_2046.2.2.2.2.2.2.2.2.2.2.2.2.2.2.2
theorem eL_law_2065 : (fdecl fTL_law_32 17 = some (.iaload, 1)) ∧ (fdecl fTL_law_32 18 = some (.aload_n 0, 1)) ∧ (fdecl fTL_law_32 19 = some (.iload 4, 2)) ∧ (fdecl fTL_law_32 21 = some (.iconst 5, 1)) ∧ (fdecl fTL_law_32 22 = some (.iadd, 1)) ∧ (fdecl fTL_law_32 23 = some (.iaload, 1)) ∧ (fdecl fTL_law_32 24 = some (.invokevirtual 279, 3)) ∧ (fdecl fTL_law_32 27 = some (.istore 6, 2)) ∧ (fdecl fTL_law_32 29 = some (.goto 250, 3)) ∧ (fdecl fTL_law_32 32 = some (.aload_n 1, 1)) ∧ (fdecl fTL_law_32 33 = some (.aload_n 0, 1)) ∧ (fdecl fTL_law_32 34 = some (.iload 4, 2)) ∧ (fdecl fTL_law_32 36 = some (.iconst 1, 1)) ∧ (fdecl fTL_law_32 37 = some (.iadd, 1)) ∧ (fdecl fTL_law_32 38 = some (.iaload, 1)) ∧ (fdecl fTL_law_32 39 = some (.aload_n 0, 1)) := by decide +kernel
theorem dL_law_2065 : decode cL_law 2065 = .ok (.iaload, 1) := fx_ok (d := 2048) (i := 17) fDL_law_32 eL_law_2065.1
theorem dL_law_2066 : decode cL_law 2066 = .ok (.aload_n 0, 1) := fx_ok (d := 2048) (i := 18) fDL_law_32 eL_law_2065.2.1
theorem dL_law_2067 : decode cL_law 2067 = .ok (.iload 4, 2) := fx_ok (d := 2048) (i := 19) fDL_law_32 eL_law_2065.2.2.1
theorem dL_law_2069 : decode cL_law 2069 = .ok (.iconst 5, 1) := fx_ok (d := 2048) (i := 21) fDL_law_32 eL_law_2065.2.2.2.1
theorem dL_law_2070 : decode cL_law 2070 = .ok (.iadd, 1) := fx_ok (d := 2048) (i := 22) fDL_law_32 eL_law_2065.2.2.2.2.1
theorem dL_law_2071 : decode cL_law 2071 = .ok (.iaload, 1) := fx_ok (d := 2048) (i := 23) fDL_law_32 eL_law_2065.2.2.2.2.2.1
theorem dL_law_2072 : decode cL_law 2072 = .ok (.invokevirtual 279, 3) := fx_ok (d := 2048) (i := 24) fDL_law_32 eL_law_2065.2.2.2.2.2.2.1
theorem dL_law_2075 : decode cL_law 2075 = .ok (.istore 6, 2) := fx_ok (d := 2048) (i := 27) fDL_law_32 eL_law_2065.2.2.2.2.2.2.2.1
theorem dL_law_2077 : decode cL_law 2077 = .ok (.goto 250, 3) := fx_ok (d := 2048) (i := 29) fDL_law_32 eL_law_2065.2.2.2.2.2.2.2.2.1
theorem dL_law_2080 : decode cL_law 2080 = .ok (.aload_n 1, 1) := fx_ok (d := 2048) (i := 32) fDL_law_32 eL_law_2065.2.2.2.2.2.2.2.2.2.1
theorem dL_law_2081 : decode cL_law 2081 = .ok (.aload_n 0, 1) := fx_ok (d := 2048) (i := 33) fDL_law_32 eL_law_2065.2.2.2.2.2.2.2.2.2.2.1
theorem dL_law_2082 : decode cL_law 2082 = .ok (.iload 4, 2) := fx_ok (d := 2048) (i := 34) fDL_law_32 eL_law_2065.2.2.2.2.2.2.2.2.2.2.2.1
theorem dL_law_2084 : decode cL_law 2084 = .ok (.iconst 1, 1) := fx_ok (d := 2048) (i := 36) fDL_law_32 eL_law_2065.2.2.2.2.2.2.2.2.2.2.2.2.1
theorem dL_law_2085 : decode cL_law 2085 = .ok (.iadd, 1) := fx_ok (d := 2048) (i := 37) fDL_law_32 eL_law_2065.2.2.2.2.2.2.2.2.2.2.2.2.2.1
theorem dL_law_2086 : decode cL_law 2086 = .ok (.iaload, 1) := fx_ok (d := 2048) (i := 38) fDL_law_32 eL_law_2065.2.2.2.2.2.2.2.2.2.2.2.2.2.2.1
theorem dL_law_2087 : decode cL_law 2087 = .ok (.aload_n 0, 1) := fx_ok (d := 2048) (i := 39) fDL_law_32 eL_law_2065.2.2.2.2.2.2.2.2.2.2.2.2.2.2.2
theorem eL_law_2088 : (fdecl fTL_law_32 40 = some (.iload 4, 2)) ∧ (fdecl fTL_law_32 42 = some (.iconst 2, 1)) ∧ (fdecl fTL_law_32 43 = some (.iadd, 1)) ∧ (fdecl fTL_law_32 44 = some (.iaload, 1)) ∧ (fdecl fTL_law_32 45 = some (.aload_n 0, 1)) ∧ (fdecl fTL_law_32 46 = some (.iload 4, 2)) ∧ (fdecl fTL_law_32 48 = some (.iconst 3, 1)) ∧ (fdecl fTL_law_32 49 = some (.iadd, 1)) ∧ (fdecl fTL_law_32 50 = some (.iaload, 1)) ∧ (fdecl fTL_law_32 51 = some (.aload_n 3, 1)) ∧ (fdecl fTL_law_32 52 = some (.invokestatic 280, 3)) ∧ (fdecl fTL_law_32 55 = some (.istore 5, 2)) ∧ (fdecl fTL_law_32 57 = some (.aload_n 2, 1)) ∧ (fdecl fTL_law_32 58 = some (.aload_n 0, 1)) ∧ (fdecl fTL_law_32 59 = some (.iload 4, 2)) ∧ (fdecl fTL_law_32 61 = some (.iconst 1, 1)) := by decide +kernel
theorem dL_law_2088 : decode cL_law 2088 = .ok (.iload 4, 2) := fx_ok (d := 2048) (i := 40) fDL_law_32 eL_law_2088.1
theorem dL_law_2090 : decode cL_law 2090 = .ok (.iconst 2, 1) := fx_ok (d := 2048) (i := 42) fDL_law_32 eL_law_2088.2.1
theorem dL_law_2091 : decode cL_law 2091 = .ok (.iadd, 1) := fx_ok (d := 2048) (i := 43) fDL_law_32 eL_law_2088.2.2.1
theorem dL_law_2092 : decode cL_law 2092 = .ok (.iaload, 1) := fx_ok (d := 2048) (i := 44) fDL_law_32 eL_law_2088.2.2.2.1
theorem dL_law_2093 : decode cL_law 2093 = .ok (.aload_n 0, 1) := fx_ok (d := 2048) (i := 45) fDL_law_32 eL_law_2088.2.2.2.2.1
theorem dL_law_2094 : decode cL_law 2094 = .ok (.iload 4, 2) := fx_ok (d := 2048) (i := 46) fDL_law_32 eL_law_2088.2.2.2.2.2.1
theorem dL_law_2096 : decode cL_law 2096 = .ok (.iconst 3, 1) := fx_ok (d := 2048) (i := 48) fDL_law_32 eL_law_2088.2.2.2.2.2.2.1
theorem dL_law_2097 : decode cL_law 2097 = .ok (.iadd, 1) := fx_ok (d := 2048) (i := 49) fDL_law_32 eL_law_2088.2.2.2.2.2.2.2.1
theorem dL_law_2098 : decode cL_law 2098 = .ok (.iaload, 1) := fx_ok (d := 2048) (i := 50) fDL_law_32 eL_law_2088.2.2.2.2.2.2.2.2.1
theorem dL_law_2099 : decode cL_law 2099 = .ok (.aload_n 3, 1) := fx_ok (d := 2048) (i := 51) fDL_law_32 eL_law_2088.2.2.2.2.2.2.2.2.2.1
theorem dL_law_2100 : decode cL_law 2100 = .ok (.invokestatic 280, 3) := fx_ok (d := 2048) (i := 52) fDL_law_32 eL_law_2088.2.2.2.2.2.2.2.2.2.2.1
theorem dL_law_2103 : decode cL_law 2103 = .ok (.istore 5, 2) := fx_ok (d := 2048) (i := 55) fDL_law_32 eL_law_2088.2.2.2.2.2.2.2.2.2.2.2.1
theorem dL_law_2105 : decode cL_law 2105 = .ok (.aload_n 2, 1) := fx_ok (d := 2048) (i := 57) fDL_law_32 eL_law_2088.2.2.2.2.2.2.2.2.2.2.2.2.1
theorem dL_law_2106 : decode cL_law 2106 = .ok (.aload_n 0, 1) := fx_ok (d := 2048) (i := 58) fDL_law_32 eL_law_2088.2.2.2.2.2.2.2.2.2.2.2.2.2.1
theorem dL_law_2107 : decode cL_law 2107 = .ok (.iload 4, 2) := fx_ok (d := 2048) (i := 59) fDL_law_32 eL_law_2088.2.2.2.2.2.2.2.2.2.2.2.2.2.2.1
theorem dL_law_2109 : decode cL_law 2109 = .ok (.iconst 1, 1) := fx_ok (d := 2048) (i := 61) fDL_law_32 eL_law_2088.2.2.2.2.2.2.2.2.2.2.2.2.2.2.2
theorem eL_law_2110 : (fdecl fTL_law_32 62 = some (.iadd, 1)) ∧ (fdecl fTL_law_32 63 = some (.iaload, 1)) ∧ (fdecl fTL_law_33 0 = some (.aload_n 0, 1)) ∧ (fdecl fTL_law_33 1 = some (.iload 4, 2)) ∧ (fdecl fTL_law_33 3 = some (.iconst 2, 1)) ∧ (fdecl fTL_law_33 4 = some (.iadd, 1)) ∧ (fdecl fTL_law_33 5 = some (.iaload, 1)) ∧ (fdecl fTL_law_33 6 = some (.aload_n 0, 1)) ∧ (fdecl fTL_law_33 7 = some (.iload 4, 2)) ∧ (fdecl fTL_law_33 9 = some (.iconst 3, 1)) ∧ (fdecl fTL_law_33 10 = some (.iadd, 1)) ∧ (fdecl fTL_law_33 11 = some (.iaload, 1)) ∧ (fdecl fTL_law_33 12 = some (.invokevirtual 282, 3)) ∧ (fdecl fTL_law_33 15 = some (.istore 6, 2)) ∧ (fdecl fTL_law_33 17 = some (.goto 198, 3)) ∧ (fdecl fTL_law_33 20 = some (.aload_n 1, 1)) := by decide +kernel
theorem dL_law_2110 : decode cL_law 2110 = .ok (.iadd, 1) := fx_ok (d := 2048) (i := 62) fDL_law_32 eL_law_2110.1
theorem dL_law_2111 : decode cL_law 2111 = .ok (.iaload, 1) := fx_ok (d := 2048) (i := 63) fDL_law_32 eL_law_2110.2.1
theorem dL_law_2112 : decode cL_law 2112 = .ok (.aload_n 0, 1) := fx_ok (d := 2112) (i := 0) fDL_law_33 eL_law_2110.2.2.1
theorem dL_law_2113 : decode cL_law 2113 = .ok (.iload 4, 2) := fx_ok (d := 2112) (i := 1) fDL_law_33 eL_law_2110.2.2.2.1
theorem dL_law_2115 : decode cL_law 2115 = .ok (.iconst 2, 1) := fx_ok (d := 2112) (i := 3) fDL_law_33 eL_law_2110.2.2.2.2.1
theorem dL_law_2116 : decode cL_law 2116 = .ok (.iadd, 1) := fx_ok (d := 2112) (i := 4) fDL_law_33 eL_law_2110.2.2.2.2.2.1
theorem dL_law_2117 : decode cL_law 2117 = .ok (.iaload, 1) := fx_ok (d := 2112) (i := 5) fDL_law_33 eL_law_2110.2.2.2.2.2.2.1
theorem dL_law_2118 : decode cL_law 2118 = .ok (.aload_n 0, 1) := fx_ok (d := 2112) (i := 6) fDL_law_33 eL_law_2110.2.2.2.2.2.2.2.1
theorem dL_law_2119 : decode cL_law 2119 = .ok (.iload 4, 2) := fx_ok (d := 2112) (i := 7) fDL_law_33 eL_law_2110.2.2.2.2.2.2.2.2.1
theorem dL_law_2121 : decode cL_law 2121 = .ok (.iconst 3, 1) := fx_ok (d := 2112) (i := 9) fDL_law_33 eL_law_2110.2.2.2.2.2.2.2.2.2.1
theorem dL_law_2122 : decode cL_law 2122 = .ok (.iadd, 1) := fx_ok (d := 2112) (i := 10) fDL_law_33 eL_law_2110.2.2.2.2.2.2.2.2.2.2.1
theorem dL_law_2123 : decode cL_law 2123 = .ok (.iaload, 1) := fx_ok (d := 2112) (i := 11) fDL_law_33 eL_law_2110.2.2.2.2.2.2.2.2.2.2.2.1
theorem dL_law_2124 : decode cL_law 2124 = .ok (.invokevirtual 282, 3) := fx_ok (d := 2112) (i := 12) fDL_law_33 eL_law_2110.2.2.2.2.2.2.2.2.2.2.2.2.1
theorem dL_law_2127 : decode cL_law 2127 = .ok (.istore 6, 2) := fx_ok (d := 2112) (i := 15) fDL_law_33 eL_law_2110.2.2.2.2.2.2.2.2.2.2.2.2.2.1
theorem dL_law_2129 : decode cL_law 2129 = .ok (.goto 198, 3) := fx_ok (d := 2112) (i := 17) fDL_law_33 eL_law_2110.2.2.2.2.2.2.2.2.2.2.2.2.2.2.1
theorem dL_law_2132 : decode cL_law 2132 = .ok (.aload_n 1, 1) := fx_ok (d := 2112) (i := 20) fDL_law_33 eL_law_2110.2.2.2.2.2.2.2.2.2.2.2.2.2.2.2
theorem eL_law_2133 : (fdecl fTL_law_33 21 = some (.aload_n 0, 1)) ∧ (fdecl fTL_law_33 22 = some (.iload 4, 2)) ∧ (fdecl fTL_law_33 24 = some (.iconst 1, 1)) ∧ (fdecl fTL_law_33 25 = some (.iadd, 1)) ∧ (fdecl fTL_law_33 26 = some (.iaload, 1)) ∧ (fdecl fTL_law_33 27 = some (.aload_n 0, 1)) ∧ (fdecl fTL_law_33 28 = some (.iload 4, 2)) ∧ (fdecl fTL_law_33 30 = some (.iconst 2, 1)) ∧ (fdecl fTL_law_33 31 = some (.iadd, 1)) ∧ (fdecl fTL_law_33 32 = some (.iaload, 1)) ∧ (fdecl fTL_law_33 33 = some (.aload_n 3, 1)) ∧ (fdecl fTL_law_33 34 = some (.invokestatic 283, 3)) ∧ (fdecl fTL_law_33 37 = some (.istore 5, 2)) ∧ (fdecl fTL_law_33 39 = some (.aload_n 2, 1)) ∧ (fdecl fTL_law_33 40 = some (.aload_n 0, 1)) ∧ (fdecl fTL_law_33 41 = some (.iload 4, 2)) := by decide +kernel
theorem dL_law_2133 : decode cL_law 2133 = .ok (.aload_n 0, 1) := fx_ok (d := 2112) (i := 21) fDL_law_33 eL_law_2133.1
theorem dL_law_2134 : decode cL_law 2134 = .ok (.iload 4, 2) := fx_ok (d := 2112) (i := 22) fDL_law_33 eL_law_2133.2.1
theorem dL_law_2136 : decode cL_law 2136 = .ok (.iconst 1, 1) := fx_ok (d := 2112) (i := 24) fDL_law_33 eL_law_2133.2.2.1
theorem dL_law_2137 : decode cL_law 2137 = .ok (.iadd, 1) := fx_ok (d := 2112) (i := 25) fDL_law_33 eL_law_2133.2.2.2.1
theorem dL_law_2138 : decode cL_law 2138 = .ok (.iaload, 1) := fx_ok (d := 2112) (i := 26) fDL_law_33 eL_law_2133.2.2.2.2.1
theorem dL_law_2139 : decode cL_law 2139 = .ok (.aload_n 0, 1) := fx_ok (d := 2112) (i := 27) fDL_law_33 eL_law_2133.2.2.2.2.2.1
theorem dL_law_2140 : decode cL_law 2140 = .ok (.iload 4, 2) := fx_ok (d := 2112) (i := 28) fDL_law_33 eL_law_2133.2.2.2.2.2.2.1
theorem dL_law_2142 : decode cL_law 2142 = .ok (.iconst 2, 1) := fx_ok (d := 2112) (i := 30) fDL_law_33 eL_law_2133.2.2.2.2.2.2.2.1
theorem dL_law_2143 : decode cL_law 2143 = .ok (.iadd, 1) := fx_ok (d := 2112) (i := 31) fDL_law_33 eL_law_2133.2.2.2.2.2.2.2.2.1
theorem dL_law_2144 : decode cL_law 2144 = .ok (.iaload, 1) := fx_ok (d := 2112) (i := 32) fDL_law_33 eL_law_2133.2.2.2.2.2.2.2.2.2.1
theorem dL_law_2145 : decode cL_law 2145 = .ok (.aload_n 3, 1) := fx_ok (d := 2112) (i := 33) fDL_law_33 eL_law_2133.2.2.2.2.2.2.2.2.2.2.1
theorem dL_law_2146 : decode cL_law 2146 = .ok (.invokestatic 283, 3) := fx_ok (d := 2112) (i := 34) fDL_law_33 eL_law_2133.2.2.2.2.2.2.2.2.2.2.2.1
theorem dL_law_2149 : decode cL_law 2149 = .ok (.istore 5, 2) := fx_ok (d := 2112) (i := 37) fDL_law_33 eL_law_2133.2.2.2.2.2.2.2.2.2.2.2.2.1
theorem dL_law_2151 : decode cL_law 2151 = .ok (.aload_n 2, 1) := fx_ok (d := 2112) (i := 39) fDL_law_33 eL_law_2133.2.2.2.2.2.2.2.2.2.2.2.2.2.1
theorem dL_law_2152 : decode cL_law 2152 = .ok (.aload_n 0, 1) := fx_ok (d := 2112) (i := 40) fDL_law_33 eL_law_2133.2.2.2.2.2.2.2.2.2.2.2.2.2.2.1
theorem dL_law_2153 : decode cL_law 2153 = .ok (.iload 4, 2) := fx_ok (d := 2112) (i := 41) fDL_law_33 eL_law_2133.2.2.2.2.2.2.2.2.2.2.2.2.2.2.2
theorem eL_law_2155 : (fdecl fTL_law_33 43 = some (.iconst 1, 1)) ∧ (fdecl fTL_law_33 44 = some (.iadd, 1)) ∧ (fdecl fTL_law_33 45 = some (.iaload, 1)) ∧ (fdecl fTL_law_33 46 = some (.aload_n 0, 1)) ∧ (fdecl fTL_law_33 47 = some (.iload 4, 2)) ∧ (fdecl fTL_law_33 49 = some (.iconst 2, 1)) ∧ (fdecl fTL_law_33 50 = some (.iadd, 1)) ∧ (fdecl fTL_law_33 51 = some (.iaload, 1)) ∧ (fdecl fTL_law_33 52 = some (.invokevirtual 285, 3)) ∧ (fdecl fTL_law_33 55 = some (.istore 6, 2)) ∧ (fdecl fTL_law_33 57 = some (.goto 158, 3)) ∧ (fdecl fTL_law_33 60 = some (.aload_n 1, 1)) ∧ (fdecl fTL_law_33 61 = some (.aload_n 0, 1)) ∧ (fdecl fTL_law_33 62 = some (.iload 4, 2)) ∧ (fdecl fTL_law_34 0 = some (.iconst 1, 1)) ∧ (fdecl fTL_law_34 1 = some (.iadd, 1)) := by decide +kernel
theorem dL_law_2155 : decode cL_law 2155 = .ok (.iconst 1, 1) := fx_ok (d := 2112) (i := 43) fDL_law_33 eL_law_2155.1
theorem dL_law_2156 : decode cL_law 2156 = .ok (.iadd, 1) := fx_ok (d := 2112) (i := 44) fDL_law_33 eL_law_2155.2.1
theorem dL_law_2157 : decode cL_law 2157 = .ok (.iaload, 1) := fx_ok (d := 2112) (i := 45) fDL_law_33 eL_law_2155.2.2.1
theorem dL_law_2158 : decode cL_law 2158 = .ok (.aload_n 0, 1) := fx_ok (d := 2112) (i := 46) fDL_law_33 eL_law_2155.2.2.2.1
theorem dL_law_2159 : decode cL_law 2159 = .ok (.iload 4, 2) := fx_ok (d := 2112) (i := 47) fDL_law_33 eL_law_2155.2.2.2.2.1
theorem dL_law_2161 : decode cL_law 2161 = .ok (.iconst 2, 1) := fx_ok (d := 2112) (i := 49) fDL_law_33 eL_law_2155.2.2.2.2.2.1
theorem dL_law_2162 : decode cL_law 2162 = .ok (.iadd, 1) := fx_ok (d := 2112) (i := 50) fDL_law_33 eL_law_2155.2.2.2.2.2.2.1
theorem dL_law_2163 : decode cL_law 2163 = .ok (.iaload, 1) := fx_ok (d := 2112) (i := 51) fDL_law_33 eL_law_2155.2.2.2.2.2.2.2.1
theorem dL_law_2164 : decode cL_law 2164 = .ok (.invokevirtual 285, 3) := fx_ok (d := 2112) (i := 52) fDL_law_33 eL_law_2155.2.2.2.2.2.2.2.2.1
theorem dL_law_2167 : decode cL_law 2167 = .ok (.istore 6, 2) := fx_ok (d := 2112) (i := 55) fDL_law_33 eL_law_2155.2.2.2.2.2.2.2.2.2.1
theorem dL_law_2169 : decode cL_law 2169 = .ok (.goto 158, 3) := fx_ok (d := 2112) (i := 57) fDL_law_33 eL_law_2155.2.2.2.2.2.2.2.2.2.2.1
theorem dL_law_2172 : decode cL_law 2172 = .ok (.aload_n 1, 1) := fx_ok (d := 2112) (i := 60) fDL_law_33 eL_law_2155.2.2.2.2.2.2.2.2.2.2.2.1
theorem dL_law_2173 : decode cL_law 2173 = .ok (.aload_n 0, 1) := fx_ok (d := 2112) (i := 61) fDL_law_33 eL_law_2155.2.2.2.2.2.2.2.2.2.2.2.2.1
theorem dL_law_2174 : decode cL_law 2174 = .ok (.iload 4, 2) := fx_ok (d := 2112) (i := 62) fDL_law_33 eL_law_2155.2.2.2.2.2.2.2.2.2.2.2.2.2.1
theorem dL_law_2176 : decode cL_law 2176 = .ok (.iconst 1, 1) := fx_ok (d := 2176) (i := 0) fDL_law_34 eL_law_2155.2.2.2.2.2.2.2.2.2.2.2.2.2.2.1
theorem dL_law_2177 : decode cL_law 2177 = .ok (.iadd, 1) := fx_ok (d := 2176) (i := 1) fDL_law_34 eL_law_2155.2.2.2.2.2.2.2.2.2.2.2.2.2.2.2
theorem eL_law_2178 : (fdecl fTL_law_34 2 = some (.iaload, 1)) ∧ (fdecl fTL_law_34 3 = some (.aload_n 0, 1)) ∧ (fdecl fTL_law_34 4 = some (.iload 4, 2)) ∧ (fdecl fTL_law_34 6 = some (.iconst 2, 1)) ∧ (fdecl fTL_law_34 7 = some (.iadd, 1)) ∧ (fdecl fTL_law_34 8 = some (.iaload, 1)) ∧ (fdecl fTL_law_34 9 = some (.aload_n 0, 1)) ∧ (fdecl fTL_law_34 10 = some (.iload 4, 2)) ∧ (fdecl fTL_law_34 12 = some (.iconst 3, 1)) ∧ (fdecl fTL_law_34 13 = some (.iadd, 1)) ∧ (fdecl fTL_law_34 14 = some (.iaload, 1)) ∧ (fdecl fTL_law_34 15 = some (.aload_n 3, 1)) ∧ (fdecl fTL_law_34 16 = some (.invokestatic 286, 3)) ∧ (fdecl fTL_law_34 19 = some (.istore 5, 2)) ∧ (fdecl fTL_law_34 21 = some (.aload_n 2, 1)) ∧ (fdecl fTL_law_34 22 = some (.aload_n 0, 1)) := by decide +kernel
theorem dL_law_2178 : decode cL_law 2178 = .ok (.iaload, 1) := fx_ok (d := 2176) (i := 2) fDL_law_34 eL_law_2178.1
theorem dL_law_2179 : decode cL_law 2179 = .ok (.aload_n 0, 1) := fx_ok (d := 2176) (i := 3) fDL_law_34 eL_law_2178.2.1
theorem dL_law_2180 : decode cL_law 2180 = .ok (.iload 4, 2) := fx_ok (d := 2176) (i := 4) fDL_law_34 eL_law_2178.2.2.1
theorem dL_law_2182 : decode cL_law 2182 = .ok (.iconst 2, 1) := fx_ok (d := 2176) (i := 6) fDL_law_34 eL_law_2178.2.2.2.1
theorem dL_law_2183 : decode cL_law 2183 = .ok (.iadd, 1) := fx_ok (d := 2176) (i := 7) fDL_law_34 eL_law_2178.2.2.2.2.1
theorem dL_law_2184 : decode cL_law 2184 = .ok (.iaload, 1) := fx_ok (d := 2176) (i := 8) fDL_law_34 eL_law_2178.2.2.2.2.2.1
theorem dL_law_2185 : decode cL_law 2185 = .ok (.aload_n 0, 1) := fx_ok (d := 2176) (i := 9) fDL_law_34 eL_law_2178.2.2.2.2.2.2.1
theorem dL_law_2186 : decode cL_law 2186 = .ok (.iload 4, 2) := fx_ok (d := 2176) (i := 10) fDL_law_34 eL_law_2178.2.2.2.2.2.2.2.1
theorem dL_law_2188 : decode cL_law 2188 = .ok (.iconst 3, 1) := fx_ok (d := 2176) (i := 12) fDL_law_34 eL_law_2178.2.2.2.2.2.2.2.2.1
theorem dL_law_2189 : decode cL_law 2189 = .ok (.iadd, 1) := fx_ok (d := 2176) (i := 13) fDL_law_34 eL_law_2178.2.2.2.2.2.2.2.2.2.1
theorem dL_law_2190 : decode cL_law 2190 = .ok (.iaload, 1) := fx_ok (d := 2176) (i := 14) fDL_law_34 eL_law_2178.2.2.2.2.2.2.2.2.2.2.1
theorem dL_law_2191 : decode cL_law 2191 = .ok (.aload_n 3, 1) := fx_ok (d := 2176) (i := 15) fDL_law_34 eL_law_2178.2.2.2.2.2.2.2.2.2.2.2.1
theorem dL_law_2192 : decode cL_law 2192 = .ok (.invokestatic 286, 3) := fx_ok (d := 2176) (i := 16) fDL_law_34 eL_law_2178.2.2.2.2.2.2.2.2.2.2.2.2.1
theorem dL_law_2195 : decode cL_law 2195 = .ok (.istore 5, 2) := fx_ok (d := 2176) (i := 19) fDL_law_34 eL_law_2178.2.2.2.2.2.2.2.2.2.2.2.2.2.1
theorem dL_law_2197 : decode cL_law 2197 = .ok (.aload_n 2, 1) := fx_ok (d := 2176) (i := 21) fDL_law_34 eL_law_2178.2.2.2.2.2.2.2.2.2.2.2.2.2.2.1
theorem dL_law_2198 : decode cL_law 2198 = .ok (.aload_n 0, 1) := fx_ok (d := 2176) (i := 22) fDL_law_34 eL_law_2178.2.2.2.2.2.2.2.2.2.2.2.2.2.2.2
theorem eL_law_2199 : (fdecl fTL_law_34 23 = some (.iload 4, 2)) ∧ (fdecl fTL_law_34 25 = some (.iconst 1, 1)) ∧ (fdecl fTL_law_34 26 = some (.iadd, 1)) ∧ (fdecl fTL_law_34 27 = some (.iaload, 1)) ∧ (fdecl fTL_law_34 28 = some (.aload_n 0, 1)) ∧ (fdecl fTL_law_34 29 = some (.iload 4, 2)) ∧ (fdecl fTL_law_34 31 = some (.iconst 2, 1)) ∧ (fdecl fTL_law_34 32 = some (.iadd, 1)) ∧ (fdecl fTL_law_34 33 = some (.iaload, 1)) ∧ (fdecl fTL_law_34 34 = some (.aload_n 0, 1)) ∧ (fdecl fTL_law_34 35 = some (.iload 4, 2)) ∧ (fdecl fTL_law_34 37 = some (.iconst 3, 1)) ∧ (fdecl fTL_law_34 38 = some (.iadd, 1)) ∧ (fdecl fTL_law_34 39 = some (.iaload, 1)) ∧ (fdecl fTL_law_34 40 = some (.invokevirtual 288, 3)) ∧ (fdecl fTL_law_34 43 = some (.istore 6, 2)) := by decide +kernel
theorem dL_law_2199 : decode cL_law 2199 = .ok (.iload 4, 2) := fx_ok (d := 2176) (i := 23) fDL_law_34 eL_law_2199.1
theorem dL_law_2201 : decode cL_law 2201 = .ok (.iconst 1, 1) := fx_ok (d := 2176) (i := 25) fDL_law_34 eL_law_2199.2.1
theorem dL_law_2202 : decode cL_law 2202 = .ok (.iadd, 1) := fx_ok (d := 2176) (i := 26) fDL_law_34 eL_law_2199.2.2.1
theorem dL_law_2203 : decode cL_law 2203 = .ok (.iaload, 1) := fx_ok (d := 2176) (i := 27) fDL_law_34 eL_law_2199.2.2.2.1
theorem dL_law_2204 : decode cL_law 2204 = .ok (.aload_n 0, 1) := fx_ok (d := 2176) (i := 28) fDL_law_34 eL_law_2199.2.2.2.2.1
theorem dL_law_2205 : decode cL_law 2205 = .ok (.iload 4, 2) := fx_ok (d := 2176) (i := 29) fDL_law_34 eL_law_2199.2.2.2.2.2.1
theorem dL_law_2207 : decode cL_law 2207 = .ok (.iconst 2, 1) := fx_ok (d := 2176) (i := 31) fDL_law_34 eL_law_2199.2.2.2.2.2.2.1
theorem dL_law_2208 : decode cL_law 2208 = .ok (.iadd, 1) := fx_ok (d := 2176) (i := 32) fDL_law_34 eL_law_2199.2.2.2.2.2.2.2.1
theorem dL_law_2209 : decode cL_law 2209 = .ok (.iaload, 1) := fx_ok (d := 2176) (i := 33) fDL_law_34 eL_law_2199.2.2.2.2.2.2.2.2.1
theorem dL_law_2210 : decode cL_law 2210 = .ok (.aload_n 0, 1) := fx_ok (d := 2176) (i := 34) fDL_law_34 eL_law_2199.2.2.2.2.2.2.2.2.2.1
theorem dL_law_2211 : decode cL_law 2211 = .ok (.iload 4, 2) := fx_ok (d := 2176) (i := 35) fDL_law_34 eL_law_2199.2.2.2.2.2.2.2.2.2.2.1
theorem dL_law_2213 : decode cL_law 2213 = .ok (.iconst 3, 1) := fx_ok (d := 2176) (i := 37) fDL_law_34 eL_law_2199.2.2.2.2.2.2.2.2.2.2.2.1
theorem dL_law_2214 : decode cL_law 2214 = .ok (.iadd, 1) := fx_ok (d := 2176) (i := 38) fDL_law_34 eL_law_2199.2.2.2.2.2.2.2.2.2.2.2.2.1
theorem dL_law_2215 : decode cL_law 2215 = .ok (.iaload, 1) := fx_ok (d := 2176) (i := 39) fDL_law_34 eL_law_2199.2.2.2.2.2.2.2.2.2.2.2.2.2.1
theorem dL_law_2216 : decode cL_law 2216 = .ok (.invokevirtual 288, 3) := fx_ok (d := 2176) (i := 40) fDL_law_34 eL_law_2199.2.2.2.2.2.2.2.2.2.2.2.2.2.2.1
theorem dL_law_2219 : decode cL_law 2219 = .ok (.istore 6, 2) := fx_ok (d := 2176) (i := 43) fDL_law_34 eL_law_2199.2.2.2.2.2.2.2.2.2.2.2.2.2.2.2
theorem eL_law_2221 : (fdecl fTL_law_34 45 = some (.aload_n 2, 1)) ∧ (fdecl fTL_law_34 46 = some (.invokevirtual 289, 3)) ∧ (fdecl fTL_law_34 49 = some (.iload 5, 2)) ∧ (fdecl fTL_law_34 51 = some (.if_icmp .eq 5, 3)) ∧ (fdecl fTL_law_34 54 = some (.iconst 0, 1)) ∧ (fdecl fTL_law_34 55 = some (.ireturn, 1)) ∧ (fdecl fTL_law_34 56 = some (.iload 5, 2)) ∧ (fdecl fTL_law_34 58 = some (.ifCond .ne 23, 3)) ∧ (fdecl fTL_law_34 61 = some (.aload_n 3, 1)) ∧ (fdecl fTL_law_34 62 = some (.getfield 13, 3)) ∧ (fdecl fTL_law_35 1 = some (.iload 6, 2)) ∧ (fdecl fTL_law_35 3 = some (.ifCond .eq 7, 3)) ∧ (fdecl fTL_law_35 6 = some (.lconst 1, 1)) ∧ (fdecl fTL_law_35 7 = some (.goto 4, 3)) ∧ (fdecl fTL_law_35 10 = some (.lconst 0, 1)) ∧ (fdecl fTL_law_35 11 = some (.lcmp, 1)) := by decide +kernel
theorem dL_law_2221 : decode cL_law 2221 = .ok (.aload_n 2, 1) := fx_ok (d := 2176) (i := 45) fDL_law_34 eL_law_2221.1
theorem dL_law_2222 : decode cL_law 2222 = .ok (.invokevirtual 289, 3) := fx_ok (d := 2176) (i := 46) fDL_law_34 eL_law_2221.2.1
theorem dL_law_2225 : decode cL_law 2225 = .ok (.iload 5, 2) := fx_ok (d := 2176) (i := 49) fDL_law_34 eL_law_2221.2.2.1
theorem dL_law_2227 : decode cL_law 2227 = .ok (.if_icmp .eq 5, 3) := fx_ok (d := 2176) (i := 51) fDL_law_34 eL_law_2221.2.2.2.1
theorem dL_law_2230 : decode cL_law 2230 = .ok (.iconst 0, 1) := fx_ok (d := 2176) (i := 54) fDL_law_34 eL_law_2221.2.2.2.2.1
theorem dL_law_2231 : decode cL_law 2231 = .ok (.ireturn, 1) := fx_ok (d := 2176) (i := 55) fDL_law_34 eL_law_2221.2.2.2.2.2.1
theorem dL_law_2232 : decode cL_law 2232 = .ok (.iload 5, 2) := fx_ok (d := 2176) (i := 56) fDL_law_34 eL_law_2221.2.2.2.2.2.2.1
theorem dL_law_2234 : decode cL_law 2234 = .ok (.ifCond .ne 23, 3) := fx_ok (d := 2176) (i := 58) fDL_law_34 eL_law_2221.2.2.2.2.2.2.2.1
theorem dL_law_2237 : decode cL_law 2237 = .ok (.aload_n 3, 1) := fx_ok (d := 2176) (i := 61) fDL_law_34 eL_law_2221.2.2.2.2.2.2.2.2.1
theorem dL_law_2238 : decode cL_law 2238 = .ok (.getfield 13, 3) := fx_ok (d := 2176) (i := 62) fDL_law_34 eL_law_2221.2.2.2.2.2.2.2.2.2.1
theorem dL_law_2241 : decode cL_law 2241 = .ok (.iload 6, 2) := fx_ok (d := 2240) (i := 1) fDL_law_35 eL_law_2221.2.2.2.2.2.2.2.2.2.2.1
theorem dL_law_2243 : decode cL_law 2243 = .ok (.ifCond .eq 7, 3) := fx_ok (d := 2240) (i := 3) fDL_law_35 eL_law_2221.2.2.2.2.2.2.2.2.2.2.2.1
theorem dL_law_2246 : decode cL_law 2246 = .ok (.lconst 1, 1) := fx_ok (d := 2240) (i := 6) fDL_law_35 eL_law_2221.2.2.2.2.2.2.2.2.2.2.2.2.1
theorem dL_law_2247 : decode cL_law 2247 = .ok (.goto 4, 3) := fx_ok (d := 2240) (i := 7) fDL_law_35 eL_law_2221.2.2.2.2.2.2.2.2.2.2.2.2.2.1
theorem dL_law_2250 : decode cL_law 2250 = .ok (.lconst 0, 1) := fx_ok (d := 2240) (i := 10) fDL_law_35 eL_law_2221.2.2.2.2.2.2.2.2.2.2.2.2.2.2.1
theorem dL_law_2251 : decode cL_law 2251 = .ok (.lcmp, 1) := fx_ok (d := 2240) (i := 11) fDL_law_35 eL_law_2221.2.2.2.2.2.2.2.2.2.2.2.2.2.2.2
theorem eL_law_2252 : (fdecl fTL_law_35 12 = some (.ifCond .eq 5, 3)) ∧ (fdecl fTL_law_35 15 = some (.iconst 0, 1)) ∧ (fdecl fTL_law_35 16 = some (.ireturn, 1)) ∧ (fdecl fTL_law_35 17 = some (.goto 70, 3)) ∧ (fdecl fTL_law_35 20 = some (.aload_n 1, 1)) ∧ (fdecl fTL_law_35 21 = some (.aload_n 0, 1)) ∧ (fdecl fTL_law_35 22 = some (.iload 4, 2)) ∧ (fdecl fTL_law_35 24 = some (.iconst 1, 1)) ∧ (fdecl fTL_law_35 25 = some (.iadd, 1)) ∧ (fdecl fTL_law_35 26 = some (.iaload, 1)) ∧ (fdecl fTL_law_35 27 = some (.aload_n 3, 1)) ∧ (fdecl fTL_law_35 28 = some (.invokestatic 292, 3)) ∧ (fdecl fTL_law_35 31 = some (.istore 5, 2)) ∧ (fdecl fTL_law_35 33 = some (.aload_n 2, 1)) ∧ (fdecl fTL_law_35 34 = some (.aload_n 0, 1)) ∧ (fdecl fTL_law_35 35 = some (.iload 4, 2)) := by decide +kernel
theorem dL_law_2252 : decode cL_law 2252 = .ok (.ifCond .eq 5, 3) := fx_ok (d := 2240) (i := 12) fDL_law_35 eL_law_2252.1
theorem dL_law_2255 : decode cL_law 2255 = .ok (.iconst 0, 1) := fx_ok (d := 2240) (i := 15) fDL_law_35 eL_law_2252.2.1
theorem dL_law_2256 : decode cL_law 2256 = .ok (.ireturn, 1) := fx_ok (d := 2240) (i := 16) fDL_law_35 eL_law_2252.2.2.1
theorem dL_law_2257 : decode cL_law 2257 = .ok (.goto 70, 3) := fx_ok (d := 2240) (i := 17) fDL_law_35 eL_law_2252.2.2.2.1
theorem dL_law_2260 : decode cL_law 2260 = .ok (.aload_n 1, 1) := fx_ok (d := 2240) (i := 20) fDL_law_35 eL_law_2252.2.2.2.2.1
theorem dL_law_2261 : decode cL_law 2261 = .ok (.aload_n 0, 1) := fx_ok (d := 2240) (i := 21) fDL_law_35 eL_law_2252.2.2.2.2.2.1
theorem dL_law_2262 : decode cL_law 2262 = .ok (.iload 4, 2) := fx_ok (d := 2240) (i := 22) fDL_law_35 eL_law_2252.2.2.2.2.2.2.1
theorem dL_law_2264 : decode cL_law 2264 = .ok (.iconst 1, 1) := fx_ok (d := 2240) (i := 24) fDL_law_35 eL_law_2252.2.2.2.2.2.2.2.1
theorem dL_law_2265 : decode cL_law 2265 = .ok (.iadd, 1) := fx_ok (d := 2240) (i := 25) fDL_law_35 eL_law_2252.2.2.2.2.2.2.2.2.1
theorem dL_law_2266 : decode cL_law 2266 = .ok (.iaload, 1) := fx_ok (d := 2240) (i := 26) fDL_law_35 eL_law_2252.2.2.2.2.2.2.2.2.2.1
theorem dL_law_2267 : decode cL_law 2267 = .ok (.aload_n 3, 1) := fx_ok (d := 2240) (i := 27) fDL_law_35 eL_law_2252.2.2.2.2.2.2.2.2.2.2.1
theorem dL_law_2268 : decode cL_law 2268 = .ok (.invokestatic 292, 3) := fx_ok (d := 2240) (i := 28) fDL_law_35 eL_law_2252.2.2.2.2.2.2.2.2.2.2.2.1
theorem dL_law_2271 : decode cL_law 2271 = .ok (.istore 5, 2) := fx_ok (d := 2240) (i := 31) fDL_law_35 eL_law_2252.2.2.2.2.2.2.2.2.2.2.2.2.1
theorem dL_law_2273 : decode cL_law 2273 = .ok (.aload_n 2, 1) := fx_ok (d := 2240) (i := 33) fDL_law_35 eL_law_2252.2.2.2.2.2.2.2.2.2.2.2.2.2.1
theorem dL_law_2274 : decode cL_law 2274 = .ok (.aload_n 0, 1) := fx_ok (d := 2240) (i := 34) fDL_law_35 eL_law_2252.2.2.2.2.2.2.2.2.2.2.2.2.2.2.1
theorem dL_law_2275 : decode cL_law 2275 = .ok (.iload 4, 2) := fx_ok (d := 2240) (i := 35) fDL_law_35 eL_law_2252.2.2.2.2.2.2.2.2.2.2.2.2.2.2.2
theorem eL_law_2277 : (fdecl fTL_law_35 37 = some (.iconst 1, 1)) ∧ (fdecl fTL_law_35 38 = some (.iadd, 1)) ∧ (fdecl fTL_law_35 39 = some (.iaload, 1)) ∧ (fdecl fTL_law_35 40 = some (.invokevirtual 294, 3)) ∧ (fdecl fTL_law_35 43 = some (.istore 6, 2)) ∧ (fdecl fTL_law_35 45 = some (.goto 42, 3)) ∧ (fdecl fTL_law_35 48 = some (.aload_n 1, 1)) ∧ (fdecl fTL_law_35 49 = some (.invokevirtual 295, 3)) ∧ (fdecl fTL_law_35 52 = some (.pop, 1)) ∧ (fdecl fTL_law_35 53 = some (.aload_n 2, 1)) ∧ (fdecl fTL_law_35 54 = some (.invokevirtual 298, 3)) ∧ (fdecl fTL_law_35 57 = some (.pop, 1)) ∧ (fdecl fTL_law_35 58 = some (.goto 29, 3)) ∧ (fdecl fTL_law_35 61 = some (.aload_n 1, 1)) ∧ (fdecl fTL_law_35 62 = some (.invokevirtual 299, 3)) ∧ (fdecl fTL_law_36 1 = some (.pop, 1)) := by decide +kernel
theorem dL_law_2277 : decode cL_law 2277 = .ok (.iconst 1, 1) := fx_ok (d := 2240) (i := 37) fDL_law_35 eL_law_2277.1
theorem dL_law_2278 : decode cL_law 2278 = .ok (.iadd, 1) := fx_ok (d := 2240) (i := 38) fDL_law_35 eL_law_2277.2.1
theorem dL_law_2279 : decode cL_law 2279 = .ok (.iaload, 1) := fx_ok (d := 2240) (i := 39) fDL_law_35 eL_law_2277.2.2.1
theorem dL_law_2280 : decode cL_law 2280 = .ok (.invokevirtual 294, 3) := fx_ok (d := 2240) (i := 40) fDL_law_35 eL_law_2277.2.2.2.1
theorem dL_law_2283 : decode cL_law 2283 = .ok (.istore 6, 2) := fx_ok (d := 2240) (i := 43) fDL_law_35 eL_law_2277.2.2.2.2.1
theorem dL_law_2285 : decode cL_law 2285 = .ok (.goto 42, 3) := fx_ok (d := 2240) (i := 45) fDL_law_35 eL_law_2277.2.2.2.2.2.1
theorem dL_law_2288 : decode cL_law 2288 = .ok (.aload_n 1, 1) := fx_ok (d := 2240) (i := 48) fDL_law_35 eL_law_2277.2.2.2.2.2.2.1
theorem dL_law_2289 : decode cL_law 2289 = .ok (.invokevirtual 295, 3) := fx_ok (d := 2240) (i := 49) fDL_law_35 eL_law_2277.2.2.2.2.2.2.2.1
theorem dL_law_2292 : decode cL_law 2292 = .ok (.pop, 1) := fx_ok (d := 2240) (i := 52) fDL_law_35 eL_law_2277.2.2.2.2.2.2.2.2.1
theorem dL_law_2293 : decode cL_law 2293 = .ok (.aload_n 2, 1) := fx_ok (d := 2240) (i := 53) fDL_law_35 eL_law_2277.2.2.2.2.2.2.2.2.2.1
theorem dL_law_2294 : decode cL_law 2294 = .ok (.invokevirtual 298, 3) := fx_ok (d := 2240) (i := 54) fDL_law_35 eL_law_2277.2.2.2.2.2.2.2.2.2.2.1
theorem dL_law_2297 : decode cL_law 2297 = .ok (.pop, 1) := fx_ok (d := 2240) (i := 57) fDL_law_35 eL_law_2277.2.2.2.2.2.2.2.2.2.2.2.1
theorem dL_law_2298 : decode cL_law 2298 = .ok (.goto 29, 3) := fx_ok (d := 2240) (i := 58) fDL_law_35 eL_law_2277.2.2.2.2.2.2.2.2.2.2.2.2.1
theorem dL_law_2301 : decode cL_law 2301 = .ok (.aload_n 1, 1) := fx_ok (d := 2240) (i := 61) fDL_law_35 eL_law_2277.2.2.2.2.2.2.2.2.2.2.2.2.2.1
theorem dL_law_2302 : decode cL_law 2302 = .ok (.invokevirtual 299, 3) := fx_ok (d := 2240) (i := 62) fDL_law_35 eL_law_2277.2.2.2.2.2.2.2.2.2.2.2.2.2.2.1
theorem dL_law_2305 : decode cL_law 2305 = .ok (.pop, 1) := fx_ok (d := 2304) (i := 1) fDL_law_36 eL_law_2277.2.2.2.2.2.2.2.2.2.2.2.2.2.2.2
theorem eL_law_2306 : (fdecl fTL_law_36 2 = some (.aload_n 2, 1)) ∧ (fdecl fTL_law_36 3 = some (.invokevirtual 303, 3)) ∧ (fdecl fTL_law_36 6 = some (.pop, 1)) ∧ (fdecl fTL_law_36 7 = some (.goto 16, 3)) ∧ (fdecl fTL_law_36 10 = some (.aload_n 1, 1)) ∧ (fdecl fTL_law_36 11 = some (.invokevirtual 304, 3)) ∧ (fdecl fTL_law_36 14 = some (.pop2, 1)) ∧ (fdecl fTL_law_36 15 = some (.aload_n 2, 1)) ∧ (fdecl fTL_law_36 16 = some (.invokevirtual 308, 3)) ∧ (fdecl fTL_law_36 19 = some (.pop2, 1)) ∧ (fdecl fTL_law_36 20 = some (.goto 3, 3)) ∧ (fdecl fTL_law_36 26 = some (.goto (-2303), 3)) ∧ (fdecl fTL_law_36 29 = some (.iconst 1, 1)) ∧ (fdecl fTL_law_36 30 = some (.ireturn, 1)) := by decide +kernel
theorem dL_law_2306 : decode cL_law 2306 = .ok (.aload_n 2, 1) := fx_ok (d := 2304) (i := 2) fDL_law_36 eL_law_2306.1
theorem dL_law_2307 : decode cL_law 2307 = .ok (.invokevirtual 303, 3) := fx_ok (d := 2304) (i := 3) fDL_law_36 eL_law_2306.2.1
theorem dL_law_2310 : decode cL_law 2310 = .ok (.pop, 1) := fx_ok (d := 2304) (i := 6) fDL_law_36 eL_law_2306.2.2.1
theorem dL_law_2311 : decode cL_law 2311 = .ok (.goto 16, 3) := fx_ok (d := 2304) (i := 7) fDL_law_36 eL_law_2306.2.2.2.1
theorem dL_law_2314 : decode cL_law 2314 = .ok (.aload_n 1, 1) := fx_ok (d := 2304) (i := 10) fDL_law_36 eL_law_2306.2.2.2.2.1
theorem dL_law_2315 : decode cL_law 2315 = .ok (.invokevirtual 304, 3) := fx_ok (d := 2304) (i := 11) fDL_law_36 eL_law_2306.2.2.2.2.2.1
theorem dL_law_2318 : decode cL_law 2318 = .ok (.pop2, 1) := fx_ok (d := 2304) (i := 14) fDL_law_36 eL_law_2306.2.2.2.2.2.2.1
theorem dL_law_2319 : decode cL_law 2319 = .ok (.aload_n 2, 1) := fx_ok (d := 2304) (i := 15) fDL_law_36 eL_law_2306.2.2.2.2.2.2.2.1
theorem dL_law_2320 : decode cL_law 2320 = .ok (.invokevirtual 308, 3) := fx_ok (d := 2304) (i := 16) fDL_law_36 eL_law_2306.2.2.2.2.2.2.2.2.1
theorem dL_law_2323 : decode cL_law 2323 = .ok (.pop2, 1) := fx_ok (d := 2304) (i := 19) fDL_law_36 eL_law_2306.2.2.2.2.2.2.2.2.2.1
theorem dL_law_2324 : decode cL_law 2324 = .ok (.goto 3, 3) := fx_ok (d := 2304) (i := 20) fDL_law_36 eL_law_2306.2.2.2.2.2.2.2.2.2.2.1
theorem dL_law_2330 : decode cL_law 2330 = .ok (.goto (-2303), 3) := fx_ok (d := 2304) (i := 26) fDL_law_36 eL_law_2306.2.2.2.2.2.2.2.2.2.2.2.1
theorem dL_law_2333 : decode cL_law 2333 = .ok (.iconst 1, 1) := fx_ok (d := 2304) (i := 29) fDL_law_36 eL_law_2306.2.2.2.2.2.2.2.2.2.2.2.2.1
theorem dL_law_2334 : decode cL_law 2334 = .ok (.ireturn, 1) := fx_ok (d := 2304) (i := 30) fDL_law_36 eL_law_2306.2.2.2.2.2.2.2.2.2.2.2.2.2
theorem dL_law_44 : decode cL_law 44 = .ok (.tableswitch 2283 0 42 #[188, 228, 280, 332, 408, 448, 516, 580, 644, 684, 724, 792, 872, 956, 1024, 1064, 1092, 1132, 1222, 1286, 1338, 1390, 1430, 1470, 1522, 1562, 1590, 1603, 1631, 1644, 1684, 1736, 1776, 1868, 1920, 1960, 2036, 2088, 2128, 2216, 2244, 2257, 2270], 188) := by decide +kernel
theorem dL_law_2327 : decode cL_law 2327 = .ok (.iinc 4 7, 3) := by decide +kernel
