theorem eL_freshBook_0 : (decode cL_freshBook 0 = .ok (.aload_n 3, 1)) ∧ (decode cL_freshBook 1 = .ok (.aload_n 0, 1)) ∧ (decode cL_freshBook 2 = .ok (.iload_n 1, 1)) ∧ (decode cL_freshBook 3 = .ok (.iload_n 2, 1)) ∧ (decode cL_freshBook 4 = .ok (.invokevirtual 7, 3)) ∧ (decode cL_freshBook 7 = .ok (.i2l, 1)) ∧ (decode cL_freshBook 8 = .ok (.putfield 13, 3)) ∧ (decode cL_freshBook 11 = .ok (.goto 11, 3)) ∧ (decode cL_freshBook 14 = .ok (.astore 4, 2)) ∧ (decode cL_freshBook 16 = .ok (.iconst 1, 1)) ∧ (decode cL_freshBook 17 = .ok (.ireturn, 1)) ∧ (decode cL_freshBook 18 = .ok (.astore 4, 2)) ∧ (decode cL_freshBook 20 = .ok (.iconst 2, 1)) ∧ (decode cL_freshBook 21 = .ok (.ireturn, 1)) ∧ (decode cL_freshBook 22 = .ok (.iconst 0, 1)) ∧ (decode cL_freshBook 23 = .ok (.ireturn, 1)) := by decide +kernel
theorem dL_freshBook_0 : decode cL_freshBook 0 = .ok (.aload_n 3, 1) := eL_freshBook_0.1
theorem dL_freshBook_1 : decode cL_freshBook 1 = .ok (.aload_n 0, 1) := eL_freshBook_0.2.1
theorem dL_freshBook_2 : decode cL_freshBook 2 = .ok (.iload_n 1, 1) := eL_freshBook_0.2.2.1
theorem dL_freshBook_3 : decode cL_freshBook 3 = .ok (.iload_n 2, 1) := eL_freshBook_0.2.2.2.1
theorem dL_freshBook_4 : decode cL_freshBook 4 = .ok (.invokevirtual 7, 3) := eL_freshBook_0.2.2.2.2.1
theorem dL_freshBook_7 : decode cL_freshBook 7 = .ok (.i2l, 1) := eL_freshBook_0.2.2.2.2.2.1
theorem dL_freshBook_8 : decode cL_freshBook 8 = .ok (.putfield 13, 3) := eL_freshBook_0.2.2.2.2.2.2.1
theorem dL_freshBook_11 : decode cL_freshBook 11 = .ok (.goto 11, 3) := eL_freshBook_0.2.2.2.2.2.2.2.1
theorem dL_freshBook_14 : decode cL_freshBook 14 = .ok (.astore 4, 2) := eL_freshBook_0.2.2.2.2.2.2.2.2.1
theorem dL_freshBook_16 : decode cL_freshBook 16 = .ok (.iconst 1, 1) := eL_freshBook_0.2.2.2.2.2.2.2.2.2.1
theorem dL_freshBook_17 : decode cL_freshBook 17 = .ok (.ireturn, 1) := eL_freshBook_0.2.2.2.2.2.2.2.2.2.2.1
theorem dL_freshBook_18 : decode cL_freshBook 18 = .ok (.astore 4, 2) := eL_freshBook_0.2.2.2.2.2.2.2.2.2.2.2.1
theorem dL_freshBook_20 : decode cL_freshBook 20 = .ok (.iconst 2, 1) := eL_freshBook_0.2.2.2.2.2.2.2.2.2.2.2.2.1
theorem dL_freshBook_21 : decode cL_freshBook 21 = .ok (.ireturn, 1) := eL_freshBook_0.2.2.2.2.2.2.2.2.2.2.2.2.2.1
theorem dL_freshBook_22 : decode cL_freshBook 22 = .ok (.iconst 0, 1) := eL_freshBook_0.2.2.2.2.2.2.2.2.2.2.2.2.2.2.1
theorem dL_freshBook_23 : decode cL_freshBook 23 = .ok (.ireturn, 1) := eL_freshBook_0.2.2.2.2.2.2.2.2.2.2.2.2.2.2.2
theorem eL_buildBook_0 : (decode cL_buildBook 0 = .ok (.aload 4, 2)) ∧ (decode cL_buildBook 2 = .ok (.aload_n 0, 1)) ∧ (decode cL_buildBook 3 = .ok (.iload_n 1, 1)) ∧ (decode cL_buildBook 4 = .ok (.iload_n 2, 1)) ∧ (decode cL_buildBook 5 = .ok (.iload_n 3, 1)) ∧ (decode cL_buildBook 6 = .ok (.invokevirtual 23, 3)) ∧ (decode cL_buildBook 9 = .ok (.i2l, 1)) ∧ (decode cL_buildBook 10 = .ok (.putfield 13, 3)) ∧ (decode cL_buildBook 13 = .ok (.goto 11, 3)) ∧ (decode cL_buildBook 16 = .ok (.astore 5, 2)) ∧ (decode cL_buildBook 18 = .ok (.iconst 1, 1)) ∧ (decode cL_buildBook 19 = .ok (.ireturn, 1)) ∧ (decode cL_buildBook 20 = .ok (.astore 5, 2)) ∧ (decode cL_buildBook 22 = .ok (.iconst 2, 1)) ∧ (decode cL_buildBook 23 = .ok (.ireturn, 1)) ∧ (decode cL_buildBook 24 = .ok (.iconst 0, 1)) := by decide +kernel
theorem dL_buildBook_0 : decode cL_buildBook 0 = .ok (.aload 4, 2) := eL_buildBook_0.1
theorem dL_buildBook_2 : decode cL_buildBook 2 = .ok (.aload_n 0, 1) := eL_buildBook_0.2.1
theorem dL_buildBook_3 : decode cL_buildBook 3 = .ok (.iload_n 1, 1) := eL_buildBook_0.2.2.1
theorem dL_buildBook_4 : decode cL_buildBook 4 = .ok (.iload_n 2, 1) := eL_buildBook_0.2.2.2.1
theorem dL_buildBook_5 : decode cL_buildBook 5 = .ok (.iload_n 3, 1) := eL_buildBook_0.2.2.2.2.1
theorem dL_buildBook_6 : decode cL_buildBook 6 = .ok (.invokevirtual 23, 3) := eL_buildBook_0.2.2.2.2.2.1
theorem dL_buildBook_9 : decode cL_buildBook 9 = .ok (.i2l, 1) := eL_buildBook_0.2.2.2.2.2.2.1
theorem dL_buildBook_10 : decode cL_buildBook 10 = .ok (.putfield 13, 3) := eL_buildBook_0.2.2.2.2.2.2.2.1
theorem dL_buildBook_13 : decode cL_buildBook 13 = .ok (.goto 11, 3) := eL_buildBook_0.2.2.2.2.2.2.2.2.1
theorem dL_buildBook_16 : decode cL_buildBook 16 = .ok (.astore 5, 2) := eL_buildBook_0.2.2.2.2.2.2.2.2.2.1
theorem dL_buildBook_18 : decode cL_buildBook 18 = .ok (.iconst 1, 1) := eL_buildBook_0.2.2.2.2.2.2.2.2.2.2.1
theorem dL_buildBook_19 : decode cL_buildBook 19 = .ok (.ireturn, 1) := eL_buildBook_0.2.2.2.2.2.2.2.2.2.2.2.1
theorem dL_buildBook_20 : decode cL_buildBook 20 = .ok (.astore 5, 2) := eL_buildBook_0.2.2.2.2.2.2.2.2.2.2.2.2.1
theorem dL_buildBook_22 : decode cL_buildBook 22 = .ok (.iconst 2, 1) := eL_buildBook_0.2.2.2.2.2.2.2.2.2.2.2.2.2.1
theorem dL_buildBook_23 : decode cL_buildBook 23 = .ok (.ireturn, 1) := eL_buildBook_0.2.2.2.2.2.2.2.2.2.2.2.2.2.2.1
theorem dL_buildBook_24 : decode cL_buildBook 24 = .ok (.iconst 0, 1) := eL_buildBook_0.2.2.2.2.2.2.2.2.2.2.2.2.2.2.2
theorem dL_buildBook_25 : decode cL_buildBook 25 = .ok (.ireturn, 1) := by decide +kernel
theorem eL_splitBook_0 : (decode cL_splitBook 0 = .ok (.aload 4, 2)) ∧ (decode cL_splitBook 2 = .ok (.aload_n 0, 1)) ∧ (decode cL_splitBook 3 = .ok (.iload_n 1, 1)) ∧ (decode cL_splitBook 4 = .ok (.iload_n 2, 1)) ∧ (decode cL_splitBook 5 = .ok (.iload_n 3, 1)) ∧ (decode cL_splitBook 6 = .ok (.invokevirtual 27, 3)) ∧ (decode cL_splitBook 9 = .ok (.i2l, 1)) ∧ (decode cL_splitBook 10 = .ok (.putfield 13, 3)) ∧ (decode cL_splitBook 13 = .ok (.goto 11, 3)) ∧ (decode cL_splitBook 16 = .ok (.astore 5, 2)) ∧ (decode cL_splitBook 18 = .ok (.iconst 1, 1)) ∧ (decode cL_splitBook 19 = .ok (.ireturn, 1)) ∧ (decode cL_splitBook 20 = .ok (.astore 5, 2)) ∧ (decode cL_splitBook 22 = .ok (.iconst 2, 1)) ∧ (decode cL_splitBook 23 = .ok (.ireturn, 1)) ∧ (decode cL_splitBook 24 = .ok (.iconst 0, 1)) := by decide +kernel
theorem dL_splitBook_0 : decode cL_splitBook 0 = .ok (.aload 4, 2) := eL_splitBook_0.1
theorem dL_splitBook_2 : decode cL_splitBook 2 = .ok (.aload_n 0, 1) := eL_splitBook_0.2.1
theorem dL_splitBook_3 : decode cL_splitBook 3 = .ok (.iload_n 1, 1) := eL_splitBook_0.2.2.1
theorem dL_splitBook_4 : decode cL_splitBook 4 = .ok (.iload_n 2, 1) := eL_splitBook_0.2.2.2.1
theorem dL_splitBook_5 : decode cL_splitBook 5 = .ok (.iload_n 3, 1) := eL_splitBook_0.2.2.2.2.1
theorem dL_splitBook_6 : decode cL_splitBook 6 = .ok (.invokevirtual 27, 3) := eL_splitBook_0.2.2.2.2.2.1
theorem dL_splitBook_9 : decode cL_splitBook 9 = .ok (.i2l, 1) := eL_splitBook_0.2.2.2.2.2.2.1
theorem dL_splitBook_10 : decode cL_splitBook 10 = .ok (.putfield 13, 3) := eL_splitBook_0.2.2.2.2.2.2.2.1
theorem dL_splitBook_13 : decode cL_splitBook 13 = .ok (.goto 11, 3) := eL_splitBook_0.2.2.2.2.2.2.2.2.1
theorem dL_splitBook_16 : decode cL_splitBook 16 = .ok (.astore 5, 2) := eL_splitBook_0.2.2.2.2.2.2.2.2.2.1
theorem dL_splitBook_18 : decode cL_splitBook 18 = .ok (.iconst 1, 1) := eL_splitBook_0.2.2.2.2.2.2.2.2.2.2.1
theorem dL_splitBook_19 : decode cL_splitBook 19 = .ok (.ireturn, 1) := eL_splitBook_0.2.2.2.2.2.2.2.2.2.2.2.1
theorem dL_splitBook_20 : decode cL_splitBook 20 = .ok (.astore 5, 2) := eL_splitBook_0.2.2.2.2.2.2.2.2.2.2.2.2.1
theorem dL_splitBook_22 : decode cL_splitBook 22 = .ok (.iconst 2, 1) := eL_splitBook_0.2.2.2.2.2.2.2.2.2.2.2.2.2.1
theorem dL_splitBook_23 : decode cL_splitBook 23 = .ok (.ireturn, 1) := eL_splitBook_0.2.2.2.2.2.2.2.2.2.2.2.2.2.2.1
theorem dL_splitBook_24 : decode cL_splitBook 24 = .ok (.iconst 0, 1) := eL_splitBook_0.2.2.2.2.2.2.2.2.2.2.2.2.2.2.2
theorem dL_splitBook_25 : decode cL_splitBook 25 = .ok (.ireturn, 1) := by decide +kernel
theorem eL_fill_0 : (decode cL_fill 0 = .ok (.aload 6, 2)) ∧ (decode cL_fill 2 = .ok (.aload_n 0, 1)) ∧ (decode cL_fill 3 = .ok (.iload_n 1, 1)) ∧ (decode cL_fill 4 = .ok (.iload_n 2, 1)) ∧ (decode cL_fill 5 = .ok (.iload_n 3, 1)) ∧ (decode cL_fill 6 = .ok (.iload 4, 2)) ∧ (decode cL_fill 8 = .ok (.iload 5, 2)) ∧ (decode cL_fill 10 = .ok (.invokevirtual 30, 3)) ∧ (decode cL_fill 13 = .ok (.i2l, 1)) ∧ (decode cL_fill 14 = .ok (.putfield 13, 3)) ∧ (decode cL_fill 17 = .ok (.goto 11, 3)) ∧ (decode cL_fill 20 = .ok (.astore 7, 2)) ∧ (decode cL_fill 22 = .ok (.iconst 1, 1)) ∧ (decode cL_fill 23 = .ok (.ireturn, 1)) ∧ (decode cL_fill 24 = .ok (.astore 7, 2)) ∧ (decode cL_fill 26 = .ok (.iconst 2, 1)) := by decide +kernel
theorem dL_fill_0 : decode cL_fill 0 = .ok (.aload 6, 2) := eL_fill_0.1
theorem dL_fill_2 : decode cL_fill 2 = .ok (.aload_n 0, 1) := eL_fill_0.2.1
theorem dL_fill_3 : decode cL_fill 3 = .ok (.iload_n 1, 1) := eL_fill_0.2.2.1
theorem dL_fill_4 : decode cL_fill 4 = .ok (.iload_n 2, 1) := eL_fill_0.2.2.2.1
theorem dL_fill_5 : decode cL_fill 5 = .ok (.iload_n 3, 1) := eL_fill_0.2.2.2.2.1
theorem dL_fill_6 : decode cL_fill 6 = .ok (.iload 4, 2) := eL_fill_0.2.2.2.2.2.1
theorem dL_fill_8 : decode cL_fill 8 = .ok (.iload 5, 2) := eL_fill_0.2.2.2.2.2.2.1
theorem dL_fill_10 : decode cL_fill 10 = .ok (.invokevirtual 30, 3) := eL_fill_0.2.2.2.2.2.2.2.1
theorem dL_fill_13 : decode cL_fill 13 = .ok (.i2l, 1) := eL_fill_0.2.2.2.2.2.2.2.2.1
theorem dL_fill_14 : decode cL_fill 14 = .ok (.putfield 13, 3) := eL_fill_0.2.2.2.2.2.2.2.2.2.1
theorem dL_fill_17 : decode cL_fill 17 = .ok (.goto 11, 3) := eL_fill_0.2.2.2.2.2.2.2.2.2.2.1
theorem dL_fill_20 : decode cL_fill 20 = .ok (.astore 7, 2) := eL_fill_0.2.2.2.2.2.2.2.2.2.2.2.1
theorem dL_fill_22 : decode cL_fill 22 = .ok (.iconst 1, 1) := eL_fill_0.2.2.2.2.2.2.2.2.2.2.2.2.1
theorem dL_fill_23 : decode cL_fill 23 = .ok (.ireturn, 1) := eL_fill_0.2.2.2.2.2.2.2.2.2.2.2.2.2.1
theorem dL_fill_24 : decode cL_fill 24 = .ok (.astore 7, 2) := eL_fill_0.2.2.2.2.2.2.2.2.2.2.2.2.2.2.1
theorem dL_fill_26 : decode cL_fill 26 = .ok (.iconst 2, 1) := eL_fill_0.2.2.2.2.2.2.2.2.2.2.2.2.2.2.2
theorem eL_fill_27 : (decode cL_fill 27 = .ok (.ireturn, 1)) ∧ (decode cL_fill 28 = .ok (.iconst 0, 1)) ∧ (decode cL_fill 29 = .ok (.ireturn, 1)) := by decide +kernel
theorem dL_fill_27 : decode cL_fill 27 = .ok (.ireturn, 1) := eL_fill_27.1
theorem dL_fill_28 : decode cL_fill 28 = .ok (.iconst 0, 1) := eL_fill_27.2.1
theorem dL_fill_29 : decode cL_fill 29 = .ok (.ireturn, 1) := eL_fill_27.2.2
theorem eL_pour_0 : (decode cL_pour 0 = .ok (.aload_n 3, 1)) ∧ (decode cL_pour 1 = .ok (.aload_n 0, 1)) ∧ (decode cL_pour 2 = .ok (.iload_n 1, 1)) ∧ (decode cL_pour 3 = .ok (.iload_n 2, 1)) ∧ (decode cL_pour 4 = .ok (.invokevirtual 34, 3)) ∧ (decode cL_pour 7 = .ok (.i2l, 1)) ∧ (decode cL_pour 8 = .ok (.putfield 13, 3)) ∧ (decode cL_pour 11 = .ok (.goto 7, 3)) ∧ (decode cL_pour 14 = .ok (.astore 4, 2)) ∧ (decode cL_pour 16 = .ok (.iconst 1, 1)) ∧ (decode cL_pour 17 = .ok (.ireturn, 1)) ∧ (decode cL_pour 18 = .ok (.iconst 0, 1)) ∧ (decode cL_pour 19 = .ok (.ireturn, 1)) := by decide +kernel
theorem dL_pour_0 : decode cL_pour 0 = .ok (.aload_n 3, 1) := eL_pour_0.1
theorem dL_pour_1 : decode cL_pour 1 = .ok (.aload_n 0, 1) := eL_pour_0.2.1
theorem dL_pour_2 : decode cL_pour 2 = .ok (.iload_n 1, 1) := eL_pour_0.2.2.1
theorem dL_pour_3 : decode cL_pour 3 = .ok (.iload_n 2, 1) := eL_pour_0.2.2.2.1
theorem dL_pour_4 : decode cL_pour 4 = .ok (.invokevirtual 34, 3) := eL_pour_0.2.2.2.2.1
theorem dL_pour_7 : decode cL_pour 7 = .ok (.i2l, 1) := eL_pour_0.2.2.2.2.2.1
theorem dL_pour_8 : decode cL_pour 8 = .ok (.putfield 13, 3) := eL_pour_0.2.2.2.2.2.2.1
theorem dL_pour_11 : decode cL_pour 11 = .ok (.goto 7, 3) := eL_pour_0.2.2.2.2.2.2.2.1
theorem dL_pour_14 : decode cL_pour 14 = .ok (.astore 4, 2) := eL_pour_0.2.2.2.2.2.2.2.2.1
theorem dL_pour_16 : decode cL_pour 16 = .ok (.iconst 1, 1) := eL_pour_0.2.2.2.2.2.2.2.2.2.1
theorem dL_pour_17 : decode cL_pour 17 = .ok (.ireturn, 1) := eL_pour_0.2.2.2.2.2.2.2.2.2.2.1
theorem dL_pour_18 : decode cL_pour 18 = .ok (.iconst 0, 1) := eL_pour_0.2.2.2.2.2.2.2.2.2.2.2.1
theorem dL_pour_19 : decode cL_pour 19 = .ok (.ireturn, 1) := eL_pour_0.2.2.2.2.2.2.2.2.2.2.2.2
theorem eL_keep_0 : (decode cL_keep 0 = .ok (.aload 4, 2)) ∧ (decode cL_keep 2 = .ok (.aload_n 0, 1)) ∧ (decode cL_keep 3 = .ok (.iload_n 1, 1)) ∧ (decode cL_keep 4 = .ok (.iload_n 2, 1)) ∧ (decode cL_keep 5 = .ok (.iload_n 3, 1)) ∧ (decode cL_keep 6 = .ok (.invokevirtual 37, 3)) ∧ (decode cL_keep 9 = .ok (.i2l, 1)) ∧ (decode cL_keep 10 = .ok (.putfield 13, 3)) ∧ (decode cL_keep 13 = .ok (.goto 7, 3)) ∧ (decode cL_keep 16 = .ok (.astore 5, 2)) ∧ (decode cL_keep 18 = .ok (.iconst 1, 1)) ∧ (decode cL_keep 19 = .ok (.ireturn, 1)) ∧ (decode cL_keep 20 = .ok (.iconst 0, 1)) ∧ (decode cL_keep 21 = .ok (.ireturn, 1)) := by decide +kernel
theorem dL_keep_0 : decode cL_keep 0 = .ok (.aload 4, 2) := eL_keep_0.1
theorem dL_keep_2 : decode cL_keep 2 = .ok (.aload_n 0, 1) := eL_keep_0.2.1
theorem dL_keep_3 : decode cL_keep 3 = .ok (.iload_n 1, 1) := eL_keep_0.2.2.1
theorem dL_keep_4 : decode cL_keep 4 = .ok (.iload_n 2, 1) := eL_keep_0.2.2.2.1
theorem dL_keep_5 : decode cL_keep 5 = .ok (.iload_n 3, 1) := eL_keep_0.2.2.2.2.1
theorem dL_keep_6 : decode cL_keep 6 = .ok (.invokevirtual 37, 3) := eL_keep_0.2.2.2.2.2.1
theorem dL_keep_9 : decode cL_keep 9 = .ok (.i2l, 1) := eL_keep_0.2.2.2.2.2.2.1
theorem dL_keep_10 : decode cL_keep 10 = .ok (.putfield 13, 3) := eL_keep_0.2.2.2.2.2.2.2.1
theorem dL_keep_13 : decode cL_keep 13 = .ok (.goto 7, 3) := eL_keep_0.2.2.2.2.2.2.2.2.1
theorem dL_keep_16 : decode cL_keep 16 = .ok (.astore 5, 2) := eL_keep_0.2.2.2.2.2.2.2.2.2.1
theorem dL_keep_18 : decode cL_keep 18 = .ok (.iconst 1, 1) := eL_keep_0.2.2.2.2.2.2.2.2.2.2.1
theorem dL_keep_19 : decode cL_keep 19 = .ok (.ireturn, 1) := eL_keep_0.2.2.2.2.2.2.2.2.2.2.2.1
theorem dL_keep_20 : decode cL_keep 20 = .ok (.iconst 0, 1) := eL_keep_0.2.2.2.2.2.2.2.2.2.2.2.2.1
theorem dL_keep_21 : decode cL_keep 21 = .ok (.ireturn, 1) := eL_keep_0.2.2.2.2.2.2.2.2.2.2.2.2.2
theorem eL_put_0 : (decode cL_put 0 = .ok (.aload 5, 2)) ∧ (decode cL_put 2 = .ok (.aload_n 0, 1)) ∧ (decode cL_put 3 = .ok (.iload_n 1, 1)) ∧ (decode cL_put 4 = .ok (.iload_n 2, 1)) ∧ (decode cL_put 5 = .ok (.iload_n 3, 1)) ∧ (decode cL_put 6 = .ok (.iload 4, 2)) ∧ (decode cL_put 8 = .ok (.invokevirtual 41, 3)) ∧ (decode cL_put 11 = .ok (.i2l, 1)) ∧ (decode cL_put 12 = .ok (.putfield 13, 3)) ∧ (decode cL_put 15 = .ok (.goto 11, 3)) ∧ (decode cL_put 18 = .ok (.astore 6, 2)) ∧ (decode cL_put 20 = .ok (.iconst 1, 1)) ∧ (decode cL_put 21 = .ok (.ireturn, 1)) ∧ (decode cL_put 22 = .ok (.astore 6, 2)) ∧ (decode cL_put 24 = .ok (.iconst 2, 1)) ∧ (decode cL_put 25 = .ok (.ireturn, 1)) := by decide +kernel
theorem dL_put_0 : decode cL_put 0 = .ok (.aload 5, 2) := eL_put_0.1
theorem dL_put_2 : decode cL_put 2 = .ok (.aload_n 0, 1) := eL_put_0.2.1
theorem dL_put_3 : decode cL_put 3 = .ok (.iload_n 1, 1) := eL_put_0.2.2.1
theorem dL_put_4 : decode cL_put 4 = .ok (.iload_n 2, 1) := eL_put_0.2.2.2.1
theorem dL_put_5 : decode cL_put 5 = .ok (.iload_n 3, 1) := eL_put_0.2.2.2.2.1
theorem dL_put_6 : decode cL_put 6 = .ok (.iload 4, 2) := eL_put_0.2.2.2.2.2.1
theorem dL_put_8 : decode cL_put 8 = .ok (.invokevirtual 41, 3) := eL_put_0.2.2.2.2.2.2.1
theorem dL_put_11 : decode cL_put 11 = .ok (.i2l, 1) := eL_put_0.2.2.2.2.2.2.2.1
theorem dL_put_12 : decode cL_put 12 = .ok (.putfield 13, 3) := eL_put_0.2.2.2.2.2.2.2.2.1
theorem dL_put_15 : decode cL_put 15 = .ok (.goto 11, 3) := eL_put_0.2.2.2.2.2.2.2.2.2.1
theorem dL_put_18 : decode cL_put 18 = .ok (.astore 6, 2) := eL_put_0.2.2.2.2.2.2.2.2.2.2.1
theorem dL_put_20 : decode cL_put 20 = .ok (.iconst 1, 1) := eL_put_0.2.2.2.2.2.2.2.2.2.2.2.1
theorem dL_put_21 : decode cL_put 21 = .ok (.ireturn, 1) := eL_put_0.2.2.2.2.2.2.2.2.2.2.2.2.1
theorem dL_put_22 : decode cL_put 22 = .ok (.astore 6, 2) := eL_put_0.2.2.2.2.2.2.2.2.2.2.2.2.2.1
theorem dL_put_24 : decode cL_put 24 = .ok (.iconst 2, 1) := eL_put_0.2.2.2.2.2.2.2.2.2.2.2.2.2.2.1
theorem dL_put_25 : decode cL_put 25 = .ok (.ireturn, 1) := eL_put_0.2.2.2.2.2.2.2.2.2.2.2.2.2.2.2
theorem eL_put_26 : (decode cL_put 26 = .ok (.iconst 0, 1)) ∧ (decode cL_put 27 = .ok (.ireturn, 1)) := by decide +kernel
theorem dL_put_26 : decode cL_put 26 = .ok (.iconst 0, 1) := eL_put_26.1
theorem dL_put_27 : decode cL_put 27 = .ok (.ireturn, 1) := eL_put_26.2
theorem eL_exchange_0 : (decode cL_exchange 0 = .ok (.aload 5, 2)) ∧ (decode cL_exchange 2 = .ok (.aload_n 0, 1)) ∧ (decode cL_exchange 3 = .ok (.iload_n 1, 1)) ∧ (decode cL_exchange 4 = .ok (.iload_n 2, 1)) ∧ (decode cL_exchange 5 = .ok (.iload_n 3, 1)) ∧ (decode cL_exchange 6 = .ok (.iload 4, 2)) ∧ (decode cL_exchange 8 = .ok (.invokevirtual 45, 3)) ∧ (decode cL_exchange 11 = .ok (.i2l, 1)) ∧ (decode cL_exchange 12 = .ok (.putfield 13, 3)) ∧ (decode cL_exchange 15 = .ok (.goto 11, 3)) ∧ (decode cL_exchange 18 = .ok (.astore 6, 2)) ∧ (decode cL_exchange 20 = .ok (.iconst 1, 1)) ∧ (decode cL_exchange 21 = .ok (.ireturn, 1)) ∧ (decode cL_exchange 22 = .ok (.astore 6, 2)) ∧ (decode cL_exchange 24 = .ok (.iconst 2, 1)) ∧ (decode cL_exchange 25 = .ok (.ireturn, 1)) := by decide +kernel
theorem dL_exchange_0 : decode cL_exchange 0 = .ok (.aload 5, 2) := eL_exchange_0.1
theorem dL_exchange_2 : decode cL_exchange 2 = .ok (.aload_n 0, 1) := eL_exchange_0.2.1
theorem dL_exchange_3 : decode cL_exchange 3 = .ok (.iload_n 1, 1) := eL_exchange_0.2.2.1
theorem dL_exchange_4 : decode cL_exchange 4 = .ok (.iload_n 2, 1) := eL_exchange_0.2.2.2.1
theorem dL_exchange_5 : decode cL_exchange 5 = .ok (.iload_n 3, 1) := eL_exchange_0.2.2.2.2.1
theorem dL_exchange_6 : decode cL_exchange 6 = .ok (.iload 4, 2) := eL_exchange_0.2.2.2.2.2.1
theorem dL_exchange_8 : decode cL_exchange 8 = .ok (.invokevirtual 45, 3) := eL_exchange_0.2.2.2.2.2.2.1
theorem dL_exchange_11 : decode cL_exchange 11 = .ok (.i2l, 1) := eL_exchange_0.2.2.2.2.2.2.2.1
theorem dL_exchange_12 : decode cL_exchange 12 = .ok (.putfield 13, 3) := eL_exchange_0.2.2.2.2.2.2.2.2.1
theorem dL_exchange_15 : decode cL_exchange 15 = .ok (.goto 11, 3) := eL_exchange_0.2.2.2.2.2.2.2.2.2.1
theorem dL_exchange_18 : decode cL_exchange 18 = .ok (.astore 6, 2) := eL_exchange_0.2.2.2.2.2.2.2.2.2.2.1
theorem dL_exchange_20 : decode cL_exchange 20 = .ok (.iconst 1, 1) := eL_exchange_0.2.2.2.2.2.2.2.2.2.2.2.1
theorem dL_exchange_21 : decode cL_exchange 21 = .ok (.ireturn, 1) := eL_exchange_0.2.2.2.2.2.2.2.2.2.2.2.2.1
theorem dL_exchange_22 : decode cL_exchange 22 = .ok (.astore 6, 2) := eL_exchange_0.2.2.2.2.2.2.2.2.2.2.2.2.2.1
theorem dL_exchange_24 : decode cL_exchange 24 = .ok (.iconst 2, 1) := eL_exchange_0.2.2.2.2.2.2.2.2.2.2.2.2.2.2.1
theorem dL_exchange_25 : decode cL_exchange 25 = .ok (.ireturn, 1) := eL_exchange_0.2.2.2.2.2.2.2.2.2.2.2.2.2.2.2
theorem eL_exchange_26 : (decode cL_exchange 26 = .ok (.iconst 0, 1)) ∧ (decode cL_exchange 27 = .ok (.ireturn, 1)) := by decide +kernel
theorem dL_exchange_26 : decode cL_exchange 26 = .ok (.iconst 0, 1) := eL_exchange_26.1
theorem dL_exchange_27 : decode cL_exchange 27 = .ok (.ireturn, 1) := eL_exchange_26.2
theorem eL_take_0 : (decode cL_take 0 = .ok (.aload_n 3, 1)) ∧ (decode cL_take 1 = .ok (.aload_n 0, 1)) ∧ (decode cL_take 2 = .ok (.iload_n 1, 1)) ∧ (decode cL_take 3 = .ok (.iload_n 2, 1)) ∧ (decode cL_take 4 = .ok (.invokevirtual 48, 3)) ∧ (decode cL_take 7 = .ok (.i2l, 1)) ∧ (decode cL_take 8 = .ok (.putfield 13, 3)) ∧ (decode cL_take 11 = .ok (.goto 11, 3)) ∧ (decode cL_take 14 = .ok (.astore 4, 2)) ∧ (decode cL_take 16 = .ok (.iconst 1, 1)) ∧ (decode cL_take 17 = .ok (.ireturn, 1)) ∧ (decode cL_take 18 = .ok (.astore 4, 2)) ∧ (decode cL_take 20 = .ok (.iconst 2, 1)) ∧ (decode cL_take 21 = .ok (.ireturn, 1)) ∧ (decode cL_take 22 = .ok (.iconst 0, 1)) ∧ (decode cL_take 23 = .ok (.ireturn, 1)) := by decide +kernel
theorem dL_take_0 : decode cL_take 0 = .ok (.aload_n 3, 1) := eL_take_0.1
theorem dL_take_1 : decode cL_take 1 = .ok (.aload_n 0, 1) := eL_take_0.2.1
theorem dL_take_2 : decode cL_take 2 = .ok (.iload_n 1, 1) := eL_take_0.2.2.1
theorem dL_take_3 : decode cL_take 3 = .ok (.iload_n 2, 1) := eL_take_0.2.2.2.1
theorem dL_take_4 : decode cL_take 4 = .ok (.invokevirtual 48, 3) := eL_take_0.2.2.2.2.1
theorem dL_take_7 : decode cL_take 7 = .ok (.i2l, 1) := eL_take_0.2.2.2.2.2.1
theorem dL_take_8 : decode cL_take 8 = .ok (.putfield 13, 3) := eL_take_0.2.2.2.2.2.2.1
theorem dL_take_11 : decode cL_take 11 = .ok (.goto 11, 3) := eL_take_0.2.2.2.2.2.2.2.1
theorem dL_take_14 : decode cL_take 14 = .ok (.astore 4, 2) := eL_take_0.2.2.2.2.2.2.2.2.1
theorem dL_take_16 : decode cL_take 16 = .ok (.iconst 1, 1) := eL_take_0.2.2.2.2.2.2.2.2.2.1
theorem dL_take_17 : decode cL_take 17 = .ok (.ireturn, 1) := eL_take_0.2.2.2.2.2.2.2.2.2.2.1
theorem dL_take_18 : decode cL_take 18 = .ok (.astore 4, 2) := eL_take_0.2.2.2.2.2.2.2.2.2.2.2.1
theorem dL_take_20 : decode cL_take 20 = .ok (.iconst 2, 1) := eL_take_0.2.2.2.2.2.2.2.2.2.2.2.2.1
theorem dL_take_21 : decode cL_take 21 = .ok (.ireturn, 1) := eL_take_0.2.2.2.2.2.2.2.2.2.2.2.2.2.1
theorem dL_take_22 : decode cL_take 22 = .ok (.iconst 0, 1) := eL_take_0.2.2.2.2.2.2.2.2.2.2.2.2.2.2.1
theorem dL_take_23 : decode cL_take 23 = .ok (.ireturn, 1) := eL_take_0.2.2.2.2.2.2.2.2.2.2.2.2.2.2.2
theorem eL_drop_0 : (decode cL_drop 0 = .ok (.aload_n 3, 1)) ∧ (decode cL_drop 1 = .ok (.aload_n 0, 1)) ∧ (decode cL_drop 2 = .ok (.iload_n 1, 1)) ∧ (decode cL_drop 3 = .ok (.iload_n 2, 1)) ∧ (decode cL_drop 4 = .ok (.invokevirtual 51, 3)) ∧ (decode cL_drop 7 = .ok (.i2l, 1)) ∧ (decode cL_drop 8 = .ok (.putfield 13, 3)) ∧ (decode cL_drop 11 = .ok (.goto 11, 3)) ∧ (decode cL_drop 14 = .ok (.astore 4, 2)) ∧ (decode cL_drop 16 = .ok (.iconst 1, 1)) ∧ (decode cL_drop 17 = .ok (.ireturn, 1)) ∧ (decode cL_drop 18 = .ok (.astore 4, 2)) ∧ (decode cL_drop 20 = .ok (.iconst 2, 1)) ∧ (decode cL_drop 21 = .ok (.ireturn, 1)) ∧ (decode cL_drop 22 = .ok (.iconst 0, 1)) ∧ (decode cL_drop 23 = .ok (.ireturn, 1)) := by decide +kernel
theorem dL_drop_0 : decode cL_drop 0 = .ok (.aload_n 3, 1) := eL_drop_0.1
theorem dL_drop_1 : decode cL_drop 1 = .ok (.aload_n 0, 1) := eL_drop_0.2.1
theorem dL_drop_2 : decode cL_drop 2 = .ok (.iload_n 1, 1) := eL_drop_0.2.2.1
theorem dL_drop_3 : decode cL_drop 3 = .ok (.iload_n 2, 1) := eL_drop_0.2.2.2.1
theorem dL_drop_4 : decode cL_drop 4 = .ok (.invokevirtual 51, 3) := eL_drop_0.2.2.2.2.1
theorem dL_drop_7 : decode cL_drop 7 = .ok (.i2l, 1) := eL_drop_0.2.2.2.2.2.1
theorem dL_drop_8 : decode cL_drop 8 = .ok (.putfield 13, 3) := eL_drop_0.2.2.2.2.2.2.1
theorem dL_drop_11 : decode cL_drop 11 = .ok (.goto 11, 3) := eL_drop_0.2.2.2.2.2.2.2.1
theorem dL_drop_14 : decode cL_drop 14 = .ok (.astore 4, 2) := eL_drop_0.2.2.2.2.2.2.2.2.1
theorem dL_drop_16 : decode cL_drop 16 = .ok (.iconst 1, 1) := eL_drop_0.2.2.2.2.2.2.2.2.2.1
theorem dL_drop_17 : decode cL_drop 17 = .ok (.ireturn, 1) := eL_drop_0.2.2.2.2.2.2.2.2.2.2.1
theorem dL_drop_18 : decode cL_drop 18 = .ok (.astore 4, 2) := eL_drop_0.2.2.2.2.2.2.2.2.2.2.2.1
theorem dL_drop_20 : decode cL_drop 20 = .ok (.iconst 2, 1) := eL_drop_0.2.2.2.2.2.2.2.2.2.2.2.2.1
theorem dL_drop_21 : decode cL_drop 21 = .ok (.ireturn, 1) := eL_drop_0.2.2.2.2.2.2.2.2.2.2.2.2.2.1
theorem dL_drop_22 : decode cL_drop 22 = .ok (.iconst 0, 1) := eL_drop_0.2.2.2.2.2.2.2.2.2.2.2.2.2.2.1
theorem dL_drop_23 : decode cL_drop 23 = .ok (.ireturn, 1) := eL_drop_0.2.2.2.2.2.2.2.2.2.2.2.2.2.2.2
theorem eL_has_0 : (decode cL_has 0 = .ok (.aload 4, 2)) ∧ (decode cL_has 2 = .ok (.aload_n 0, 1)) ∧ (decode cL_has 3 = .ok (.iload_n 1, 1)) ∧ (decode cL_has 4 = .ok (.iload_n 2, 1)) ∧ (decode cL_has 5 = .ok (.iload_n 3, 1)) ∧ (decode cL_has 6 = .ok (.invokevirtual 54, 3)) ∧ (decode cL_has 9 = .ok (.ifCond .eq 7, 3)) ∧ (decode cL_has 12 = .ok (.lconst 1, 1)) ∧ (decode cL_has 13 = .ok (.goto 4, 3)) ∧ (decode cL_has 16 = .ok (.lconst 0, 1)) ∧ (decode cL_has 17 = .ok (.putfield 13, 3)) ∧ (decode cL_has 20 = .ok (.goto 11, 3)) ∧ (decode cL_has 23 = .ok (.astore 5, 2)) ∧ (decode cL_has 25 = .ok (.iconst 1, 1)) ∧ (decode cL_has 26 = .ok (.ireturn, 1)) ∧ (decode cL_has 27 = .ok (.astore 5, 2)) := by decide +kernel
theorem dL_has_0 : decode cL_has 0 = .ok (.aload 4, 2) := eL_has_0.1
theorem dL_has_2 : decode cL_has 2 = .ok (.aload_n 0, 1) := eL_has_0.2.1
theorem dL_has_3 : decode cL_has 3 = .ok (.iload_n 1, 1) := eL_has_0.2.2.1
theorem dL_has_4 : decode cL_has 4 = .ok (.iload_n 2, 1) := eL_has_0.2.2.2.1
theorem dL_has_5 : decode cL_has 5 = .ok (.iload_n 3, 1) := eL_has_0.2.2.2.2.1
theorem dL_has_6 : decode cL_has 6 = .ok (.invokevirtual 54, 3) := eL_has_0.2.2.2.2.2.1
theorem dL_has_9 : decode cL_has 9 = .ok (.ifCond .eq 7, 3) := eL_has_0.2.2.2.2.2.2.1
theorem dL_has_12 : decode cL_has 12 = .ok (.lconst 1, 1) := eL_has_0.2.2.2.2.2.2.2.1
theorem dL_has_13 : decode cL_has 13 = .ok (.goto 4, 3) := eL_has_0.2.2.2.2.2.2.2.2.1
theorem dL_has_16 : decode cL_has 16 = .ok (.lconst 0, 1) := eL_has_0.2.2.2.2.2.2.2.2.2.1
theorem dL_has_17 : decode cL_has 17 = .ok (.putfield 13, 3) := eL_has_0.2.2.2.2.2.2.2.2.2.2.1
theorem dL_has_20 : decode cL_has 20 = .ok (.goto 11, 3) := eL_has_0.2.2.2.2.2.2.2.2.2.2.2.1
theorem dL_has_23 : decode cL_has 23 = .ok (.astore 5, 2) := eL_has_0.2.2.2.2.2.2.2.2.2.2.2.2.1
theorem dL_has_25 : decode cL_has 25 = .ok (.iconst 1, 1) := eL_has_0.2.2.2.2.2.2.2.2.2.2.2.2.2.1
theorem dL_has_26 : decode cL_has 26 = .ok (.ireturn, 1) := eL_has_0.2.2.2.2.2.2.2.2.2.2.2.2.2.2.1
theorem dL_has_27 : decode cL_has 27 = .ok (.astore 5, 2) := eL_has_0.2.2.2.2.2.2.2.2.2.2.2.2.2.2.2
theorem eL_has_29 : (decode cL_has 29 = .ok (.iconst 2, 1)) ∧ (decode cL_has 30 = .ok (.ireturn, 1)) ∧ (decode cL_has 31 = .ok (.iconst 0, 1)) ∧ (decode cL_has 32 = .ok (.ireturn, 1)) := by decide +kernel
theorem dL_has_29 : decode cL_has 29 = .ok (.iconst 2, 1) := eL_has_29.1
theorem dL_has_30 : decode cL_has 30 = .ok (.ireturn, 1) := eL_has_29.2.1
theorem dL_has_31 : decode cL_has 31 = .ok (.iconst 0, 1) := eL_has_29.2.2.1
theorem dL_has_32 : decode cL_has 32 = .ok (.ireturn, 1) := eL_has_29.2.2.2
theorem eL_near_0 : (decode cL_near 0 = .ok (.aload 5, 2)) ∧ (decode cL_near 2 = .ok (.aload_n 0, 1)) ∧ (decode cL_near 3 = .ok (.iload_n 1, 1)) ∧ (decode cL_near 4 = .ok (.iload_n 2, 1)) ∧ (decode cL_near 5 = .ok (.iload_n 3, 1)) ∧ (decode cL_near 6 = .ok (.iload 4, 2)) ∧ (decode cL_near 8 = .ok (.invokevirtual 58, 3)) ∧ (decode cL_near 11 = .ok (.i2l, 1)) ∧ (decode cL_near 12 = .ok (.putfield 13, 3)) ∧ (decode cL_near 15 = .ok (.goto 11, 3)) ∧ (decode cL_near 18 = .ok (.astore 6, 2)) ∧ (decode cL_near 20 = .ok (.iconst 1, 1)) ∧ (decode cL_near 21 = .ok (.ireturn, 1)) ∧ (decode cL_near 22 = .ok (.astore 6, 2)) ∧ (decode cL_near 24 = .ok (.iconst 2, 1)) ∧ (decode cL_near 25 = .ok (.ireturn, 1)) := by decide +kernel
theorem dL_near_0 : decode cL_near 0 = .ok (.aload 5, 2) := eL_near_0.1
theorem dL_near_2 : decode cL_near 2 = .ok (.aload_n 0, 1) := eL_near_0.2.1
theorem dL_near_3 : decode cL_near 3 = .ok (.iload_n 1, 1) := eL_near_0.2.2.1
theorem dL_near_4 : decode cL_near 4 = .ok (.iload_n 2, 1) := eL_near_0.2.2.2.1
theorem dL_near_5 : decode cL_near 5 = .ok (.iload_n 3, 1) := eL_near_0.2.2.2.2.1
theorem dL_near_6 : decode cL_near 6 = .ok (.iload 4, 2) := eL_near_0.2.2.2.2.2.1
theorem dL_near_8 : decode cL_near 8 = .ok (.invokevirtual 58, 3) := eL_near_0.2.2.2.2.2.2.1
theorem dL_near_11 : decode cL_near 11 = .ok (.i2l, 1) := eL_near_0.2.2.2.2.2.2.2.1
theorem dL_near_12 : decode cL_near 12 = .ok (.putfield 13, 3) := eL_near_0.2.2.2.2.2.2.2.2.1
theorem dL_near_15 : decode cL_near 15 = .ok (.goto 11, 3) := eL_near_0.2.2.2.2.2.2.2.2.2.1
theorem dL_near_18 : decode cL_near 18 = .ok (.astore 6, 2) := eL_near_0.2.2.2.2.2.2.2.2.2.2.1
theorem dL_near_20 : decode cL_near 20 = .ok (.iconst 1, 1) := eL_near_0.2.2.2.2.2.2.2.2.2.2.2.1
theorem dL_near_21 : decode cL_near 21 = .ok (.ireturn, 1) := eL_near_0.2.2.2.2.2.2.2.2.2.2.2.2.1
theorem dL_near_22 : decode cL_near 22 = .ok (.astore 6, 2) := eL_near_0.2.2.2.2.2.2.2.2.2.2.2.2.2.1
theorem dL_near_24 : decode cL_near 24 = .ok (.iconst 2, 1) := eL_near_0.2.2.2.2.2.2.2.2.2.2.2.2.2.2.1
theorem dL_near_25 : decode cL_near 25 = .ok (.ireturn, 1) := eL_near_0.2.2.2.2.2.2.2.2.2.2.2.2.2.2.2
theorem eL_near_26 : (decode cL_near 26 = .ok (.iconst 0, 1)) ∧ (decode cL_near 27 = .ok (.ireturn, 1)) := by decide +kernel
theorem dL_near_26 : decode cL_near 26 = .ok (.iconst 0, 1) := eL_near_26.1
theorem dL_near_27 : decode cL_near 27 = .ok (.ireturn, 1) := eL_near_26.2
theorem eL_end_0 : (decode cL_end 0 = .ok (.aload 4, 2)) ∧ (decode cL_end 2 = .ok (.aload_n 0, 1)) ∧ (decode cL_end 3 = .ok (.iload_n 1, 1)) ∧ (decode cL_end 4 = .ok (.iload_n 2, 1)) ∧ (decode cL_end 5 = .ok (.iload_n 3, 1)) ∧ (decode cL_end 6 = .ok (.invokevirtual 62, 3)) ∧ (decode cL_end 9 = .ok (.i2l, 1)) ∧ (decode cL_end 10 = .ok (.putfield 13, 3)) ∧ (decode cL_end 13 = .ok (.goto 7, 3)) ∧ (decode cL_end 16 = .ok (.astore 5, 2)) ∧ (decode cL_end 18 = .ok (.iconst 1, 1)) ∧ (decode cL_end 19 = .ok (.ireturn, 1)) ∧ (decode cL_end 20 = .ok (.iconst 0, 1)) ∧ (decode cL_end 21 = .ok (.ireturn, 1)) := by decide +kernel
theorem dL_end_0 : decode cL_end 0 = .ok (.aload 4, 2) := eL_end_0.1
theorem dL_end_2 : decode cL_end 2 = .ok (.aload_n 0, 1) := eL_end_0.2.1
theorem dL_end_3 : decode cL_end 3 = .ok (.iload_n 1, 1) := eL_end_0.2.2.1
theorem dL_end_4 : decode cL_end 4 = .ok (.iload_n 2, 1) := eL_end_0.2.2.2.1
theorem dL_end_5 : decode cL_end 5 = .ok (.iload_n 3, 1) := eL_end_0.2.2.2.2.1
theorem dL_end_6 : decode cL_end 6 = .ok (.invokevirtual 62, 3) := eL_end_0.2.2.2.2.2.1
theorem dL_end_9 : decode cL_end 9 = .ok (.i2l, 1) := eL_end_0.2.2.2.2.2.2.1
theorem dL_end_10 : decode cL_end 10 = .ok (.putfield 13, 3) := eL_end_0.2.2.2.2.2.2.2.1
theorem dL_end_13 : decode cL_end 13 = .ok (.goto 7, 3) := eL_end_0.2.2.2.2.2.2.2.2.1
theorem dL_end_16 : decode cL_end 16 = .ok (.astore 5, 2) := eL_end_0.2.2.2.2.2.2.2.2.2.1
theorem dL_end_18 : decode cL_end 18 = .ok (.iconst 1, 1) := eL_end_0.2.2.2.2.2.2.2.2.2.2.1
theorem dL_end_19 : decode cL_end 19 = .ok (.ireturn, 1) := eL_end_0.2.2.2.2.2.2.2.2.2.2.2.1
theorem dL_end_20 : decode cL_end 20 = .ok (.iconst 0, 1) := eL_end_0.2.2.2.2.2.2.2.2.2.2.2.2.1
theorem dL_end_21 : decode cL_end 21 = .ok (.ireturn, 1) := eL_end_0.2.2.2.2.2.2.2.2.2.2.2.2.2
theorem eL_keyAt_0 : (decode cL_keyAt 0 = .ok (.aload 4, 2)) ∧ (decode cL_keyAt 2 = .ok (.aload_n 0, 1)) ∧ (decode cL_keyAt 3 = .ok (.iload_n 1, 1)) ∧ (decode cL_keyAt 4 = .ok (.iload_n 2, 1)) ∧ (decode cL_keyAt 5 = .ok (.iload_n 3, 1)) ∧ (decode cL_keyAt 6 = .ok (.invokevirtual 66, 3)) ∧ (decode cL_keyAt 9 = .ok (.i2l, 1)) ∧ (decode cL_keyAt 10 = .ok (.putfield 13, 3)) ∧ (decode cL_keyAt 13 = .ok (.goto 11, 3)) ∧ (decode cL_keyAt 16 = .ok (.astore 5, 2)) ∧ (decode cL_keyAt 18 = .ok (.iconst 1, 1)) ∧ (decode cL_keyAt 19 = .ok (.ireturn, 1)) ∧ (decode cL_keyAt 20 = .ok (.astore 5, 2)) ∧ (decode cL_keyAt 22 = .ok (.iconst 2, 1)) ∧ (decode cL_keyAt 23 = .ok (.ireturn, 1)) ∧ (decode cL_keyAt 24 = .ok (.iconst 0, 1)) := by decide +kernel
theorem dL_keyAt_0 : decode cL_keyAt 0 = .ok (.aload 4, 2) := eL_keyAt_0.1
theorem dL_keyAt_2 : decode cL_keyAt 2 = .ok (.aload_n 0, 1) := eL_keyAt_0.2.1
theorem dL_keyAt_3 : decode cL_keyAt 3 = .ok (.iload_n 1, 1) := eL_keyAt_0.2.2.1
theorem dL_keyAt_4 : decode cL_keyAt 4 = .ok (.iload_n 2, 1) := eL_keyAt_0.2.2.2.1
theorem dL_keyAt_5 : decode cL_keyAt 5 = .ok (.iload_n 3, 1) := eL_keyAt_0.2.2.2.2.1
theorem dL_keyAt_6 : decode cL_keyAt 6 = .ok (.invokevirtual 66, 3) := eL_keyAt_0.2.2.2.2.2.1
theorem dL_keyAt_9 : decode cL_keyAt 9 = .ok (.i2l, 1) := eL_keyAt_0.2.2.2.2.2.2.1
theorem dL_keyAt_10 : decode cL_keyAt 10 = .ok (.putfield 13, 3) := eL_keyAt_0.2.2.2.2.2.2.2.1
theorem dL_keyAt_13 : decode cL_keyAt 13 = .ok (.goto 11, 3) := eL_keyAt_0.2.2.2.2.2.2.2.2.1
theorem dL_keyAt_16 : decode cL_keyAt 16 = .ok (.astore 5, 2) := eL_keyAt_0.2.2.2.2.2.2.2.2.2.1
theorem dL_keyAt_18 : decode cL_keyAt 18 = .ok (.iconst 1, 1) := eL_keyAt_0.2.2.2.2.2.2.2.2.2.2.1
theorem dL_keyAt_19 : decode cL_keyAt 19 = .ok (.ireturn, 1) := eL_keyAt_0.2.2.2.2.2.2.2.2.2.2.2.1
theorem dL_keyAt_20 : decode cL_keyAt 20 = .ok (.astore 5, 2) := eL_keyAt_0.2.2.2.2.2.2.2.2.2.2.2.2.1
theorem dL_keyAt_22 : decode cL_keyAt 22 = .ok (.iconst 2, 1) := eL_keyAt_0.2.2.2.2.2.2.2.2.2.2.2.2.2.1
theorem dL_keyAt_23 : decode cL_keyAt 23 = .ok (.ireturn, 1) := eL_keyAt_0.2.2.2.2.2.2.2.2.2.2.2.2.2.2.1
theorem dL_keyAt_24 : decode cL_keyAt 24 = .ok (.iconst 0, 1) := eL_keyAt_0.2.2.2.2.2.2.2.2.2.2.2.2.2.2.2
theorem dL_keyAt_25 : decode cL_keyAt 25 = .ok (.ireturn, 1) := by decide +kernel
theorem eL_tellBook_0 : (decode cL_tellBook 0 = .ok (.aload_n 3, 1)) ∧ (decode cL_tellBook 1 = .ok (.aload_n 0, 1)) ∧ (decode cL_tellBook 2 = .ok (.iload_n 1, 1)) ∧ (decode cL_tellBook 3 = .ok (.iload_n 2, 1)) ∧ (decode cL_tellBook 4 = .ok (.invokevirtual 69, 3)) ∧ (decode cL_tellBook 7 = .ok (.i2l, 1)) ∧ (decode cL_tellBook 8 = .ok (.putfield 13, 3)) ∧ (decode cL_tellBook 11 = .ok (.goto 11, 3)) ∧ (decode cL_tellBook 14 = .ok (.astore 4, 2)) ∧ (decode cL_tellBook 16 = .ok (.iconst 1, 1)) ∧ (decode cL_tellBook 17 = .ok (.ireturn, 1)) ∧ (decode cL_tellBook 18 = .ok (.astore 4, 2)) ∧ (decode cL_tellBook 20 = .ok (.iconst 2, 1)) ∧ (decode cL_tellBook 21 = .ok (.ireturn, 1)) ∧ (decode cL_tellBook 22 = .ok (.iconst 0, 1)) ∧ (decode cL_tellBook 23 = .ok (.ireturn, 1)) := by decide +kernel
theorem dL_tellBook_0 : decode cL_tellBook 0 = .ok (.aload_n 3, 1) := eL_tellBook_0.1
theorem dL_tellBook_1 : decode cL_tellBook 1 = .ok (.aload_n 0, 1) := eL_tellBook_0.2.1
theorem dL_tellBook_2 : decode cL_tellBook 2 = .ok (.iload_n 1, 1) := eL_tellBook_0.2.2.1
theorem dL_tellBook_3 : decode cL_tellBook 3 = .ok (.iload_n 2, 1) := eL_tellBook_0.2.2.2.1
theorem dL_tellBook_4 : decode cL_tellBook 4 = .ok (.invokevirtual 69, 3) := eL_tellBook_0.2.2.2.2.1
theorem dL_tellBook_7 : decode cL_tellBook 7 = .ok (.i2l, 1) := eL_tellBook_0.2.2.2.2.2.1
theorem dL_tellBook_8 : decode cL_tellBook 8 = .ok (.putfield 13, 3) := eL_tellBook_0.2.2.2.2.2.2.1
theorem dL_tellBook_11 : decode cL_tellBook 11 = .ok (.goto 11, 3) := eL_tellBook_0.2.2.2.2.2.2.2.1
theorem dL_tellBook_14 : decode cL_tellBook 14 = .ok (.astore 4, 2) := eL_tellBook_0.2.2.2.2.2.2.2.2.1
theorem dL_tellBook_16 : decode cL_tellBook 16 = .ok (.iconst 1, 1) := eL_tellBook_0.2.2.2.2.2.2.2.2.2.1
theorem dL_tellBook_17 : decode cL_tellBook 17 = .ok (.ireturn, 1) := eL_tellBook_0.2.2.2.2.2.2.2.2.2.2.1
theorem dL_tellBook_18 : decode cL_tellBook 18 = .ok (.astore 4, 2) := eL_tellBook_0.2.2.2.2.2.2.2.2.2.2.2.1
theorem dL_tellBook_20 : decode cL_tellBook 20 = .ok (.iconst 2, 1) := eL_tellBook_0.2.2.2.2.2.2.2.2.2.2.2.2.1
theorem dL_tellBook_21 : decode cL_tellBook 21 = .ok (.ireturn, 1) := eL_tellBook_0.2.2.2.2.2.2.2.2.2.2.2.2.2.1
theorem dL_tellBook_22 : decode cL_tellBook 22 = .ok (.iconst 0, 1) := eL_tellBook_0.2.2.2.2.2.2.2.2.2.2.2.2.2.2.1
theorem dL_tellBook_23 : decode cL_tellBook 23 = .ok (.ireturn, 1) := eL_tellBook_0.2.2.2.2.2.2.2.2.2.2.2.2.2.2.2
theorem eL_bookText_0 : (decode cL_bookText 0 = .ok (.aload_n 2, 1)) ∧ (decode cL_bookText 1 = .ok (.aload_n 0, 1)) ∧ (decode cL_bookText 2 = .ok (.iload_n 1, 1)) ∧ (decode cL_bookText 3 = .ok (.invokevirtual 72, 3)) ∧ (decode cL_bookText 6 = .ok (.putfield 76, 3)) ∧ (decode cL_bookText 9 = .ok (.goto 6, 3)) ∧ (decode cL_bookText 12 = .ok (.astore_n 3, 1)) ∧ (decode cL_bookText 13 = .ok (.iconst 1, 1)) ∧ (decode cL_bookText 14 = .ok (.ireturn, 1)) ∧ (decode cL_bookText 15 = .ok (.iconst 0, 1)) ∧ (decode cL_bookText 16 = .ok (.ireturn, 1)) := by decide +kernel
theorem dL_bookText_0 : decode cL_bookText 0 = .ok (.aload_n 2, 1) := eL_bookText_0.1
theorem dL_bookText_1 : decode cL_bookText 1 = .ok (.aload_n 0, 1) := eL_bookText_0.2.1
theorem dL_bookText_2 : decode cL_bookText 2 = .ok (.iload_n 1, 1) := eL_bookText_0.2.2.1
theorem dL_bookText_3 : decode cL_bookText 3 = .ok (.invokevirtual 72, 3) := eL_bookText_0.2.2.2.1
theorem dL_bookText_6 : decode cL_bookText 6 = .ok (.putfield 76, 3) := eL_bookText_0.2.2.2.2.1
theorem dL_bookText_9 : decode cL_bookText 9 = .ok (.goto 6, 3) := eL_bookText_0.2.2.2.2.2.1
theorem dL_bookText_12 : decode cL_bookText 12 = .ok (.astore_n 3, 1) := eL_bookText_0.2.2.2.2.2.2.1
theorem dL_bookText_13 : decode cL_bookText 13 = .ok (.iconst 1, 1) := eL_bookText_0.2.2.2.2.2.2.2.1
theorem dL_bookText_14 : decode cL_bookText 14 = .ok (.ireturn, 1) := eL_bookText_0.2.2.2.2.2.2.2.2.1
theorem dL_bookText_15 : decode cL_bookText 15 = .ok (.iconst 0, 1) := eL_bookText_0.2.2.2.2.2.2.2.2.2.1
theorem dL_bookText_16 : decode cL_bookText 16 = .ok (.ireturn, 1) := eL_bookText_0.2.2.2.2.2.2.2.2.2.2
theorem eL_sameBooks_0 : (decode cL_sameBooks 0 = .ok (.aload_n 3, 1)) ∧ (decode cL_sameBooks 1 = .ok (.aload_n 0, 1)) ∧ (decode cL_sameBooks 2 = .ok (.iload_n 1, 1)) ∧ (decode cL_sameBooks 3 = .ok (.iload_n 2, 1)) ∧ (decode cL_sameBooks 4 = .ok (.invokevirtual 80, 3)) ∧ (decode cL_sameBooks 7 = .ok (.ifCond .eq 7, 3)) ∧ (decode cL_sameBooks 10 = .ok (.lconst 1, 1)) ∧ (decode cL_sameBooks 11 = .ok (.goto 4, 3)) ∧ (decode cL_sameBooks 14 = .ok (.lconst 0, 1)) ∧ (decode cL_sameBooks 15 = .ok (.putfield 13, 3)) ∧ (decode cL_sameBooks 18 = .ok (.goto 7, 3)) ∧ (decode cL_sameBooks 21 = .ok (.astore 4, 2)) ∧ (decode cL_sameBooks 23 = .ok (.iconst 1, 1)) ∧ (decode cL_sameBooks 24 = .ok (.ireturn, 1)) ∧ (decode cL_sameBooks 25 = .ok (.iconst 0, 1)) ∧ (decode cL_sameBooks 26 = .ok (.ireturn, 1)) := by decide +kernel
theorem dL_sameBooks_0 : decode cL_sameBooks 0 = .ok (.aload_n 3, 1) := eL_sameBooks_0.1
theorem dL_sameBooks_1 : decode cL_sameBooks 1 = .ok (.aload_n 0, 1) := eL_sameBooks_0.2.1
theorem dL_sameBooks_2 : decode cL_sameBooks 2 = .ok (.iload_n 1, 1) := eL_sameBooks_0.2.2.1
theorem dL_sameBooks_3 : decode cL_sameBooks 3 = .ok (.iload_n 2, 1) := eL_sameBooks_0.2.2.2.1
theorem dL_sameBooks_4 : decode cL_sameBooks 4 = .ok (.invokevirtual 80, 3) := eL_sameBooks_0.2.2.2.2.1
theorem dL_sameBooks_7 : decode cL_sameBooks 7 = .ok (.ifCond .eq 7, 3) := eL_sameBooks_0.2.2.2.2.2.1
theorem dL_sameBooks_10 : decode cL_sameBooks 10 = .ok (.lconst 1, 1) := eL_sameBooks_0.2.2.2.2.2.2.1
theorem dL_sameBooks_11 : decode cL_sameBooks 11 = .ok (.goto 4, 3) := eL_sameBooks_0.2.2.2.2.2.2.2.1
theorem dL_sameBooks_14 : decode cL_sameBooks 14 = .ok (.lconst 0, 1) := eL_sameBooks_0.2.2.2.2.2.2.2.2.1
theorem dL_sameBooks_15 : decode cL_sameBooks 15 = .ok (.putfield 13, 3) := eL_sameBooks_0.2.2.2.2.2.2.2.2.2.1
theorem dL_sameBooks_18 : decode cL_sameBooks 18 = .ok (.goto 7, 3) := eL_sameBooks_0.2.2.2.2.2.2.2.2.2.2.1
theorem dL_sameBooks_21 : decode cL_sameBooks 21 = .ok (.astore 4, 2) := eL_sameBooks_0.2.2.2.2.2.2.2.2.2.2.2.1
theorem dL_sameBooks_23 : decode cL_sameBooks 23 = .ok (.iconst 1, 1) := eL_sameBooks_0.2.2.2.2.2.2.2.2.2.2.2.2.1
theorem dL_sameBooks_24 : decode cL_sameBooks 24 = .ok (.ireturn, 1) := eL_sameBooks_0.2.2.2.2.2.2.2.2.2.2.2.2.2.1
theorem dL_sameBooks_25 : decode cL_sameBooks 25 = .ok (.iconst 0, 1) := eL_sameBooks_0.2.2.2.2.2.2.2.2.2.2.2.2.2.2.1
theorem dL_sameBooks_26 : decode cL_sameBooks 26 = .ok (.ireturn, 1) := eL_sameBooks_0.2.2.2.2.2.2.2.2.2.2.2.2.2.2.2
theorem eL_openView_0 : (decode cL_openView 0 = .ok (.aload 7, 2)) ∧ (decode cL_openView 2 = .ok (.aload_n 0, 1)) ∧ (decode cL_openView 3 = .ok (.iload_n 1, 1)) ∧ (decode cL_openView 4 = .ok (.iload_n 2, 1)) ∧ (decode cL_openView 5 = .ok (.iload_n 3, 1)) ∧ (decode cL_openView 6 = .ok (.iload 4, 2)) ∧ (decode cL_openView 8 = .ok (.iload 5, 2)) ∧ (decode cL_openView 10 = .ok (.iload 6, 2)) ∧ (decode cL_openView 12 = .ok (.invokevirtual 84, 3)) ∧ (decode cL_openView 15 = .ok (.i2l, 1)) ∧ (decode cL_openView 16 = .ok (.putfield 13, 3)) ∧ (decode cL_openView 19 = .ok (.goto 11, 3)) ∧ (decode cL_openView 22 = .ok (.astore 8, 2)) ∧ (decode cL_openView 24 = .ok (.iconst 1, 1)) ∧ (decode cL_openView 25 = .ok (.ireturn, 1)) ∧ (decode cL_openView 26 = .ok (.astore 8, 2)) := by decide +kernel
theorem dL_openView_0 : decode cL_openView 0 = .ok (.aload 7, 2) := eL_openView_0.1
theorem dL_openView_2 : decode cL_openView 2 = .ok (.aload_n 0, 1) := eL_openView_0.2.1
theorem dL_openView_3 : decode cL_openView 3 = .ok (.iload_n 1, 1) := eL_openView_0.2.2.1
theorem dL_openView_4 : decode cL_openView 4 = .ok (.iload_n 2, 1) := eL_openView_0.2.2.2.1
theorem dL_openView_5 : decode cL_openView 5 = .ok (.iload_n 3, 1) := eL_openView_0.2.2.2.2.1
theorem dL_openView_6 : decode cL_openView 6 = .ok (.iload 4, 2) := eL_openView_0.2.2.2.2.2.1
theorem dL_openView_8 : decode cL_openView 8 = .ok (.iload 5, 2) := eL_openView_0.2.2.2.2.2.2.1
theorem dL_openView_10 : decode cL_openView 10 = .ok (.iload 6, 2) := eL_openView_0.2.2.2.2.2.2.2.1
theorem dL_openView_12 : decode cL_openView 12 = .ok (.invokevirtual 84, 3) := eL_openView_0.2.2.2.2.2.2.2.2.1
theorem dL_openView_15 : decode cL_openView 15 = .ok (.i2l, 1) := eL_openView_0.2.2.2.2.2.2.2.2.2.1
theorem dL_openView_16 : decode cL_openView 16 = .ok (.putfield 13, 3) := eL_openView_0.2.2.2.2.2.2.2.2.2.2.1
theorem dL_openView_19 : decode cL_openView 19 = .ok (.goto 11, 3) := eL_openView_0.2.2.2.2.2.2.2.2.2.2.2.1
theorem dL_openView_22 : decode cL_openView 22 = .ok (.astore 8, 2) := eL_openView_0.2.2.2.2.2.2.2.2.2.2.2.2.1
theorem dL_openView_24 : decode cL_openView 24 = .ok (.iconst 1, 1) := eL_openView_0.2.2.2.2.2.2.2.2.2.2.2.2.2.1
theorem dL_openView_25 : decode cL_openView 25 = .ok (.ireturn, 1) := eL_openView_0.2.2.2.2.2.2.2.2.2.2.2.2.2.2.1
theorem dL_openView_26 : decode cL_openView 26 = .ok (.astore 8, 2) := eL_openView_0.2.2.2.2.2.2.2.2.2.2.2.2.2.2.2
theorem eL_openView_28 : (decode cL_openView 28 = .ok (.iconst 2, 1)) ∧ (decode cL_openView 29 = .ok (.ireturn, 1)) ∧ (decode cL_openView 30 = .ok (.iconst 0, 1)) ∧ (decode cL_openView 31 = .ok (.ireturn, 1)) := by decide +kernel
theorem dL_openView_28 : decode cL_openView 28 = .ok (.iconst 2, 1) := eL_openView_28.1
theorem dL_openView_29 : decode cL_openView 29 = .ok (.ireturn, 1) := eL_openView_28.2.1
theorem dL_openView_30 : decode cL_openView 30 = .ok (.iconst 0, 1) := eL_openView_28.2.2.1
theorem dL_openView_31 : decode cL_openView 31 = .ok (.ireturn, 1) := eL_openView_28.2.2.2
theorem eL_narrowView_0 : (decode cL_narrowView 0 = .ok (.aload 5, 2)) ∧ (decode cL_narrowView 2 = .ok (.aload_n 0, 1)) ∧ (decode cL_narrowView 3 = .ok (.iload_n 1, 1)) ∧ (decode cL_narrowView 4 = .ok (.iload_n 2, 1)) ∧ (decode cL_narrowView 5 = .ok (.iload_n 3, 1)) ∧ (decode cL_narrowView 6 = .ok (.iload 4, 2)) ∧ (decode cL_narrowView 8 = .ok (.invokevirtual 88, 3)) ∧ (decode cL_narrowView 11 = .ok (.i2l, 1)) ∧ (decode cL_narrowView 12 = .ok (.putfield 13, 3)) ∧ (decode cL_narrowView 15 = .ok (.goto 11, 3)) ∧ (decode cL_narrowView 18 = .ok (.astore 6, 2)) ∧ (decode cL_narrowView 20 = .ok (.iconst 1, 1)) ∧ (decode cL_narrowView 21 = .ok (.ireturn, 1)) ∧ (decode cL_narrowView 22 = .ok (.astore 6, 2)) ∧ (decode cL_narrowView 24 = .ok (.iconst 2, 1)) ∧ (decode cL_narrowView 25 = .ok (.ireturn, 1)) := by decide +kernel
theorem dL_narrowView_0 : decode cL_narrowView 0 = .ok (.aload 5, 2) := eL_narrowView_0.1
theorem dL_narrowView_2 : decode cL_narrowView 2 = .ok (.aload_n 0, 1) := eL_narrowView_0.2.1
theorem dL_narrowView_3 : decode cL_narrowView 3 = .ok (.iload_n 1, 1) := eL_narrowView_0.2.2.1
theorem dL_narrowView_4 : decode cL_narrowView 4 = .ok (.iload_n 2, 1) := eL_narrowView_0.2.2.2.1
theorem dL_narrowView_5 : decode cL_narrowView 5 = .ok (.iload_n 3, 1) := eL_narrowView_0.2.2.2.2.1
theorem dL_narrowView_6 : decode cL_narrowView 6 = .ok (.iload 4, 2) := eL_narrowView_0.2.2.2.2.2.1
theorem dL_narrowView_8 : decode cL_narrowView 8 = .ok (.invokevirtual 88, 3) := eL_narrowView_0.2.2.2.2.2.2.1
theorem dL_narrowView_11 : decode cL_narrowView 11 = .ok (.i2l, 1) := eL_narrowView_0.2.2.2.2.2.2.2.1
theorem dL_narrowView_12 : decode cL_narrowView 12 = .ok (.putfield 13, 3) := eL_narrowView_0.2.2.2.2.2.2.2.2.1
theorem dL_narrowView_15 : decode cL_narrowView 15 = .ok (.goto 11, 3) := eL_narrowView_0.2.2.2.2.2.2.2.2.2.1
theorem dL_narrowView_18 : decode cL_narrowView 18 = .ok (.astore 6, 2) := eL_narrowView_0.2.2.2.2.2.2.2.2.2.2.1
theorem dL_narrowView_20 : decode cL_narrowView 20 = .ok (.iconst 1, 1) := eL_narrowView_0.2.2.2.2.2.2.2.2.2.2.2.1
theorem dL_narrowView_21 : decode cL_narrowView 21 = .ok (.ireturn, 1) := eL_narrowView_0.2.2.2.2.2.2.2.2.2.2.2.2.1
theorem dL_narrowView_22 : decode cL_narrowView 22 = .ok (.astore 6, 2) := eL_narrowView_0.2.2.2.2.2.2.2.2.2.2.2.2.2.1
theorem dL_narrowView_24 : decode cL_narrowView 24 = .ok (.iconst 2, 1) := eL_narrowView_0.2.2.2.2.2.2.2.2.2.2.2.2.2.2.1
theorem dL_narrowView_25 : decode cL_narrowView 25 = .ok (.ireturn, 1) := eL_narrowView_0.2.2.2.2.2.2.2.2.2.2.2.2.2.2.2
theorem eL_narrowView_26 : (decode cL_narrowView 26 = .ok (.iconst 0, 1)) ∧ (decode cL_narrowView 27 = .ok (.ireturn, 1)) := by decide +kernel
theorem dL_narrowView_26 : decode cL_narrowView 26 = .ok (.iconst 0, 1) := eL_narrowView_26.1
theorem dL_narrowView_27 : decode cL_narrowView 27 = .ok (.ireturn, 1) := eL_narrowView_26.2
theorem eL_buildFromView_0 : (decode cL_buildFromView 0 = .ok (.aload 4, 2)) ∧ (decode cL_buildFromView 2 = .ok (.aload_n 0, 1)) ∧ (decode cL_buildFromView 3 = .ok (.iload_n 1, 1)) ∧ (decode cL_buildFromView 4 = .ok (.iload_n 2, 1)) ∧ (decode cL_buildFromView 5 = .ok (.iload_n 3, 1)) ∧ (decode cL_buildFromView 6 = .ok (.invokevirtual 91, 3)) ∧ (decode cL_buildFromView 9 = .ok (.i2l, 1)) ∧ (decode cL_buildFromView 10 = .ok (.putfield 13, 3)) ∧ (decode cL_buildFromView 13 = .ok (.goto 11, 3)) ∧ (decode cL_buildFromView 16 = .ok (.astore 5, 2)) ∧ (decode cL_buildFromView 18 = .ok (.iconst 1, 1)) ∧ (decode cL_buildFromView 19 = .ok (.ireturn, 1)) ∧ (decode cL_buildFromView 20 = .ok (.astore 5, 2)) ∧ (decode cL_buildFromView 22 = .ok (.iconst 2, 1)) ∧ (decode cL_buildFromView 23 = .ok (.ireturn, 1)) ∧ (decode cL_buildFromView 24 = .ok (.iconst 0, 1)) := by decide +kernel
theorem dL_buildFromView_0 : decode cL_buildFromView 0 = .ok (.aload 4, 2) := eL_buildFromView_0.1
theorem dL_buildFromView_2 : decode cL_buildFromView 2 = .ok (.aload_n 0, 1) := eL_buildFromView_0.2.1
theorem dL_buildFromView_3 : decode cL_buildFromView 3 = .ok (.iload_n 1, 1) := eL_buildFromView_0.2.2.1
theorem dL_buildFromView_4 : decode cL_buildFromView 4 = .ok (.iload_n 2, 1) := eL_buildFromView_0.2.2.2.1
theorem dL_buildFromView_5 : decode cL_buildFromView 5 = .ok (.iload_n 3, 1) := eL_buildFromView_0.2.2.2.2.1
theorem dL_buildFromView_6 : decode cL_buildFromView 6 = .ok (.invokevirtual 91, 3) := eL_buildFromView_0.2.2.2.2.2.1
theorem dL_buildFromView_9 : decode cL_buildFromView 9 = .ok (.i2l, 1) := eL_buildFromView_0.2.2.2.2.2.2.1
theorem dL_buildFromView_10 : decode cL_buildFromView 10 = .ok (.putfield 13, 3) := eL_buildFromView_0.2.2.2.2.2.2.2.1
theorem dL_buildFromView_13 : decode cL_buildFromView 13 = .ok (.goto 11, 3) := eL_buildFromView_0.2.2.2.2.2.2.2.2.1
theorem dL_buildFromView_16 : decode cL_buildFromView 16 = .ok (.astore 5, 2) := eL_buildFromView_0.2.2.2.2.2.2.2.2.2.1
theorem dL_buildFromView_18 : decode cL_buildFromView 18 = .ok (.iconst 1, 1) := eL_buildFromView_0.2.2.2.2.2.2.2.2.2.2.1
theorem dL_buildFromView_19 : decode cL_buildFromView 19 = .ok (.ireturn, 1) := eL_buildFromView_0.2.2.2.2.2.2.2.2.2.2.2.1
theorem dL_buildFromView_20 : decode cL_buildFromView 20 = .ok (.astore 5, 2) := eL_buildFromView_0.2.2.2.2.2.2.2.2.2.2.2.2.1
theorem dL_buildFromView_22 : decode cL_buildFromView 22 = .ok (.iconst 2, 1) := eL_buildFromView_0.2.2.2.2.2.2.2.2.2.2.2.2.2.1
theorem dL_buildFromView_23 : decode cL_buildFromView 23 = .ok (.ireturn, 1) := eL_buildFromView_0.2.2.2.2.2.2.2.2.2.2.2.2.2.2.1
theorem dL_buildFromView_24 : decode cL_buildFromView 24 = .ok (.iconst 0, 1) := eL_buildFromView_0.2.2.2.2.2.2.2.2.2.2.2.2.2.2.2
theorem dL_buildFromView_25 : decode cL_buildFromView 25 = .ok (.ireturn, 1) := by decide +kernel
theorem eL_viewPut_0 : (decode cL_viewPut 0 = .ok (.aload 4, 2)) ∧ (decode cL_viewPut 2 = .ok (.aload_n 0, 1)) ∧ (decode cL_viewPut 3 = .ok (.iload_n 1, 1)) ∧ (decode cL_viewPut 4 = .ok (.iload_n 2, 1)) ∧ (decode cL_viewPut 5 = .ok (.iload_n 3, 1)) ∧ (decode cL_viewPut 6 = .ok (.invokevirtual 94, 3)) ∧ (decode cL_viewPut 9 = .ok (.i2l, 1)) ∧ (decode cL_viewPut 10 = .ok (.putfield 13, 3)) ∧ (decode cL_viewPut 13 = .ok (.goto 11, 3)) ∧ (decode cL_viewPut 16 = .ok (.astore 5, 2)) ∧ (decode cL_viewPut 18 = .ok (.iconst 1, 1)) ∧ (decode cL_viewPut 19 = .ok (.ireturn, 1)) ∧ (decode cL_viewPut 20 = .ok (.astore 5, 2)) ∧ (decode cL_viewPut 22 = .ok (.iconst 2, 1)) ∧ (decode cL_viewPut 23 = .ok (.ireturn, 1)) ∧ (decode cL_viewPut 24 = .ok (.iconst 0, 1)) := by decide +kernel
theorem dL_viewPut_0 : decode cL_viewPut 0 = .ok (.aload 4, 2) := eL_viewPut_0.1
theorem dL_viewPut_2 : decode cL_viewPut 2 = .ok (.aload_n 0, 1) := eL_viewPut_0.2.1
theorem dL_viewPut_3 : decode cL_viewPut 3 = .ok (.iload_n 1, 1) := eL_viewPut_0.2.2.1
theorem dL_viewPut_4 : decode cL_viewPut 4 = .ok (.iload_n 2, 1) := eL_viewPut_0.2.2.2.1
theorem dL_viewPut_5 : decode cL_viewPut 5 = .ok (.iload_n 3, 1) := eL_viewPut_0.2.2.2.2.1
theorem dL_viewPut_6 : decode cL_viewPut 6 = .ok (.invokevirtual 94, 3) := eL_viewPut_0.2.2.2.2.2.1
theorem dL_viewPut_9 : decode cL_viewPut 9 = .ok (.i2l, 1) := eL_viewPut_0.2.2.2.2.2.2.1
theorem dL_viewPut_10 : decode cL_viewPut 10 = .ok (.putfield 13, 3) := eL_viewPut_0.2.2.2.2.2.2.2.1
theorem dL_viewPut_13 : decode cL_viewPut 13 = .ok (.goto 11, 3) := eL_viewPut_0.2.2.2.2.2.2.2.2.1
theorem dL_viewPut_16 : decode cL_viewPut 16 = .ok (.astore 5, 2) := eL_viewPut_0.2.2.2.2.2.2.2.2.2.1
theorem dL_viewPut_18 : decode cL_viewPut 18 = .ok (.iconst 1, 1) := eL_viewPut_0.2.2.2.2.2.2.2.2.2.2.1
theorem dL_viewPut_19 : decode cL_viewPut 19 = .ok (.ireturn, 1) := eL_viewPut_0.2.2.2.2.2.2.2.2.2.2.2.1
theorem dL_viewPut_20 : decode cL_viewPut 20 = .ok (.astore 5, 2) := eL_viewPut_0.2.2.2.2.2.2.2.2.2.2.2.2.1
theorem dL_viewPut_22 : decode cL_viewPut 22 = .ok (.iconst 2, 1) := eL_viewPut_0.2.2.2.2.2.2.2.2.2.2.2.2.2.1
theorem dL_viewPut_23 : decode cL_viewPut 23 = .ok (.ireturn, 1) := eL_viewPut_0.2.2.2.2.2.2.2.2.2.2.2.2.2.2.1
theorem dL_viewPut_24 : decode cL_viewPut 24 = .ok (.iconst 0, 1) := eL_viewPut_0.2.2.2.2.2.2.2.2.2.2.2.2.2.2.2
theorem dL_viewPut_25 : decode cL_viewPut 25 = .ok (.ireturn, 1) := by decide +kernel
theorem eL_viewTake_0 : (decode cL_viewTake 0 = .ok (.aload_n 3, 1)) ∧ (decode cL_viewTake 1 = .ok (.aload_n 0, 1)) ∧ (decode cL_viewTake 2 = .ok (.iload_n 1, 1)) ∧ (decode cL_viewTake 3 = .ok (.iload_n 2, 1)) ∧ (decode cL_viewTake 4 = .ok (.invokevirtual 97, 3)) ∧ (decode cL_viewTake 7 = .ok (.i2l, 1)) ∧ (decode cL_viewTake 8 = .ok (.putfield 13, 3)) ∧ (decode cL_viewTake 11 = .ok (.goto 11, 3)) ∧ (decode cL_viewTake 14 = .ok (.astore 4, 2)) ∧ (decode cL_viewTake 16 = .ok (.iconst 1, 1)) ∧ (decode cL_viewTake 17 = .ok (.ireturn, 1)) ∧ (decode cL_viewTake 18 = .ok (.astore 4, 2)) ∧ (decode cL_viewTake 20 = .ok (.iconst 2, 1)) ∧ (decode cL_viewTake 21 = .ok (.ireturn, 1)) ∧ (decode cL_viewTake 22 = .ok (.iconst 0, 1)) ∧ (decode cL_viewTake 23 = .ok (.ireturn, 1)) := by decide +kernel
theorem dL_viewTake_0 : decode cL_viewTake 0 = .ok (.aload_n 3, 1) := eL_viewTake_0.1
theorem dL_viewTake_1 : decode cL_viewTake 1 = .ok (.aload_n 0, 1) := eL_viewTake_0.2.1
theorem dL_viewTake_2 : decode cL_viewTake 2 = .ok (.iload_n 1, 1) := eL_viewTake_0.2.2.1
theorem dL_viewTake_3 : decode cL_viewTake 3 = .ok (.iload_n 2, 1) := eL_viewTake_0.2.2.2.1
theorem dL_viewTake_4 : decode cL_viewTake 4 = .ok (.invokevirtual 97, 3) := eL_viewTake_0.2.2.2.2.1
theorem dL_viewTake_7 : decode cL_viewTake 7 = .ok (.i2l, 1) := eL_viewTake_0.2.2.2.2.2.1
theorem dL_viewTake_8 : decode cL_viewTake 8 = .ok (.putfield 13, 3) := eL_viewTake_0.2.2.2.2.2.2.1
theorem dL_viewTake_11 : decode cL_viewTake 11 = .ok (.goto 11, 3) := eL_viewTake_0.2.2.2.2.2.2.2.1
theorem dL_viewTake_14 : decode cL_viewTake 14 = .ok (.astore 4, 2) := eL_viewTake_0.2.2.2.2.2.2.2.2.1
theorem dL_viewTake_16 : decode cL_viewTake 16 = .ok (.iconst 1, 1) := eL_viewTake_0.2.2.2.2.2.2.2.2.2.1
theorem dL_viewTake_17 : decode cL_viewTake 17 = .ok (.ireturn, 1) := eL_viewTake_0.2.2.2.2.2.2.2.2.2.2.1
theorem dL_viewTake_18 : decode cL_viewTake 18 = .ok (.astore 4, 2) := eL_viewTake_0.2.2.2.2.2.2.2.2.2.2.2.1
theorem dL_viewTake_20 : decode cL_viewTake 20 = .ok (.iconst 2, 1) := eL_viewTake_0.2.2.2.2.2.2.2.2.2.2.2.2.1
theorem dL_viewTake_21 : decode cL_viewTake 21 = .ok (.ireturn, 1) := eL_viewTake_0.2.2.2.2.2.2.2.2.2.2.2.2.2.1
theorem dL_viewTake_22 : decode cL_viewTake 22 = .ok (.iconst 0, 1) := eL_viewTake_0.2.2.2.2.2.2.2.2.2.2.2.2.2.2.1
theorem dL_viewTake_23 : decode cL_viewTake 23 = .ok (.ireturn, 1) := eL_viewTake_0.2.2.2.2.2.2.2.2.2.2.2.2.2.2.2
theorem eL_viewDrop_0 : (decode cL_viewDrop 0 = .ok (.aload_n 3, 1)) ∧ (decode cL_viewDrop 1 = .ok (.aload_n 0, 1)) ∧ (decode cL_viewDrop 2 = .ok (.iload_n 1, 1)) ∧ (decode cL_viewDrop 3 = .ok (.iload_n 2, 1)) ∧ (decode cL_viewDrop 4 = .ok (.invokevirtual 100, 3)) ∧ (decode cL_viewDrop 7 = .ok (.i2l, 1)) ∧ (decode cL_viewDrop 8 = .ok (.putfield 13, 3)) ∧ (decode cL_viewDrop 11 = .ok (.goto 11, 3)) ∧ (decode cL_viewDrop 14 = .ok (.astore 4, 2)) ∧ (decode cL_viewDrop 16 = .ok (.iconst 1, 1)) ∧ (decode cL_viewDrop 17 = .ok (.ireturn, 1)) ∧ (decode cL_viewDrop 18 = .ok (.astore 4, 2)) ∧ (decode cL_viewDrop 20 = .ok (.iconst 2, 1)) ∧ (decode cL_viewDrop 21 = .ok (.ireturn, 1)) ∧ (decode cL_viewDrop 22 = .ok (.iconst 0, 1)) ∧ (decode cL_viewDrop 23 = .ok (.ireturn, 1)) := by decide +kernel
theorem dL_viewDrop_0 : decode cL_viewDrop 0 = .ok (.aload_n 3, 1) := eL_viewDrop_0.1
theorem dL_viewDrop_1 : decode cL_viewDrop 1 = .ok (.aload_n 0, 1) := eL_viewDrop_0.2.1
theorem dL_viewDrop_2 : decode cL_viewDrop 2 = .ok (.iload_n 1, 1) := eL_viewDrop_0.2.2.1
theorem dL_viewDrop_3 : decode cL_viewDrop 3 = .ok (.iload_n 2, 1) := eL_viewDrop_0.2.2.2.1
theorem dL_viewDrop_4 : decode cL_viewDrop 4 = .ok (.invokevirtual 100, 3) := eL_viewDrop_0.2.2.2.2.1
theorem dL_viewDrop_7 : decode cL_viewDrop 7 = .ok (.i2l, 1) := eL_viewDrop_0.2.2.2.2.2.1
theorem dL_viewDrop_8 : decode cL_viewDrop 8 = .ok (.putfield 13, 3) := eL_viewDrop_0.2.2.2.2.2.2.1
theorem dL_viewDrop_11 : decode cL_viewDrop 11 = .ok (.goto 11, 3) := eL_viewDrop_0.2.2.2.2.2.2.2.1
theorem dL_viewDrop_14 : decode cL_viewDrop 14 = .ok (.astore 4, 2) := eL_viewDrop_0.2.2.2.2.2.2.2.2.1
theorem dL_viewDrop_16 : decode cL_viewDrop 16 = .ok (.iconst 1, 1) := eL_viewDrop_0.2.2.2.2.2.2.2.2.2.1
theorem dL_viewDrop_17 : decode cL_viewDrop 17 = .ok (.ireturn, 1) := eL_viewDrop_0.2.2.2.2.2.2.2.2.2.2.1
theorem dL_viewDrop_18 : decode cL_viewDrop 18 = .ok (.astore 4, 2) := eL_viewDrop_0.2.2.2.2.2.2.2.2.2.2.2.1
theorem dL_viewDrop_20 : decode cL_viewDrop 20 = .ok (.iconst 2, 1) := eL_viewDrop_0.2.2.2.2.2.2.2.2.2.2.2.2.1
theorem dL_viewDrop_21 : decode cL_viewDrop 21 = .ok (.ireturn, 1) := eL_viewDrop_0.2.2.2.2.2.2.2.2.2.2.2.2.2.1
theorem dL_viewDrop_22 : decode cL_viewDrop 22 = .ok (.iconst 0, 1) := eL_viewDrop_0.2.2.2.2.2.2.2.2.2.2.2.2.2.2.1
theorem dL_viewDrop_23 : decode cL_viewDrop 23 = .ok (.ireturn, 1) := eL_viewDrop_0.2.2.2.2.2.2.2.2.2.2.2.2.2.2.2
theorem eL_viewNear_0 : (decode cL_viewNear 0 = .ok (.aload 4, 2)) ∧ (decode cL_viewNear 2 = .ok (.aload_n 0, 1)) ∧ (decode cL_viewNear 3 = .ok (.iload_n 1, 1)) ∧ (decode cL_viewNear 4 = .ok (.iload_n 2, 1)) ∧ (decode cL_viewNear 5 = .ok (.iload_n 3, 1)) ∧ (decode cL_viewNear 6 = .ok (.invokevirtual 103, 3)) ∧ (decode cL_viewNear 9 = .ok (.i2l, 1)) ∧ (decode cL_viewNear 10 = .ok (.putfield 13, 3)) ∧ (decode cL_viewNear 13 = .ok (.goto 11, 3)) ∧ (decode cL_viewNear 16 = .ok (.astore 5, 2)) ∧ (decode cL_viewNear 18 = .ok (.iconst 1, 1)) ∧ (decode cL_viewNear 19 = .ok (.ireturn, 1)) ∧ (decode cL_viewNear 20 = .ok (.astore 5, 2)) ∧ (decode cL_viewNear 22 = .ok (.iconst 2, 1)) ∧ (decode cL_viewNear 23 = .ok (.ireturn, 1)) ∧ (decode cL_viewNear 24 = .ok (.iconst 0, 1)) := by decide +kernel
theorem dL_viewNear_0 : decode cL_viewNear 0 = .ok (.aload 4, 2) := eL_viewNear_0.1
theorem dL_viewNear_2 : decode cL_viewNear 2 = .ok (.aload_n 0, 1) := eL_viewNear_0.2.1
theorem dL_viewNear_3 : decode cL_viewNear 3 = .ok (.iload_n 1, 1) := eL_viewNear_0.2.2.1
theorem dL_viewNear_4 : decode cL_viewNear 4 = .ok (.iload_n 2, 1) := eL_viewNear_0.2.2.2.1
theorem dL_viewNear_5 : decode cL_viewNear 5 = .ok (.iload_n 3, 1) := eL_viewNear_0.2.2.2.2.1
theorem dL_viewNear_6 : decode cL_viewNear 6 = .ok (.invokevirtual 103, 3) := eL_viewNear_0.2.2.2.2.2.1
theorem dL_viewNear_9 : decode cL_viewNear 9 = .ok (.i2l, 1) := eL_viewNear_0.2.2.2.2.2.2.1
theorem dL_viewNear_10 : decode cL_viewNear 10 = .ok (.putfield 13, 3) := eL_viewNear_0.2.2.2.2.2.2.2.1
theorem dL_viewNear_13 : decode cL_viewNear 13 = .ok (.goto 11, 3) := eL_viewNear_0.2.2.2.2.2.2.2.2.1
theorem dL_viewNear_16 : decode cL_viewNear 16 = .ok (.astore 5, 2) := eL_viewNear_0.2.2.2.2.2.2.2.2.2.1
theorem dL_viewNear_18 : decode cL_viewNear 18 = .ok (.iconst 1, 1) := eL_viewNear_0.2.2.2.2.2.2.2.2.2.2.1
theorem dL_viewNear_19 : decode cL_viewNear 19 = .ok (.ireturn, 1) := eL_viewNear_0.2.2.2.2.2.2.2.2.2.2.2.1
theorem dL_viewNear_20 : decode cL_viewNear 20 = .ok (.astore 5, 2) := eL_viewNear_0.2.2.2.2.2.2.2.2.2.2.2.2.1
theorem dL_viewNear_22 : decode cL_viewNear 22 = .ok (.iconst 2, 1) := eL_viewNear_0.2.2.2.2.2.2.2.2.2.2.2.2.2.1
theorem dL_viewNear_23 : decode cL_viewNear 23 = .ok (.ireturn, 1) := eL_viewNear_0.2.2.2.2.2.2.2.2.2.2.2.2.2.2.1
theorem dL_viewNear_24 : decode cL_viewNear 24 = .ok (.iconst 0, 1) := eL_viewNear_0.2.2.2.2.2.2.2.2.2.2.2.2.2.2.2
theorem dL_viewNear_25 : decode cL_viewNear 25 = .ok (.ireturn, 1) := by decide +kernel
theorem eL_viewTell_0 : (decode cL_viewTell 0 = .ok (.aload_n 3, 1)) ∧ (decode cL_viewTell 1 = .ok (.aload_n 0, 1)) ∧ (decode cL_viewTell 2 = .ok (.iload_n 1, 1)) ∧ (decode cL_viewTell 3 = .ok (.iload_n 2, 1)) ∧ (decode cL_viewTell 4 = .ok (.invokevirtual 106, 3)) ∧ (decode cL_viewTell 7 = .ok (.i2l, 1)) ∧ (decode cL_viewTell 8 = .ok (.putfield 13, 3)) ∧ (decode cL_viewTell 11 = .ok (.goto 11, 3)) ∧ (decode cL_viewTell 14 = .ok (.astore 4, 2)) ∧ (decode cL_viewTell 16 = .ok (.iconst 1, 1)) ∧ (decode cL_viewTell 17 = .ok (.ireturn, 1)) ∧ (decode cL_viewTell 18 = .ok (.astore 4, 2)) ∧ (decode cL_viewTell 20 = .ok (.iconst 2, 1)) ∧ (decode cL_viewTell 21 = .ok (.ireturn, 1)) ∧ (decode cL_viewTell 22 = .ok (.iconst 0, 1)) ∧ (decode cL_viewTell 23 = .ok (.ireturn, 1)) := by decide +kernel
theorem dL_viewTell_0 : decode cL_viewTell 0 = .ok (.aload_n 3, 1) := eL_viewTell_0.1
theorem dL_viewTell_1 : decode cL_viewTell 1 = .ok (.aload_n 0, 1) := eL_viewTell_0.2.1
theorem dL_viewTell_2 : decode cL_viewTell 2 = .ok (.iload_n 1, 1) := eL_viewTell_0.2.2.1
theorem dL_viewTell_3 : decode cL_viewTell 3 = .ok (.iload_n 2, 1) := eL_viewTell_0.2.2.2.1
theorem dL_viewTell_4 : decode cL_viewTell 4 = .ok (.invokevirtual 106, 3) := eL_viewTell_0.2.2.2.2.1
theorem dL_viewTell_7 : decode cL_viewTell 7 = .ok (.i2l, 1) := eL_viewTell_0.2.2.2.2.2.1
theorem dL_viewTell_8 : decode cL_viewTell 8 = .ok (.putfield 13, 3) := eL_viewTell_0.2.2.2.2.2.2.1
theorem dL_viewTell_11 : decode cL_viewTell 11 = .ok (.goto 11, 3) := eL_viewTell_0.2.2.2.2.2.2.2.1
theorem dL_viewTell_14 : decode cL_viewTell 14 = .ok (.astore 4, 2) := eL_viewTell_0.2.2.2.2.2.2.2.2.1
theorem dL_viewTell_16 : decode cL_viewTell 16 = .ok (.iconst 1, 1) := eL_viewTell_0.2.2.2.2.2.2.2.2.2.1
theorem dL_viewTell_17 : decode cL_viewTell 17 = .ok (.ireturn, 1) := eL_viewTell_0.2.2.2.2.2.2.2.2.2.2.1
theorem dL_viewTell_18 : decode cL_viewTell 18 = .ok (.astore 4, 2) := eL_viewTell_0.2.2.2.2.2.2.2.2.2.2.2.1
theorem dL_viewTell_20 : decode cL_viewTell 20 = .ok (.iconst 2, 1) := eL_viewTell_0.2.2.2.2.2.2.2.2.2.2.2.2.1
theorem dL_viewTell_21 : decode cL_viewTell 21 = .ok (.ireturn, 1) := eL_viewTell_0.2.2.2.2.2.2.2.2.2.2.2.2.2.1
theorem dL_viewTell_22 : decode cL_viewTell 22 = .ok (.iconst 0, 1) := eL_viewTell_0.2.2.2.2.2.2.2.2.2.2.2.2.2.2.1
theorem dL_viewTell_23 : decode cL_viewTell 23 = .ok (.ireturn, 1) := eL_viewTell_0.2.2.2.2.2.2.2.2.2.2.2.2.2.2.2
theorem eL_startWalk_0 : (decode cL_startWalk 0 = .ok (.aload_n 2, 1)) ∧ (decode cL_startWalk 1 = .ok (.aload_n 0, 1)) ∧ (decode cL_startWalk 2 = .ok (.iload_n 1, 1)) ∧ (decode cL_startWalk 3 = .ok (.invokevirtual 109, 3)) ∧ (decode cL_startWalk 6 = .ok (.i2l, 1)) ∧ (decode cL_startWalk 7 = .ok (.putfield 13, 3)) ∧ (decode cL_startWalk 10 = .ok (.goto 6, 3)) ∧ (decode cL_startWalk 13 = .ok (.astore_n 3, 1)) ∧ (decode cL_startWalk 14 = .ok (.iconst 1, 1)) ∧ (decode cL_startWalk 15 = .ok (.ireturn, 1)) ∧ (decode cL_startWalk 16 = .ok (.iconst 0, 1)) ∧ (decode cL_startWalk 17 = .ok (.ireturn, 1)) := by decide +kernel
theorem dL_startWalk_0 : decode cL_startWalk 0 = .ok (.aload_n 2, 1) := eL_startWalk_0.1
theorem dL_startWalk_1 : decode cL_startWalk 1 = .ok (.aload_n 0, 1) := eL_startWalk_0.2.1
theorem dL_startWalk_2 : decode cL_startWalk 2 = .ok (.iload_n 1, 1) := eL_startWalk_0.2.2.1
theorem dL_startWalk_3 : decode cL_startWalk 3 = .ok (.invokevirtual 109, 3) := eL_startWalk_0.2.2.2.1
theorem dL_startWalk_6 : decode cL_startWalk 6 = .ok (.i2l, 1) := eL_startWalk_0.2.2.2.2.1
theorem dL_startWalk_7 : decode cL_startWalk 7 = .ok (.putfield 13, 3) := eL_startWalk_0.2.2.2.2.2.1
theorem dL_startWalk_10 : decode cL_startWalk 10 = .ok (.goto 6, 3) := eL_startWalk_0.2.2.2.2.2.2.1
theorem dL_startWalk_13 : decode cL_startWalk 13 = .ok (.astore_n 3, 1) := eL_startWalk_0.2.2.2.2.2.2.2.1
theorem dL_startWalk_14 : decode cL_startWalk 14 = .ok (.iconst 1, 1) := eL_startWalk_0.2.2.2.2.2.2.2.2.1
theorem dL_startWalk_15 : decode cL_startWalk 15 = .ok (.ireturn, 1) := eL_startWalk_0.2.2.2.2.2.2.2.2.2.1
theorem dL_startWalk_16 : decode cL_startWalk 16 = .ok (.iconst 0, 1) := eL_startWalk_0.2.2.2.2.2.2.2.2.2.2.1
theorem dL_startWalk_17 : decode cL_startWalk 17 = .ok (.ireturn, 1) := eL_startWalk_0.2.2.2.2.2.2.2.2.2.2.2
theorem eL_walkSet_0 : (decode cL_walkSet 0 = .ok (.aload_n 2, 1)) ∧ (decode cL_walkSet 1 = .ok (.aload_n 0, 1)) ∧ (decode cL_walkSet 2 = .ok (.iload_n 1, 1)) ∧ (decode cL_walkSet 3 = .ok (.invokevirtual 113, 3)) ∧ (decode cL_walkSet 6 = .ok (.i2l, 1)) ∧ (decode cL_walkSet 7 = .ok (.putfield 13, 3)) ∧ (decode cL_walkSet 10 = .ok (.goto 6, 3)) ∧ (decode cL_walkSet 13 = .ok (.astore_n 3, 1)) ∧ (decode cL_walkSet 14 = .ok (.iconst 1, 1)) ∧ (decode cL_walkSet 15 = .ok (.ireturn, 1)) ∧ (decode cL_walkSet 16 = .ok (.iconst 0, 1)) ∧ (decode cL_walkSet 17 = .ok (.ireturn, 1)) := by decide +kernel
theorem dL_walkSet_0 : decode cL_walkSet 0 = .ok (.aload_n 2, 1) := eL_walkSet_0.1
theorem dL_walkSet_1 : decode cL_walkSet 1 = .ok (.aload_n 0, 1) := eL_walkSet_0.2.1
theorem dL_walkSet_2 : decode cL_walkSet 2 = .ok (.iload_n 1, 1) := eL_walkSet_0.2.2.1
theorem dL_walkSet_3 : decode cL_walkSet 3 = .ok (.invokevirtual 113, 3) := eL_walkSet_0.2.2.2.1
theorem dL_walkSet_6 : decode cL_walkSet 6 = .ok (.i2l, 1) := eL_walkSet_0.2.2.2.2.1
theorem dL_walkSet_7 : decode cL_walkSet 7 = .ok (.putfield 13, 3) := eL_walkSet_0.2.2.2.2.2.1
theorem dL_walkSet_10 : decode cL_walkSet 10 = .ok (.goto 6, 3) := eL_walkSet_0.2.2.2.2.2.2.1
theorem dL_walkSet_13 : decode cL_walkSet 13 = .ok (.astore_n 3, 1) := eL_walkSet_0.2.2.2.2.2.2.2.1
theorem dL_walkSet_14 : decode cL_walkSet 14 = .ok (.iconst 1, 1) := eL_walkSet_0.2.2.2.2.2.2.2.2.1
theorem dL_walkSet_15 : decode cL_walkSet 15 = .ok (.ireturn, 1) := eL_walkSet_0.2.2.2.2.2.2.2.2.2.1
theorem dL_walkSet_16 : decode cL_walkSet 16 = .ok (.iconst 0, 1) := eL_walkSet_0.2.2.2.2.2.2.2.2.2.2.1
theorem dL_walkSet_17 : decode cL_walkSet 17 = .ok (.ireturn, 1) := eL_walkSet_0.2.2.2.2.2.2.2.2.2.2.2
theorem eL_freshShelf_0 : (decode cL_freshShelf 0 = .ok (.aload_n 3, 1)) ∧ (decode cL_freshShelf 1 = .ok (.aload_n 0, 1)) ∧ (decode cL_freshShelf 2 = .ok (.iload_n 1, 1)) ∧ (decode cL_freshShelf 3 = .ok (.iload_n 2, 1)) ∧ (decode cL_freshShelf 4 = .ok (.invokevirtual 116, 3)) ∧ (decode cL_freshShelf 7 = .ok (.i2l, 1)) ∧ (decode cL_freshShelf 8 = .ok (.putfield 13, 3)) ∧ (decode cL_freshShelf 11 = .ok (.goto 11, 3)) ∧ (decode cL_freshShelf 14 = .ok (.astore 4, 2)) ∧ (decode cL_freshShelf 16 = .ok (.iconst 1, 1)) ∧ (decode cL_freshShelf 17 = .ok (.ireturn, 1)) ∧ (decode cL_freshShelf 18 = .ok (.astore 4, 2)) ∧ (decode cL_freshShelf 20 = .ok (.iconst 2, 1)) ∧ (decode cL_freshShelf 21 = .ok (.ireturn, 1)) ∧ (decode cL_freshShelf 22 = .ok (.iconst 0, 1)) ∧ (decode cL_freshShelf 23 = .ok (.ireturn, 1)) := by decide +kernel
theorem dL_freshShelf_0 : decode cL_freshShelf 0 = .ok (.aload_n 3, 1) := eL_freshShelf_0.1
theorem dL_freshShelf_1 : decode cL_freshShelf 1 = .ok (.aload_n 0, 1) := eL_freshShelf_0.2.1
theorem dL_freshShelf_2 : decode cL_freshShelf 2 = .ok (.iload_n 1, 1) := eL_freshShelf_0.2.2.1
theorem dL_freshShelf_3 : decode cL_freshShelf 3 = .ok (.iload_n 2, 1) := eL_freshShelf_0.2.2.2.1
theorem dL_freshShelf_4 : decode cL_freshShelf 4 = .ok (.invokevirtual 116, 3) := eL_freshShelf_0.2.2.2.2.1
theorem dL_freshShelf_7 : decode cL_freshShelf 7 = .ok (.i2l, 1) := eL_freshShelf_0.2.2.2.2.2.1
theorem dL_freshShelf_8 : decode cL_freshShelf 8 = .ok (.putfield 13, 3) := eL_freshShelf_0.2.2.2.2.2.2.1
theorem dL_freshShelf_11 : decode cL_freshShelf 11 = .ok (.goto 11, 3) := eL_freshShelf_0.2.2.2.2.2.2.2.1
theorem dL_freshShelf_14 : decode cL_freshShelf 14 = .ok (.astore 4, 2) := eL_freshShelf_0.2.2.2.2.2.2.2.2.1
theorem dL_freshShelf_16 : decode cL_freshShelf 16 = .ok (.iconst 1, 1) := eL_freshShelf_0.2.2.2.2.2.2.2.2.2.1
theorem dL_freshShelf_17 : decode cL_freshShelf 17 = .ok (.ireturn, 1) := eL_freshShelf_0.2.2.2.2.2.2.2.2.2.2.1
theorem dL_freshShelf_18 : decode cL_freshShelf 18 = .ok (.astore 4, 2) := eL_freshShelf_0.2.2.2.2.2.2.2.2.2.2.2.1
theorem dL_freshShelf_20 : decode cL_freshShelf 20 = .ok (.iconst 2, 1) := eL_freshShelf_0.2.2.2.2.2.2.2.2.2.2.2.2.1
theorem dL_freshShelf_21 : decode cL_freshShelf 21 = .ok (.ireturn, 1) := eL_freshShelf_0.2.2.2.2.2.2.2.2.2.2.2.2.2.1
theorem dL_freshShelf_22 : decode cL_freshShelf 22 = .ok (.iconst 0, 1) := eL_freshShelf_0.2.2.2.2.2.2.2.2.2.2.2.2.2.2.1
theorem dL_freshShelf_23 : decode cL_freshShelf 23 = .ok (.ireturn, 1) := eL_freshShelf_0.2.2.2.2.2.2.2.2.2.2.2.2.2.2.2
theorem eL_buildShelf_0 : (decode cL_buildShelf 0 = .ok (.aload 4, 2)) ∧ (decode cL_buildShelf 2 = .ok (.aload_n 0, 1)) ∧ (decode cL_buildShelf 3 = .ok (.iload_n 1, 1)) ∧ (decode cL_buildShelf 4 = .ok (.iload_n 2, 1)) ∧ (decode cL_buildShelf 5 = .ok (.iload_n 3, 1)) ∧ (decode cL_buildShelf 6 = .ok (.invokevirtual 119, 3)) ∧ (decode cL_buildShelf 9 = .ok (.i2l, 1)) ∧ (decode cL_buildShelf 10 = .ok (.putfield 13, 3)) ∧ (decode cL_buildShelf 13 = .ok (.goto 11, 3)) ∧ (decode cL_buildShelf 16 = .ok (.astore 5, 2)) ∧ (decode cL_buildShelf 18 = .ok (.iconst 1, 1)) ∧ (decode cL_buildShelf 19 = .ok (.ireturn, 1)) ∧ (decode cL_buildShelf 20 = .ok (.astore 5, 2)) ∧ (decode cL_buildShelf 22 = .ok (.iconst 2, 1)) ∧ (decode cL_buildShelf 23 = .ok (.ireturn, 1)) ∧ (decode cL_buildShelf 24 = .ok (.iconst 0, 1)) := by decide +kernel
theorem dL_buildShelf_0 : decode cL_buildShelf 0 = .ok (.aload 4, 2) := eL_buildShelf_0.1
theorem dL_buildShelf_2 : decode cL_buildShelf 2 = .ok (.aload_n 0, 1) := eL_buildShelf_0.2.1
theorem dL_buildShelf_3 : decode cL_buildShelf 3 = .ok (.iload_n 1, 1) := eL_buildShelf_0.2.2.1
theorem dL_buildShelf_4 : decode cL_buildShelf 4 = .ok (.iload_n 2, 1) := eL_buildShelf_0.2.2.2.1
theorem dL_buildShelf_5 : decode cL_buildShelf 5 = .ok (.iload_n 3, 1) := eL_buildShelf_0.2.2.2.2.1
theorem dL_buildShelf_6 : decode cL_buildShelf 6 = .ok (.invokevirtual 119, 3) := eL_buildShelf_0.2.2.2.2.2.1
theorem dL_buildShelf_9 : decode cL_buildShelf 9 = .ok (.i2l, 1) := eL_buildShelf_0.2.2.2.2.2.2.1
theorem dL_buildShelf_10 : decode cL_buildShelf 10 = .ok (.putfield 13, 3) := eL_buildShelf_0.2.2.2.2.2.2.2.1
theorem dL_buildShelf_13 : decode cL_buildShelf 13 = .ok (.goto 11, 3) := eL_buildShelf_0.2.2.2.2.2.2.2.2.1
theorem dL_buildShelf_16 : decode cL_buildShelf 16 = .ok (.astore 5, 2) := eL_buildShelf_0.2.2.2.2.2.2.2.2.2.1
theorem dL_buildShelf_18 : decode cL_buildShelf 18 = .ok (.iconst 1, 1) := eL_buildShelf_0.2.2.2.2.2.2.2.2.2.2.1
theorem dL_buildShelf_19 : decode cL_buildShelf 19 = .ok (.ireturn, 1) := eL_buildShelf_0.2.2.2.2.2.2.2.2.2.2.2.1
theorem dL_buildShelf_20 : decode cL_buildShelf 20 = .ok (.astore 5, 2) := eL_buildShelf_0.2.2.2.2.2.2.2.2.2.2.2.2.1
theorem dL_buildShelf_22 : decode cL_buildShelf 22 = .ok (.iconst 2, 1) := eL_buildShelf_0.2.2.2.2.2.2.2.2.2.2.2.2.2.1
theorem dL_buildShelf_23 : decode cL_buildShelf 23 = .ok (.ireturn, 1) := eL_buildShelf_0.2.2.2.2.2.2.2.2.2.2.2.2.2.2.1
theorem dL_buildShelf_24 : decode cL_buildShelf 24 = .ok (.iconst 0, 1) := eL_buildShelf_0.2.2.2.2.2.2.2.2.2.2.2.2.2.2.2
theorem dL_buildShelf_25 : decode cL_buildShelf 25 = .ok (.ireturn, 1) := by decide +kernel
theorem eL_keysOf_0 : (decode cL_keysOf 0 = .ok (.aload_n 3, 1)) ∧ (decode cL_keysOf 1 = .ok (.aload_n 0, 1)) ∧ (decode cL_keysOf 2 = .ok (.iload_n 1, 1)) ∧ (decode cL_keysOf 3 = .ok (.iload_n 2, 1)) ∧ (decode cL_keysOf 4 = .ok (.invokevirtual 122, 3)) ∧ (decode cL_keysOf 7 = .ok (.i2l, 1)) ∧ (decode cL_keysOf 8 = .ok (.putfield 13, 3)) ∧ (decode cL_keysOf 11 = .ok (.goto 7, 3)) ∧ (decode cL_keysOf 14 = .ok (.astore 4, 2)) ∧ (decode cL_keysOf 16 = .ok (.iconst 1, 1)) ∧ (decode cL_keysOf 17 = .ok (.ireturn, 1)) ∧ (decode cL_keysOf 18 = .ok (.iconst 0, 1)) ∧ (decode cL_keysOf 19 = .ok (.ireturn, 1)) := by decide +kernel
theorem dL_keysOf_0 : decode cL_keysOf 0 = .ok (.aload_n 3, 1) := eL_keysOf_0.1
theorem dL_keysOf_1 : decode cL_keysOf 1 = .ok (.aload_n 0, 1) := eL_keysOf_0.2.1
theorem dL_keysOf_2 : decode cL_keysOf 2 = .ok (.iload_n 1, 1) := eL_keysOf_0.2.2.1
theorem dL_keysOf_3 : decode cL_keysOf 3 = .ok (.iload_n 2, 1) := eL_keysOf_0.2.2.2.1
theorem dL_keysOf_4 : decode cL_keysOf 4 = .ok (.invokevirtual 122, 3) := eL_keysOf_0.2.2.2.2.1
theorem dL_keysOf_7 : decode cL_keysOf 7 = .ok (.i2l, 1) := eL_keysOf_0.2.2.2.2.2.1
theorem dL_keysOf_8 : decode cL_keysOf 8 = .ok (.putfield 13, 3) := eL_keysOf_0.2.2.2.2.2.2.1
theorem dL_keysOf_11 : decode cL_keysOf 11 = .ok (.goto 7, 3) := eL_keysOf_0.2.2.2.2.2.2.2.1
theorem dL_keysOf_14 : decode cL_keysOf 14 = .ok (.astore 4, 2) := eL_keysOf_0.2.2.2.2.2.2.2.2.1
theorem dL_keysOf_16 : decode cL_keysOf 16 = .ok (.iconst 1, 1) := eL_keysOf_0.2.2.2.2.2.2.2.2.2.1
theorem dL_keysOf_17 : decode cL_keysOf 17 = .ok (.ireturn, 1) := eL_keysOf_0.2.2.2.2.2.2.2.2.2.2.1
theorem dL_keysOf_18 : decode cL_keysOf 18 = .ok (.iconst 0, 1) := eL_keysOf_0.2.2.2.2.2.2.2.2.2.2.2.1
theorem dL_keysOf_19 : decode cL_keysOf 19 = .ok (.ireturn, 1) := eL_keysOf_0.2.2.2.2.2.2.2.2.2.2.2.2
theorem eL_lay_0 : (decode cL_lay 0 = .ok (.aload 6, 2)) ∧ (decode cL_lay 2 = .ok (.aload_n 0, 1)) ∧ (decode cL_lay 3 = .ok (.iload_n 1, 1)) ∧ (decode cL_lay 4 = .ok (.iload_n 2, 1)) ∧ (decode cL_lay 5 = .ok (.iload_n 3, 1)) ∧ (decode cL_lay 6 = .ok (.iload 4, 2)) ∧ (decode cL_lay 8 = .ok (.iload 5, 2)) ∧ (decode cL_lay 10 = .ok (.invokevirtual 125, 3)) ∧ (decode cL_lay 13 = .ok (.i2l, 1)) ∧ (decode cL_lay 14 = .ok (.putfield 13, 3)) ∧ (decode cL_lay 17 = .ok (.goto 11, 3)) ∧ (decode cL_lay 20 = .ok (.astore 7, 2)) ∧ (decode cL_lay 22 = .ok (.iconst 1, 1)) ∧ (decode cL_lay 23 = .ok (.ireturn, 1)) ∧ (decode cL_lay 24 = .ok (.astore 7, 2)) ∧ (decode cL_lay 26 = .ok (.iconst 2, 1)) := by decide +kernel
theorem dL_lay_0 : decode cL_lay 0 = .ok (.aload 6, 2) := eL_lay_0.1
theorem dL_lay_2 : decode cL_lay 2 = .ok (.aload_n 0, 1) := eL_lay_0.2.1
theorem dL_lay_3 : decode cL_lay 3 = .ok (.iload_n 1, 1) := eL_lay_0.2.2.1
theorem dL_lay_4 : decode cL_lay 4 = .ok (.iload_n 2, 1) := eL_lay_0.2.2.2.1
theorem dL_lay_5 : decode cL_lay 5 = .ok (.iload_n 3, 1) := eL_lay_0.2.2.2.2.1
theorem dL_lay_6 : decode cL_lay 6 = .ok (.iload 4, 2) := eL_lay_0.2.2.2.2.2.1
theorem dL_lay_8 : decode cL_lay 8 = .ok (.iload 5, 2) := eL_lay_0.2.2.2.2.2.2.1
theorem dL_lay_10 : decode cL_lay 10 = .ok (.invokevirtual 125, 3) := eL_lay_0.2.2.2.2.2.2.2.1
theorem dL_lay_13 : decode cL_lay 13 = .ok (.i2l, 1) := eL_lay_0.2.2.2.2.2.2.2.2.1
theorem dL_lay_14 : decode cL_lay 14 = .ok (.putfield 13, 3) := eL_lay_0.2.2.2.2.2.2.2.2.2.1
theorem dL_lay_17 : decode cL_lay 17 = .ok (.goto 11, 3) := eL_lay_0.2.2.2.2.2.2.2.2.2.2.1
theorem dL_lay_20 : decode cL_lay 20 = .ok (.astore 7, 2) := eL_lay_0.2.2.2.2.2.2.2.2.2.2.2.1
theorem dL_lay_22 : decode cL_lay 22 = .ok (.iconst 1, 1) := eL_lay_0.2.2.2.2.2.2.2.2.2.2.2.2.1
theorem dL_lay_23 : decode cL_lay 23 = .ok (.ireturn, 1) := eL_lay_0.2.2.2.2.2.2.2.2.2.2.2.2.2.1
theorem dL_lay_24 : decode cL_lay 24 = .ok (.astore 7, 2) := eL_lay_0.2.2.2.2.2.2.2.2.2.2.2.2.2.2.1
theorem dL_lay_26 : decode cL_lay 26 = .ok (.iconst 2, 1) := eL_lay_0.2.2.2.2.2.2.2.2.2.2.2.2.2.2.2
theorem eL_lay_27 : (decode cL_lay 27 = .ok (.ireturn, 1)) ∧ (decode cL_lay 28 = .ok (.iconst 0, 1)) ∧ (decode cL_lay 29 = .ok (.ireturn, 1)) := by decide +kernel
theorem dL_lay_27 : decode cL_lay 27 = .ok (.ireturn, 1) := eL_lay_27.1
theorem dL_lay_28 : decode cL_lay 28 = .ok (.iconst 0, 1) := eL_lay_27.2.1
theorem dL_lay_29 : decode cL_lay 29 = .ok (.ireturn, 1) := eL_lay_27.2.2
theorem eL_shelfBoth_0 : (decode cL_shelfBoth 0 = .ok (.aload 4, 2)) ∧ (decode cL_shelfBoth 2 = .ok (.aload_n 0, 1)) ∧ (decode cL_shelfBoth 3 = .ok (.iload_n 1, 1)) ∧ (decode cL_shelfBoth 4 = .ok (.iload_n 2, 1)) ∧ (decode cL_shelfBoth 5 = .ok (.iload_n 3, 1)) ∧ (decode cL_shelfBoth 6 = .ok (.invokevirtual 129, 3)) ∧ (decode cL_shelfBoth 9 = .ok (.i2l, 1)) ∧ (decode cL_shelfBoth 10 = .ok (.putfield 13, 3)) ∧ (decode cL_shelfBoth 13 = .ok (.goto 11, 3)) ∧ (decode cL_shelfBoth 16 = .ok (.astore 5, 2)) ∧ (decode cL_shelfBoth 18 = .ok (.iconst 1, 1)) ∧ (decode cL_shelfBoth 19 = .ok (.ireturn, 1)) ∧ (decode cL_shelfBoth 20 = .ok (.astore 5, 2)) ∧ (decode cL_shelfBoth 22 = .ok (.iconst 2, 1)) ∧ (decode cL_shelfBoth 23 = .ok (.ireturn, 1)) ∧ (decode cL_shelfBoth 24 = .ok (.iconst 0, 1)) := by decide +kernel
theorem dL_shelfBoth_0 : decode cL_shelfBoth 0 = .ok (.aload 4, 2) := eL_shelfBoth_0.1
theorem dL_shelfBoth_2 : decode cL_shelfBoth 2 = .ok (.aload_n 0, 1) := eL_shelfBoth_0.2.1
theorem dL_shelfBoth_3 : decode cL_shelfBoth 3 = .ok (.iload_n 1, 1) := eL_shelfBoth_0.2.2.1
theorem dL_shelfBoth_4 : decode cL_shelfBoth 4 = .ok (.iload_n 2, 1) := eL_shelfBoth_0.2.2.2.1
theorem dL_shelfBoth_5 : decode cL_shelfBoth 5 = .ok (.iload_n 3, 1) := eL_shelfBoth_0.2.2.2.2.1
theorem dL_shelfBoth_6 : decode cL_shelfBoth 6 = .ok (.invokevirtual 129, 3) := eL_shelfBoth_0.2.2.2.2.2.1
theorem dL_shelfBoth_9 : decode cL_shelfBoth 9 = .ok (.i2l, 1) := eL_shelfBoth_0.2.2.2.2.2.2.1
theorem dL_shelfBoth_10 : decode cL_shelfBoth 10 = .ok (.putfield 13, 3) := eL_shelfBoth_0.2.2.2.2.2.2.2.1
theorem dL_shelfBoth_13 : decode cL_shelfBoth 13 = .ok (.goto 11, 3) := eL_shelfBoth_0.2.2.2.2.2.2.2.2.1
theorem dL_shelfBoth_16 : decode cL_shelfBoth 16 = .ok (.astore 5, 2) := eL_shelfBoth_0.2.2.2.2.2.2.2.2.2.1
theorem dL_shelfBoth_18 : decode cL_shelfBoth 18 = .ok (.iconst 1, 1) := eL_shelfBoth_0.2.2.2.2.2.2.2.2.2.2.1
theorem dL_shelfBoth_19 : decode cL_shelfBoth 19 = .ok (.ireturn, 1) := eL_shelfBoth_0.2.2.2.2.2.2.2.2.2.2.2.1
theorem dL_shelfBoth_20 : decode cL_shelfBoth 20 = .ok (.astore 5, 2) := eL_shelfBoth_0.2.2.2.2.2.2.2.2.2.2.2.2.1
theorem dL_shelfBoth_22 : decode cL_shelfBoth 22 = .ok (.iconst 2, 1) := eL_shelfBoth_0.2.2.2.2.2.2.2.2.2.2.2.2.2.1
theorem dL_shelfBoth_23 : decode cL_shelfBoth 23 = .ok (.ireturn, 1) := eL_shelfBoth_0.2.2.2.2.2.2.2.2.2.2.2.2.2.2.1
theorem dL_shelfBoth_24 : decode cL_shelfBoth 24 = .ok (.iconst 0, 1) := eL_shelfBoth_0.2.2.2.2.2.2.2.2.2.2.2.2.2.2.2
theorem dL_shelfBoth_25 : decode cL_shelfBoth 25 = .ok (.ireturn, 1) := by decide +kernel
theorem eL_shelfDrop_0 : (decode cL_shelfDrop 0 = .ok (.aload_n 3, 1)) ∧ (decode cL_shelfDrop 1 = .ok (.aload_n 0, 1)) ∧ (decode cL_shelfDrop 2 = .ok (.iload_n 1, 1)) ∧ (decode cL_shelfDrop 3 = .ok (.iload_n 2, 1)) ∧ (decode cL_shelfDrop 4 = .ok (.invokevirtual 132, 3)) ∧ (decode cL_shelfDrop 7 = .ok (.i2l, 1)) ∧ (decode cL_shelfDrop 8 = .ok (.putfield 13, 3)) ∧ (decode cL_shelfDrop 11 = .ok (.goto 11, 3)) ∧ (decode cL_shelfDrop 14 = .ok (.astore 4, 2)) ∧ (decode cL_shelfDrop 16 = .ok (.iconst 1, 1)) ∧ (decode cL_shelfDrop 17 = .ok (.ireturn, 1)) ∧ (decode cL_shelfDrop 18 = .ok (.astore 4, 2)) ∧ (decode cL_shelfDrop 20 = .ok (.iconst 2, 1)) ∧ (decode cL_shelfDrop 21 = .ok (.ireturn, 1)) ∧ (decode cL_shelfDrop 22 = .ok (.iconst 0, 1)) ∧ (decode cL_shelfDrop 23 = .ok (.ireturn, 1)) := by decide +kernel
theorem dL_shelfDrop_0 : decode cL_shelfDrop 0 = .ok (.aload_n 3, 1) := eL_shelfDrop_0.1
theorem dL_shelfDrop_1 : decode cL_shelfDrop 1 = .ok (.aload_n 0, 1) := eL_shelfDrop_0.2.1
theorem dL_shelfDrop_2 : decode cL_shelfDrop 2 = .ok (.iload_n 1, 1) := eL_shelfDrop_0.2.2.1
theorem dL_shelfDrop_3 : decode cL_shelfDrop 3 = .ok (.iload_n 2, 1) := eL_shelfDrop_0.2.2.2.1
theorem dL_shelfDrop_4 : decode cL_shelfDrop 4 = .ok (.invokevirtual 132, 3) := eL_shelfDrop_0.2.2.2.2.1
theorem dL_shelfDrop_7 : decode cL_shelfDrop 7 = .ok (.i2l, 1) := eL_shelfDrop_0.2.2.2.2.2.1
theorem dL_shelfDrop_8 : decode cL_shelfDrop 8 = .ok (.putfield 13, 3) := eL_shelfDrop_0.2.2.2.2.2.2.1
theorem dL_shelfDrop_11 : decode cL_shelfDrop 11 = .ok (.goto 11, 3) := eL_shelfDrop_0.2.2.2.2.2.2.2.1
theorem dL_shelfDrop_14 : decode cL_shelfDrop 14 = .ok (.astore 4, 2) := eL_shelfDrop_0.2.2.2.2.2.2.2.2.1
theorem dL_shelfDrop_16 : decode cL_shelfDrop 16 = .ok (.iconst 1, 1) := eL_shelfDrop_0.2.2.2.2.2.2.2.2.2.1
theorem dL_shelfDrop_17 : decode cL_shelfDrop 17 = .ok (.ireturn, 1) := eL_shelfDrop_0.2.2.2.2.2.2.2.2.2.2.1
theorem dL_shelfDrop_18 : decode cL_shelfDrop 18 = .ok (.astore 4, 2) := eL_shelfDrop_0.2.2.2.2.2.2.2.2.2.2.2.1
theorem dL_shelfDrop_20 : decode cL_shelfDrop 20 = .ok (.iconst 2, 1) := eL_shelfDrop_0.2.2.2.2.2.2.2.2.2.2.2.2.1
theorem dL_shelfDrop_21 : decode cL_shelfDrop 21 = .ok (.ireturn, 1) := eL_shelfDrop_0.2.2.2.2.2.2.2.2.2.2.2.2.2.1
theorem dL_shelfDrop_22 : decode cL_shelfDrop 22 = .ok (.iconst 0, 1) := eL_shelfDrop_0.2.2.2.2.2.2.2.2.2.2.2.2.2.2.1
theorem dL_shelfDrop_23 : decode cL_shelfDrop 23 = .ok (.ireturn, 1) := eL_shelfDrop_0.2.2.2.2.2.2.2.2.2.2.2.2.2.2.2
theorem eL_shelfCut_0 : (decode cL_shelfCut 0 = .ok (.aload 6, 2)) ∧ (decode cL_shelfCut 2 = .ok (.aload_n 0, 1)) ∧ (decode cL_shelfCut 3 = .ok (.iload_n 1, 1)) ∧ (decode cL_shelfCut 4 = .ok (.iload_n 2, 1)) ∧ (decode cL_shelfCut 5 = .ok (.iload_n 3, 1)) ∧ (decode cL_shelfCut 6 = .ok (.iload 4, 2)) ∧ (decode cL_shelfCut 8 = .ok (.iload 5, 2)) ∧ (decode cL_shelfCut 10 = .ok (.invokevirtual 135, 3)) ∧ (decode cL_shelfCut 13 = .ok (.i2l, 1)) ∧ (decode cL_shelfCut 14 = .ok (.putfield 13, 3)) ∧ (decode cL_shelfCut 17 = .ok (.goto 11, 3)) ∧ (decode cL_shelfCut 20 = .ok (.astore 7, 2)) ∧ (decode cL_shelfCut 22 = .ok (.iconst 1, 1)) ∧ (decode cL_shelfCut 23 = .ok (.ireturn, 1)) ∧ (decode cL_shelfCut 24 = .ok (.astore 7, 2)) ∧ (decode cL_shelfCut 26 = .ok (.iconst 2, 1)) := by decide +kernel
theorem dL_shelfCut_0 : decode cL_shelfCut 0 = .ok (.aload 6, 2) := eL_shelfCut_0.1
theorem dL_shelfCut_2 : decode cL_shelfCut 2 = .ok (.aload_n 0, 1) := eL_shelfCut_0.2.1
theorem dL_shelfCut_3 : decode cL_shelfCut 3 = .ok (.iload_n 1, 1) := eL_shelfCut_0.2.2.1
theorem dL_shelfCut_4 : decode cL_shelfCut 4 = .ok (.iload_n 2, 1) := eL_shelfCut_0.2.2.2.1
theorem dL_shelfCut_5 : decode cL_shelfCut 5 = .ok (.iload_n 3, 1) := eL_shelfCut_0.2.2.2.2.1
theorem dL_shelfCut_6 : decode cL_shelfCut 6 = .ok (.iload 4, 2) := eL_shelfCut_0.2.2.2.2.2.1
theorem dL_shelfCut_8 : decode cL_shelfCut 8 = .ok (.iload 5, 2) := eL_shelfCut_0.2.2.2.2.2.2.1
theorem dL_shelfCut_10 : decode cL_shelfCut 10 = .ok (.invokevirtual 135, 3) := eL_shelfCut_0.2.2.2.2.2.2.2.1
theorem dL_shelfCut_13 : decode cL_shelfCut 13 = .ok (.i2l, 1) := eL_shelfCut_0.2.2.2.2.2.2.2.2.1
theorem dL_shelfCut_14 : decode cL_shelfCut 14 = .ok (.putfield 13, 3) := eL_shelfCut_0.2.2.2.2.2.2.2.2.2.1
theorem dL_shelfCut_17 : decode cL_shelfCut 17 = .ok (.goto 11, 3) := eL_shelfCut_0.2.2.2.2.2.2.2.2.2.2.1
theorem dL_shelfCut_20 : decode cL_shelfCut 20 = .ok (.astore 7, 2) := eL_shelfCut_0.2.2.2.2.2.2.2.2.2.2.2.1
theorem dL_shelfCut_22 : decode cL_shelfCut 22 = .ok (.iconst 1, 1) := eL_shelfCut_0.2.2.2.2.2.2.2.2.2.2.2.2.1
theorem dL_shelfCut_23 : decode cL_shelfCut 23 = .ok (.ireturn, 1) := eL_shelfCut_0.2.2.2.2.2.2.2.2.2.2.2.2.2.1
theorem dL_shelfCut_24 : decode cL_shelfCut 24 = .ok (.astore 7, 2) := eL_shelfCut_0.2.2.2.2.2.2.2.2.2.2.2.2.2.2.1
theorem dL_shelfCut_26 : decode cL_shelfCut 26 = .ok (.iconst 2, 1) := eL_shelfCut_0.2.2.2.2.2.2.2.2.2.2.2.2.2.2.2
theorem eL_shelfCut_27 : (decode cL_shelfCut 27 = .ok (.ireturn, 1)) ∧ (decode cL_shelfCut 28 = .ok (.iconst 0, 1)) ∧ (decode cL_shelfCut 29 = .ok (.ireturn, 1)) := by decide +kernel
theorem dL_shelfCut_27 : decode cL_shelfCut 27 = .ok (.ireturn, 1) := eL_shelfCut_27.1
theorem dL_shelfCut_28 : decode cL_shelfCut 28 = .ok (.iconst 0, 1) := eL_shelfCut_27.2.1
theorem dL_shelfCut_29 : decode cL_shelfCut 29 = .ok (.ireturn, 1) := eL_shelfCut_27.2.2
theorem eL_shelfNear_0 : (decode cL_shelfNear 0 = .ok (.aload 4, 2)) ∧ (decode cL_shelfNear 2 = .ok (.aload_n 0, 1)) ∧ (decode cL_shelfNear 3 = .ok (.iload_n 1, 1)) ∧ (decode cL_shelfNear 4 = .ok (.iload_n 2, 1)) ∧ (decode cL_shelfNear 5 = .ok (.iload_n 3, 1)) ∧ (decode cL_shelfNear 6 = .ok (.invokevirtual 138, 3)) ∧ (decode cL_shelfNear 9 = .ok (.i2l, 1)) ∧ (decode cL_shelfNear 10 = .ok (.putfield 13, 3)) ∧ (decode cL_shelfNear 13 = .ok (.goto 11, 3)) ∧ (decode cL_shelfNear 16 = .ok (.astore 5, 2)) ∧ (decode cL_shelfNear 18 = .ok (.iconst 1, 1)) ∧ (decode cL_shelfNear 19 = .ok (.ireturn, 1)) ∧ (decode cL_shelfNear 20 = .ok (.astore 5, 2)) ∧ (decode cL_shelfNear 22 = .ok (.iconst 2, 1)) ∧ (decode cL_shelfNear 23 = .ok (.ireturn, 1)) ∧ (decode cL_shelfNear 24 = .ok (.iconst 0, 1)) := by decide +kernel
theorem dL_shelfNear_0 : decode cL_shelfNear 0 = .ok (.aload 4, 2) := eL_shelfNear_0.1
theorem dL_shelfNear_2 : decode cL_shelfNear 2 = .ok (.aload_n 0, 1) := eL_shelfNear_0.2.1
theorem dL_shelfNear_3 : decode cL_shelfNear 3 = .ok (.iload_n 1, 1) := eL_shelfNear_0.2.2.1
theorem dL_shelfNear_4 : decode cL_shelfNear 4 = .ok (.iload_n 2, 1) := eL_shelfNear_0.2.2.2.1
theorem dL_shelfNear_5 : decode cL_shelfNear 5 = .ok (.iload_n 3, 1) := eL_shelfNear_0.2.2.2.2.1
theorem dL_shelfNear_6 : decode cL_shelfNear 6 = .ok (.invokevirtual 138, 3) := eL_shelfNear_0.2.2.2.2.2.1
theorem dL_shelfNear_9 : decode cL_shelfNear 9 = .ok (.i2l, 1) := eL_shelfNear_0.2.2.2.2.2.2.1
theorem dL_shelfNear_10 : decode cL_shelfNear 10 = .ok (.putfield 13, 3) := eL_shelfNear_0.2.2.2.2.2.2.2.1
theorem dL_shelfNear_13 : decode cL_shelfNear 13 = .ok (.goto 11, 3) := eL_shelfNear_0.2.2.2.2.2.2.2.2.1
theorem dL_shelfNear_16 : decode cL_shelfNear 16 = .ok (.astore 5, 2) := eL_shelfNear_0.2.2.2.2.2.2.2.2.2.1
theorem dL_shelfNear_18 : decode cL_shelfNear 18 = .ok (.iconst 1, 1) := eL_shelfNear_0.2.2.2.2.2.2.2.2.2.2.1
theorem dL_shelfNear_19 : decode cL_shelfNear 19 = .ok (.ireturn, 1) := eL_shelfNear_0.2.2.2.2.2.2.2.2.2.2.2.1
theorem dL_shelfNear_20 : decode cL_shelfNear 20 = .ok (.astore 5, 2) := eL_shelfNear_0.2.2.2.2.2.2.2.2.2.2.2.2.1
theorem dL_shelfNear_22 : decode cL_shelfNear 22 = .ok (.iconst 2, 1) := eL_shelfNear_0.2.2.2.2.2.2.2.2.2.2.2.2.2.1
theorem dL_shelfNear_23 : decode cL_shelfNear 23 = .ok (.ireturn, 1) := eL_shelfNear_0.2.2.2.2.2.2.2.2.2.2.2.2.2.2.1
theorem dL_shelfNear_24 : decode cL_shelfNear 24 = .ok (.iconst 0, 1) := eL_shelfNear_0.2.2.2.2.2.2.2.2.2.2.2.2.2.2.2
theorem dL_shelfNear_25 : decode cL_shelfNear 25 = .ok (.ireturn, 1) := by decide +kernel
theorem eL_shelfTell_0 : (decode cL_shelfTell 0 = .ok (.aload_n 3, 1)) ∧ (decode cL_shelfTell 1 = .ok (.aload_n 0, 1)) ∧ (decode cL_shelfTell 2 = .ok (.iload_n 1, 1)) ∧ (decode cL_shelfTell 3 = .ok (.iload_n 2, 1)) ∧ (decode cL_shelfTell 4 = .ok (.invokevirtual 141, 3)) ∧ (decode cL_shelfTell 7 = .ok (.i2l, 1)) ∧ (decode cL_shelfTell 8 = .ok (.putfield 13, 3)) ∧ (decode cL_shelfTell 11 = .ok (.goto 11, 3)) ∧ (decode cL_shelfTell 14 = .ok (.astore 4, 2)) ∧ (decode cL_shelfTell 16 = .ok (.iconst 1, 1)) ∧ (decode cL_shelfTell 17 = .ok (.ireturn, 1)) ∧ (decode cL_shelfTell 18 = .ok (.astore 4, 2)) ∧ (decode cL_shelfTell 20 = .ok (.iconst 2, 1)) ∧ (decode cL_shelfTell 21 = .ok (.ireturn, 1)) ∧ (decode cL_shelfTell 22 = .ok (.iconst 0, 1)) ∧ (decode cL_shelfTell 23 = .ok (.ireturn, 1)) := by decide +kernel
theorem dL_shelfTell_0 : decode cL_shelfTell 0 = .ok (.aload_n 3, 1) := eL_shelfTell_0.1
theorem dL_shelfTell_1 : decode cL_shelfTell 1 = .ok (.aload_n 0, 1) := eL_shelfTell_0.2.1
theorem dL_shelfTell_2 : decode cL_shelfTell 2 = .ok (.iload_n 1, 1) := eL_shelfTell_0.2.2.1
theorem dL_shelfTell_3 : decode cL_shelfTell 3 = .ok (.iload_n 2, 1) := eL_shelfTell_0.2.2.2.1
theorem dL_shelfTell_4 : decode cL_shelfTell 4 = .ok (.invokevirtual 141, 3) := eL_shelfTell_0.2.2.2.2.1
theorem dL_shelfTell_7 : decode cL_shelfTell 7 = .ok (.i2l, 1) := eL_shelfTell_0.2.2.2.2.2.1
theorem dL_shelfTell_8 : decode cL_shelfTell 8 = .ok (.putfield 13, 3) := eL_shelfTell_0.2.2.2.2.2.2.1
theorem dL_shelfTell_11 : decode cL_shelfTell 11 = .ok (.goto 11, 3) := eL_shelfTell_0.2.2.2.2.2.2.2.1
theorem dL_shelfTell_14 : decode cL_shelfTell 14 = .ok (.astore 4, 2) := eL_shelfTell_0.2.2.2.2.2.2.2.2.1
theorem dL_shelfTell_16 : decode cL_shelfTell 16 = .ok (.iconst 1, 1) := eL_shelfTell_0.2.2.2.2.2.2.2.2.2.1
theorem dL_shelfTell_17 : decode cL_shelfTell 17 = .ok (.ireturn, 1) := eL_shelfTell_0.2.2.2.2.2.2.2.2.2.2.1
theorem dL_shelfTell_18 : decode cL_shelfTell 18 = .ok (.astore 4, 2) := eL_shelfTell_0.2.2.2.2.2.2.2.2.2.2.2.1
theorem dL_shelfTell_20 : decode cL_shelfTell 20 = .ok (.iconst 2, 1) := eL_shelfTell_0.2.2.2.2.2.2.2.2.2.2.2.2.1
theorem dL_shelfTell_21 : decode cL_shelfTell 21 = .ok (.ireturn, 1) := eL_shelfTell_0.2.2.2.2.2.2.2.2.2.2.2.2.2.1
theorem dL_shelfTell_22 : decode cL_shelfTell 22 = .ok (.iconst 0, 1) := eL_shelfTell_0.2.2.2.2.2.2.2.2.2.2.2.2.2.2.1
theorem dL_shelfTell_23 : decode cL_shelfTell 23 = .ok (.ireturn, 1) := eL_shelfTell_0.2.2.2.2.2.2.2.2.2.2.2.2.2.2.2
theorem eL_sameShelves_0 : (decode cL_sameShelves 0 = .ok (.aload 4, 2)) ∧ (decode cL_sameShelves 2 = .ok (.aload_n 0, 1)) ∧ (decode cL_sameShelves 3 = .ok (.iload_n 1, 1)) ∧ (decode cL_sameShelves 4 = .ok (.iload_n 2, 1)) ∧ (decode cL_sameShelves 5 = .ok (.iload_n 3, 1)) ∧ (decode cL_sameShelves 6 = .ok (.invokevirtual 144, 3)) ∧ (decode cL_sameShelves 9 = .ok (.ifCond .eq 7, 3)) ∧ (decode cL_sameShelves 12 = .ok (.lconst 1, 1)) ∧ (decode cL_sameShelves 13 = .ok (.goto 4, 3)) ∧ (decode cL_sameShelves 16 = .ok (.lconst 0, 1)) ∧ (decode cL_sameShelves 17 = .ok (.putfield 13, 3)) ∧ (decode cL_sameShelves 20 = .ok (.goto 11, 3)) ∧ (decode cL_sameShelves 23 = .ok (.astore 5, 2)) ∧ (decode cL_sameShelves 25 = .ok (.iconst 1, 1)) ∧ (decode cL_sameShelves 26 = .ok (.ireturn, 1)) ∧ (decode cL_sameShelves 27 = .ok (.astore 5, 2)) := by decide +kernel
theorem dL_sameShelves_0 : decode cL_sameShelves 0 = .ok (.aload 4, 2) := eL_sameShelves_0.1
theorem dL_sameShelves_2 : decode cL_sameShelves 2 = .ok (.aload_n 0, 1) := eL_sameShelves_0.2.1
theorem dL_sameShelves_3 : decode cL_sameShelves 3 = .ok (.iload_n 1, 1) := eL_sameShelves_0.2.2.1
theorem dL_sameShelves_4 : decode cL_sameShelves 4 = .ok (.iload_n 2, 1) := eL_sameShelves_0.2.2.2.1
theorem dL_sameShelves_5 : decode cL_sameShelves 5 = .ok (.iload_n 3, 1) := eL_sameShelves_0.2.2.2.2.1
theorem dL_sameShelves_6 : decode cL_sameShelves 6 = .ok (.invokevirtual 144, 3) := eL_sameShelves_0.2.2.2.2.2.1
theorem dL_sameShelves_9 : decode cL_sameShelves 9 = .ok (.ifCond .eq 7, 3) := eL_sameShelves_0.2.2.2.2.2.2.1
theorem dL_sameShelves_12 : decode cL_sameShelves 12 = .ok (.lconst 1, 1) := eL_sameShelves_0.2.2.2.2.2.2.2.1
theorem dL_sameShelves_13 : decode cL_sameShelves 13 = .ok (.goto 4, 3) := eL_sameShelves_0.2.2.2.2.2.2.2.2.1
theorem dL_sameShelves_16 : decode cL_sameShelves 16 = .ok (.lconst 0, 1) := eL_sameShelves_0.2.2.2.2.2.2.2.2.2.1
theorem dL_sameShelves_17 : decode cL_sameShelves 17 = .ok (.putfield 13, 3) := eL_sameShelves_0.2.2.2.2.2.2.2.2.2.2.1
theorem dL_sameShelves_20 : decode cL_sameShelves 20 = .ok (.goto 11, 3) := eL_sameShelves_0.2.2.2.2.2.2.2.2.2.2.2.1
theorem dL_sameShelves_23 : decode cL_sameShelves 23 = .ok (.astore 5, 2) := eL_sameShelves_0.2.2.2.2.2.2.2.2.2.2.2.2.1
theorem dL_sameShelves_25 : decode cL_sameShelves 25 = .ok (.iconst 1, 1) := eL_sameShelves_0.2.2.2.2.2.2.2.2.2.2.2.2.2.1
theorem dL_sameShelves_26 : decode cL_sameShelves 26 = .ok (.ireturn, 1) := eL_sameShelves_0.2.2.2.2.2.2.2.2.2.2.2.2.2.2.1
theorem dL_sameShelves_27 : decode cL_sameShelves 27 = .ok (.astore 5, 2) := eL_sameShelves_0.2.2.2.2.2.2.2.2.2.2.2.2.2.2.2
theorem eL_sameShelves_29 : (decode cL_sameShelves 29 = .ok (.iconst 2, 1)) ∧ (decode cL_sameShelves 30 = .ok (.ireturn, 1)) ∧ (decode cL_sameShelves 31 = .ok (.iconst 0, 1)) ∧ (decode cL_sameShelves 32 = .ok (.ireturn, 1)) := by decide +kernel
theorem dL_sameShelves_29 : decode cL_sameShelves 29 = .ok (.iconst 2, 1) := eL_sameShelves_29.1
theorem dL_sameShelves_30 : decode cL_sameShelves 30 = .ok (.ireturn, 1) := eL_sameShelves_29.2.1
theorem dL_sameShelves_31 : decode cL_sameShelves 31 = .ok (.iconst 0, 1) := eL_sameShelves_29.2.2.1
theorem dL_sameShelves_32 : decode cL_sameShelves 32 = .ok (.ireturn, 1) := eL_sameShelves_29.2.2.2
theorem eL_house_0 : (decode cL_house 0 = .ok (.aload_n 2, 1)) ∧ (decode cL_house 1 = .ok (.aload_n 0, 1)) ∧ (decode cL_house 2 = .ok (.iload_n 1, 1)) ∧ (decode cL_house 3 = .ok (.invokevirtual 148, 3)) ∧ (decode cL_house 6 = .ok (.i2l, 1)) ∧ (decode cL_house 7 = .ok (.putfield 13, 3)) ∧ (decode cL_house 10 = .ok (.goto 6, 3)) ∧ (decode cL_house 13 = .ok (.astore_n 3, 1)) ∧ (decode cL_house 14 = .ok (.iconst 1, 1)) ∧ (decode cL_house 15 = .ok (.ireturn, 1)) ∧ (decode cL_house 16 = .ok (.iconst 0, 1)) ∧ (decode cL_house 17 = .ok (.ireturn, 1)) := by decide +kernel
theorem dL_house_0 : decode cL_house 0 = .ok (.aload_n 2, 1) := eL_house_0.1
theorem dL_house_1 : decode cL_house 1 = .ok (.aload_n 0, 1) := eL_house_0.2.1
theorem dL_house_2 : decode cL_house 2 = .ok (.iload_n 1, 1) := eL_house_0.2.2.1
theorem dL_house_3 : decode cL_house 3 = .ok (.invokevirtual 148, 3) := eL_house_0.2.2.2.1
theorem dL_house_6 : decode cL_house 6 = .ok (.i2l, 1) := eL_house_0.2.2.2.2.1
theorem dL_house_7 : decode cL_house 7 = .ok (.putfield 13, 3) := eL_house_0.2.2.2.2.2.1
theorem dL_house_10 : decode cL_house 10 = .ok (.goto 6, 3) := eL_house_0.2.2.2.2.2.2.1
theorem dL_house_13 : decode cL_house 13 = .ok (.astore_n 3, 1) := eL_house_0.2.2.2.2.2.2.2.1
theorem dL_house_14 : decode cL_house 14 = .ok (.iconst 1, 1) := eL_house_0.2.2.2.2.2.2.2.2.1
theorem dL_house_15 : decode cL_house 15 = .ok (.ireturn, 1) := eL_house_0.2.2.2.2.2.2.2.2.2.1
theorem dL_house_16 : decode cL_house 16 = .ok (.iconst 0, 1) := eL_house_0.2.2.2.2.2.2.2.2.2.2.1
theorem dL_house_17 : decode cL_house 17 = .ok (.ireturn, 1) := eL_house_0.2.2.2.2.2.2.2.2.2.2.2
theorem eL_law_0 : (decode cL_law 0 = .ok (.new 8, 3)) ∧ (decode cL_law 3 = .ok (.dup, 1)) ∧ (decode cL_law 4 = .ok (.invokespecial 151, 3)) ∧ (decode cL_law 7 = .ok (.astore_n 1, 1)) ∧ (decode cL_law 8 = .ok (.new 152, 3)) ∧ (decode cL_law 11 = .ok (.dup, 1)) ∧ (decode cL_law 12 = .ok (.invokespecial 154, 3)) ∧ (decode cL_law 15 = .ok (.astore_n 2, 1)) ∧ (decode cL_law 16 = .ok (.new 14, 3)) ∧ (decode cL_law 19 = .ok (.dup, 1)) ∧ (decode cL_law 20 = .ok (.invokespecial 155, 3)) ∧ (decode cL_law 23 = .ok (.astore_n 3, 1)) ∧ (decode cL_law 24 = .ok (.iconst 0, 1)) ∧ (decode cL_law 25 = .ok (.istore 4, 2)) ∧ (decode cL_law 27 = .ok (.iload 4, 2)) ∧ (decode cL_law 29 = .ok (.aload_n 0, 1)) := by decide +kernel
theorem dL_law_0 : decode cL_law 0 = .ok (.new 8, 3) := eL_law_0.1
theorem dL_law_3 : decode cL_law 3 = .ok (.dup, 1) := eL_law_0.2.1
theorem dL_law_4 : decode cL_law 4 = .ok (.invokespecial 151, 3) := eL_law_0.2.2.1
theorem dL_law_7 : decode cL_law 7 = .ok (.astore_n 1, 1) := eL_law_0.2.2.2.1
theorem dL_law_8 : decode cL_law 8 = .ok (.new 152, 3) := eL_law_0.2.2.2.2.1
theorem dL_law_11 : decode cL_law 11 = .ok (.dup, 1) := eL_law_0.2.2.2.2.2.1
theorem dL_law_12 : decode cL_law 12 = .ok (.invokespecial 154, 3) := eL_law_0.2.2.2.2.2.2.1
theorem dL_law_15 : decode cL_law 15 = .ok (.astore_n 2, 1) := eL_law_0.2.2.2.2.2.2.2.1
theorem dL_law_16 : decode cL_law 16 = .ok (.new 14, 3) := eL_law_0.2.2.2.2.2.2.2.2.1
theorem dL_law_19 : decode cL_law 19 = .ok (.dup, 1) := eL_law_0.2.2.2.2.2.2.2.2.2.1
theorem dL_law_20 : decode cL_law 20 = .ok (.invokespecial 155, 3) := eL_law_0.2.2.2.2.2.2.2.2.2.2.1
theorem dL_law_23 : decode cL_law 23 = .ok (.astore_n 3, 1) := eL_law_0.2.2.2.2.2.2.2.2.2.2.2.1
theorem dL_law_24 : decode cL_law 24 = .ok (.iconst 0, 1) := eL_law_0.2.2.2.2.2.2.2.2.2.2.2.2.1
theorem dL_law_25 : decode cL_law 25 = .ok (.istore 4, 2) := eL_law_0.2.2.2.2.2.2.2.2.2.2.2.2.2.1
theorem dL_law_27 : decode cL_law 27 = .ok (.iload 4, 2) := eL_law_0.2.2.2.2.2.2.2.2.2.2.2.2.2.2.1
theorem dL_law_29 : decode cL_law 29 = .ok (.aload_n 0, 1) := eL_law_0.2.2.2.2.2.2.2.2.2.2.2.2.2.2.2
theorem eL_law_30 : (decode cL_law 30 = .ok (.arraylength, 1)) ∧ (decode cL_law 31 = .ok (.bipush 7, 2)) ∧ (decode cL_law 33 = .ok (.isub, 1)) ∧ (decode cL_law 34 = .ok (.if_icmp .gt 2263, 3)) ∧ (decode cL_law 37 = .ok (.aload_n 0, 1)) ∧ (decode cL_law 38 = .ok (.iload 4, 2)) ∧ (decode cL_law 40 = .ok (.iaload, 1)) ∧ (decode cL_law 41 = .ok (.bipush 63, 2)) ∧ (decode cL_law 43 = .ok (.iand, 1)) ∧ (decode cL_law 44 = .ok (.tableswitch 2247 0 42 #[188, 228, 280, 332, 408, 448, 516, 580, 644, 684, 724, 792, 872, 956, 1024, 1064, 1092, 1132, 1222, 1286, 1338, 1390, 1430, 1470, 1522, 1562, 1590, 1603, 1631, 1644, 1684, 1736, 1776, 1868, 1920, 1960, 2036, 2088, 2128, 2180, 2208, 2221, 2234], 188)) ∧ (decode cL_law 232 = .ok (.aload_n 1, 1)) ∧ (decode cL_law 233 = .ok (.aload_n 0, 1)) ∧ (decode cL_law 234 = .ok (.iload 4, 2)) ∧ (decode cL_law 236 = .ok (.iconst 1, 1)) ∧ (decode cL_law 237 = .ok (.iadd, 1)) ∧ (decode cL_law 238 = .ok (.iaload, 1)) := by decide +kernel
theorem dL_law_30 : decode cL_law 30 = .ok (.arraylength, 1) := eL_law_30.1
theorem dL_law_31 : decode cL_law 31 = .ok (.bipush 7, 2) := eL_law_30.2.1
theorem dL_law_33 : decode cL_law 33 = .ok (.isub, 1) := eL_law_30.2.2.1
theorem dL_law_34 : decode cL_law 34 = .ok (.if_icmp .gt 2263, 3) := eL_law_30.2.2.2.1
theorem dL_law_37 : decode cL_law 37 = .ok (.aload_n 0, 1) := eL_law_30.2.2.2.2.1
theorem dL_law_38 : decode cL_law 38 = .ok (.iload 4, 2) := eL_law_30.2.2.2.2.2.1
theorem dL_law_40 : decode cL_law 40 = .ok (.iaload, 1) := eL_law_30.2.2.2.2.2.2.1
theorem dL_law_41 : decode cL_law 41 = .ok (.bipush 63, 2) := eL_law_30.2.2.2.2.2.2.2.1
theorem dL_law_43 : decode cL_law 43 = .ok (.iand, 1) := eL_law_30.2.2.2.2.2.2.2.2.1
theorem dL_law_44 : decode cL_law 44 = .ok (.tableswitch 2247 0 42 #[188, 228, 280, 332, 408, 448, 516, 580, 644, 684, 724, 792, 872, 956, 1024, 1064, 1092, 1132, 1222, 1286, 1338, 1390, 1430, 1470, 1522, 1562, 1590, 1603, 1631, 1644, 1684, 1736, 1776, 1868, 1920, 1960, 2036, 2088, 2128, 2180, 2208, 2221, 2234], 188) := eL_law_30.2.2.2.2.2.2.2.2.2.1
theorem dL_law_232 : decode cL_law 232 = .ok (.aload_n 1, 1) := eL_law_30.2.2.2.2.2.2.2.2.2.2.1
theorem dL_law_233 : decode cL_law 233 = .ok (.aload_n 0, 1) := eL_law_30.2.2.2.2.2.2.2.2.2.2.2.1
theorem dL_law_234 : decode cL_law 234 = .ok (.iload 4, 2) := eL_law_30.2.2.2.2.2.2.2.2.2.2.2.2.1
theorem dL_law_236 : decode cL_law 236 = .ok (.iconst 1, 1) := eL_law_30.2.2.2.2.2.2.2.2.2.2.2.2.2.1
theorem dL_law_237 : decode cL_law 237 = .ok (.iadd, 1) := eL_law_30.2.2.2.2.2.2.2.2.2.2.2.2.2.2.1
theorem dL_law_238 : decode cL_law 238 = .ok (.iaload, 1) := eL_law_30.2.2.2.2.2.2.2.2.2.2.2.2.2.2.2
theorem eL_law_239 : (decode cL_law 239 = .ok (.aload_n 0, 1)) ∧ (decode cL_law 240 = .ok (.iload 4, 2)) ∧ (decode cL_law 242 = .ok (.iconst 2, 1)) ∧ (decode cL_law 243 = .ok (.iadd, 1)) ∧ (decode cL_law 244 = .ok (.iaload, 1)) ∧ (decode cL_law 245 = .ok (.aload_n 3, 1)) ∧ (decode cL_law 246 = .ok (.invokestatic 156, 3)) ∧ (decode cL_law 249 = .ok (.istore 5, 2)) ∧ (decode cL_law 251 = .ok (.aload_n 2, 1)) ∧ (decode cL_law 252 = .ok (.aload_n 0, 1)) ∧ (decode cL_law 253 = .ok (.iload 4, 2)) ∧ (decode cL_law 255 = .ok (.iconst 1, 1)) ∧ (decode cL_law 256 = .ok (.iadd, 1)) ∧ (decode cL_law 257 = .ok (.iaload, 1)) ∧ (decode cL_law 258 = .ok (.aload_n 0, 1)) ∧ (decode cL_law 259 = .ok (.iload 4, 2)) := by decide +kernel
theorem dL_law_239 : decode cL_law 239 = .ok (.aload_n 0, 1) := eL_law_239.1
theorem dL_law_240 : decode cL_law 240 = .ok (.iload 4, 2) := eL_law_239.2.1
theorem dL_law_242 : decode cL_law 242 = .ok (.iconst 2, 1) := eL_law_239.2.2.1
theorem dL_law_243 : decode cL_law 243 = .ok (.iadd, 1) := eL_law_239.2.2.2.1
theorem dL_law_244 : decode cL_law 244 = .ok (.iaload, 1) := eL_law_239.2.2.2.2.1
theorem dL_law_245 : decode cL_law 245 = .ok (.aload_n 3, 1) := eL_law_239.2.2.2.2.2.1
theorem dL_law_246 : decode cL_law 246 = .ok (.invokestatic 156, 3) := eL_law_239.2.2.2.2.2.2.1
theorem dL_law_249 : decode cL_law 249 = .ok (.istore 5, 2) := eL_law_239.2.2.2.2.2.2.2.1
theorem dL_law_251 : decode cL_law 251 = .ok (.aload_n 2, 1) := eL_law_239.2.2.2.2.2.2.2.2.1
theorem dL_law_252 : decode cL_law 252 = .ok (.aload_n 0, 1) := eL_law_239.2.2.2.2.2.2.2.2.2.1
theorem dL_law_253 : decode cL_law 253 = .ok (.iload 4, 2) := eL_law_239.2.2.2.2.2.2.2.2.2.2.1
theorem dL_law_255 : decode cL_law 255 = .ok (.iconst 1, 1) := eL_law_239.2.2.2.2.2.2.2.2.2.2.2.1
theorem dL_law_256 : decode cL_law 256 = .ok (.iadd, 1) := eL_law_239.2.2.2.2.2.2.2.2.2.2.2.2.1
theorem dL_law_257 : decode cL_law 257 = .ok (.iaload, 1) := eL_law_239.2.2.2.2.2.2.2.2.2.2.2.2.2.1
theorem dL_law_258 : decode cL_law 258 = .ok (.aload_n 0, 1) := eL_law_239.2.2.2.2.2.2.2.2.2.2.2.2.2.2.1
theorem dL_law_259 : decode cL_law 259 = .ok (.iload 4, 2) := eL_law_239.2.2.2.2.2.2.2.2.2.2.2.2.2.2.2
theorem eL_law_261 : (decode cL_law 261 = .ok (.iconst 2, 1)) ∧ (decode cL_law 262 = .ok (.iadd, 1)) ∧ (decode cL_law 263 = .ok (.iaload, 1)) ∧ (decode cL_law 264 = .ok (.invokevirtual 161, 3)) ∧ (decode cL_law 267 = .ok (.istore 6, 2)) ∧ (decode cL_law 269 = .ok (.goto 2022, 3)) ∧ (decode cL_law 272 = .ok (.aload_n 1, 1)) ∧ (decode cL_law 273 = .ok (.aload_n 0, 1)) ∧ (decode cL_law 274 = .ok (.iload 4, 2)) ∧ (decode cL_law 276 = .ok (.iconst 1, 1)) ∧ (decode cL_law 277 = .ok (.iadd, 1)) ∧ (decode cL_law 278 = .ok (.iaload, 1)) ∧ (decode cL_law 279 = .ok (.aload_n 0, 1)) ∧ (decode cL_law 280 = .ok (.iload 4, 2)) ∧ (decode cL_law 282 = .ok (.iconst 2, 1)) ∧ (decode cL_law 283 = .ok (.iadd, 1)) := by decide +kernel
theorem dL_law_261 : decode cL_law 261 = .ok (.iconst 2, 1) := eL_law_261.1
theorem dL_law_262 : decode cL_law 262 = .ok (.iadd, 1) := eL_law_261.2.1
theorem dL_law_263 : decode cL_law 263 = .ok (.iaload, 1) := eL_law_261.2.2.1
theorem dL_law_264 : decode cL_law 264 = .ok (.invokevirtual 161, 3) := eL_law_261.2.2.2.1
theorem dL_law_267 : decode cL_law 267 = .ok (.istore 6, 2) := eL_law_261.2.2.2.2.1
theorem dL_law_269 : decode cL_law 269 = .ok (.goto 2022, 3) := eL_law_261.2.2.2.2.2.1
theorem dL_law_272 : decode cL_law 272 = .ok (.aload_n 1, 1) := eL_law_261.2.2.2.2.2.2.1
theorem dL_law_273 : decode cL_law 273 = .ok (.aload_n 0, 1) := eL_law_261.2.2.2.2.2.2.2.1
theorem dL_law_274 : decode cL_law 274 = .ok (.iload 4, 2) := eL_law_261.2.2.2.2.2.2.2.2.1
theorem dL_law_276 : decode cL_law 276 = .ok (.iconst 1, 1) := eL_law_261.2.2.2.2.2.2.2.2.2.1
theorem dL_law_277 : decode cL_law 277 = .ok (.iadd, 1) := eL_law_261.2.2.2.2.2.2.2.2.2.2.1
theorem dL_law_278 : decode cL_law 278 = .ok (.iaload, 1) := eL_law_261.2.2.2.2.2.2.2.2.2.2.2.1
theorem dL_law_279 : decode cL_law 279 = .ok (.aload_n 0, 1) := eL_law_261.2.2.2.2.2.2.2.2.2.2.2.2.1
theorem dL_law_280 : decode cL_law 280 = .ok (.iload 4, 2) := eL_law_261.2.2.2.2.2.2.2.2.2.2.2.2.2.1
theorem dL_law_282 : decode cL_law 282 = .ok (.iconst 2, 1) := eL_law_261.2.2.2.2.2.2.2.2.2.2.2.2.2.2.1
theorem dL_law_283 : decode cL_law 283 = .ok (.iadd, 1) := eL_law_261.2.2.2.2.2.2.2.2.2.2.2.2.2.2.2
theorem eL_law_284 : (decode cL_law 284 = .ok (.iaload, 1)) ∧ (decode cL_law 285 = .ok (.aload_n 0, 1)) ∧ (decode cL_law 286 = .ok (.iload 4, 2)) ∧ (decode cL_law 288 = .ok (.iconst 3, 1)) ∧ (decode cL_law 289 = .ok (.iadd, 1)) ∧ (decode cL_law 290 = .ok (.iaload, 1)) ∧ (decode cL_law 291 = .ok (.aload_n 3, 1)) ∧ (decode cL_law 292 = .ok (.invokestatic 162, 3)) ∧ (decode cL_law 295 = .ok (.istore 5, 2)) ∧ (decode cL_law 297 = .ok (.aload_n 2, 1)) ∧ (decode cL_law 298 = .ok (.aload_n 0, 1)) ∧ (decode cL_law 299 = .ok (.iload 4, 2)) ∧ (decode cL_law 301 = .ok (.iconst 1, 1)) ∧ (decode cL_law 302 = .ok (.iadd, 1)) ∧ (decode cL_law 303 = .ok (.iaload, 1)) ∧ (decode cL_law 304 = .ok (.aload_n 0, 1)) := by decide +kernel
theorem dL_law_284 : decode cL_law 284 = .ok (.iaload, 1) := eL_law_284.1
theorem dL_law_285 : decode cL_law 285 = .ok (.aload_n 0, 1) := eL_law_284.2.1
theorem dL_law_286 : decode cL_law 286 = .ok (.iload 4, 2) := eL_law_284.2.2.1
theorem dL_law_288 : decode cL_law 288 = .ok (.iconst 3, 1) := eL_law_284.2.2.2.1
theorem dL_law_289 : decode cL_law 289 = .ok (.iadd, 1) := eL_law_284.2.2.2.2.1
theorem dL_law_290 : decode cL_law 290 = .ok (.iaload, 1) := eL_law_284.2.2.2.2.2.1
theorem dL_law_291 : decode cL_law 291 = .ok (.aload_n 3, 1) := eL_law_284.2.2.2.2.2.2.1
theorem dL_law_292 : decode cL_law 292 = .ok (.invokestatic 162, 3) := eL_law_284.2.2.2.2.2.2.2.1
theorem dL_law_295 : decode cL_law 295 = .ok (.istore 5, 2) := eL_law_284.2.2.2.2.2.2.2.2.1
theorem dL_law_297 : decode cL_law 297 = .ok (.aload_n 2, 1) := eL_law_284.2.2.2.2.2.2.2.2.2.1
theorem dL_law_298 : decode cL_law 298 = .ok (.aload_n 0, 1) := eL_law_284.2.2.2.2.2.2.2.2.2.2.1
theorem dL_law_299 : decode cL_law 299 = .ok (.iload 4, 2) := eL_law_284.2.2.2.2.2.2.2.2.2.2.2.1
theorem dL_law_301 : decode cL_law 301 = .ok (.iconst 1, 1) := eL_law_284.2.2.2.2.2.2.2.2.2.2.2.2.1
theorem dL_law_302 : decode cL_law 302 = .ok (.iadd, 1) := eL_law_284.2.2.2.2.2.2.2.2.2.2.2.2.2.1
theorem dL_law_303 : decode cL_law 303 = .ok (.iaload, 1) := eL_law_284.2.2.2.2.2.2.2.2.2.2.2.2.2.2.1
theorem dL_law_304 : decode cL_law 304 = .ok (.aload_n 0, 1) := eL_law_284.2.2.2.2.2.2.2.2.2.2.2.2.2.2.2
theorem eL_law_305 : (decode cL_law 305 = .ok (.iload 4, 2)) ∧ (decode cL_law 307 = .ok (.iconst 2, 1)) ∧ (decode cL_law 308 = .ok (.iadd, 1)) ∧ (decode cL_law 309 = .ok (.iaload, 1)) ∧ (decode cL_law 310 = .ok (.aload_n 0, 1)) ∧ (decode cL_law 311 = .ok (.iload 4, 2)) ∧ (decode cL_law 313 = .ok (.iconst 3, 1)) ∧ (decode cL_law 314 = .ok (.iadd, 1)) ∧ (decode cL_law 315 = .ok (.iaload, 1)) ∧ (decode cL_law 316 = .ok (.invokevirtual 165, 3)) ∧ (decode cL_law 319 = .ok (.istore 6, 2)) ∧ (decode cL_law 321 = .ok (.goto 1970, 3)) ∧ (decode cL_law 324 = .ok (.aload_n 1, 1)) ∧ (decode cL_law 325 = .ok (.aload_n 0, 1)) ∧ (decode cL_law 326 = .ok (.iload 4, 2)) ∧ (decode cL_law 328 = .ok (.iconst 1, 1)) := by decide +kernel
theorem dL_law_305 : decode cL_law 305 = .ok (.iload 4, 2) := eL_law_305.1
theorem dL_law_307 : decode cL_law 307 = .ok (.iconst 2, 1) := eL_law_305.2.1
theorem dL_law_308 : decode cL_law 308 = .ok (.iadd, 1) := eL_law_305.2.2.1
theorem dL_law_309 : decode cL_law 309 = .ok (.iaload, 1) := eL_law_305.2.2.2.1
theorem dL_law_310 : decode cL_law 310 = .ok (.aload_n 0, 1) := eL_law_305.2.2.2.2.1
theorem dL_law_311 : decode cL_law 311 = .ok (.iload 4, 2) := eL_law_305.2.2.2.2.2.1
theorem dL_law_313 : decode cL_law 313 = .ok (.iconst 3, 1) := eL_law_305.2.2.2.2.2.2.1
theorem dL_law_314 : decode cL_law 314 = .ok (.iadd, 1) := eL_law_305.2.2.2.2.2.2.2.1
theorem dL_law_315 : decode cL_law 315 = .ok (.iaload, 1) := eL_law_305.2.2.2.2.2.2.2.2.1
theorem dL_law_316 : decode cL_law 316 = .ok (.invokevirtual 165, 3) := eL_law_305.2.2.2.2.2.2.2.2.2.1
theorem dL_law_319 : decode cL_law 319 = .ok (.istore 6, 2) := eL_law_305.2.2.2.2.2.2.2.2.2.2.1
theorem dL_law_321 : decode cL_law 321 = .ok (.goto 1970, 3) := eL_law_305.2.2.2.2.2.2.2.2.2.2.2.1
theorem dL_law_324 : decode cL_law 324 = .ok (.aload_n 1, 1) := eL_law_305.2.2.2.2.2.2.2.2.2.2.2.2.1
theorem dL_law_325 : decode cL_law 325 = .ok (.aload_n 0, 1) := eL_law_305.2.2.2.2.2.2.2.2.2.2.2.2.2.1
theorem dL_law_326 : decode cL_law 326 = .ok (.iload 4, 2) := eL_law_305.2.2.2.2.2.2.2.2.2.2.2.2.2.2.1
theorem dL_law_328 : decode cL_law 328 = .ok (.iconst 1, 1) := eL_law_305.2.2.2.2.2.2.2.2.2.2.2.2.2.2.2
theorem eL_law_329 : (decode cL_law 329 = .ok (.iadd, 1)) ∧ (decode cL_law 330 = .ok (.iaload, 1)) ∧ (decode cL_law 331 = .ok (.aload_n 0, 1)) ∧ (decode cL_law 332 = .ok (.iload 4, 2)) ∧ (decode cL_law 334 = .ok (.iconst 2, 1)) ∧ (decode cL_law 335 = .ok (.iadd, 1)) ∧ (decode cL_law 336 = .ok (.iaload, 1)) ∧ (decode cL_law 337 = .ok (.aload_n 0, 1)) ∧ (decode cL_law 338 = .ok (.iload 4, 2)) ∧ (decode cL_law 340 = .ok (.iconst 3, 1)) ∧ (decode cL_law 341 = .ok (.iadd, 1)) ∧ (decode cL_law 342 = .ok (.iaload, 1)) ∧ (decode cL_law 343 = .ok (.aload_n 3, 1)) ∧ (decode cL_law 344 = .ok (.invokestatic 166, 3)) ∧ (decode cL_law 347 = .ok (.istore 5, 2)) ∧ (decode cL_law 349 = .ok (.aload_n 2, 1)) := by decide +kernel
theorem dL_law_329 : decode cL_law 329 = .ok (.iadd, 1) := eL_law_329.1
theorem dL_law_330 : decode cL_law 330 = .ok (.iaload, 1) := eL_law_329.2.1
theorem dL_law_331 : decode cL_law 331 = .ok (.aload_n 0, 1) := eL_law_329.2.2.1
theorem dL_law_332 : decode cL_law 332 = .ok (.iload 4, 2) := eL_law_329.2.2.2.1
theorem dL_law_334 : decode cL_law 334 = .ok (.iconst 2, 1) := eL_law_329.2.2.2.2.1
theorem dL_law_335 : decode cL_law 335 = .ok (.iadd, 1) := eL_law_329.2.2.2.2.2.1
theorem dL_law_336 : decode cL_law 336 = .ok (.iaload, 1) := eL_law_329.2.2.2.2.2.2.1
theorem dL_law_337 : decode cL_law 337 = .ok (.aload_n 0, 1) := eL_law_329.2.2.2.2.2.2.2.1
theorem dL_law_338 : decode cL_law 338 = .ok (.iload 4, 2) := eL_law_329.2.2.2.2.2.2.2.2.1
theorem dL_law_340 : decode cL_law 340 = .ok (.iconst 3, 1) := eL_law_329.2.2.2.2.2.2.2.2.2.1
theorem dL_law_341 : decode cL_law 341 = .ok (.iadd, 1) := eL_law_329.2.2.2.2.2.2.2.2.2.2.1
theorem dL_law_342 : decode cL_law 342 = .ok (.iaload, 1) := eL_law_329.2.2.2.2.2.2.2.2.2.2.2.1
theorem dL_law_343 : decode cL_law 343 = .ok (.aload_n 3, 1) := eL_law_329.2.2.2.2.2.2.2.2.2.2.2.2.1
theorem dL_law_344 : decode cL_law 344 = .ok (.invokestatic 166, 3) := eL_law_329.2.2.2.2.2.2.2.2.2.2.2.2.2.1
theorem dL_law_347 : decode cL_law 347 = .ok (.istore 5, 2) := eL_law_329.2.2.2.2.2.2.2.2.2.2.2.2.2.2.1
theorem dL_law_349 : decode cL_law 349 = .ok (.aload_n 2, 1) := eL_law_329.2.2.2.2.2.2.2.2.2.2.2.2.2.2.2
theorem eL_law_350 : (decode cL_law 350 = .ok (.aload_n 0, 1)) ∧ (decode cL_law 351 = .ok (.iload 4, 2)) ∧ (decode cL_law 353 = .ok (.iconst 1, 1)) ∧ (decode cL_law 354 = .ok (.iadd, 1)) ∧ (decode cL_law 355 = .ok (.iaload, 1)) ∧ (decode cL_law 356 = .ok (.aload_n 0, 1)) ∧ (decode cL_law 357 = .ok (.iload 4, 2)) ∧ (decode cL_law 359 = .ok (.iconst 2, 1)) ∧ (decode cL_law 360 = .ok (.iadd, 1)) ∧ (decode cL_law 361 = .ok (.iaload, 1)) ∧ (decode cL_law 362 = .ok (.aload_n 0, 1)) ∧ (decode cL_law 363 = .ok (.iload 4, 2)) ∧ (decode cL_law 365 = .ok (.iconst 3, 1)) ∧ (decode cL_law 366 = .ok (.iadd, 1)) ∧ (decode cL_law 367 = .ok (.iaload, 1)) ∧ (decode cL_law 368 = .ok (.invokevirtual 168, 3)) := by decide +kernel
theorem dL_law_350 : decode cL_law 350 = .ok (.aload_n 0, 1) := eL_law_350.1
theorem dL_law_351 : decode cL_law 351 = .ok (.iload 4, 2) := eL_law_350.2.1
theorem dL_law_353 : decode cL_law 353 = .ok (.iconst 1, 1) := eL_law_350.2.2.1
theorem dL_law_354 : decode cL_law 354 = .ok (.iadd, 1) := eL_law_350.2.2.2.1
theorem dL_law_355 : decode cL_law 355 = .ok (.iaload, 1) := eL_law_350.2.2.2.2.1
theorem dL_law_356 : decode cL_law 356 = .ok (.aload_n 0, 1) := eL_law_350.2.2.2.2.2.1
theorem dL_law_357 : decode cL_law 357 = .ok (.iload 4, 2) := eL_law_350.2.2.2.2.2.2.1
theorem dL_law_359 : decode cL_law 359 = .ok (.iconst 2, 1) := eL_law_350.2.2.2.2.2.2.2.1
theorem dL_law_360 : decode cL_law 360 = .ok (.iadd, 1) := eL_law_350.2.2.2.2.2.2.2.2.1
theorem dL_law_361 : decode cL_law 361 = .ok (.iaload, 1) := eL_law_350.2.2.2.2.2.2.2.2.2.1
theorem dL_law_362 : decode cL_law 362 = .ok (.aload_n 0, 1) := eL_law_350.2.2.2.2.2.2.2.2.2.2.1
theorem dL_law_363 : decode cL_law 363 = .ok (.iload 4, 2) := eL_law_350.2.2.2.2.2.2.2.2.2.2.2.1
theorem dL_law_365 : decode cL_law 365 = .ok (.iconst 3, 1) := eL_law_350.2.2.2.2.2.2.2.2.2.2.2.2.1
theorem dL_law_366 : decode cL_law 366 = .ok (.iadd, 1) := eL_law_350.2.2.2.2.2.2.2.2.2.2.2.2.2.1
theorem dL_law_367 : decode cL_law 367 = .ok (.iaload, 1) := eL_law_350.2.2.2.2.2.2.2.2.2.2.2.2.2.2.1
theorem dL_law_368 : decode cL_law 368 = .ok (.invokevirtual 168, 3) := eL_law_350.2.2.2.2.2.2.2.2.2.2.2.2.2.2.2
theorem eL_law_371 : (decode cL_law 371 = .ok (.istore 6, 2)) ∧ (decode cL_law 373 = .ok (.goto 1918, 3)) ∧ (decode cL_law 376 = .ok (.aload_n 1, 1)) ∧ (decode cL_law 377 = .ok (.aload_n 0, 1)) ∧ (decode cL_law 378 = .ok (.iload 4, 2)) ∧ (decode cL_law 380 = .ok (.iconst 1, 1)) ∧ (decode cL_law 381 = .ok (.iadd, 1)) ∧ (decode cL_law 382 = .ok (.iaload, 1)) ∧ (decode cL_law 383 = .ok (.aload_n 0, 1)) ∧ (decode cL_law 384 = .ok (.iload 4, 2)) ∧ (decode cL_law 386 = .ok (.iconst 2, 1)) ∧ (decode cL_law 387 = .ok (.iadd, 1)) ∧ (decode cL_law 388 = .ok (.iaload, 1)) ∧ (decode cL_law 389 = .ok (.aload_n 0, 1)) ∧ (decode cL_law 390 = .ok (.iload 4, 2)) ∧ (decode cL_law 392 = .ok (.iconst 3, 1)) := by decide +kernel
theorem dL_law_371 : decode cL_law 371 = .ok (.istore 6, 2) := eL_law_371.1
theorem dL_law_373 : decode cL_law 373 = .ok (.goto 1918, 3) := eL_law_371.2.1
theorem dL_law_376 : decode cL_law 376 = .ok (.aload_n 1, 1) := eL_law_371.2.2.1
theorem dL_law_377 : decode cL_law 377 = .ok (.aload_n 0, 1) := eL_law_371.2.2.2.1
theorem dL_law_378 : decode cL_law 378 = .ok (.iload 4, 2) := eL_law_371.2.2.2.2.1
theorem dL_law_380 : decode cL_law 380 = .ok (.iconst 1, 1) := eL_law_371.2.2.2.2.2.1
theorem dL_law_381 : decode cL_law 381 = .ok (.iadd, 1) := eL_law_371.2.2.2.2.2.2.1
theorem dL_law_382 : decode cL_law 382 = .ok (.iaload, 1) := eL_law_371.2.2.2.2.2.2.2.1
theorem dL_law_383 : decode cL_law 383 = .ok (.aload_n 0, 1) := eL_law_371.2.2.2.2.2.2.2.2.1
theorem dL_law_384 : decode cL_law 384 = .ok (.iload 4, 2) := eL_law_371.2.2.2.2.2.2.2.2.2.1
theorem dL_law_386 : decode cL_law 386 = .ok (.iconst 2, 1) := eL_law_371.2.2.2.2.2.2.2.2.2.2.1
theorem dL_law_387 : decode cL_law 387 = .ok (.iadd, 1) := eL_law_371.2.2.2.2.2.2.2.2.2.2.2.1
theorem dL_law_388 : decode cL_law 388 = .ok (.iaload, 1) := eL_law_371.2.2.2.2.2.2.2.2.2.2.2.2.1
theorem dL_law_389 : decode cL_law 389 = .ok (.aload_n 0, 1) := eL_law_371.2.2.2.2.2.2.2.2.2.2.2.2.2.1
theorem dL_law_390 : decode cL_law 390 = .ok (.iload 4, 2) := eL_law_371.2.2.2.2.2.2.2.2.2.2.2.2.2.2.1
theorem dL_law_392 : decode cL_law 392 = .ok (.iconst 3, 1) := eL_law_371.2.2.2.2.2.2.2.2.2.2.2.2.2.2.2
theorem eL_law_393 : (decode cL_law 393 = .ok (.iadd, 1)) ∧ (decode cL_law 394 = .ok (.iaload, 1)) ∧ (decode cL_law 395 = .ok (.aload_n 0, 1)) ∧ (decode cL_law 396 = .ok (.iload 4, 2)) ∧ (decode cL_law 398 = .ok (.iconst 4, 1)) ∧ (decode cL_law 399 = .ok (.iadd, 1)) ∧ (decode cL_law 400 = .ok (.iaload, 1)) ∧ (decode cL_law 401 = .ok (.aload_n 0, 1)) ∧ (decode cL_law 402 = .ok (.iload 4, 2)) ∧ (decode cL_law 404 = .ok (.iconst 5, 1)) ∧ (decode cL_law 405 = .ok (.iadd, 1)) ∧ (decode cL_law 406 = .ok (.iaload, 1)) ∧ (decode cL_law 407 = .ok (.aload_n 3, 1)) ∧ (decode cL_law 408 = .ok (.invokestatic 169, 3)) ∧ (decode cL_law 411 = .ok (.istore 5, 2)) ∧ (decode cL_law 413 = .ok (.aload_n 2, 1)) := by decide +kernel
theorem dL_law_393 : decode cL_law 393 = .ok (.iadd, 1) := eL_law_393.1
theorem dL_law_394 : decode cL_law 394 = .ok (.iaload, 1) := eL_law_393.2.1
theorem dL_law_395 : decode cL_law 395 = .ok (.aload_n 0, 1) := eL_law_393.2.2.1
theorem dL_law_396 : decode cL_law 396 = .ok (.iload 4, 2) := eL_law_393.2.2.2.1
theorem dL_law_398 : decode cL_law 398 = .ok (.iconst 4, 1) := eL_law_393.2.2.2.2.1
theorem dL_law_399 : decode cL_law 399 = .ok (.iadd, 1) := eL_law_393.2.2.2.2.2.1
theorem dL_law_400 : decode cL_law 400 = .ok (.iaload, 1) := eL_law_393.2.2.2.2.2.2.1
theorem dL_law_401 : decode cL_law 401 = .ok (.aload_n 0, 1) := eL_law_393.2.2.2.2.2.2.2.1
theorem dL_law_402 : decode cL_law 402 = .ok (.iload 4, 2) := eL_law_393.2.2.2.2.2.2.2.2.1
theorem dL_law_404 : decode cL_law 404 = .ok (.iconst 5, 1) := eL_law_393.2.2.2.2.2.2.2.2.2.1
theorem dL_law_405 : decode cL_law 405 = .ok (.iadd, 1) := eL_law_393.2.2.2.2.2.2.2.2.2.2.1
theorem dL_law_406 : decode cL_law 406 = .ok (.iaload, 1) := eL_law_393.2.2.2.2.2.2.2.2.2.2.2.1
theorem dL_law_407 : decode cL_law 407 = .ok (.aload_n 3, 1) := eL_law_393.2.2.2.2.2.2.2.2.2.2.2.2.1
theorem dL_law_408 : decode cL_law 408 = .ok (.invokestatic 169, 3) := eL_law_393.2.2.2.2.2.2.2.2.2.2.2.2.2.1
theorem dL_law_411 : decode cL_law 411 = .ok (.istore 5, 2) := eL_law_393.2.2.2.2.2.2.2.2.2.2.2.2.2.2.1
theorem dL_law_413 : decode cL_law 413 = .ok (.aload_n 2, 1) := eL_law_393.2.2.2.2.2.2.2.2.2.2.2.2.2.2.2
theorem eL_law_414 : (decode cL_law 414 = .ok (.aload_n 0, 1)) ∧ (decode cL_law 415 = .ok (.iload 4, 2)) ∧ (decode cL_law 417 = .ok (.iconst 1, 1)) ∧ (decode cL_law 418 = .ok (.iadd, 1)) ∧ (decode cL_law 419 = .ok (.iaload, 1)) ∧ (decode cL_law 420 = .ok (.aload_n 0, 1)) ∧ (decode cL_law 421 = .ok (.iload 4, 2)) ∧ (decode cL_law 423 = .ok (.iconst 2, 1)) ∧ (decode cL_law 424 = .ok (.iadd, 1)) ∧ (decode cL_law 425 = .ok (.iaload, 1)) ∧ (decode cL_law 426 = .ok (.aload_n 0, 1)) ∧ (decode cL_law 427 = .ok (.iload 4, 2)) ∧ (decode cL_law 429 = .ok (.iconst 3, 1)) ∧ (decode cL_law 430 = .ok (.iadd, 1)) ∧ (decode cL_law 431 = .ok (.iaload, 1)) ∧ (decode cL_law 432 = .ok (.aload_n 0, 1)) := by decide +kernel
theorem dL_law_414 : decode cL_law 414 = .ok (.aload_n 0, 1) := eL_law_414.1
theorem dL_law_415 : decode cL_law 415 = .ok (.iload 4, 2) := eL_law_414.2.1
theorem dL_law_417 : decode cL_law 417 = .ok (.iconst 1, 1) := eL_law_414.2.2.1
theorem dL_law_418 : decode cL_law 418 = .ok (.iadd, 1) := eL_law_414.2.2.2.1
theorem dL_law_419 : decode cL_law 419 = .ok (.iaload, 1) := eL_law_414.2.2.2.2.1
theorem dL_law_420 : decode cL_law 420 = .ok (.aload_n 0, 1) := eL_law_414.2.2.2.2.2.1
theorem dL_law_421 : decode cL_law 421 = .ok (.iload 4, 2) := eL_law_414.2.2.2.2.2.2.1
theorem dL_law_423 : decode cL_law 423 = .ok (.iconst 2, 1) := eL_law_414.2.2.2.2.2.2.2.1
theorem dL_law_424 : decode cL_law 424 = .ok (.iadd, 1) := eL_law_414.2.2.2.2.2.2.2.2.1
theorem dL_law_425 : decode cL_law 425 = .ok (.iaload, 1) := eL_law_414.2.2.2.2.2.2.2.2.2.1
theorem dL_law_426 : decode cL_law 426 = .ok (.aload_n 0, 1) := eL_law_414.2.2.2.2.2.2.2.2.2.2.1
theorem dL_law_427 : decode cL_law 427 = .ok (.iload 4, 2) := eL_law_414.2.2.2.2.2.2.2.2.2.2.2.1
theorem dL_law_429 : decode cL_law 429 = .ok (.iconst 3, 1) := eL_law_414.2.2.2.2.2.2.2.2.2.2.2.2.1
theorem dL_law_430 : decode cL_law 430 = .ok (.iadd, 1) := eL_law_414.2.2.2.2.2.2.2.2.2.2.2.2.2.1
theorem dL_law_431 : decode cL_law 431 = .ok (.iaload, 1) := eL_law_414.2.2.2.2.2.2.2.2.2.2.2.2.2.2.1
theorem dL_law_432 : decode cL_law 432 = .ok (.aload_n 0, 1) := eL_law_414.2.2.2.2.2.2.2.2.2.2.2.2.2.2.2
theorem eL_law_433 : (decode cL_law 433 = .ok (.iload 4, 2)) ∧ (decode cL_law 435 = .ok (.iconst 4, 1)) ∧ (decode cL_law 436 = .ok (.iadd, 1)) ∧ (decode cL_law 437 = .ok (.iaload, 1)) ∧ (decode cL_law 438 = .ok (.aload_n 0, 1)) ∧ (decode cL_law 439 = .ok (.iload 4, 2)) ∧ (decode cL_law 441 = .ok (.iconst 5, 1)) ∧ (decode cL_law 442 = .ok (.iadd, 1)) ∧ (decode cL_law 443 = .ok (.iaload, 1)) ∧ (decode cL_law 444 = .ok (.invokevirtual 172, 3)) ∧ (decode cL_law 447 = .ok (.istore 6, 2)) ∧ (decode cL_law 449 = .ok (.goto 1842, 3)) ∧ (decode cL_law 452 = .ok (.aload_n 1, 1)) ∧ (decode cL_law 453 = .ok (.aload_n 0, 1)) ∧ (decode cL_law 454 = .ok (.iload 4, 2)) ∧ (decode cL_law 456 = .ok (.iconst 1, 1)) := by decide +kernel
theorem dL_law_433 : decode cL_law 433 = .ok (.iload 4, 2) := eL_law_433.1
theorem dL_law_435 : decode cL_law 435 = .ok (.iconst 4, 1) := eL_law_433.2.1
theorem dL_law_436 : decode cL_law 436 = .ok (.iadd, 1) := eL_law_433.2.2.1
theorem dL_law_437 : decode cL_law 437 = .ok (.iaload, 1) := eL_law_433.2.2.2.1
theorem dL_law_438 : decode cL_law 438 = .ok (.aload_n 0, 1) := eL_law_433.2.2.2.2.1
theorem dL_law_439 : decode cL_law 439 = .ok (.iload 4, 2) := eL_law_433.2.2.2.2.2.1
theorem dL_law_441 : decode cL_law 441 = .ok (.iconst 5, 1) := eL_law_433.2.2.2.2.2.2.1
theorem dL_law_442 : decode cL_law 442 = .ok (.iadd, 1) := eL_law_433.2.2.2.2.2.2.2.1
theorem dL_law_443 : decode cL_law 443 = .ok (.iaload, 1) := eL_law_433.2.2.2.2.2.2.2.2.1
theorem dL_law_444 : decode cL_law 444 = .ok (.invokevirtual 172, 3) := eL_law_433.2.2.2.2.2.2.2.2.2.1
theorem dL_law_447 : decode cL_law 447 = .ok (.istore 6, 2) := eL_law_433.2.2.2.2.2.2.2.2.2.2.1
theorem dL_law_449 : decode cL_law 449 = .ok (.goto 1842, 3) := eL_law_433.2.2.2.2.2.2.2.2.2.2.2.1
theorem dL_law_452 : decode cL_law 452 = .ok (.aload_n 1, 1) := eL_law_433.2.2.2.2.2.2.2.2.2.2.2.2.1
theorem dL_law_453 : decode cL_law 453 = .ok (.aload_n 0, 1) := eL_law_433.2.2.2.2.2.2.2.2.2.2.2.2.2.1
theorem dL_law_454 : decode cL_law 454 = .ok (.iload 4, 2) := eL_law_433.2.2.2.2.2.2.2.2.2.2.2.2.2.2.1
theorem dL_law_456 : decode cL_law 456 = .ok (.iconst 1, 1) := eL_law_433.2.2.2.2.2.2.2.2.2.2.2.2.2.2.2
theorem eL_law_457 : (decode cL_law 457 = .ok (.iadd, 1)) ∧ (decode cL_law 458 = .ok (.iaload, 1)) ∧ (decode cL_law 459 = .ok (.aload_n 0, 1)) ∧ (decode cL_law 460 = .ok (.iload 4, 2)) ∧ (decode cL_law 462 = .ok (.iconst 2, 1)) ∧ (decode cL_law 463 = .ok (.iadd, 1)) ∧ (decode cL_law 464 = .ok (.iaload, 1)) ∧ (decode cL_law 465 = .ok (.aload_n 3, 1)) ∧ (decode cL_law 466 = .ok (.invokestatic 173, 3)) ∧ (decode cL_law 469 = .ok (.istore 5, 2)) ∧ (decode cL_law 471 = .ok (.aload_n 2, 1)) ∧ (decode cL_law 472 = .ok (.aload_n 0, 1)) ∧ (decode cL_law 473 = .ok (.iload 4, 2)) ∧ (decode cL_law 475 = .ok (.iconst 1, 1)) ∧ (decode cL_law 476 = .ok (.iadd, 1)) ∧ (decode cL_law 477 = .ok (.iaload, 1)) := by decide +kernel
theorem dL_law_457 : decode cL_law 457 = .ok (.iadd, 1) := eL_law_457.1
theorem dL_law_458 : decode cL_law 458 = .ok (.iaload, 1) := eL_law_457.2.1
theorem dL_law_459 : decode cL_law 459 = .ok (.aload_n 0, 1) := eL_law_457.2.2.1
theorem dL_law_460 : decode cL_law 460 = .ok (.iload 4, 2) := eL_law_457.2.2.2.1
theorem dL_law_462 : decode cL_law 462 = .ok (.iconst 2, 1) := eL_law_457.2.2.2.2.1
theorem dL_law_463 : decode cL_law 463 = .ok (.iadd, 1) := eL_law_457.2.2.2.2.2.1
theorem dL_law_464 : decode cL_law 464 = .ok (.iaload, 1) := eL_law_457.2.2.2.2.2.2.1
theorem dL_law_465 : decode cL_law 465 = .ok (.aload_n 3, 1) := eL_law_457.2.2.2.2.2.2.2.1
theorem dL_law_466 : decode cL_law 466 = .ok (.invokestatic 173, 3) := eL_law_457.2.2.2.2.2.2.2.2.1
theorem dL_law_469 : decode cL_law 469 = .ok (.istore 5, 2) := eL_law_457.2.2.2.2.2.2.2.2.2.1
theorem dL_law_471 : decode cL_law 471 = .ok (.aload_n 2, 1) := eL_law_457.2.2.2.2.2.2.2.2.2.2.1
theorem dL_law_472 : decode cL_law 472 = .ok (.aload_n 0, 1) := eL_law_457.2.2.2.2.2.2.2.2.2.2.2.1
theorem dL_law_473 : decode cL_law 473 = .ok (.iload 4, 2) := eL_law_457.2.2.2.2.2.2.2.2.2.2.2.2.1
theorem dL_law_475 : decode cL_law 475 = .ok (.iconst 1, 1) := eL_law_457.2.2.2.2.2.2.2.2.2.2.2.2.2.1
theorem dL_law_476 : decode cL_law 476 = .ok (.iadd, 1) := eL_law_457.2.2.2.2.2.2.2.2.2.2.2.2.2.2.1
theorem dL_law_477 : decode cL_law 477 = .ok (.iaload, 1) := eL_law_457.2.2.2.2.2.2.2.2.2.2.2.2.2.2.2
theorem eL_law_478 : (decode cL_law 478 = .ok (.aload_n 0, 1)) ∧ (decode cL_law 479 = .ok (.iload 4, 2)) ∧ (decode cL_law 481 = .ok (.iconst 2, 1)) ∧ (decode cL_law 482 = .ok (.iadd, 1)) ∧ (decode cL_law 483 = .ok (.iaload, 1)) ∧ (decode cL_law 484 = .ok (.invokevirtual 175, 3)) ∧ (decode cL_law 487 = .ok (.istore 6, 2)) ∧ (decode cL_law 489 = .ok (.goto 1802, 3)) ∧ (decode cL_law 492 = .ok (.aload_n 1, 1)) ∧ (decode cL_law 493 = .ok (.aload_n 0, 1)) ∧ (decode cL_law 494 = .ok (.iload 4, 2)) ∧ (decode cL_law 496 = .ok (.iconst 1, 1)) ∧ (decode cL_law 497 = .ok (.iadd, 1)) ∧ (decode cL_law 498 = .ok (.iaload, 1)) ∧ (decode cL_law 499 = .ok (.aload_n 0, 1)) ∧ (decode cL_law 500 = .ok (.iload 4, 2)) := by decide +kernel
theorem dL_law_478 : decode cL_law 478 = .ok (.aload_n 0, 1) := eL_law_478.1
theorem dL_law_479 : decode cL_law 479 = .ok (.iload 4, 2) := eL_law_478.2.1
theorem dL_law_481 : decode cL_law 481 = .ok (.iconst 2, 1) := eL_law_478.2.2.1
theorem dL_law_482 : decode cL_law 482 = .ok (.iadd, 1) := eL_law_478.2.2.2.1
theorem dL_law_483 : decode cL_law 483 = .ok (.iaload, 1) := eL_law_478.2.2.2.2.1
theorem dL_law_484 : decode cL_law 484 = .ok (.invokevirtual 175, 3) := eL_law_478.2.2.2.2.2.1
theorem dL_law_487 : decode cL_law 487 = .ok (.istore 6, 2) := eL_law_478.2.2.2.2.2.2.1
theorem dL_law_489 : decode cL_law 489 = .ok (.goto 1802, 3) := eL_law_478.2.2.2.2.2.2.2.1
theorem dL_law_492 : decode cL_law 492 = .ok (.aload_n 1, 1) := eL_law_478.2.2.2.2.2.2.2.2.1
theorem dL_law_493 : decode cL_law 493 = .ok (.aload_n 0, 1) := eL_law_478.2.2.2.2.2.2.2.2.2.1
theorem dL_law_494 : decode cL_law 494 = .ok (.iload 4, 2) := eL_law_478.2.2.2.2.2.2.2.2.2.2.1
theorem dL_law_496 : decode cL_law 496 = .ok (.iconst 1, 1) := eL_law_478.2.2.2.2.2.2.2.2.2.2.2.1
theorem dL_law_497 : decode cL_law 497 = .ok (.iadd, 1) := eL_law_478.2.2.2.2.2.2.2.2.2.2.2.2.1
theorem dL_law_498 : decode cL_law 498 = .ok (.iaload, 1) := eL_law_478.2.2.2.2.2.2.2.2.2.2.2.2.2.1
theorem dL_law_499 : decode cL_law 499 = .ok (.aload_n 0, 1) := eL_law_478.2.2.2.2.2.2.2.2.2.2.2.2.2.2.1
theorem dL_law_500 : decode cL_law 500 = .ok (.iload 4, 2) := eL_law_478.2.2.2.2.2.2.2.2.2.2.2.2.2.2.2
theorem eL_law_502 : (decode cL_law 502 = .ok (.iconst 2, 1)) ∧ (decode cL_law 503 = .ok (.iadd, 1)) ∧ (decode cL_law 504 = .ok (.iaload, 1)) ∧ (decode cL_law 505 = .ok (.aload_n 0, 1)) ∧ (decode cL_law 506 = .ok (.iload 4, 2)) ∧ (decode cL_law 508 = .ok (.iconst 3, 1)) ∧ (decode cL_law 509 = .ok (.iadd, 1)) ∧ (decode cL_law 510 = .ok (.iaload, 1)) ∧ (decode cL_law 511 = .ok (.ifCond .eq 7, 3)) ∧ (decode cL_law 514 = .ok (.iconst 1, 1)) ∧ (decode cL_law 515 = .ok (.goto 4, 3)) ∧ (decode cL_law 518 = .ok (.iconst 0, 1)) ∧ (decode cL_law 519 = .ok (.aload_n 3, 1)) ∧ (decode cL_law 520 = .ok (.invokestatic 176, 3)) ∧ (decode cL_law 523 = .ok (.istore 5, 2)) ∧ (decode cL_law 525 = .ok (.aload_n 2, 1)) := by decide +kernel
theorem dL_law_502 : decode cL_law 502 = .ok (.iconst 2, 1) := eL_law_502.1
theorem dL_law_503 : decode cL_law 503 = .ok (.iadd, 1) := eL_law_502.2.1
theorem dL_law_504 : decode cL_law 504 = .ok (.iaload, 1) := eL_law_502.2.2.1
theorem dL_law_505 : decode cL_law 505 = .ok (.aload_n 0, 1) := eL_law_502.2.2.2.1
theorem dL_law_506 : decode cL_law 506 = .ok (.iload 4, 2) := eL_law_502.2.2.2.2.1
theorem dL_law_508 : decode cL_law 508 = .ok (.iconst 3, 1) := eL_law_502.2.2.2.2.2.1
theorem dL_law_509 : decode cL_law 509 = .ok (.iadd, 1) := eL_law_502.2.2.2.2.2.2.1
theorem dL_law_510 : decode cL_law 510 = .ok (.iaload, 1) := eL_law_502.2.2.2.2.2.2.2.1
theorem dL_law_511 : decode cL_law 511 = .ok (.ifCond .eq 7, 3) := eL_law_502.2.2.2.2.2.2.2.2.1
theorem dL_law_514 : decode cL_law 514 = .ok (.iconst 1, 1) := eL_law_502.2.2.2.2.2.2.2.2.2.1
theorem dL_law_515 : decode cL_law 515 = .ok (.goto 4, 3) := eL_law_502.2.2.2.2.2.2.2.2.2.2.1
theorem dL_law_518 : decode cL_law 518 = .ok (.iconst 0, 1) := eL_law_502.2.2.2.2.2.2.2.2.2.2.2.1
theorem dL_law_519 : decode cL_law 519 = .ok (.aload_n 3, 1) := eL_law_502.2.2.2.2.2.2.2.2.2.2.2.2.1
theorem dL_law_520 : decode cL_law 520 = .ok (.invokestatic 176, 3) := eL_law_502.2.2.2.2.2.2.2.2.2.2.2.2.2.1
theorem dL_law_523 : decode cL_law 523 = .ok (.istore 5, 2) := eL_law_502.2.2.2.2.2.2.2.2.2.2.2.2.2.2.1
theorem dL_law_525 : decode cL_law 525 = .ok (.aload_n 2, 1) := eL_law_502.2.2.2.2.2.2.2.2.2.2.2.2.2.2.2
theorem eL_law_526 : (decode cL_law 526 = .ok (.aload_n 0, 1)) ∧ (decode cL_law 527 = .ok (.iload 4, 2)) ∧ (decode cL_law 529 = .ok (.iconst 1, 1)) ∧ (decode cL_law 530 = .ok (.iadd, 1)) ∧ (decode cL_law 531 = .ok (.iaload, 1)) ∧ (decode cL_law 532 = .ok (.aload_n 0, 1)) ∧ (decode cL_law 533 = .ok (.iload 4, 2)) ∧ (decode cL_law 535 = .ok (.iconst 2, 1)) ∧ (decode cL_law 536 = .ok (.iadd, 1)) ∧ (decode cL_law 537 = .ok (.iaload, 1)) ∧ (decode cL_law 538 = .ok (.aload_n 0, 1)) ∧ (decode cL_law 539 = .ok (.iload 4, 2)) ∧ (decode cL_law 541 = .ok (.iconst 3, 1)) ∧ (decode cL_law 542 = .ok (.iadd, 1)) ∧ (decode cL_law 543 = .ok (.iaload, 1)) ∧ (decode cL_law 544 = .ok (.ifCond .eq 7, 3)) := by decide +kernel
theorem dL_law_526 : decode cL_law 526 = .ok (.aload_n 0, 1) := eL_law_526.1
theorem dL_law_527 : decode cL_law 527 = .ok (.iload 4, 2) := eL_law_526.2.1
theorem dL_law_529 : decode cL_law 529 = .ok (.iconst 1, 1) := eL_law_526.2.2.1
theorem dL_law_530 : decode cL_law 530 = .ok (.iadd, 1) := eL_law_526.2.2.2.1
theorem dL_law_531 : decode cL_law 531 = .ok (.iaload, 1) := eL_law_526.2.2.2.2.1
theorem dL_law_532 : decode cL_law 532 = .ok (.aload_n 0, 1) := eL_law_526.2.2.2.2.2.1
theorem dL_law_533 : decode cL_law 533 = .ok (.iload 4, 2) := eL_law_526.2.2.2.2.2.2.1
theorem dL_law_535 : decode cL_law 535 = .ok (.iconst 2, 1) := eL_law_526.2.2.2.2.2.2.2.1
theorem dL_law_536 : decode cL_law 536 = .ok (.iadd, 1) := eL_law_526.2.2.2.2.2.2.2.2.1
theorem dL_law_537 : decode cL_law 537 = .ok (.iaload, 1) := eL_law_526.2.2.2.2.2.2.2.2.2.1
theorem dL_law_538 : decode cL_law 538 = .ok (.aload_n 0, 1) := eL_law_526.2.2.2.2.2.2.2.2.2.2.1
theorem dL_law_539 : decode cL_law 539 = .ok (.iload 4, 2) := eL_law_526.2.2.2.2.2.2.2.2.2.2.2.1
theorem dL_law_541 : decode cL_law 541 = .ok (.iconst 3, 1) := eL_law_526.2.2.2.2.2.2.2.2.2.2.2.2.1
theorem dL_law_542 : decode cL_law 542 = .ok (.iadd, 1) := eL_law_526.2.2.2.2.2.2.2.2.2.2.2.2.2.1
theorem dL_law_543 : decode cL_law 543 = .ok (.iaload, 1) := eL_law_526.2.2.2.2.2.2.2.2.2.2.2.2.2.2.1
theorem dL_law_544 : decode cL_law 544 = .ok (.ifCond .eq 7, 3) := eL_law_526.2.2.2.2.2.2.2.2.2.2.2.2.2.2.2
theorem eL_law_547 : (decode cL_law 547 = .ok (.iconst 1, 1)) ∧ (decode cL_law 548 = .ok (.goto 4, 3)) ∧ (decode cL_law 551 = .ok (.iconst 0, 1)) ∧ (decode cL_law 552 = .ok (.invokevirtual 179, 3)) ∧ (decode cL_law 555 = .ok (.istore 6, 2)) ∧ (decode cL_law 557 = .ok (.goto 1734, 3)) ∧ (decode cL_law 560 = .ok (.aload_n 1, 1)) ∧ (decode cL_law 561 = .ok (.aload_n 0, 1)) ∧ (decode cL_law 562 = .ok (.iload 4, 2)) ∧ (decode cL_law 564 = .ok (.iconst 1, 1)) ∧ (decode cL_law 565 = .ok (.iadd, 1)) ∧ (decode cL_law 566 = .ok (.iaload, 1)) ∧ (decode cL_law 567 = .ok (.aload_n 0, 1)) ∧ (decode cL_law 568 = .ok (.iload 4, 2)) ∧ (decode cL_law 570 = .ok (.iconst 2, 1)) ∧ (decode cL_law 571 = .ok (.iadd, 1)) := by decide +kernel
theorem dL_law_547 : decode cL_law 547 = .ok (.iconst 1, 1) := eL_law_547.1
theorem dL_law_548 : decode cL_law 548 = .ok (.goto 4, 3) := eL_law_547.2.1
theorem dL_law_551 : decode cL_law 551 = .ok (.iconst 0, 1) := eL_law_547.2.2.1
theorem dL_law_552 : decode cL_law 552 = .ok (.invokevirtual 179, 3) := eL_law_547.2.2.2.1
theorem dL_law_555 : decode cL_law 555 = .ok (.istore 6, 2) := eL_law_547.2.2.2.2.1
theorem dL_law_557 : decode cL_law 557 = .ok (.goto 1734, 3) := eL_law_547.2.2.2.2.2.1
theorem dL_law_560 : decode cL_law 560 = .ok (.aload_n 1, 1) := eL_law_547.2.2.2.2.2.2.1
theorem dL_law_561 : decode cL_law 561 = .ok (.aload_n 0, 1) := eL_law_547.2.2.2.2.2.2.2.1
theorem dL_law_562 : decode cL_law 562 = .ok (.iload 4, 2) := eL_law_547.2.2.2.2.2.2.2.2.1
theorem dL_law_564 : decode cL_law 564 = .ok (.iconst 1, 1) := eL_law_547.2.2.2.2.2.2.2.2.2.1
theorem dL_law_565 : decode cL_law 565 = .ok (.iadd, 1) := eL_law_547.2.2.2.2.2.2.2.2.2.2.1
theorem dL_law_566 : decode cL_law 566 = .ok (.iaload, 1) := eL_law_547.2.2.2.2.2.2.2.2.2.2.2.1
theorem dL_law_567 : decode cL_law 567 = .ok (.aload_n 0, 1) := eL_law_547.2.2.2.2.2.2.2.2.2.2.2.2.1
theorem dL_law_568 : decode cL_law 568 = .ok (.iload 4, 2) := eL_law_547.2.2.2.2.2.2.2.2.2.2.2.2.2.1
theorem dL_law_570 : decode cL_law 570 = .ok (.iconst 2, 1) := eL_law_547.2.2.2.2.2.2.2.2.2.2.2.2.2.2.1
theorem dL_law_571 : decode cL_law 571 = .ok (.iadd, 1) := eL_law_547.2.2.2.2.2.2.2.2.2.2.2.2.2.2.2
theorem eL_law_572 : (decode cL_law 572 = .ok (.iaload, 1)) ∧ (decode cL_law 573 = .ok (.aload_n 0, 1)) ∧ (decode cL_law 574 = .ok (.iload 4, 2)) ∧ (decode cL_law 576 = .ok (.iconst 3, 1)) ∧ (decode cL_law 577 = .ok (.iadd, 1)) ∧ (decode cL_law 578 = .ok (.iaload, 1)) ∧ (decode cL_law 579 = .ok (.aload_n 0, 1)) ∧ (decode cL_law 580 = .ok (.iload 4, 2)) ∧ (decode cL_law 582 = .ok (.iconst 4, 1)) ∧ (decode cL_law 583 = .ok (.iadd, 1)) ∧ (decode cL_law 584 = .ok (.iaload, 1)) ∧ (decode cL_law 585 = .ok (.aload_n 3, 1)) ∧ (decode cL_law 586 = .ok (.invokestatic 180, 3)) ∧ (decode cL_law 589 = .ok (.istore 5, 2)) ∧ (decode cL_law 591 = .ok (.aload_n 2, 1)) ∧ (decode cL_law 592 = .ok (.aload_n 0, 1)) := by decide +kernel
theorem dL_law_572 : decode cL_law 572 = .ok (.iaload, 1) := eL_law_572.1
theorem dL_law_573 : decode cL_law 573 = .ok (.aload_n 0, 1) := eL_law_572.2.1
theorem dL_law_574 : decode cL_law 574 = .ok (.iload 4, 2) := eL_law_572.2.2.1
theorem dL_law_576 : decode cL_law 576 = .ok (.iconst 3, 1) := eL_law_572.2.2.2.1
theorem dL_law_577 : decode cL_law 577 = .ok (.iadd, 1) := eL_law_572.2.2.2.2.1
theorem dL_law_578 : decode cL_law 578 = .ok (.iaload, 1) := eL_law_572.2.2.2.2.2.1
theorem dL_law_579 : decode cL_law 579 = .ok (.aload_n 0, 1) := eL_law_572.2.2.2.2.2.2.1
theorem dL_law_580 : decode cL_law 580 = .ok (.iload 4, 2) := eL_law_572.2.2.2.2.2.2.2.1
theorem dL_law_582 : decode cL_law 582 = .ok (.iconst 4, 1) := eL_law_572.2.2.2.2.2.2.2.2.1
theorem dL_law_583 : decode cL_law 583 = .ok (.iadd, 1) := eL_law_572.2.2.2.2.2.2.2.2.2.1
theorem dL_law_584 : decode cL_law 584 = .ok (.iaload, 1) := eL_law_572.2.2.2.2.2.2.2.2.2.2.1
theorem dL_law_585 : decode cL_law 585 = .ok (.aload_n 3, 1) := eL_law_572.2.2.2.2.2.2.2.2.2.2.2.1
theorem dL_law_586 : decode cL_law 586 = .ok (.invokestatic 180, 3) := eL_law_572.2.2.2.2.2.2.2.2.2.2.2.2.1
theorem dL_law_589 : decode cL_law 589 = .ok (.istore 5, 2) := eL_law_572.2.2.2.2.2.2.2.2.2.2.2.2.2.1
theorem dL_law_591 : decode cL_law 591 = .ok (.aload_n 2, 1) := eL_law_572.2.2.2.2.2.2.2.2.2.2.2.2.2.2.1
theorem dL_law_592 : decode cL_law 592 = .ok (.aload_n 0, 1) := eL_law_572.2.2.2.2.2.2.2.2.2.2.2.2.2.2.2
theorem eL_law_593 : (decode cL_law 593 = .ok (.iload 4, 2)) ∧ (decode cL_law 595 = .ok (.iconst 1, 1)) ∧ (decode cL_law 596 = .ok (.iadd, 1)) ∧ (decode cL_law 597 = .ok (.iaload, 1)) ∧ (decode cL_law 598 = .ok (.aload_n 0, 1)) ∧ (decode cL_law 599 = .ok (.iload 4, 2)) ∧ (decode cL_law 601 = .ok (.iconst 2, 1)) ∧ (decode cL_law 602 = .ok (.iadd, 1)) ∧ (decode cL_law 603 = .ok (.iaload, 1)) ∧ (decode cL_law 604 = .ok (.aload_n 0, 1)) ∧ (decode cL_law 605 = .ok (.iload 4, 2)) ∧ (decode cL_law 607 = .ok (.iconst 3, 1)) ∧ (decode cL_law 608 = .ok (.iadd, 1)) ∧ (decode cL_law 609 = .ok (.iaload, 1)) ∧ (decode cL_law 610 = .ok (.aload_n 0, 1)) ∧ (decode cL_law 611 = .ok (.iload 4, 2)) := by decide +kernel
theorem dL_law_593 : decode cL_law 593 = .ok (.iload 4, 2) := eL_law_593.1
theorem dL_law_595 : decode cL_law 595 = .ok (.iconst 1, 1) := eL_law_593.2.1
theorem dL_law_596 : decode cL_law 596 = .ok (.iadd, 1) := eL_law_593.2.2.1
theorem dL_law_597 : decode cL_law 597 = .ok (.iaload, 1) := eL_law_593.2.2.2.1
theorem dL_law_598 : decode cL_law 598 = .ok (.aload_n 0, 1) := eL_law_593.2.2.2.2.1
theorem dL_law_599 : decode cL_law 599 = .ok (.iload 4, 2) := eL_law_593.2.2.2.2.2.1
theorem dL_law_601 : decode cL_law 601 = .ok (.iconst 2, 1) := eL_law_593.2.2.2.2.2.2.1
theorem dL_law_602 : decode cL_law 602 = .ok (.iadd, 1) := eL_law_593.2.2.2.2.2.2.2.1
theorem dL_law_603 : decode cL_law 603 = .ok (.iaload, 1) := eL_law_593.2.2.2.2.2.2.2.2.1
theorem dL_law_604 : decode cL_law 604 = .ok (.aload_n 0, 1) := eL_law_593.2.2.2.2.2.2.2.2.2.1
theorem dL_law_605 : decode cL_law 605 = .ok (.iload 4, 2) := eL_law_593.2.2.2.2.2.2.2.2.2.2.1
theorem dL_law_607 : decode cL_law 607 = .ok (.iconst 3, 1) := eL_law_593.2.2.2.2.2.2.2.2.2.2.2.1
theorem dL_law_608 : decode cL_law 608 = .ok (.iadd, 1) := eL_law_593.2.2.2.2.2.2.2.2.2.2.2.2.1
theorem dL_law_609 : decode cL_law 609 = .ok (.iaload, 1) := eL_law_593.2.2.2.2.2.2.2.2.2.2.2.2.2.1
theorem dL_law_610 : decode cL_law 610 = .ok (.aload_n 0, 1) := eL_law_593.2.2.2.2.2.2.2.2.2.2.2.2.2.2.1
theorem dL_law_611 : decode cL_law 611 = .ok (.iload 4, 2) := eL_law_593.2.2.2.2.2.2.2.2.2.2.2.2.2.2.2
theorem eL_law_613 : (decode cL_law 613 = .ok (.iconst 4, 1)) ∧ (decode cL_law 614 = .ok (.iadd, 1)) ∧ (decode cL_law 615 = .ok (.iaload, 1)) ∧ (decode cL_law 616 = .ok (.invokevirtual 183, 3)) ∧ (decode cL_law 619 = .ok (.istore 6, 2)) ∧ (decode cL_law 621 = .ok (.goto 1670, 3)) ∧ (decode cL_law 624 = .ok (.aload_n 1, 1)) ∧ (decode cL_law 625 = .ok (.aload_n 0, 1)) ∧ (decode cL_law 626 = .ok (.iload 4, 2)) ∧ (decode cL_law 628 = .ok (.iconst 1, 1)) ∧ (decode cL_law 629 = .ok (.iadd, 1)) ∧ (decode cL_law 630 = .ok (.iaload, 1)) ∧ (decode cL_law 631 = .ok (.aload_n 0, 1)) ∧ (decode cL_law 632 = .ok (.iload 4, 2)) ∧ (decode cL_law 634 = .ok (.iconst 2, 1)) ∧ (decode cL_law 635 = .ok (.iadd, 1)) := by decide +kernel
theorem dL_law_613 : decode cL_law 613 = .ok (.iconst 4, 1) := eL_law_613.1
theorem dL_law_614 : decode cL_law 614 = .ok (.iadd, 1) := eL_law_613.2.1
theorem dL_law_615 : decode cL_law 615 = .ok (.iaload, 1) := eL_law_613.2.2.1
theorem dL_law_616 : decode cL_law 616 = .ok (.invokevirtual 183, 3) := eL_law_613.2.2.2.1
theorem dL_law_619 : decode cL_law 619 = .ok (.istore 6, 2) := eL_law_613.2.2.2.2.1
theorem dL_law_621 : decode cL_law 621 = .ok (.goto 1670, 3) := eL_law_613.2.2.2.2.2.1
theorem dL_law_624 : decode cL_law 624 = .ok (.aload_n 1, 1) := eL_law_613.2.2.2.2.2.2.1
theorem dL_law_625 : decode cL_law 625 = .ok (.aload_n 0, 1) := eL_law_613.2.2.2.2.2.2.2.1
theorem dL_law_626 : decode cL_law 626 = .ok (.iload 4, 2) := eL_law_613.2.2.2.2.2.2.2.2.1
theorem dL_law_628 : decode cL_law 628 = .ok (.iconst 1, 1) := eL_law_613.2.2.2.2.2.2.2.2.2.1
theorem dL_law_629 : decode cL_law 629 = .ok (.iadd, 1) := eL_law_613.2.2.2.2.2.2.2.2.2.2.1
theorem dL_law_630 : decode cL_law 630 = .ok (.iaload, 1) := eL_law_613.2.2.2.2.2.2.2.2.2.2.2.1
theorem dL_law_631 : decode cL_law 631 = .ok (.aload_n 0, 1) := eL_law_613.2.2.2.2.2.2.2.2.2.2.2.2.1
theorem dL_law_632 : decode cL_law 632 = .ok (.iload 4, 2) := eL_law_613.2.2.2.2.2.2.2.2.2.2.2.2.2.1
theorem dL_law_634 : decode cL_law 634 = .ok (.iconst 2, 1) := eL_law_613.2.2.2.2.2.2.2.2.2.2.2.2.2.2.1
theorem dL_law_635 : decode cL_law 635 = .ok (.iadd, 1) := eL_law_613.2.2.2.2.2.2.2.2.2.2.2.2.2.2.2
theorem eL_law_636 : (decode cL_law 636 = .ok (.iaload, 1)) ∧ (decode cL_law 637 = .ok (.aload_n 0, 1)) ∧ (decode cL_law 638 = .ok (.iload 4, 2)) ∧ (decode cL_law 640 = .ok (.iconst 3, 1)) ∧ (decode cL_law 641 = .ok (.iadd, 1)) ∧ (decode cL_law 642 = .ok (.iaload, 1)) ∧ (decode cL_law 643 = .ok (.aload_n 0, 1)) ∧ (decode cL_law 644 = .ok (.iload 4, 2)) ∧ (decode cL_law 646 = .ok (.iconst 4, 1)) ∧ (decode cL_law 647 = .ok (.iadd, 1)) ∧ (decode cL_law 648 = .ok (.iaload, 1)) ∧ (decode cL_law 649 = .ok (.aload_n 3, 1)) ∧ (decode cL_law 650 = .ok (.invokestatic 184, 3)) ∧ (decode cL_law 653 = .ok (.istore 5, 2)) ∧ (decode cL_law 655 = .ok (.aload_n 2, 1)) ∧ (decode cL_law 656 = .ok (.aload_n 0, 1)) := by decide +kernel
theorem dL_law_636 : decode cL_law 636 = .ok (.iaload, 1) := eL_law_636.1
theorem dL_law_637 : decode cL_law 637 = .ok (.aload_n 0, 1) := eL_law_636.2.1
theorem dL_law_638 : decode cL_law 638 = .ok (.iload 4, 2) := eL_law_636.2.2.1
theorem dL_law_640 : decode cL_law 640 = .ok (.iconst 3, 1) := eL_law_636.2.2.2.1
theorem dL_law_641 : decode cL_law 641 = .ok (.iadd, 1) := eL_law_636.2.2.2.2.1
theorem dL_law_642 : decode cL_law 642 = .ok (.iaload, 1) := eL_law_636.2.2.2.2.2.1
theorem dL_law_643 : decode cL_law 643 = .ok (.aload_n 0, 1) := eL_law_636.2.2.2.2.2.2.1
theorem dL_law_644 : decode cL_law 644 = .ok (.iload 4, 2) := eL_law_636.2.2.2.2.2.2.2.1
theorem dL_law_646 : decode cL_law 646 = .ok (.iconst 4, 1) := eL_law_636.2.2.2.2.2.2.2.2.1
theorem dL_law_647 : decode cL_law 647 = .ok (.iadd, 1) := eL_law_636.2.2.2.2.2.2.2.2.2.1
theorem dL_law_648 : decode cL_law 648 = .ok (.iaload, 1) := eL_law_636.2.2.2.2.2.2.2.2.2.2.1
theorem dL_law_649 : decode cL_law 649 = .ok (.aload_n 3, 1) := eL_law_636.2.2.2.2.2.2.2.2.2.2.2.1
theorem dL_law_650 : decode cL_law 650 = .ok (.invokestatic 184, 3) := eL_law_636.2.2.2.2.2.2.2.2.2.2.2.2.1
theorem dL_law_653 : decode cL_law 653 = .ok (.istore 5, 2) := eL_law_636.2.2.2.2.2.2.2.2.2.2.2.2.2.1
theorem dL_law_655 : decode cL_law 655 = .ok (.aload_n 2, 1) := eL_law_636.2.2.2.2.2.2.2.2.2.2.2.2.2.2.1
theorem dL_law_656 : decode cL_law 656 = .ok (.aload_n 0, 1) := eL_law_636.2.2.2.2.2.2.2.2.2.2.2.2.2.2.2
theorem eL_law_657 : (decode cL_law 657 = .ok (.iload 4, 2)) ∧ (decode cL_law 659 = .ok (.iconst 1, 1)) ∧ (decode cL_law 660 = .ok (.iadd, 1)) ∧ (decode cL_law 661 = .ok (.iaload, 1)) ∧ (decode cL_law 662 = .ok (.aload_n 0, 1)) ∧ (decode cL_law 663 = .ok (.iload 4, 2)) ∧ (decode cL_law 665 = .ok (.iconst 2, 1)) ∧ (decode cL_law 666 = .ok (.iadd, 1)) ∧ (decode cL_law 667 = .ok (.iaload, 1)) ∧ (decode cL_law 668 = .ok (.aload_n 0, 1)) ∧ (decode cL_law 669 = .ok (.iload 4, 2)) ∧ (decode cL_law 671 = .ok (.iconst 3, 1)) ∧ (decode cL_law 672 = .ok (.iadd, 1)) ∧ (decode cL_law 673 = .ok (.iaload, 1)) ∧ (decode cL_law 674 = .ok (.aload_n 0, 1)) ∧ (decode cL_law 675 = .ok (.iload 4, 2)) := by decide +kernel
theorem dL_law_657 : decode cL_law 657 = .ok (.iload 4, 2) := eL_law_657.1
theorem dL_law_659 : decode cL_law 659 = .ok (.iconst 1, 1) := eL_law_657.2.1
theorem dL_law_660 : decode cL_law 660 = .ok (.iadd, 1) := eL_law_657.2.2.1
theorem dL_law_661 : decode cL_law 661 = .ok (.iaload, 1) := eL_law_657.2.2.2.1
theorem dL_law_662 : decode cL_law 662 = .ok (.aload_n 0, 1) := eL_law_657.2.2.2.2.1
theorem dL_law_663 : decode cL_law 663 = .ok (.iload 4, 2) := eL_law_657.2.2.2.2.2.1
theorem dL_law_665 : decode cL_law 665 = .ok (.iconst 2, 1) := eL_law_657.2.2.2.2.2.2.1
theorem dL_law_666 : decode cL_law 666 = .ok (.iadd, 1) := eL_law_657.2.2.2.2.2.2.2.1
theorem dL_law_667 : decode cL_law 667 = .ok (.iaload, 1) := eL_law_657.2.2.2.2.2.2.2.2.1
theorem dL_law_668 : decode cL_law 668 = .ok (.aload_n 0, 1) := eL_law_657.2.2.2.2.2.2.2.2.2.1
theorem dL_law_669 : decode cL_law 669 = .ok (.iload 4, 2) := eL_law_657.2.2.2.2.2.2.2.2.2.2.1
theorem dL_law_671 : decode cL_law 671 = .ok (.iconst 3, 1) := eL_law_657.2.2.2.2.2.2.2.2.2.2.2.1
theorem dL_law_672 : decode cL_law 672 = .ok (.iadd, 1) := eL_law_657.2.2.2.2.2.2.2.2.2.2.2.2.1
theorem dL_law_673 : decode cL_law 673 = .ok (.iaload, 1) := eL_law_657.2.2.2.2.2.2.2.2.2.2.2.2.2.1
theorem dL_law_674 : decode cL_law 674 = .ok (.aload_n 0, 1) := eL_law_657.2.2.2.2.2.2.2.2.2.2.2.2.2.2.1
theorem dL_law_675 : decode cL_law 675 = .ok (.iload 4, 2) := eL_law_657.2.2.2.2.2.2.2.2.2.2.2.2.2.2.2
theorem eL_law_677 : (decode cL_law 677 = .ok (.iconst 4, 1)) ∧ (decode cL_law 678 = .ok (.iadd, 1)) ∧ (decode cL_law 679 = .ok (.iaload, 1)) ∧ (decode cL_law 680 = .ok (.invokevirtual 186, 3)) ∧ (decode cL_law 683 = .ok (.istore 6, 2)) ∧ (decode cL_law 685 = .ok (.goto 1606, 3)) ∧ (decode cL_law 688 = .ok (.aload_n 1, 1)) ∧ (decode cL_law 689 = .ok (.aload_n 0, 1)) ∧ (decode cL_law 690 = .ok (.iload 4, 2)) ∧ (decode cL_law 692 = .ok (.iconst 1, 1)) ∧ (decode cL_law 693 = .ok (.iadd, 1)) ∧ (decode cL_law 694 = .ok (.iaload, 1)) ∧ (decode cL_law 695 = .ok (.aload_n 0, 1)) ∧ (decode cL_law 696 = .ok (.iload 4, 2)) ∧ (decode cL_law 698 = .ok (.iconst 2, 1)) ∧ (decode cL_law 699 = .ok (.iadd, 1)) := by decide +kernel
theorem dL_law_677 : decode cL_law 677 = .ok (.iconst 4, 1) := eL_law_677.1
theorem dL_law_678 : decode cL_law 678 = .ok (.iadd, 1) := eL_law_677.2.1
theorem dL_law_679 : decode cL_law 679 = .ok (.iaload, 1) := eL_law_677.2.2.1
theorem dL_law_680 : decode cL_law 680 = .ok (.invokevirtual 186, 3) := eL_law_677.2.2.2.1
theorem dL_law_683 : decode cL_law 683 = .ok (.istore 6, 2) := eL_law_677.2.2.2.2.1
theorem dL_law_685 : decode cL_law 685 = .ok (.goto 1606, 3) := eL_law_677.2.2.2.2.2.1
theorem dL_law_688 : decode cL_law 688 = .ok (.aload_n 1, 1) := eL_law_677.2.2.2.2.2.2.1
theorem dL_law_689 : decode cL_law 689 = .ok (.aload_n 0, 1) := eL_law_677.2.2.2.2.2.2.2.1
theorem dL_law_690 : decode cL_law 690 = .ok (.iload 4, 2) := eL_law_677.2.2.2.2.2.2.2.2.1
theorem dL_law_692 : decode cL_law 692 = .ok (.iconst 1, 1) := eL_law_677.2.2.2.2.2.2.2.2.2.1
theorem dL_law_693 : decode cL_law 693 = .ok (.iadd, 1) := eL_law_677.2.2.2.2.2.2.2.2.2.2.1
theorem dL_law_694 : decode cL_law 694 = .ok (.iaload, 1) := eL_law_677.2.2.2.2.2.2.2.2.2.2.2.1
theorem dL_law_695 : decode cL_law 695 = .ok (.aload_n 0, 1) := eL_law_677.2.2.2.2.2.2.2.2.2.2.2.2.1
theorem dL_law_696 : decode cL_law 696 = .ok (.iload 4, 2) := eL_law_677.2.2.2.2.2.2.2.2.2.2.2.2.2.1
theorem dL_law_698 : decode cL_law 698 = .ok (.iconst 2, 1) := eL_law_677.2.2.2.2.2.2.2.2.2.2.2.2.2.2.1
theorem dL_law_699 : decode cL_law 699 = .ok (.iadd, 1) := eL_law_677.2.2.2.2.2.2.2.2.2.2.2.2.2.2.2
theorem eL_law_700 : (decode cL_law 700 = .ok (.iaload, 1)) ∧ (decode cL_law 701 = .ok (.aload_n 3, 1)) ∧ (decode cL_law 702 = .ok (.invokestatic 187, 3)) ∧ (decode cL_law 705 = .ok (.istore 5, 2)) ∧ (decode cL_law 707 = .ok (.aload_n 2, 1)) ∧ (decode cL_law 708 = .ok (.aload_n 0, 1)) ∧ (decode cL_law 709 = .ok (.iload 4, 2)) ∧ (decode cL_law 711 = .ok (.iconst 1, 1)) ∧ (decode cL_law 712 = .ok (.iadd, 1)) ∧ (decode cL_law 713 = .ok (.iaload, 1)) ∧ (decode cL_law 714 = .ok (.aload_n 0, 1)) ∧ (decode cL_law 715 = .ok (.iload 4, 2)) ∧ (decode cL_law 717 = .ok (.iconst 2, 1)) ∧ (decode cL_law 718 = .ok (.iadd, 1)) ∧ (decode cL_law 719 = .ok (.iaload, 1)) ∧ (decode cL_law 720 = .ok (.invokevirtual 189, 3)) := by decide +kernel
theorem dL_law_700 : decode cL_law 700 = .ok (.iaload, 1) := eL_law_700.1
theorem dL_law_701 : decode cL_law 701 = .ok (.aload_n 3, 1) := eL_law_700.2.1
theorem dL_law_702 : decode cL_law 702 = .ok (.invokestatic 187, 3) := eL_law_700.2.2.1
theorem dL_law_705 : decode cL_law 705 = .ok (.istore 5, 2) := eL_law_700.2.2.2.1
theorem dL_law_707 : decode cL_law 707 = .ok (.aload_n 2, 1) := eL_law_700.2.2.2.2.1
theorem dL_law_708 : decode cL_law 708 = .ok (.aload_n 0, 1) := eL_law_700.2.2.2.2.2.1
theorem dL_law_709 : decode cL_law 709 = .ok (.iload 4, 2) := eL_law_700.2.2.2.2.2.2.1
theorem dL_law_711 : decode cL_law 711 = .ok (.iconst 1, 1) := eL_law_700.2.2.2.2.2.2.2.1
theorem dL_law_712 : decode cL_law 712 = .ok (.iadd, 1) := eL_law_700.2.2.2.2.2.2.2.2.1
theorem dL_law_713 : decode cL_law 713 = .ok (.iaload, 1) := eL_law_700.2.2.2.2.2.2.2.2.2.1
theorem dL_law_714 : decode cL_law 714 = .ok (.aload_n 0, 1) := eL_law_700.2.2.2.2.2.2.2.2.2.2.1
theorem dL_law_715 : decode cL_law 715 = .ok (.iload 4, 2) := eL_law_700.2.2.2.2.2.2.2.2.2.2.2.1
theorem dL_law_717 : decode cL_law 717 = .ok (.iconst 2, 1) := eL_law_700.2.2.2.2.2.2.2.2.2.2.2.2.1
theorem dL_law_718 : decode cL_law 718 = .ok (.iadd, 1) := eL_law_700.2.2.2.2.2.2.2.2.2.2.2.2.2.1
theorem dL_law_719 : decode cL_law 719 = .ok (.iaload, 1) := eL_law_700.2.2.2.2.2.2.2.2.2.2.2.2.2.2.1
theorem dL_law_720 : decode cL_law 720 = .ok (.invokevirtual 189, 3) := eL_law_700.2.2.2.2.2.2.2.2.2.2.2.2.2.2.2
theorem eL_law_723 : (decode cL_law 723 = .ok (.istore 6, 2)) ∧ (decode cL_law 725 = .ok (.goto 1566, 3)) ∧ (decode cL_law 728 = .ok (.aload_n 1, 1)) ∧ (decode cL_law 729 = .ok (.aload_n 0, 1)) ∧ (decode cL_law 730 = .ok (.iload 4, 2)) ∧ (decode cL_law 732 = .ok (.iconst 1, 1)) ∧ (decode cL_law 733 = .ok (.iadd, 1)) ∧ (decode cL_law 734 = .ok (.iaload, 1)) ∧ (decode cL_law 735 = .ok (.aload_n 0, 1)) ∧ (decode cL_law 736 = .ok (.iload 4, 2)) ∧ (decode cL_law 738 = .ok (.iconst 2, 1)) ∧ (decode cL_law 739 = .ok (.iadd, 1)) ∧ (decode cL_law 740 = .ok (.iaload, 1)) ∧ (decode cL_law 741 = .ok (.aload_n 3, 1)) ∧ (decode cL_law 742 = .ok (.invokestatic 190, 3)) ∧ (decode cL_law 745 = .ok (.istore 5, 2)) := by decide +kernel
theorem dL_law_723 : decode cL_law 723 = .ok (.istore 6, 2) := eL_law_723.1
theorem dL_law_725 : decode cL_law 725 = .ok (.goto 1566, 3) := eL_law_723.2.1
theorem dL_law_728 : decode cL_law 728 = .ok (.aload_n 1, 1) := eL_law_723.2.2.1
theorem dL_law_729 : decode cL_law 729 = .ok (.aload_n 0, 1) := eL_law_723.2.2.2.1
theorem dL_law_730 : decode cL_law 730 = .ok (.iload 4, 2) := eL_law_723.2.2.2.2.1
theorem dL_law_732 : decode cL_law 732 = .ok (.iconst 1, 1) := eL_law_723.2.2.2.2.2.1
theorem dL_law_733 : decode cL_law 733 = .ok (.iadd, 1) := eL_law_723.2.2.2.2.2.2.1
theorem dL_law_734 : decode cL_law 734 = .ok (.iaload, 1) := eL_law_723.2.2.2.2.2.2.2.1
theorem dL_law_735 : decode cL_law 735 = .ok (.aload_n 0, 1) := eL_law_723.2.2.2.2.2.2.2.2.1
theorem dL_law_736 : decode cL_law 736 = .ok (.iload 4, 2) := eL_law_723.2.2.2.2.2.2.2.2.2.1
theorem dL_law_738 : decode cL_law 738 = .ok (.iconst 2, 1) := eL_law_723.2.2.2.2.2.2.2.2.2.2.1
theorem dL_law_739 : decode cL_law 739 = .ok (.iadd, 1) := eL_law_723.2.2.2.2.2.2.2.2.2.2.2.1
theorem dL_law_740 : decode cL_law 740 = .ok (.iaload, 1) := eL_law_723.2.2.2.2.2.2.2.2.2.2.2.2.1
theorem dL_law_741 : decode cL_law 741 = .ok (.aload_n 3, 1) := eL_law_723.2.2.2.2.2.2.2.2.2.2.2.2.2.1
theorem dL_law_742 : decode cL_law 742 = .ok (.invokestatic 190, 3) := eL_law_723.2.2.2.2.2.2.2.2.2.2.2.2.2.2.1
theorem dL_law_745 : decode cL_law 745 = .ok (.istore 5, 2) := eL_law_723.2.2.2.2.2.2.2.2.2.2.2.2.2.2.2
theorem eL_law_747 : (decode cL_law 747 = .ok (.aload_n 2, 1)) ∧ (decode cL_law 748 = .ok (.aload_n 0, 1)) ∧ (decode cL_law 749 = .ok (.iload 4, 2)) ∧ (decode cL_law 751 = .ok (.iconst 1, 1)) ∧ (decode cL_law 752 = .ok (.iadd, 1)) ∧ (decode cL_law 753 = .ok (.iaload, 1)) ∧ (decode cL_law 754 = .ok (.aload_n 0, 1)) ∧ (decode cL_law 755 = .ok (.iload 4, 2)) ∧ (decode cL_law 757 = .ok (.iconst 2, 1)) ∧ (decode cL_law 758 = .ok (.iadd, 1)) ∧ (decode cL_law 759 = .ok (.iaload, 1)) ∧ (decode cL_law 760 = .ok (.invokevirtual 192, 3)) ∧ (decode cL_law 763 = .ok (.istore 6, 2)) ∧ (decode cL_law 765 = .ok (.goto 1526, 3)) ∧ (decode cL_law 768 = .ok (.aload_n 1, 1)) ∧ (decode cL_law 769 = .ok (.aload_n 0, 1)) := by decide +kernel
theorem dL_law_747 : decode cL_law 747 = .ok (.aload_n 2, 1) := eL_law_747.1
theorem dL_law_748 : decode cL_law 748 = .ok (.aload_n 0, 1) := eL_law_747.2.1
theorem dL_law_749 : decode cL_law 749 = .ok (.iload 4, 2) := eL_law_747.2.2.1
theorem dL_law_751 : decode cL_law 751 = .ok (.iconst 1, 1) := eL_law_747.2.2.2.1
theorem dL_law_752 : decode cL_law 752 = .ok (.iadd, 1) := eL_law_747.2.2.2.2.1
theorem dL_law_753 : decode cL_law 753 = .ok (.iaload, 1) := eL_law_747.2.2.2.2.2.1
theorem dL_law_754 : decode cL_law 754 = .ok (.aload_n 0, 1) := eL_law_747.2.2.2.2.2.2.1
theorem dL_law_755 : decode cL_law 755 = .ok (.iload 4, 2) := eL_law_747.2.2.2.2.2.2.2.1
theorem dL_law_757 : decode cL_law 757 = .ok (.iconst 2, 1) := eL_law_747.2.2.2.2.2.2.2.2.1
theorem dL_law_758 : decode cL_law 758 = .ok (.iadd, 1) := eL_law_747.2.2.2.2.2.2.2.2.2.1
theorem dL_law_759 : decode cL_law 759 = .ok (.iaload, 1) := eL_law_747.2.2.2.2.2.2.2.2.2.2.1
theorem dL_law_760 : decode cL_law 760 = .ok (.invokevirtual 192, 3) := eL_law_747.2.2.2.2.2.2.2.2.2.2.2.1
theorem dL_law_763 : decode cL_law 763 = .ok (.istore 6, 2) := eL_law_747.2.2.2.2.2.2.2.2.2.2.2.2.1
theorem dL_law_765 : decode cL_law 765 = .ok (.goto 1526, 3) := eL_law_747.2.2.2.2.2.2.2.2.2.2.2.2.2.1
theorem dL_law_768 : decode cL_law 768 = .ok (.aload_n 1, 1) := eL_law_747.2.2.2.2.2.2.2.2.2.2.2.2.2.2.1
theorem dL_law_769 : decode cL_law 769 = .ok (.aload_n 0, 1) := eL_law_747.2.2.2.2.2.2.2.2.2.2.2.2.2.2.2
theorem eL_law_770 : (decode cL_law 770 = .ok (.iload 4, 2)) ∧ (decode cL_law 772 = .ok (.iconst 1, 1)) ∧ (decode cL_law 773 = .ok (.iadd, 1)) ∧ (decode cL_law 774 = .ok (.iaload, 1)) ∧ (decode cL_law 775 = .ok (.aload_n 0, 1)) ∧ (decode cL_law 776 = .ok (.iload 4, 2)) ∧ (decode cL_law 778 = .ok (.iconst 2, 1)) ∧ (decode cL_law 779 = .ok (.iadd, 1)) ∧ (decode cL_law 780 = .ok (.iaload, 1)) ∧ (decode cL_law 781 = .ok (.ifCond .eq 7, 3)) ∧ (decode cL_law 784 = .ok (.iconst 1, 1)) ∧ (decode cL_law 785 = .ok (.goto 4, 3)) ∧ (decode cL_law 788 = .ok (.iconst 0, 1)) ∧ (decode cL_law 789 = .ok (.aload_n 0, 1)) ∧ (decode cL_law 790 = .ok (.iload 4, 2)) ∧ (decode cL_law 792 = .ok (.iconst 3, 1)) := by decide +kernel
theorem dL_law_770 : decode cL_law 770 = .ok (.iload 4, 2) := eL_law_770.1
theorem dL_law_772 : decode cL_law 772 = .ok (.iconst 1, 1) := eL_law_770.2.1
theorem dL_law_773 : decode cL_law 773 = .ok (.iadd, 1) := eL_law_770.2.2.1
theorem dL_law_774 : decode cL_law 774 = .ok (.iaload, 1) := eL_law_770.2.2.2.1
theorem dL_law_775 : decode cL_law 775 = .ok (.aload_n 0, 1) := eL_law_770.2.2.2.2.1
theorem dL_law_776 : decode cL_law 776 = .ok (.iload 4, 2) := eL_law_770.2.2.2.2.2.1
theorem dL_law_778 : decode cL_law 778 = .ok (.iconst 2, 1) := eL_law_770.2.2.2.2.2.2.1
theorem dL_law_779 : decode cL_law 779 = .ok (.iadd, 1) := eL_law_770.2.2.2.2.2.2.2.1
theorem dL_law_780 : decode cL_law 780 = .ok (.iaload, 1) := eL_law_770.2.2.2.2.2.2.2.2.1
theorem dL_law_781 : decode cL_law 781 = .ok (.ifCond .eq 7, 3) := eL_law_770.2.2.2.2.2.2.2.2.2.1
theorem dL_law_784 : decode cL_law 784 = .ok (.iconst 1, 1) := eL_law_770.2.2.2.2.2.2.2.2.2.2.1
theorem dL_law_785 : decode cL_law 785 = .ok (.goto 4, 3) := eL_law_770.2.2.2.2.2.2.2.2.2.2.2.1
theorem dL_law_788 : decode cL_law 788 = .ok (.iconst 0, 1) := eL_law_770.2.2.2.2.2.2.2.2.2.2.2.2.1
theorem dL_law_789 : decode cL_law 789 = .ok (.aload_n 0, 1) := eL_law_770.2.2.2.2.2.2.2.2.2.2.2.2.2.1
theorem dL_law_790 : decode cL_law 790 = .ok (.iload 4, 2) := eL_law_770.2.2.2.2.2.2.2.2.2.2.2.2.2.2.1
theorem dL_law_792 : decode cL_law 792 = .ok (.iconst 3, 1) := eL_law_770.2.2.2.2.2.2.2.2.2.2.2.2.2.2.2
theorem eL_law_793 : (decode cL_law 793 = .ok (.iadd, 1)) ∧ (decode cL_law 794 = .ok (.iaload, 1)) ∧ (decode cL_law 795 = .ok (.aload_n 3, 1)) ∧ (decode cL_law 796 = .ok (.invokestatic 193, 3)) ∧ (decode cL_law 799 = .ok (.istore 5, 2)) ∧ (decode cL_law 801 = .ok (.aload_n 2, 1)) ∧ (decode cL_law 802 = .ok (.aload_n 0, 1)) ∧ (decode cL_law 803 = .ok (.iload 4, 2)) ∧ (decode cL_law 805 = .ok (.iconst 1, 1)) ∧ (decode cL_law 806 = .ok (.iadd, 1)) ∧ (decode cL_law 807 = .ok (.iaload, 1)) ∧ (decode cL_law 808 = .ok (.aload_n 0, 1)) ∧ (decode cL_law 809 = .ok (.iload 4, 2)) ∧ (decode cL_law 811 = .ok (.iconst 2, 1)) ∧ (decode cL_law 812 = .ok (.iadd, 1)) ∧ (decode cL_law 813 = .ok (.iaload, 1)) := by decide +kernel
theorem dL_law_793 : decode cL_law 793 = .ok (.iadd, 1) := eL_law_793.1
theorem dL_law_794 : decode cL_law 794 = .ok (.iaload, 1) := eL_law_793.2.1
theorem dL_law_795 : decode cL_law 795 = .ok (.aload_n 3, 1) := eL_law_793.2.2.1
theorem dL_law_796 : decode cL_law 796 = .ok (.invokestatic 193, 3) := eL_law_793.2.2.2.1
theorem dL_law_799 : decode cL_law 799 = .ok (.istore 5, 2) := eL_law_793.2.2.2.2.1
theorem dL_law_801 : decode cL_law 801 = .ok (.aload_n 2, 1) := eL_law_793.2.2.2.2.2.1
theorem dL_law_802 : decode cL_law 802 = .ok (.aload_n 0, 1) := eL_law_793.2.2.2.2.2.2.1
theorem dL_law_803 : decode cL_law 803 = .ok (.iload 4, 2) := eL_law_793.2.2.2.2.2.2.2.1
theorem dL_law_805 : decode cL_law 805 = .ok (.iconst 1, 1) := eL_law_793.2.2.2.2.2.2.2.2.1
theorem dL_law_806 : decode cL_law 806 = .ok (.iadd, 1) := eL_law_793.2.2.2.2.2.2.2.2.2.1
theorem dL_law_807 : decode cL_law 807 = .ok (.iaload, 1) := eL_law_793.2.2.2.2.2.2.2.2.2.2.1
theorem dL_law_808 : decode cL_law 808 = .ok (.aload_n 0, 1) := eL_law_793.2.2.2.2.2.2.2.2.2.2.2.1
theorem dL_law_809 : decode cL_law 809 = .ok (.iload 4, 2) := eL_law_793.2.2.2.2.2.2.2.2.2.2.2.2.1
theorem dL_law_811 : decode cL_law 811 = .ok (.iconst 2, 1) := eL_law_793.2.2.2.2.2.2.2.2.2.2.2.2.2.1
theorem dL_law_812 : decode cL_law 812 = .ok (.iadd, 1) := eL_law_793.2.2.2.2.2.2.2.2.2.2.2.2.2.2.1
theorem dL_law_813 : decode cL_law 813 = .ok (.iaload, 1) := eL_law_793.2.2.2.2.2.2.2.2.2.2.2.2.2.2.2
theorem eL_law_814 : (decode cL_law 814 = .ok (.ifCond .eq 7, 3)) ∧ (decode cL_law 817 = .ok (.iconst 1, 1)) ∧ (decode cL_law 818 = .ok (.goto 4, 3)) ∧ (decode cL_law 821 = .ok (.iconst 0, 1)) ∧ (decode cL_law 822 = .ok (.aload_n 0, 1)) ∧ (decode cL_law 823 = .ok (.iload 4, 2)) ∧ (decode cL_law 825 = .ok (.iconst 3, 1)) ∧ (decode cL_law 826 = .ok (.iadd, 1)) ∧ (decode cL_law 827 = .ok (.iaload, 1)) ∧ (decode cL_law 828 = .ok (.invokevirtual 196, 3)) ∧ (decode cL_law 831 = .ok (.istore 6, 2)) ∧ (decode cL_law 833 = .ok (.goto 1458, 3)) ∧ (decode cL_law 836 = .ok (.aload_n 1, 1)) ∧ (decode cL_law 837 = .ok (.aload_n 0, 1)) ∧ (decode cL_law 838 = .ok (.iload 4, 2)) ∧ (decode cL_law 840 = .ok (.iconst 1, 1)) := by decide +kernel
theorem dL_law_814 : decode cL_law 814 = .ok (.ifCond .eq 7, 3) := eL_law_814.1
theorem dL_law_817 : decode cL_law 817 = .ok (.iconst 1, 1) := eL_law_814.2.1
theorem dL_law_818 : decode cL_law 818 = .ok (.goto 4, 3) := eL_law_814.2.2.1
theorem dL_law_821 : decode cL_law 821 = .ok (.iconst 0, 1) := eL_law_814.2.2.2.1
theorem dL_law_822 : decode cL_law 822 = .ok (.aload_n 0, 1) := eL_law_814.2.2.2.2.1
theorem dL_law_823 : decode cL_law 823 = .ok (.iload 4, 2) := eL_law_814.2.2.2.2.2.1
theorem dL_law_825 : decode cL_law 825 = .ok (.iconst 3, 1) := eL_law_814.2.2.2.2.2.2.1
theorem dL_law_826 : decode cL_law 826 = .ok (.iadd, 1) := eL_law_814.2.2.2.2.2.2.2.1
theorem dL_law_827 : decode cL_law 827 = .ok (.iaload, 1) := eL_law_814.2.2.2.2.2.2.2.2.1
theorem dL_law_828 : decode cL_law 828 = .ok (.invokevirtual 196, 3) := eL_law_814.2.2.2.2.2.2.2.2.2.1
theorem dL_law_831 : decode cL_law 831 = .ok (.istore 6, 2) := eL_law_814.2.2.2.2.2.2.2.2.2.2.1
theorem dL_law_833 : decode cL_law 833 = .ok (.goto 1458, 3) := eL_law_814.2.2.2.2.2.2.2.2.2.2.2.1
theorem dL_law_836 : decode cL_law 836 = .ok (.aload_n 1, 1) := eL_law_814.2.2.2.2.2.2.2.2.2.2.2.2.1
theorem dL_law_837 : decode cL_law 837 = .ok (.aload_n 0, 1) := eL_law_814.2.2.2.2.2.2.2.2.2.2.2.2.2.1
theorem dL_law_838 : decode cL_law 838 = .ok (.iload 4, 2) := eL_law_814.2.2.2.2.2.2.2.2.2.2.2.2.2.2.1
theorem dL_law_840 : decode cL_law 840 = .ok (.iconst 1, 1) := eL_law_814.2.2.2.2.2.2.2.2.2.2.2.2.2.2.2
theorem eL_law_841 : (decode cL_law 841 = .ok (.iadd, 1)) ∧ (decode cL_law 842 = .ok (.iaload, 1)) ∧ (decode cL_law 843 = .ok (.aload_n 0, 1)) ∧ (decode cL_law 844 = .ok (.iload 4, 2)) ∧ (decode cL_law 846 = .ok (.iconst 2, 1)) ∧ (decode cL_law 847 = .ok (.iadd, 1)) ∧ (decode cL_law 848 = .ok (.iaload, 1)) ∧ (decode cL_law 849 = .ok (.aload_n 0, 1)) ∧ (decode cL_law 850 = .ok (.iload 4, 2)) ∧ (decode cL_law 852 = .ok (.iconst 3, 1)) ∧ (decode cL_law 853 = .ok (.iadd, 1)) ∧ (decode cL_law 854 = .ok (.iaload, 1)) ∧ (decode cL_law 855 = .ok (.aload_n 0, 1)) ∧ (decode cL_law 856 = .ok (.iload 4, 2)) ∧ (decode cL_law 858 = .ok (.iconst 4, 1)) ∧ (decode cL_law 859 = .ok (.iadd, 1)) := by decide +kernel
theorem dL_law_841 : decode cL_law 841 = .ok (.iadd, 1) := eL_law_841.1
theorem dL_law_842 : decode cL_law 842 = .ok (.iaload, 1) := eL_law_841.2.1
theorem dL_law_843 : decode cL_law 843 = .ok (.aload_n 0, 1) := eL_law_841.2.2.1
theorem dL_law_844 : decode cL_law 844 = .ok (.iload 4, 2) := eL_law_841.2.2.2.1
theorem dL_law_846 : decode cL_law 846 = .ok (.iconst 2, 1) := eL_law_841.2.2.2.2.1
theorem dL_law_847 : decode cL_law 847 = .ok (.iadd, 1) := eL_law_841.2.2.2.2.2.1
theorem dL_law_848 : decode cL_law 848 = .ok (.iaload, 1) := eL_law_841.2.2.2.2.2.2.1
theorem dL_law_849 : decode cL_law 849 = .ok (.aload_n 0, 1) := eL_law_841.2.2.2.2.2.2.2.1
theorem dL_law_850 : decode cL_law 850 = .ok (.iload 4, 2) := eL_law_841.2.2.2.2.2.2.2.2.1
theorem dL_law_852 : decode cL_law 852 = .ok (.iconst 3, 1) := eL_law_841.2.2.2.2.2.2.2.2.2.1
theorem dL_law_853 : decode cL_law 853 = .ok (.iadd, 1) := eL_law_841.2.2.2.2.2.2.2.2.2.2.1
theorem dL_law_854 : decode cL_law 854 = .ok (.iaload, 1) := eL_law_841.2.2.2.2.2.2.2.2.2.2.2.1
theorem dL_law_855 : decode cL_law 855 = .ok (.aload_n 0, 1) := eL_law_841.2.2.2.2.2.2.2.2.2.2.2.2.1
theorem dL_law_856 : decode cL_law 856 = .ok (.iload 4, 2) := eL_law_841.2.2.2.2.2.2.2.2.2.2.2.2.2.1
theorem dL_law_858 : decode cL_law 858 = .ok (.iconst 4, 1) := eL_law_841.2.2.2.2.2.2.2.2.2.2.2.2.2.2.1
theorem dL_law_859 : decode cL_law 859 = .ok (.iadd, 1) := eL_law_841.2.2.2.2.2.2.2.2.2.2.2.2.2.2.2
theorem eL_law_860 : (decode cL_law 860 = .ok (.iaload, 1)) ∧ (decode cL_law 861 = .ok (.ifCond .eq 7, 3)) ∧ (decode cL_law 864 = .ok (.iconst 1, 1)) ∧ (decode cL_law 865 = .ok (.goto 4, 3)) ∧ (decode cL_law 868 = .ok (.iconst 0, 1)) ∧ (decode cL_law 869 = .ok (.aload_n 3, 1)) ∧ (decode cL_law 870 = .ok (.invokestatic 197, 3)) ∧ (decode cL_law 873 = .ok (.istore 5, 2)) ∧ (decode cL_law 875 = .ok (.aload_n 2, 1)) ∧ (decode cL_law 876 = .ok (.aload_n 0, 1)) ∧ (decode cL_law 877 = .ok (.iload 4, 2)) ∧ (decode cL_law 879 = .ok (.iconst 1, 1)) ∧ (decode cL_law 880 = .ok (.iadd, 1)) ∧ (decode cL_law 881 = .ok (.iaload, 1)) ∧ (decode cL_law 882 = .ok (.aload_n 0, 1)) ∧ (decode cL_law 883 = .ok (.iload 4, 2)) := by decide +kernel
theorem dL_law_860 : decode cL_law 860 = .ok (.iaload, 1) := eL_law_860.1
theorem dL_law_861 : decode cL_law 861 = .ok (.ifCond .eq 7, 3) := eL_law_860.2.1
theorem dL_law_864 : decode cL_law 864 = .ok (.iconst 1, 1) := eL_law_860.2.2.1
theorem dL_law_865 : decode cL_law 865 = .ok (.goto 4, 3) := eL_law_860.2.2.2.1
theorem dL_law_868 : decode cL_law 868 = .ok (.iconst 0, 1) := eL_law_860.2.2.2.2.1
theorem dL_law_869 : decode cL_law 869 = .ok (.aload_n 3, 1) := eL_law_860.2.2.2.2.2.1
theorem dL_law_870 : decode cL_law 870 = .ok (.invokestatic 197, 3) := eL_law_860.2.2.2.2.2.2.1
theorem dL_law_873 : decode cL_law 873 = .ok (.istore 5, 2) := eL_law_860.2.2.2.2.2.2.2.1
theorem dL_law_875 : decode cL_law 875 = .ok (.aload_n 2, 1) := eL_law_860.2.2.2.2.2.2.2.2.1
theorem dL_law_876 : decode cL_law 876 = .ok (.aload_n 0, 1) := eL_law_860.2.2.2.2.2.2.2.2.2.1
theorem dL_law_877 : decode cL_law 877 = .ok (.iload 4, 2) := eL_law_860.2.2.2.2.2.2.2.2.2.2.1
theorem dL_law_879 : decode cL_law 879 = .ok (.iconst 1, 1) := eL_law_860.2.2.2.2.2.2.2.2.2.2.2.1
theorem dL_law_880 : decode cL_law 880 = .ok (.iadd, 1) := eL_law_860.2.2.2.2.2.2.2.2.2.2.2.2.1
theorem dL_law_881 : decode cL_law 881 = .ok (.iaload, 1) := eL_law_860.2.2.2.2.2.2.2.2.2.2.2.2.2.1
theorem dL_law_882 : decode cL_law 882 = .ok (.aload_n 0, 1) := eL_law_860.2.2.2.2.2.2.2.2.2.2.2.2.2.2.1
theorem dL_law_883 : decode cL_law 883 = .ok (.iload 4, 2) := eL_law_860.2.2.2.2.2.2.2.2.2.2.2.2.2.2.2
theorem eL_law_885 : (decode cL_law 885 = .ok (.iconst 2, 1)) ∧ (decode cL_law 886 = .ok (.iadd, 1)) ∧ (decode cL_law 887 = .ok (.iaload, 1)) ∧ (decode cL_law 888 = .ok (.aload_n 0, 1)) ∧ (decode cL_law 889 = .ok (.iload 4, 2)) ∧ (decode cL_law 891 = .ok (.iconst 3, 1)) ∧ (decode cL_law 892 = .ok (.iadd, 1)) ∧ (decode cL_law 893 = .ok (.iaload, 1)) ∧ (decode cL_law 894 = .ok (.aload_n 0, 1)) ∧ (decode cL_law 895 = .ok (.iload 4, 2)) ∧ (decode cL_law 897 = .ok (.iconst 4, 1)) ∧ (decode cL_law 898 = .ok (.iadd, 1)) ∧ (decode cL_law 899 = .ok (.iaload, 1)) ∧ (decode cL_law 900 = .ok (.ifCond .eq 7, 3)) ∧ (decode cL_law 903 = .ok (.iconst 1, 1)) ∧ (decode cL_law 904 = .ok (.goto 4, 3)) := by decide +kernel
theorem dL_law_885 : decode cL_law 885 = .ok (.iconst 2, 1) := eL_law_885.1
theorem dL_law_886 : decode cL_law 886 = .ok (.iadd, 1) := eL_law_885.2.1
theorem dL_law_887 : decode cL_law 887 = .ok (.iaload, 1) := eL_law_885.2.2.1
theorem dL_law_888 : decode cL_law 888 = .ok (.aload_n 0, 1) := eL_law_885.2.2.2.1
theorem dL_law_889 : decode cL_law 889 = .ok (.iload 4, 2) := eL_law_885.2.2.2.2.1
theorem dL_law_891 : decode cL_law 891 = .ok (.iconst 3, 1) := eL_law_885.2.2.2.2.2.1
theorem dL_law_892 : decode cL_law 892 = .ok (.iadd, 1) := eL_law_885.2.2.2.2.2.2.1
theorem dL_law_893 : decode cL_law 893 = .ok (.iaload, 1) := eL_law_885.2.2.2.2.2.2.2.1
theorem dL_law_894 : decode cL_law 894 = .ok (.aload_n 0, 1) := eL_law_885.2.2.2.2.2.2.2.2.1
theorem dL_law_895 : decode cL_law 895 = .ok (.iload 4, 2) := eL_law_885.2.2.2.2.2.2.2.2.2.1
theorem dL_law_897 : decode cL_law 897 = .ok (.iconst 4, 1) := eL_law_885.2.2.2.2.2.2.2.2.2.2.1
theorem dL_law_898 : decode cL_law 898 = .ok (.iadd, 1) := eL_law_885.2.2.2.2.2.2.2.2.2.2.2.1
theorem dL_law_899 : decode cL_law 899 = .ok (.iaload, 1) := eL_law_885.2.2.2.2.2.2.2.2.2.2.2.2.1
theorem dL_law_900 : decode cL_law 900 = .ok (.ifCond .eq 7, 3) := eL_law_885.2.2.2.2.2.2.2.2.2.2.2.2.2.1
theorem dL_law_903 : decode cL_law 903 = .ok (.iconst 1, 1) := eL_law_885.2.2.2.2.2.2.2.2.2.2.2.2.2.2.1
theorem dL_law_904 : decode cL_law 904 = .ok (.goto 4, 3) := eL_law_885.2.2.2.2.2.2.2.2.2.2.2.2.2.2.2
theorem eL_law_907 : (decode cL_law 907 = .ok (.iconst 0, 1)) ∧ (decode cL_law 908 = .ok (.invokevirtual 200, 3)) ∧ (decode cL_law 911 = .ok (.istore 6, 2)) ∧ (decode cL_law 913 = .ok (.goto 1378, 3)) ∧ (decode cL_law 916 = .ok (.aload_n 1, 1)) ∧ (decode cL_law 917 = .ok (.aload_n 0, 1)) ∧ (decode cL_law 918 = .ok (.iload 4, 2)) ∧ (decode cL_law 920 = .ok (.iconst 1, 1)) ∧ (decode cL_law 921 = .ok (.iadd, 1)) ∧ (decode cL_law 922 = .ok (.iaload, 1)) ∧ (decode cL_law 923 = .ok (.aload_n 0, 1)) ∧ (decode cL_law 924 = .ok (.iload 4, 2)) ∧ (decode cL_law 926 = .ok (.iconst 2, 1)) ∧ (decode cL_law 927 = .ok (.iadd, 1)) ∧ (decode cL_law 928 = .ok (.iaload, 1)) ∧ (decode cL_law 929 = .ok (.ifCond .eq 7, 3)) := by decide +kernel
theorem dL_law_907 : decode cL_law 907 = .ok (.iconst 0, 1) := eL_law_907.1
theorem dL_law_908 : decode cL_law 908 = .ok (.invokevirtual 200, 3) := eL_law_907.2.1
theorem dL_law_911 : decode cL_law 911 = .ok (.istore 6, 2) := eL_law_907.2.2.1
theorem dL_law_913 : decode cL_law 913 = .ok (.goto 1378, 3) := eL_law_907.2.2.2.1
theorem dL_law_916 : decode cL_law 916 = .ok (.aload_n 1, 1) := eL_law_907.2.2.2.2.1
theorem dL_law_917 : decode cL_law 917 = .ok (.aload_n 0, 1) := eL_law_907.2.2.2.2.2.1
theorem dL_law_918 : decode cL_law 918 = .ok (.iload 4, 2) := eL_law_907.2.2.2.2.2.2.1
theorem dL_law_920 : decode cL_law 920 = .ok (.iconst 1, 1) := eL_law_907.2.2.2.2.2.2.2.1
theorem dL_law_921 : decode cL_law 921 = .ok (.iadd, 1) := eL_law_907.2.2.2.2.2.2.2.2.1
theorem dL_law_922 : decode cL_law 922 = .ok (.iaload, 1) := eL_law_907.2.2.2.2.2.2.2.2.2.1
theorem dL_law_923 : decode cL_law 923 = .ok (.aload_n 0, 1) := eL_law_907.2.2.2.2.2.2.2.2.2.2.1
theorem dL_law_924 : decode cL_law 924 = .ok (.iload 4, 2) := eL_law_907.2.2.2.2.2.2.2.2.2.2.2.1
theorem dL_law_926 : decode cL_law 926 = .ok (.iconst 2, 1) := eL_law_907.2.2.2.2.2.2.2.2.2.2.2.2.1
theorem dL_law_927 : decode cL_law 927 = .ok (.iadd, 1) := eL_law_907.2.2.2.2.2.2.2.2.2.2.2.2.2.1
theorem dL_law_928 : decode cL_law 928 = .ok (.iaload, 1) := eL_law_907.2.2.2.2.2.2.2.2.2.2.2.2.2.2.1
theorem dL_law_929 : decode cL_law 929 = .ok (.ifCond .eq 7, 3) := eL_law_907.2.2.2.2.2.2.2.2.2.2.2.2.2.2.2
theorem eL_law_932 : (decode cL_law 932 = .ok (.iconst 1, 1)) ∧ (decode cL_law 933 = .ok (.goto 4, 3)) ∧ (decode cL_law 936 = .ok (.iconst 0, 1)) ∧ (decode cL_law 937 = .ok (.aload_n 0, 1)) ∧ (decode cL_law 938 = .ok (.iload 4, 2)) ∧ (decode cL_law 940 = .ok (.iconst 3, 1)) ∧ (decode cL_law 941 = .ok (.iadd, 1)) ∧ (decode cL_law 942 = .ok (.iaload, 1)) ∧ (decode cL_law 943 = .ok (.ifCond .eq 7, 3)) ∧ (decode cL_law 946 = .ok (.iconst 1, 1)) ∧ (decode cL_law 947 = .ok (.goto 4, 3)) ∧ (decode cL_law 950 = .ok (.iconst 0, 1)) ∧ (decode cL_law 951 = .ok (.aload_n 3, 1)) ∧ (decode cL_law 952 = .ok (.invokestatic 201, 3)) ∧ (decode cL_law 955 = .ok (.istore 5, 2)) ∧ (decode cL_law 957 = .ok (.aload_n 2, 1)) := by decide +kernel
theorem dL_law_932 : decode cL_law 932 = .ok (.iconst 1, 1) := eL_law_932.1
theorem dL_law_933 : decode cL_law 933 = .ok (.goto 4, 3) := eL_law_932.2.1
theorem dL_law_936 : decode cL_law 936 = .ok (.iconst 0, 1) := eL_law_932.2.2.1
theorem dL_law_937 : decode cL_law 937 = .ok (.aload_n 0, 1) := eL_law_932.2.2.2.1
theorem dL_law_938 : decode cL_law 938 = .ok (.iload 4, 2) := eL_law_932.2.2.2.2.1
theorem dL_law_940 : decode cL_law 940 = .ok (.iconst 3, 1) := eL_law_932.2.2.2.2.2.1
theorem dL_law_941 : decode cL_law 941 = .ok (.iadd, 1) := eL_law_932.2.2.2.2.2.2.1
theorem dL_law_942 : decode cL_law 942 = .ok (.iaload, 1) := eL_law_932.2.2.2.2.2.2.2.1
theorem dL_law_943 : decode cL_law 943 = .ok (.ifCond .eq 7, 3) := eL_law_932.2.2.2.2.2.2.2.2.1
theorem dL_law_946 : decode cL_law 946 = .ok (.iconst 1, 1) := eL_law_932.2.2.2.2.2.2.2.2.2.1
theorem dL_law_947 : decode cL_law 947 = .ok (.goto 4, 3) := eL_law_932.2.2.2.2.2.2.2.2.2.2.1
theorem dL_law_950 : decode cL_law 950 = .ok (.iconst 0, 1) := eL_law_932.2.2.2.2.2.2.2.2.2.2.2.1
theorem dL_law_951 : decode cL_law 951 = .ok (.aload_n 3, 1) := eL_law_932.2.2.2.2.2.2.2.2.2.2.2.2.1
theorem dL_law_952 : decode cL_law 952 = .ok (.invokestatic 201, 3) := eL_law_932.2.2.2.2.2.2.2.2.2.2.2.2.2.1
theorem dL_law_955 : decode cL_law 955 = .ok (.istore 5, 2) := eL_law_932.2.2.2.2.2.2.2.2.2.2.2.2.2.2.1
theorem dL_law_957 : decode cL_law 957 = .ok (.aload_n 2, 1) := eL_law_932.2.2.2.2.2.2.2.2.2.2.2.2.2.2.2
theorem eL_law_958 : (decode cL_law 958 = .ok (.aload_n 0, 1)) ∧ (decode cL_law 959 = .ok (.iload 4, 2)) ∧ (decode cL_law 961 = .ok (.iconst 1, 1)) ∧ (decode cL_law 962 = .ok (.iadd, 1)) ∧ (decode cL_law 963 = .ok (.iaload, 1)) ∧ (decode cL_law 964 = .ok (.aload_n 0, 1)) ∧ (decode cL_law 965 = .ok (.iload 4, 2)) ∧ (decode cL_law 967 = .ok (.iconst 2, 1)) ∧ (decode cL_law 968 = .ok (.iadd, 1)) ∧ (decode cL_law 969 = .ok (.iaload, 1)) ∧ (decode cL_law 970 = .ok (.ifCond .eq 7, 3)) ∧ (decode cL_law 973 = .ok (.iconst 1, 1)) ∧ (decode cL_law 974 = .ok (.goto 4, 3)) ∧ (decode cL_law 977 = .ok (.iconst 0, 1)) ∧ (decode cL_law 978 = .ok (.aload_n 0, 1)) ∧ (decode cL_law 979 = .ok (.iload 4, 2)) := by decide +kernel
theorem dL_law_958 : decode cL_law 958 = .ok (.aload_n 0, 1) := eL_law_958.1
theorem dL_law_959 : decode cL_law 959 = .ok (.iload 4, 2) := eL_law_958.2.1
theorem dL_law_961 : decode cL_law 961 = .ok (.iconst 1, 1) := eL_law_958.2.2.1
theorem dL_law_962 : decode cL_law 962 = .ok (.iadd, 1) := eL_law_958.2.2.2.1
theorem dL_law_963 : decode cL_law 963 = .ok (.iaload, 1) := eL_law_958.2.2.2.2.1
theorem dL_law_964 : decode cL_law 964 = .ok (.aload_n 0, 1) := eL_law_958.2.2.2.2.2.1
theorem dL_law_965 : decode cL_law 965 = .ok (.iload 4, 2) := eL_law_958.2.2.2.2.2.2.1
theorem dL_law_967 : decode cL_law 967 = .ok (.iconst 2, 1) := eL_law_958.2.2.2.2.2.2.2.1
theorem dL_law_968 : decode cL_law 968 = .ok (.iadd, 1) := eL_law_958.2.2.2.2.2.2.2.2.1
theorem dL_law_969 : decode cL_law 969 = .ok (.iaload, 1) := eL_law_958.2.2.2.2.2.2.2.2.2.1
theorem dL_law_970 : decode cL_law 970 = .ok (.ifCond .eq 7, 3) := eL_law_958.2.2.2.2.2.2.2.2.2.2.1
theorem dL_law_973 : decode cL_law 973 = .ok (.iconst 1, 1) := eL_law_958.2.2.2.2.2.2.2.2.2.2.2.1
theorem dL_law_974 : decode cL_law 974 = .ok (.goto 4, 3) := eL_law_958.2.2.2.2.2.2.2.2.2.2.2.2.1
theorem dL_law_977 : decode cL_law 977 = .ok (.iconst 0, 1) := eL_law_958.2.2.2.2.2.2.2.2.2.2.2.2.2.1
theorem dL_law_978 : decode cL_law 978 = .ok (.aload_n 0, 1) := eL_law_958.2.2.2.2.2.2.2.2.2.2.2.2.2.2.1
theorem dL_law_979 : decode cL_law 979 = .ok (.iload 4, 2) := eL_law_958.2.2.2.2.2.2.2.2.2.2.2.2.2.2.2
theorem eL_law_981 : (decode cL_law 981 = .ok (.iconst 3, 1)) ∧ (decode cL_law 982 = .ok (.iadd, 1)) ∧ (decode cL_law 983 = .ok (.iaload, 1)) ∧ (decode cL_law 984 = .ok (.ifCond .eq 7, 3)) ∧ (decode cL_law 987 = .ok (.iconst 1, 1)) ∧ (decode cL_law 988 = .ok (.goto 4, 3)) ∧ (decode cL_law 991 = .ok (.iconst 0, 1)) ∧ (decode cL_law 992 = .ok (.invokevirtual 204, 3)) ∧ (decode cL_law 995 = .ok (.istore 6, 2)) ∧ (decode cL_law 997 = .ok (.goto 1294, 3)) ∧ (decode cL_law 1000 = .ok (.aload_n 1, 1)) ∧ (decode cL_law 1001 = .ok (.aload_n 0, 1)) ∧ (decode cL_law 1002 = .ok (.iload 4, 2)) ∧ (decode cL_law 1004 = .ok (.iconst 1, 1)) ∧ (decode cL_law 1005 = .ok (.iadd, 1)) ∧ (decode cL_law 1006 = .ok (.iaload, 1)) := by decide +kernel
theorem dL_law_981 : decode cL_law 981 = .ok (.iconst 3, 1) := eL_law_981.1
theorem dL_law_982 : decode cL_law 982 = .ok (.iadd, 1) := eL_law_981.2.1
theorem dL_law_983 : decode cL_law 983 = .ok (.iaload, 1) := eL_law_981.2.2.1
theorem dL_law_984 : decode cL_law 984 = .ok (.ifCond .eq 7, 3) := eL_law_981.2.2.2.1
theorem dL_law_987 : decode cL_law 987 = .ok (.iconst 1, 1) := eL_law_981.2.2.2.2.1
theorem dL_law_988 : decode cL_law 988 = .ok (.goto 4, 3) := eL_law_981.2.2.2.2.2.1
theorem dL_law_991 : decode cL_law 991 = .ok (.iconst 0, 1) := eL_law_981.2.2.2.2.2.2.1
theorem dL_law_992 : decode cL_law 992 = .ok (.invokevirtual 204, 3) := eL_law_981.2.2.2.2.2.2.2.1
theorem dL_law_995 : decode cL_law 995 = .ok (.istore 6, 2) := eL_law_981.2.2.2.2.2.2.2.2.1
theorem dL_law_997 : decode cL_law 997 = .ok (.goto 1294, 3) := eL_law_981.2.2.2.2.2.2.2.2.2.1
theorem dL_law_1000 : decode cL_law 1000 = .ok (.aload_n 1, 1) := eL_law_981.2.2.2.2.2.2.2.2.2.2.1
theorem dL_law_1001 : decode cL_law 1001 = .ok (.aload_n 0, 1) := eL_law_981.2.2.2.2.2.2.2.2.2.2.2.1
theorem dL_law_1002 : decode cL_law 1002 = .ok (.iload 4, 2) := eL_law_981.2.2.2.2.2.2.2.2.2.2.2.2.1
theorem dL_law_1004 : decode cL_law 1004 = .ok (.iconst 1, 1) := eL_law_981.2.2.2.2.2.2.2.2.2.2.2.2.2.1
theorem dL_law_1005 : decode cL_law 1005 = .ok (.iadd, 1) := eL_law_981.2.2.2.2.2.2.2.2.2.2.2.2.2.2.1
theorem dL_law_1006 : decode cL_law 1006 = .ok (.iaload, 1) := eL_law_981.2.2.2.2.2.2.2.2.2.2.2.2.2.2.2
theorem eL_law_1007 : (decode cL_law 1007 = .ok (.aload_n 0, 1)) ∧ (decode cL_law 1008 = .ok (.iload 4, 2)) ∧ (decode cL_law 1010 = .ok (.iconst 2, 1)) ∧ (decode cL_law 1011 = .ok (.iadd, 1)) ∧ (decode cL_law 1012 = .ok (.iaload, 1)) ∧ (decode cL_law 1013 = .ok (.aload_n 0, 1)) ∧ (decode cL_law 1014 = .ok (.iload 4, 2)) ∧ (decode cL_law 1016 = .ok (.iconst 3, 1)) ∧ (decode cL_law 1017 = .ok (.iadd, 1)) ∧ (decode cL_law 1018 = .ok (.iaload, 1)) ∧ (decode cL_law 1019 = .ok (.ifCond .eq 7, 3)) ∧ (decode cL_law 1022 = .ok (.iconst 1, 1)) ∧ (decode cL_law 1023 = .ok (.goto 4, 3)) ∧ (decode cL_law 1026 = .ok (.iconst 0, 1)) ∧ (decode cL_law 1027 = .ok (.aload_n 3, 1)) ∧ (decode cL_law 1028 = .ok (.invokestatic 205, 3)) := by decide +kernel
theorem dL_law_1007 : decode cL_law 1007 = .ok (.aload_n 0, 1) := eL_law_1007.1
theorem dL_law_1008 : decode cL_law 1008 = .ok (.iload 4, 2) := eL_law_1007.2.1
theorem dL_law_1010 : decode cL_law 1010 = .ok (.iconst 2, 1) := eL_law_1007.2.2.1
theorem dL_law_1011 : decode cL_law 1011 = .ok (.iadd, 1) := eL_law_1007.2.2.2.1
theorem dL_law_1012 : decode cL_law 1012 = .ok (.iaload, 1) := eL_law_1007.2.2.2.2.1
theorem dL_law_1013 : decode cL_law 1013 = .ok (.aload_n 0, 1) := eL_law_1007.2.2.2.2.2.1
theorem dL_law_1014 : decode cL_law 1014 = .ok (.iload 4, 2) := eL_law_1007.2.2.2.2.2.2.1
theorem dL_law_1016 : decode cL_law 1016 = .ok (.iconst 3, 1) := eL_law_1007.2.2.2.2.2.2.2.1
theorem dL_law_1017 : decode cL_law 1017 = .ok (.iadd, 1) := eL_law_1007.2.2.2.2.2.2.2.2.1
theorem dL_law_1018 : decode cL_law 1018 = .ok (.iaload, 1) := eL_law_1007.2.2.2.2.2.2.2.2.2.1
theorem dL_law_1019 : decode cL_law 1019 = .ok (.ifCond .eq 7, 3) := eL_law_1007.2.2.2.2.2.2.2.2.2.2.1
theorem dL_law_1022 : decode cL_law 1022 = .ok (.iconst 1, 1) := eL_law_1007.2.2.2.2.2.2.2.2.2.2.2.1
theorem dL_law_1023 : decode cL_law 1023 = .ok (.goto 4, 3) := eL_law_1007.2.2.2.2.2.2.2.2.2.2.2.2.1
theorem dL_law_1026 : decode cL_law 1026 = .ok (.iconst 0, 1) := eL_law_1007.2.2.2.2.2.2.2.2.2.2.2.2.2.1
theorem dL_law_1027 : decode cL_law 1027 = .ok (.aload_n 3, 1) := eL_law_1007.2.2.2.2.2.2.2.2.2.2.2.2.2.2.1
theorem dL_law_1028 : decode cL_law 1028 = .ok (.invokestatic 205, 3) := eL_law_1007.2.2.2.2.2.2.2.2.2.2.2.2.2.2.2
theorem eL_law_1031 : (decode cL_law 1031 = .ok (.istore 5, 2)) ∧ (decode cL_law 1033 = .ok (.aload_n 2, 1)) ∧ (decode cL_law 1034 = .ok (.aload_n 0, 1)) ∧ (decode cL_law 1035 = .ok (.iload 4, 2)) ∧ (decode cL_law 1037 = .ok (.iconst 1, 1)) ∧ (decode cL_law 1038 = .ok (.iadd, 1)) ∧ (decode cL_law 1039 = .ok (.iaload, 1)) ∧ (decode cL_law 1040 = .ok (.aload_n 0, 1)) ∧ (decode cL_law 1041 = .ok (.iload 4, 2)) ∧ (decode cL_law 1043 = .ok (.iconst 2, 1)) ∧ (decode cL_law 1044 = .ok (.iadd, 1)) ∧ (decode cL_law 1045 = .ok (.iaload, 1)) ∧ (decode cL_law 1046 = .ok (.aload_n 0, 1)) ∧ (decode cL_law 1047 = .ok (.iload 4, 2)) ∧ (decode cL_law 1049 = .ok (.iconst 3, 1)) ∧ (decode cL_law 1050 = .ok (.iadd, 1)) := by decide +kernel
theorem dL_law_1031 : decode cL_law 1031 = .ok (.istore 5, 2) := eL_law_1031.1
theorem dL_law_1033 : decode cL_law 1033 = .ok (.aload_n 2, 1) := eL_law_1031.2.1
theorem dL_law_1034 : decode cL_law 1034 = .ok (.aload_n 0, 1) := eL_law_1031.2.2.1
theorem dL_law_1035 : decode cL_law 1035 = .ok (.iload 4, 2) := eL_law_1031.2.2.2.1
theorem dL_law_1037 : decode cL_law 1037 = .ok (.iconst 1, 1) := eL_law_1031.2.2.2.2.1
theorem dL_law_1038 : decode cL_law 1038 = .ok (.iadd, 1) := eL_law_1031.2.2.2.2.2.1
theorem dL_law_1039 : decode cL_law 1039 = .ok (.iaload, 1) := eL_law_1031.2.2.2.2.2.2.1
theorem dL_law_1040 : decode cL_law 1040 = .ok (.aload_n 0, 1) := eL_law_1031.2.2.2.2.2.2.2.1
theorem dL_law_1041 : decode cL_law 1041 = .ok (.iload 4, 2) := eL_law_1031.2.2.2.2.2.2.2.2.1
theorem dL_law_1043 : decode cL_law 1043 = .ok (.iconst 2, 1) := eL_law_1031.2.2.2.2.2.2.2.2.2.1
theorem dL_law_1044 : decode cL_law 1044 = .ok (.iadd, 1) := eL_law_1031.2.2.2.2.2.2.2.2.2.2.1
theorem dL_law_1045 : decode cL_law 1045 = .ok (.iaload, 1) := eL_law_1031.2.2.2.2.2.2.2.2.2.2.2.1
theorem dL_law_1046 : decode cL_law 1046 = .ok (.aload_n 0, 1) := eL_law_1031.2.2.2.2.2.2.2.2.2.2.2.2.1
theorem dL_law_1047 : decode cL_law 1047 = .ok (.iload 4, 2) := eL_law_1031.2.2.2.2.2.2.2.2.2.2.2.2.2.1
theorem dL_law_1049 : decode cL_law 1049 = .ok (.iconst 3, 1) := eL_law_1031.2.2.2.2.2.2.2.2.2.2.2.2.2.2.1
theorem dL_law_1050 : decode cL_law 1050 = .ok (.iadd, 1) := eL_law_1031.2.2.2.2.2.2.2.2.2.2.2.2.2.2.2
theorem eL_law_1051 : (decode cL_law 1051 = .ok (.iaload, 1)) ∧ (decode cL_law 1052 = .ok (.ifCond .eq 7, 3)) ∧ (decode cL_law 1055 = .ok (.iconst 1, 1)) ∧ (decode cL_law 1056 = .ok (.goto 4, 3)) ∧ (decode cL_law 1059 = .ok (.iconst 0, 1)) ∧ (decode cL_law 1060 = .ok (.invokevirtual 207, 3)) ∧ (decode cL_law 1063 = .ok (.istore 6, 2)) ∧ (decode cL_law 1065 = .ok (.goto 1226, 3)) ∧ (decode cL_law 1068 = .ok (.aload_n 1, 1)) ∧ (decode cL_law 1069 = .ok (.aload_n 0, 1)) ∧ (decode cL_law 1070 = .ok (.iload 4, 2)) ∧ (decode cL_law 1072 = .ok (.iconst 1, 1)) ∧ (decode cL_law 1073 = .ok (.iadd, 1)) ∧ (decode cL_law 1074 = .ok (.iaload, 1)) ∧ (decode cL_law 1075 = .ok (.aload_n 0, 1)) ∧ (decode cL_law 1076 = .ok (.iload 4, 2)) := by decide +kernel
theorem dL_law_1051 : decode cL_law 1051 = .ok (.iaload, 1) := eL_law_1051.1
theorem dL_law_1052 : decode cL_law 1052 = .ok (.ifCond .eq 7, 3) := eL_law_1051.2.1
theorem dL_law_1055 : decode cL_law 1055 = .ok (.iconst 1, 1) := eL_law_1051.2.2.1
theorem dL_law_1056 : decode cL_law 1056 = .ok (.goto 4, 3) := eL_law_1051.2.2.2.1
theorem dL_law_1059 : decode cL_law 1059 = .ok (.iconst 0, 1) := eL_law_1051.2.2.2.2.1
theorem dL_law_1060 : decode cL_law 1060 = .ok (.invokevirtual 207, 3) := eL_law_1051.2.2.2.2.2.1
theorem dL_law_1063 : decode cL_law 1063 = .ok (.istore 6, 2) := eL_law_1051.2.2.2.2.2.2.1
theorem dL_law_1065 : decode cL_law 1065 = .ok (.goto 1226, 3) := eL_law_1051.2.2.2.2.2.2.2.1
theorem dL_law_1068 : decode cL_law 1068 = .ok (.aload_n 1, 1) := eL_law_1051.2.2.2.2.2.2.2.2.1
theorem dL_law_1069 : decode cL_law 1069 = .ok (.aload_n 0, 1) := eL_law_1051.2.2.2.2.2.2.2.2.2.1
theorem dL_law_1070 : decode cL_law 1070 = .ok (.iload 4, 2) := eL_law_1051.2.2.2.2.2.2.2.2.2.2.1
theorem dL_law_1072 : decode cL_law 1072 = .ok (.iconst 1, 1) := eL_law_1051.2.2.2.2.2.2.2.2.2.2.2.1
theorem dL_law_1073 : decode cL_law 1073 = .ok (.iadd, 1) := eL_law_1051.2.2.2.2.2.2.2.2.2.2.2.2.1
theorem dL_law_1074 : decode cL_law 1074 = .ok (.iaload, 1) := eL_law_1051.2.2.2.2.2.2.2.2.2.2.2.2.2.1
theorem dL_law_1075 : decode cL_law 1075 = .ok (.aload_n 0, 1) := eL_law_1051.2.2.2.2.2.2.2.2.2.2.2.2.2.2.1
theorem dL_law_1076 : decode cL_law 1076 = .ok (.iload 4, 2) := eL_law_1051.2.2.2.2.2.2.2.2.2.2.2.2.2.2.2
theorem eL_law_1078 : (decode cL_law 1078 = .ok (.iconst 2, 1)) ∧ (decode cL_law 1079 = .ok (.iadd, 1)) ∧ (decode cL_law 1080 = .ok (.iaload, 1)) ∧ (decode cL_law 1081 = .ok (.aload_n 3, 1)) ∧ (decode cL_law 1082 = .ok (.invokestatic 208, 3)) ∧ (decode cL_law 1085 = .ok (.istore 5, 2)) ∧ (decode cL_law 1087 = .ok (.aload_n 2, 1)) ∧ (decode cL_law 1088 = .ok (.aload_n 0, 1)) ∧ (decode cL_law 1089 = .ok (.iload 4, 2)) ∧ (decode cL_law 1091 = .ok (.iconst 1, 1)) ∧ (decode cL_law 1092 = .ok (.iadd, 1)) ∧ (decode cL_law 1093 = .ok (.iaload, 1)) ∧ (decode cL_law 1094 = .ok (.aload_n 0, 1)) ∧ (decode cL_law 1095 = .ok (.iload 4, 2)) ∧ (decode cL_law 1097 = .ok (.iconst 2, 1)) ∧ (decode cL_law 1098 = .ok (.iadd, 1)) := by decide +kernel
theorem dL_law_1078 : decode cL_law 1078 = .ok (.iconst 2, 1) := eL_law_1078.1
theorem dL_law_1079 : decode cL_law 1079 = .ok (.iadd, 1) := eL_law_1078.2.1
theorem dL_law_1080 : decode cL_law 1080 = .ok (.iaload, 1) := eL_law_1078.2.2.1
theorem dL_law_1081 : decode cL_law 1081 = .ok (.aload_n 3, 1) := eL_law_1078.2.2.2.1
theorem dL_law_1082 : decode cL_law 1082 = .ok (.invokestatic 208, 3) := eL_law_1078.2.2.2.2.1
theorem dL_law_1085 : decode cL_law 1085 = .ok (.istore 5, 2) := eL_law_1078.2.2.2.2.2.1
theorem dL_law_1087 : decode cL_law 1087 = .ok (.aload_n 2, 1) := eL_law_1078.2.2.2.2.2.2.1
theorem dL_law_1088 : decode cL_law 1088 = .ok (.aload_n 0, 1) := eL_law_1078.2.2.2.2.2.2.2.1
theorem dL_law_1089 : decode cL_law 1089 = .ok (.iload 4, 2) := eL_law_1078.2.2.2.2.2.2.2.2.1
theorem dL_law_1091 : decode cL_law 1091 = .ok (.iconst 1, 1) := eL_law_1078.2.2.2.2.2.2.2.2.2.1
theorem dL_law_1092 : decode cL_law 1092 = .ok (.iadd, 1) := eL_law_1078.2.2.2.2.2.2.2.2.2.2.1
theorem dL_law_1093 : decode cL_law 1093 = .ok (.iaload, 1) := eL_law_1078.2.2.2.2.2.2.2.2.2.2.2.1
theorem dL_law_1094 : decode cL_law 1094 = .ok (.aload_n 0, 1) := eL_law_1078.2.2.2.2.2.2.2.2.2.2.2.2.1
theorem dL_law_1095 : decode cL_law 1095 = .ok (.iload 4, 2) := eL_law_1078.2.2.2.2.2.2.2.2.2.2.2.2.2.1
theorem dL_law_1097 : decode cL_law 1097 = .ok (.iconst 2, 1) := eL_law_1078.2.2.2.2.2.2.2.2.2.2.2.2.2.2.1
theorem dL_law_1098 : decode cL_law 1098 = .ok (.iadd, 1) := eL_law_1078.2.2.2.2.2.2.2.2.2.2.2.2.2.2.2
theorem eL_law_1099 : (decode cL_law 1099 = .ok (.iaload, 1)) ∧ (decode cL_law 1100 = .ok (.invokevirtual 210, 3)) ∧ (decode cL_law 1103 = .ok (.istore 6, 2)) ∧ (decode cL_law 1105 = .ok (.goto 1186, 3)) ∧ (decode cL_law 1108 = .ok (.aload_n 1, 1)) ∧ (decode cL_law 1109 = .ok (.aload_n 0, 1)) ∧ (decode cL_law 1110 = .ok (.iload 4, 2)) ∧ (decode cL_law 1112 = .ok (.iconst 1, 1)) ∧ (decode cL_law 1113 = .ok (.iadd, 1)) ∧ (decode cL_law 1114 = .ok (.iaload, 1)) ∧ (decode cL_law 1115 = .ok (.aload_n 3, 1)) ∧ (decode cL_law 1116 = .ok (.invokestatic 211, 3)) ∧ (decode cL_law 1119 = .ok (.istore 5, 2)) ∧ (decode cL_law 1121 = .ok (.aload_n 2, 1)) ∧ (decode cL_law 1122 = .ok (.aload_n 0, 1)) ∧ (decode cL_law 1123 = .ok (.iload 4, 2)) := by decide +kernel
theorem dL_law_1099 : decode cL_law 1099 = .ok (.iaload, 1) := eL_law_1099.1
theorem dL_law_1100 : decode cL_law 1100 = .ok (.invokevirtual 210, 3) := eL_law_1099.2.1
theorem dL_law_1103 : decode cL_law 1103 = .ok (.istore 6, 2) := eL_law_1099.2.2.1
theorem dL_law_1105 : decode cL_law 1105 = .ok (.goto 1186, 3) := eL_law_1099.2.2.2.1
theorem dL_law_1108 : decode cL_law 1108 = .ok (.aload_n 1, 1) := eL_law_1099.2.2.2.2.1
theorem dL_law_1109 : decode cL_law 1109 = .ok (.aload_n 0, 1) := eL_law_1099.2.2.2.2.2.1
theorem dL_law_1110 : decode cL_law 1110 = .ok (.iload 4, 2) := eL_law_1099.2.2.2.2.2.2.1
theorem dL_law_1112 : decode cL_law 1112 = .ok (.iconst 1, 1) := eL_law_1099.2.2.2.2.2.2.2.1
theorem dL_law_1113 : decode cL_law 1113 = .ok (.iadd, 1) := eL_law_1099.2.2.2.2.2.2.2.2.1
theorem dL_law_1114 : decode cL_law 1114 = .ok (.iaload, 1) := eL_law_1099.2.2.2.2.2.2.2.2.2.1
theorem dL_law_1115 : decode cL_law 1115 = .ok (.aload_n 3, 1) := eL_law_1099.2.2.2.2.2.2.2.2.2.2.1
theorem dL_law_1116 : decode cL_law 1116 = .ok (.invokestatic 211, 3) := eL_law_1099.2.2.2.2.2.2.2.2.2.2.2.1
theorem dL_law_1119 : decode cL_law 1119 = .ok (.istore 5, 2) := eL_law_1099.2.2.2.2.2.2.2.2.2.2.2.2.1
theorem dL_law_1121 : decode cL_law 1121 = .ok (.aload_n 2, 1) := eL_law_1099.2.2.2.2.2.2.2.2.2.2.2.2.2.1
theorem dL_law_1122 : decode cL_law 1122 = .ok (.aload_n 0, 1) := eL_law_1099.2.2.2.2.2.2.2.2.2.2.2.2.2.2.1
theorem dL_law_1123 : decode cL_law 1123 = .ok (.iload 4, 2) := eL_law_1099.2.2.2.2.2.2.2.2.2.2.2.2.2.2.2
theorem eL_law_1125 : (decode cL_law 1125 = .ok (.iconst 1, 1)) ∧ (decode cL_law 1126 = .ok (.iadd, 1)) ∧ (decode cL_law 1127 = .ok (.iaload, 1)) ∧ (decode cL_law 1128 = .ok (.invokevirtual 214, 3)) ∧ (decode cL_law 1131 = .ok (.astore 6, 2)) ∧ (decode cL_law 1133 = .ok (.goto 1158, 3)) ∧ (decode cL_law 1136 = .ok (.aload_n 1, 1)) ∧ (decode cL_law 1137 = .ok (.aload_n 0, 1)) ∧ (decode cL_law 1138 = .ok (.iload 4, 2)) ∧ (decode cL_law 1140 = .ok (.iconst 1, 1)) ∧ (decode cL_law 1141 = .ok (.iadd, 1)) ∧ (decode cL_law 1142 = .ok (.iaload, 1)) ∧ (decode cL_law 1143 = .ok (.aload_n 0, 1)) ∧ (decode cL_law 1144 = .ok (.iload 4, 2)) ∧ (decode cL_law 1146 = .ok (.iconst 2, 1)) ∧ (decode cL_law 1147 = .ok (.iadd, 1)) := by decide +kernel
theorem dL_law_1125 : decode cL_law 1125 = .ok (.iconst 1, 1) := eL_law_1125.1
theorem dL_law_1126 : decode cL_law 1126 = .ok (.iadd, 1) := eL_law_1125.2.1
theorem dL_law_1127 : decode cL_law 1127 = .ok (.iaload, 1) := eL_law_1125.2.2.1
theorem dL_law_1128 : decode cL_law 1128 = .ok (.invokevirtual 214, 3) := eL_law_1125.2.2.2.1
theorem dL_law_1131 : decode cL_law 1131 = .ok (.astore 6, 2) := eL_law_1125.2.2.2.2.1
theorem dL_law_1133 : decode cL_law 1133 = .ok (.goto 1158, 3) := eL_law_1125.2.2.2.2.2.1
theorem dL_law_1136 : decode cL_law 1136 = .ok (.aload_n 1, 1) := eL_law_1125.2.2.2.2.2.2.1
theorem dL_law_1137 : decode cL_law 1137 = .ok (.aload_n 0, 1) := eL_law_1125.2.2.2.2.2.2.2.1
theorem dL_law_1138 : decode cL_law 1138 = .ok (.iload 4, 2) := eL_law_1125.2.2.2.2.2.2.2.2.1
theorem dL_law_1140 : decode cL_law 1140 = .ok (.iconst 1, 1) := eL_law_1125.2.2.2.2.2.2.2.2.2.1
theorem dL_law_1141 : decode cL_law 1141 = .ok (.iadd, 1) := eL_law_1125.2.2.2.2.2.2.2.2.2.2.1
theorem dL_law_1142 : decode cL_law 1142 = .ok (.iaload, 1) := eL_law_1125.2.2.2.2.2.2.2.2.2.2.2.1
theorem dL_law_1143 : decode cL_law 1143 = .ok (.aload_n 0, 1) := eL_law_1125.2.2.2.2.2.2.2.2.2.2.2.2.1
theorem dL_law_1144 : decode cL_law 1144 = .ok (.iload 4, 2) := eL_law_1125.2.2.2.2.2.2.2.2.2.2.2.2.2.1
theorem dL_law_1146 : decode cL_law 1146 = .ok (.iconst 2, 1) := eL_law_1125.2.2.2.2.2.2.2.2.2.2.2.2.2.2.1
theorem dL_law_1147 : decode cL_law 1147 = .ok (.iadd, 1) := eL_law_1125.2.2.2.2.2.2.2.2.2.2.2.2.2.2.2
theorem eL_law_1148 : (decode cL_law 1148 = .ok (.iaload, 1)) ∧ (decode cL_law 1149 = .ok (.aload_n 3, 1)) ∧ (decode cL_law 1150 = .ok (.invokestatic 215, 3)) ∧ (decode cL_law 1153 = .ok (.istore 5, 2)) ∧ (decode cL_law 1155 = .ok (.aload_n 2, 1)) ∧ (decode cL_law 1156 = .ok (.aload_n 0, 1)) ∧ (decode cL_law 1157 = .ok (.iload 4, 2)) ∧ (decode cL_law 1159 = .ok (.iconst 1, 1)) ∧ (decode cL_law 1160 = .ok (.iadd, 1)) ∧ (decode cL_law 1161 = .ok (.iaload, 1)) ∧ (decode cL_law 1162 = .ok (.aload_n 0, 1)) ∧ (decode cL_law 1163 = .ok (.iload 4, 2)) ∧ (decode cL_law 1165 = .ok (.iconst 2, 1)) ∧ (decode cL_law 1166 = .ok (.iadd, 1)) ∧ (decode cL_law 1167 = .ok (.iaload, 1)) ∧ (decode cL_law 1168 = .ok (.invokevirtual 217, 3)) := by decide +kernel
theorem dL_law_1148 : decode cL_law 1148 = .ok (.iaload, 1) := eL_law_1148.1
theorem dL_law_1149 : decode cL_law 1149 = .ok (.aload_n 3, 1) := eL_law_1148.2.1
theorem dL_law_1150 : decode cL_law 1150 = .ok (.invokestatic 215, 3) := eL_law_1148.2.2.1
theorem dL_law_1153 : decode cL_law 1153 = .ok (.istore 5, 2) := eL_law_1148.2.2.2.1
theorem dL_law_1155 : decode cL_law 1155 = .ok (.aload_n 2, 1) := eL_law_1148.2.2.2.2.1
theorem dL_law_1156 : decode cL_law 1156 = .ok (.aload_n 0, 1) := eL_law_1148.2.2.2.2.2.1
theorem dL_law_1157 : decode cL_law 1157 = .ok (.iload 4, 2) := eL_law_1148.2.2.2.2.2.2.1
theorem dL_law_1159 : decode cL_law 1159 = .ok (.iconst 1, 1) := eL_law_1148.2.2.2.2.2.2.2.1
theorem dL_law_1160 : decode cL_law 1160 = .ok (.iadd, 1) := eL_law_1148.2.2.2.2.2.2.2.2.1
theorem dL_law_1161 : decode cL_law 1161 = .ok (.iaload, 1) := eL_law_1148.2.2.2.2.2.2.2.2.2.1
theorem dL_law_1162 : decode cL_law 1162 = .ok (.aload_n 0, 1) := eL_law_1148.2.2.2.2.2.2.2.2.2.2.1
theorem dL_law_1163 : decode cL_law 1163 = .ok (.iload 4, 2) := eL_law_1148.2.2.2.2.2.2.2.2.2.2.2.1
theorem dL_law_1165 : decode cL_law 1165 = .ok (.iconst 2, 1) := eL_law_1148.2.2.2.2.2.2.2.2.2.2.2.2.1
theorem dL_law_1166 : decode cL_law 1166 = .ok (.iadd, 1) := eL_law_1148.2.2.2.2.2.2.2.2.2.2.2.2.2.1
theorem dL_law_1167 : decode cL_law 1167 = .ok (.iaload, 1) := eL_law_1148.2.2.2.2.2.2.2.2.2.2.2.2.2.2.1
theorem dL_law_1168 : decode cL_law 1168 = .ok (.invokevirtual 217, 3) := eL_law_1148.2.2.2.2.2.2.2.2.2.2.2.2.2.2.2
theorem eL_law_1171 : (decode cL_law 1171 = .ok (.istore 6, 2)) ∧ (decode cL_law 1173 = .ok (.goto 1118, 3)) ∧ (decode cL_law 1176 = .ok (.aload_n 1, 1)) ∧ (decode cL_law 1177 = .ok (.aload_n 0, 1)) ∧ (decode cL_law 1178 = .ok (.iload 4, 2)) ∧ (decode cL_law 1180 = .ok (.iconst 1, 1)) ∧ (decode cL_law 1181 = .ok (.iadd, 1)) ∧ (decode cL_law 1182 = .ok (.iaload, 1)) ∧ (decode cL_law 1183 = .ok (.aload_n 0, 1)) ∧ (decode cL_law 1184 = .ok (.iload 4, 2)) ∧ (decode cL_law 1186 = .ok (.iconst 2, 1)) ∧ (decode cL_law 1187 = .ok (.iadd, 1)) ∧ (decode cL_law 1188 = .ok (.iaload, 1)) ∧ (decode cL_law 1189 = .ok (.aload_n 0, 1)) ∧ (decode cL_law 1190 = .ok (.iload 4, 2)) ∧ (decode cL_law 1192 = .ok (.iconst 3, 1)) := by decide +kernel
theorem dL_law_1171 : decode cL_law 1171 = .ok (.istore 6, 2) := eL_law_1171.1
theorem dL_law_1173 : decode cL_law 1173 = .ok (.goto 1118, 3) := eL_law_1171.2.1
theorem dL_law_1176 : decode cL_law 1176 = .ok (.aload_n 1, 1) := eL_law_1171.2.2.1
theorem dL_law_1177 : decode cL_law 1177 = .ok (.aload_n 0, 1) := eL_law_1171.2.2.2.1
theorem dL_law_1178 : decode cL_law 1178 = .ok (.iload 4, 2) := eL_law_1171.2.2.2.2.1
theorem dL_law_1180 : decode cL_law 1180 = .ok (.iconst 1, 1) := eL_law_1171.2.2.2.2.2.1
theorem dL_law_1181 : decode cL_law 1181 = .ok (.iadd, 1) := eL_law_1171.2.2.2.2.2.2.1
theorem dL_law_1182 : decode cL_law 1182 = .ok (.iaload, 1) := eL_law_1171.2.2.2.2.2.2.2.1
theorem dL_law_1183 : decode cL_law 1183 = .ok (.aload_n 0, 1) := eL_law_1171.2.2.2.2.2.2.2.2.1
theorem dL_law_1184 : decode cL_law 1184 = .ok (.iload 4, 2) := eL_law_1171.2.2.2.2.2.2.2.2.2.1
theorem dL_law_1186 : decode cL_law 1186 = .ok (.iconst 2, 1) := eL_law_1171.2.2.2.2.2.2.2.2.2.2.1
theorem dL_law_1187 : decode cL_law 1187 = .ok (.iadd, 1) := eL_law_1171.2.2.2.2.2.2.2.2.2.2.2.1
theorem dL_law_1188 : decode cL_law 1188 = .ok (.iaload, 1) := eL_law_1171.2.2.2.2.2.2.2.2.2.2.2.2.1
theorem dL_law_1189 : decode cL_law 1189 = .ok (.aload_n 0, 1) := eL_law_1171.2.2.2.2.2.2.2.2.2.2.2.2.2.1
theorem dL_law_1190 : decode cL_law 1190 = .ok (.iload 4, 2) := eL_law_1171.2.2.2.2.2.2.2.2.2.2.2.2.2.2.1
theorem dL_law_1192 : decode cL_law 1192 = .ok (.iconst 3, 1) := eL_law_1171.2.2.2.2.2.2.2.2.2.2.2.2.2.2.2
theorem eL_law_1193 : (decode cL_law 1193 = .ok (.iadd, 1)) ∧ (decode cL_law 1194 = .ok (.iaload, 1)) ∧ (decode cL_law 1195 = .ok (.aload_n 0, 1)) ∧ (decode cL_law 1196 = .ok (.iload 4, 2)) ∧ (decode cL_law 1198 = .ok (.iconst 4, 1)) ∧ (decode cL_law 1199 = .ok (.iadd, 1)) ∧ (decode cL_law 1200 = .ok (.iaload, 1)) ∧ (decode cL_law 1201 = .ok (.aload_n 0, 1)) ∧ (decode cL_law 1202 = .ok (.iload 4, 2)) ∧ (decode cL_law 1204 = .ok (.iconst 5, 1)) ∧ (decode cL_law 1205 = .ok (.iadd, 1)) ∧ (decode cL_law 1206 = .ok (.iaload, 1)) ∧ (decode cL_law 1207 = .ok (.aload_n 0, 1)) ∧ (decode cL_law 1208 = .ok (.iload 4, 2)) ∧ (decode cL_law 1210 = .ok (.bipush 6, 2)) ∧ (decode cL_law 1212 = .ok (.iadd, 1)) := by decide +kernel
theorem dL_law_1193 : decode cL_law 1193 = .ok (.iadd, 1) := eL_law_1193.1
theorem dL_law_1194 : decode cL_law 1194 = .ok (.iaload, 1) := eL_law_1193.2.1
theorem dL_law_1195 : decode cL_law 1195 = .ok (.aload_n 0, 1) := eL_law_1193.2.2.1
theorem dL_law_1196 : decode cL_law 1196 = .ok (.iload 4, 2) := eL_law_1193.2.2.2.1
theorem dL_law_1198 : decode cL_law 1198 = .ok (.iconst 4, 1) := eL_law_1193.2.2.2.2.1
theorem dL_law_1199 : decode cL_law 1199 = .ok (.iadd, 1) := eL_law_1193.2.2.2.2.2.1
theorem dL_law_1200 : decode cL_law 1200 = .ok (.iaload, 1) := eL_law_1193.2.2.2.2.2.2.1
theorem dL_law_1201 : decode cL_law 1201 = .ok (.aload_n 0, 1) := eL_law_1193.2.2.2.2.2.2.2.1
theorem dL_law_1202 : decode cL_law 1202 = .ok (.iload 4, 2) := eL_law_1193.2.2.2.2.2.2.2.2.1
theorem dL_law_1204 : decode cL_law 1204 = .ok (.iconst 5, 1) := eL_law_1193.2.2.2.2.2.2.2.2.2.1
theorem dL_law_1205 : decode cL_law 1205 = .ok (.iadd, 1) := eL_law_1193.2.2.2.2.2.2.2.2.2.2.1
theorem dL_law_1206 : decode cL_law 1206 = .ok (.iaload, 1) := eL_law_1193.2.2.2.2.2.2.2.2.2.2.2.1
theorem dL_law_1207 : decode cL_law 1207 = .ok (.aload_n 0, 1) := eL_law_1193.2.2.2.2.2.2.2.2.2.2.2.2.1
theorem dL_law_1208 : decode cL_law 1208 = .ok (.iload 4, 2) := eL_law_1193.2.2.2.2.2.2.2.2.2.2.2.2.2.1
theorem dL_law_1210 : decode cL_law 1210 = .ok (.bipush 6, 2) := eL_law_1193.2.2.2.2.2.2.2.2.2.2.2.2.2.2.1
theorem dL_law_1212 : decode cL_law 1212 = .ok (.iadd, 1) := eL_law_1193.2.2.2.2.2.2.2.2.2.2.2.2.2.2.2
theorem eL_law_1213 : (decode cL_law 1213 = .ok (.iaload, 1)) ∧ (decode cL_law 1214 = .ok (.aload_n 3, 1)) ∧ (decode cL_law 1215 = .ok (.invokestatic 218, 3)) ∧ (decode cL_law 1218 = .ok (.istore 5, 2)) ∧ (decode cL_law 1220 = .ok (.aload_n 2, 1)) ∧ (decode cL_law 1221 = .ok (.aload_n 0, 1)) ∧ (decode cL_law 1222 = .ok (.iload 4, 2)) ∧ (decode cL_law 1224 = .ok (.iconst 1, 1)) ∧ (decode cL_law 1225 = .ok (.iadd, 1)) ∧ (decode cL_law 1226 = .ok (.iaload, 1)) ∧ (decode cL_law 1227 = .ok (.aload_n 0, 1)) ∧ (decode cL_law 1228 = .ok (.iload 4, 2)) ∧ (decode cL_law 1230 = .ok (.iconst 2, 1)) ∧ (decode cL_law 1231 = .ok (.iadd, 1)) ∧ (decode cL_law 1232 = .ok (.iaload, 1)) ∧ (decode cL_law 1233 = .ok (.aload_n 0, 1)) := by decide +kernel
theorem dL_law_1213 : decode cL_law 1213 = .ok (.iaload, 1) := eL_law_1213.1
theorem dL_law_1214 : decode cL_law 1214 = .ok (.aload_n 3, 1) := eL_law_1213.2.1
theorem dL_law_1215 : decode cL_law 1215 = .ok (.invokestatic 218, 3) := eL_law_1213.2.2.1
theorem dL_law_1218 : decode cL_law 1218 = .ok (.istore 5, 2) := eL_law_1213.2.2.2.1
theorem dL_law_1220 : decode cL_law 1220 = .ok (.aload_n 2, 1) := eL_law_1213.2.2.2.2.1
theorem dL_law_1221 : decode cL_law 1221 = .ok (.aload_n 0, 1) := eL_law_1213.2.2.2.2.2.1
theorem dL_law_1222 : decode cL_law 1222 = .ok (.iload 4, 2) := eL_law_1213.2.2.2.2.2.2.1
theorem dL_law_1224 : decode cL_law 1224 = .ok (.iconst 1, 1) := eL_law_1213.2.2.2.2.2.2.2.1
theorem dL_law_1225 : decode cL_law 1225 = .ok (.iadd, 1) := eL_law_1213.2.2.2.2.2.2.2.2.1
theorem dL_law_1226 : decode cL_law 1226 = .ok (.iaload, 1) := eL_law_1213.2.2.2.2.2.2.2.2.2.1
theorem dL_law_1227 : decode cL_law 1227 = .ok (.aload_n 0, 1) := eL_law_1213.2.2.2.2.2.2.2.2.2.2.1
theorem dL_law_1228 : decode cL_law 1228 = .ok (.iload 4, 2) := eL_law_1213.2.2.2.2.2.2.2.2.2.2.2.1
theorem dL_law_1230 : decode cL_law 1230 = .ok (.iconst 2, 1) := eL_law_1213.2.2.2.2.2.2.2.2.2.2.2.2.1
theorem dL_law_1231 : decode cL_law 1231 = .ok (.iadd, 1) := eL_law_1213.2.2.2.2.2.2.2.2.2.2.2.2.2.1
theorem dL_law_1232 : decode cL_law 1232 = .ok (.iaload, 1) := eL_law_1213.2.2.2.2.2.2.2.2.2.2.2.2.2.2.1
theorem dL_law_1233 : decode cL_law 1233 = .ok (.aload_n 0, 1) := eL_law_1213.2.2.2.2.2.2.2.2.2.2.2.2.2.2.2
theorem eL_law_1234 : (decode cL_law 1234 = .ok (.iload 4, 2)) ∧ (decode cL_law 1236 = .ok (.iconst 3, 1)) ∧ (decode cL_law 1237 = .ok (.iadd, 1)) ∧ (decode cL_law 1238 = .ok (.iaload, 1)) ∧ (decode cL_law 1239 = .ok (.aload_n 0, 1)) ∧ (decode cL_law 1240 = .ok (.iload 4, 2)) ∧ (decode cL_law 1242 = .ok (.iconst 4, 1)) ∧ (decode cL_law 1243 = .ok (.iadd, 1)) ∧ (decode cL_law 1244 = .ok (.iaload, 1)) ∧ (decode cL_law 1245 = .ok (.aload_n 0, 1)) ∧ (decode cL_law 1246 = .ok (.iload 4, 2)) ∧ (decode cL_law 1248 = .ok (.iconst 5, 1)) ∧ (decode cL_law 1249 = .ok (.iadd, 1)) ∧ (decode cL_law 1250 = .ok (.iaload, 1)) ∧ (decode cL_law 1251 = .ok (.aload_n 0, 1)) ∧ (decode cL_law 1252 = .ok (.iload 4, 2)) := by decide +kernel
theorem dL_law_1234 : decode cL_law 1234 = .ok (.iload 4, 2) := eL_law_1234.1
theorem dL_law_1236 : decode cL_law 1236 = .ok (.iconst 3, 1) := eL_law_1234.2.1
theorem dL_law_1237 : decode cL_law 1237 = .ok (.iadd, 1) := eL_law_1234.2.2.1
theorem dL_law_1238 : decode cL_law 1238 = .ok (.iaload, 1) := eL_law_1234.2.2.2.1
theorem dL_law_1239 : decode cL_law 1239 = .ok (.aload_n 0, 1) := eL_law_1234.2.2.2.2.1
theorem dL_law_1240 : decode cL_law 1240 = .ok (.iload 4, 2) := eL_law_1234.2.2.2.2.2.1
theorem dL_law_1242 : decode cL_law 1242 = .ok (.iconst 4, 1) := eL_law_1234.2.2.2.2.2.2.1
theorem dL_law_1243 : decode cL_law 1243 = .ok (.iadd, 1) := eL_law_1234.2.2.2.2.2.2.2.1
theorem dL_law_1244 : decode cL_law 1244 = .ok (.iaload, 1) := eL_law_1234.2.2.2.2.2.2.2.2.1
theorem dL_law_1245 : decode cL_law 1245 = .ok (.aload_n 0, 1) := eL_law_1234.2.2.2.2.2.2.2.2.2.1
theorem dL_law_1246 : decode cL_law 1246 = .ok (.iload 4, 2) := eL_law_1234.2.2.2.2.2.2.2.2.2.2.1
theorem dL_law_1248 : decode cL_law 1248 = .ok (.iconst 5, 1) := eL_law_1234.2.2.2.2.2.2.2.2.2.2.2.1
theorem dL_law_1249 : decode cL_law 1249 = .ok (.iadd, 1) := eL_law_1234.2.2.2.2.2.2.2.2.2.2.2.2.1
theorem dL_law_1250 : decode cL_law 1250 = .ok (.iaload, 1) := eL_law_1234.2.2.2.2.2.2.2.2.2.2.2.2.2.1
theorem dL_law_1251 : decode cL_law 1251 = .ok (.aload_n 0, 1) := eL_law_1234.2.2.2.2.2.2.2.2.2.2.2.2.2.2.1
theorem dL_law_1252 : decode cL_law 1252 = .ok (.iload 4, 2) := eL_law_1234.2.2.2.2.2.2.2.2.2.2.2.2.2.2.2
theorem eL_law_1254 : (decode cL_law 1254 = .ok (.bipush 6, 2)) ∧ (decode cL_law 1256 = .ok (.iadd, 1)) ∧ (decode cL_law 1257 = .ok (.iaload, 1)) ∧ (decode cL_law 1258 = .ok (.invokevirtual 221, 3)) ∧ (decode cL_law 1261 = .ok (.istore 6, 2)) ∧ (decode cL_law 1263 = .ok (.goto 1028, 3)) ∧ (decode cL_law 1266 = .ok (.aload_n 1, 1)) ∧ (decode cL_law 1267 = .ok (.aload_n 0, 1)) ∧ (decode cL_law 1268 = .ok (.iload 4, 2)) ∧ (decode cL_law 1270 = .ok (.iconst 1, 1)) ∧ (decode cL_law 1271 = .ok (.iadd, 1)) ∧ (decode cL_law 1272 = .ok (.iaload, 1)) ∧ (decode cL_law 1273 = .ok (.aload_n 0, 1)) ∧ (decode cL_law 1274 = .ok (.iload 4, 2)) ∧ (decode cL_law 1276 = .ok (.iconst 2, 1)) ∧ (decode cL_law 1277 = .ok (.iadd, 1)) := by decide +kernel
theorem dL_law_1254 : decode cL_law 1254 = .ok (.bipush 6, 2) := eL_law_1254.1
theorem dL_law_1256 : decode cL_law 1256 = .ok (.iadd, 1) := eL_law_1254.2.1
theorem dL_law_1257 : decode cL_law 1257 = .ok (.iaload, 1) := eL_law_1254.2.2.1
theorem dL_law_1258 : decode cL_law 1258 = .ok (.invokevirtual 221, 3) := eL_law_1254.2.2.2.1
theorem dL_law_1261 : decode cL_law 1261 = .ok (.istore 6, 2) := eL_law_1254.2.2.2.2.1
theorem dL_law_1263 : decode cL_law 1263 = .ok (.goto 1028, 3) := eL_law_1254.2.2.2.2.2.1
theorem dL_law_1266 : decode cL_law 1266 = .ok (.aload_n 1, 1) := eL_law_1254.2.2.2.2.2.2.1
theorem dL_law_1267 : decode cL_law 1267 = .ok (.aload_n 0, 1) := eL_law_1254.2.2.2.2.2.2.2.1
theorem dL_law_1268 : decode cL_law 1268 = .ok (.iload 4, 2) := eL_law_1254.2.2.2.2.2.2.2.2.1
theorem dL_law_1270 : decode cL_law 1270 = .ok (.iconst 1, 1) := eL_law_1254.2.2.2.2.2.2.2.2.2.1
theorem dL_law_1271 : decode cL_law 1271 = .ok (.iadd, 1) := eL_law_1254.2.2.2.2.2.2.2.2.2.2.1
theorem dL_law_1272 : decode cL_law 1272 = .ok (.iaload, 1) := eL_law_1254.2.2.2.2.2.2.2.2.2.2.2.1
theorem dL_law_1273 : decode cL_law 1273 = .ok (.aload_n 0, 1) := eL_law_1254.2.2.2.2.2.2.2.2.2.2.2.2.1
theorem dL_law_1274 : decode cL_law 1274 = .ok (.iload 4, 2) := eL_law_1254.2.2.2.2.2.2.2.2.2.2.2.2.2.1
theorem dL_law_1276 : decode cL_law 1276 = .ok (.iconst 2, 1) := eL_law_1254.2.2.2.2.2.2.2.2.2.2.2.2.2.2.1
theorem dL_law_1277 : decode cL_law 1277 = .ok (.iadd, 1) := eL_law_1254.2.2.2.2.2.2.2.2.2.2.2.2.2.2.2
theorem eL_law_1278 : (decode cL_law 1278 = .ok (.iaload, 1)) ∧ (decode cL_law 1279 = .ok (.aload_n 0, 1)) ∧ (decode cL_law 1280 = .ok (.iload 4, 2)) ∧ (decode cL_law 1282 = .ok (.iconst 3, 1)) ∧ (decode cL_law 1283 = .ok (.iadd, 1)) ∧ (decode cL_law 1284 = .ok (.iaload, 1)) ∧ (decode cL_law 1285 = .ok (.aload_n 0, 1)) ∧ (decode cL_law 1286 = .ok (.iload 4, 2)) ∧ (decode cL_law 1288 = .ok (.iconst 4, 1)) ∧ (decode cL_law 1289 = .ok (.iadd, 1)) ∧ (decode cL_law 1290 = .ok (.iaload, 1)) ∧ (decode cL_law 1291 = .ok (.aload_n 3, 1)) ∧ (decode cL_law 1292 = .ok (.invokestatic 222, 3)) ∧ (decode cL_law 1295 = .ok (.istore 5, 2)) ∧ (decode cL_law 1297 = .ok (.aload_n 2, 1)) ∧ (decode cL_law 1298 = .ok (.aload_n 0, 1)) := by decide +kernel
theorem dL_law_1278 : decode cL_law 1278 = .ok (.iaload, 1) := eL_law_1278.1
theorem dL_law_1279 : decode cL_law 1279 = .ok (.aload_n 0, 1) := eL_law_1278.2.1
theorem dL_law_1280 : decode cL_law 1280 = .ok (.iload 4, 2) := eL_law_1278.2.2.1
theorem dL_law_1282 : decode cL_law 1282 = .ok (.iconst 3, 1) := eL_law_1278.2.2.2.1
theorem dL_law_1283 : decode cL_law 1283 = .ok (.iadd, 1) := eL_law_1278.2.2.2.2.1
theorem dL_law_1284 : decode cL_law 1284 = .ok (.iaload, 1) := eL_law_1278.2.2.2.2.2.1
theorem dL_law_1285 : decode cL_law 1285 = .ok (.aload_n 0, 1) := eL_law_1278.2.2.2.2.2.2.1
theorem dL_law_1286 : decode cL_law 1286 = .ok (.iload 4, 2) := eL_law_1278.2.2.2.2.2.2.2.1
theorem dL_law_1288 : decode cL_law 1288 = .ok (.iconst 4, 1) := eL_law_1278.2.2.2.2.2.2.2.2.1
theorem dL_law_1289 : decode cL_law 1289 = .ok (.iadd, 1) := eL_law_1278.2.2.2.2.2.2.2.2.2.1
theorem dL_law_1290 : decode cL_law 1290 = .ok (.iaload, 1) := eL_law_1278.2.2.2.2.2.2.2.2.2.2.1
theorem dL_law_1291 : decode cL_law 1291 = .ok (.aload_n 3, 1) := eL_law_1278.2.2.2.2.2.2.2.2.2.2.2.1
theorem dL_law_1292 : decode cL_law 1292 = .ok (.invokestatic 222, 3) := eL_law_1278.2.2.2.2.2.2.2.2.2.2.2.2.1
theorem dL_law_1295 : decode cL_law 1295 = .ok (.istore 5, 2) := eL_law_1278.2.2.2.2.2.2.2.2.2.2.2.2.2.1
theorem dL_law_1297 : decode cL_law 1297 = .ok (.aload_n 2, 1) := eL_law_1278.2.2.2.2.2.2.2.2.2.2.2.2.2.2.1
theorem dL_law_1298 : decode cL_law 1298 = .ok (.aload_n 0, 1) := eL_law_1278.2.2.2.2.2.2.2.2.2.2.2.2.2.2.2
theorem eL_law_1299 : (decode cL_law 1299 = .ok (.iload 4, 2)) ∧ (decode cL_law 1301 = .ok (.iconst 1, 1)) ∧ (decode cL_law 1302 = .ok (.iadd, 1)) ∧ (decode cL_law 1303 = .ok (.iaload, 1)) ∧ (decode cL_law 1304 = .ok (.aload_n 0, 1)) ∧ (decode cL_law 1305 = .ok (.iload 4, 2)) ∧ (decode cL_law 1307 = .ok (.iconst 2, 1)) ∧ (decode cL_law 1308 = .ok (.iadd, 1)) ∧ (decode cL_law 1309 = .ok (.iaload, 1)) ∧ (decode cL_law 1310 = .ok (.aload_n 0, 1)) ∧ (decode cL_law 1311 = .ok (.iload 4, 2)) ∧ (decode cL_law 1313 = .ok (.iconst 3, 1)) ∧ (decode cL_law 1314 = .ok (.iadd, 1)) ∧ (decode cL_law 1315 = .ok (.iaload, 1)) ∧ (decode cL_law 1316 = .ok (.aload_n 0, 1)) ∧ (decode cL_law 1317 = .ok (.iload 4, 2)) := by decide +kernel
theorem dL_law_1299 : decode cL_law 1299 = .ok (.iload 4, 2) := eL_law_1299.1
theorem dL_law_1301 : decode cL_law 1301 = .ok (.iconst 1, 1) := eL_law_1299.2.1
theorem dL_law_1302 : decode cL_law 1302 = .ok (.iadd, 1) := eL_law_1299.2.2.1
theorem dL_law_1303 : decode cL_law 1303 = .ok (.iaload, 1) := eL_law_1299.2.2.2.1
theorem dL_law_1304 : decode cL_law 1304 = .ok (.aload_n 0, 1) := eL_law_1299.2.2.2.2.1
theorem dL_law_1305 : decode cL_law 1305 = .ok (.iload 4, 2) := eL_law_1299.2.2.2.2.2.1
theorem dL_law_1307 : decode cL_law 1307 = .ok (.iconst 2, 1) := eL_law_1299.2.2.2.2.2.2.1
theorem dL_law_1308 : decode cL_law 1308 = .ok (.iadd, 1) := eL_law_1299.2.2.2.2.2.2.2.1
theorem dL_law_1309 : decode cL_law 1309 = .ok (.iaload, 1) := eL_law_1299.2.2.2.2.2.2.2.2.1
theorem dL_law_1310 : decode cL_law 1310 = .ok (.aload_n 0, 1) := eL_law_1299.2.2.2.2.2.2.2.2.2.1
theorem dL_law_1311 : decode cL_law 1311 = .ok (.iload 4, 2) := eL_law_1299.2.2.2.2.2.2.2.2.2.2.1
theorem dL_law_1313 : decode cL_law 1313 = .ok (.iconst 3, 1) := eL_law_1299.2.2.2.2.2.2.2.2.2.2.2.1
theorem dL_law_1314 : decode cL_law 1314 = .ok (.iadd, 1) := eL_law_1299.2.2.2.2.2.2.2.2.2.2.2.2.1
theorem dL_law_1315 : decode cL_law 1315 = .ok (.iaload, 1) := eL_law_1299.2.2.2.2.2.2.2.2.2.2.2.2.2.1
theorem dL_law_1316 : decode cL_law 1316 = .ok (.aload_n 0, 1) := eL_law_1299.2.2.2.2.2.2.2.2.2.2.2.2.2.2.1
theorem dL_law_1317 : decode cL_law 1317 = .ok (.iload 4, 2) := eL_law_1299.2.2.2.2.2.2.2.2.2.2.2.2.2.2.2
theorem eL_law_1319 : (decode cL_law 1319 = .ok (.iconst 4, 1)) ∧ (decode cL_law 1320 = .ok (.iadd, 1)) ∧ (decode cL_law 1321 = .ok (.iaload, 1)) ∧ (decode cL_law 1322 = .ok (.invokevirtual 224, 3)) ∧ (decode cL_law 1325 = .ok (.istore 6, 2)) ∧ (decode cL_law 1327 = .ok (.goto 964, 3)) ∧ (decode cL_law 1330 = .ok (.aload_n 1, 1)) ∧ (decode cL_law 1331 = .ok (.aload_n 0, 1)) ∧ (decode cL_law 1332 = .ok (.iload 4, 2)) ∧ (decode cL_law 1334 = .ok (.iconst 1, 1)) ∧ (decode cL_law 1335 = .ok (.iadd, 1)) ∧ (decode cL_law 1336 = .ok (.iaload, 1)) ∧ (decode cL_law 1337 = .ok (.aload_n 0, 1)) ∧ (decode cL_law 1338 = .ok (.iload 4, 2)) ∧ (decode cL_law 1340 = .ok (.iconst 2, 1)) ∧ (decode cL_law 1341 = .ok (.iadd, 1)) := by decide +kernel
theorem dL_law_1319 : decode cL_law 1319 = .ok (.iconst 4, 1) := eL_law_1319.1
theorem dL_law_1320 : decode cL_law 1320 = .ok (.iadd, 1) := eL_law_1319.2.1
theorem dL_law_1321 : decode cL_law 1321 = .ok (.iaload, 1) := eL_law_1319.2.2.1
theorem dL_law_1322 : decode cL_law 1322 = .ok (.invokevirtual 224, 3) := eL_law_1319.2.2.2.1
theorem dL_law_1325 : decode cL_law 1325 = .ok (.istore 6, 2) := eL_law_1319.2.2.2.2.1
theorem dL_law_1327 : decode cL_law 1327 = .ok (.goto 964, 3) := eL_law_1319.2.2.2.2.2.1
theorem dL_law_1330 : decode cL_law 1330 = .ok (.aload_n 1, 1) := eL_law_1319.2.2.2.2.2.2.1
theorem dL_law_1331 : decode cL_law 1331 = .ok (.aload_n 0, 1) := eL_law_1319.2.2.2.2.2.2.2.1
theorem dL_law_1332 : decode cL_law 1332 = .ok (.iload 4, 2) := eL_law_1319.2.2.2.2.2.2.2.2.1
theorem dL_law_1334 : decode cL_law 1334 = .ok (.iconst 1, 1) := eL_law_1319.2.2.2.2.2.2.2.2.2.1
theorem dL_law_1335 : decode cL_law 1335 = .ok (.iadd, 1) := eL_law_1319.2.2.2.2.2.2.2.2.2.2.1
theorem dL_law_1336 : decode cL_law 1336 = .ok (.iaload, 1) := eL_law_1319.2.2.2.2.2.2.2.2.2.2.2.1
theorem dL_law_1337 : decode cL_law 1337 = .ok (.aload_n 0, 1) := eL_law_1319.2.2.2.2.2.2.2.2.2.2.2.2.1
theorem dL_law_1338 : decode cL_law 1338 = .ok (.iload 4, 2) := eL_law_1319.2.2.2.2.2.2.2.2.2.2.2.2.2.1
theorem dL_law_1340 : decode cL_law 1340 = .ok (.iconst 2, 1) := eL_law_1319.2.2.2.2.2.2.2.2.2.2.2.2.2.2.1
theorem dL_law_1341 : decode cL_law 1341 = .ok (.iadd, 1) := eL_law_1319.2.2.2.2.2.2.2.2.2.2.2.2.2.2.2
theorem eL_law_1342 : (decode cL_law 1342 = .ok (.iaload, 1)) ∧ (decode cL_law 1343 = .ok (.aload_n 0, 1)) ∧ (decode cL_law 1344 = .ok (.iload 4, 2)) ∧ (decode cL_law 1346 = .ok (.iconst 3, 1)) ∧ (decode cL_law 1347 = .ok (.iadd, 1)) ∧ (decode cL_law 1348 = .ok (.iaload, 1)) ∧ (decode cL_law 1349 = .ok (.aload_n 3, 1)) ∧ (decode cL_law 1350 = .ok (.invokestatic 225, 3)) ∧ (decode cL_law 1353 = .ok (.istore 5, 2)) ∧ (decode cL_law 1355 = .ok (.aload_n 2, 1)) ∧ (decode cL_law 1356 = .ok (.aload_n 0, 1)) ∧ (decode cL_law 1357 = .ok (.iload 4, 2)) ∧ (decode cL_law 1359 = .ok (.iconst 1, 1)) ∧ (decode cL_law 1360 = .ok (.iadd, 1)) ∧ (decode cL_law 1361 = .ok (.iaload, 1)) ∧ (decode cL_law 1362 = .ok (.aload_n 0, 1)) := by decide +kernel
theorem dL_law_1342 : decode cL_law 1342 = .ok (.iaload, 1) := eL_law_1342.1
theorem dL_law_1343 : decode cL_law 1343 = .ok (.aload_n 0, 1) := eL_law_1342.2.1
theorem dL_law_1344 : decode cL_law 1344 = .ok (.iload 4, 2) := eL_law_1342.2.2.1
theorem dL_law_1346 : decode cL_law 1346 = .ok (.iconst 3, 1) := eL_law_1342.2.2.2.1
theorem dL_law_1347 : decode cL_law 1347 = .ok (.iadd, 1) := eL_law_1342.2.2.2.2.1
theorem dL_law_1348 : decode cL_law 1348 = .ok (.iaload, 1) := eL_law_1342.2.2.2.2.2.1
theorem dL_law_1349 : decode cL_law 1349 = .ok (.aload_n 3, 1) := eL_law_1342.2.2.2.2.2.2.1
theorem dL_law_1350 : decode cL_law 1350 = .ok (.invokestatic 225, 3) := eL_law_1342.2.2.2.2.2.2.2.1
theorem dL_law_1353 : decode cL_law 1353 = .ok (.istore 5, 2) := eL_law_1342.2.2.2.2.2.2.2.2.1
theorem dL_law_1355 : decode cL_law 1355 = .ok (.aload_n 2, 1) := eL_law_1342.2.2.2.2.2.2.2.2.2.1
theorem dL_law_1356 : decode cL_law 1356 = .ok (.aload_n 0, 1) := eL_law_1342.2.2.2.2.2.2.2.2.2.2.1
theorem dL_law_1357 : decode cL_law 1357 = .ok (.iload 4, 2) := eL_law_1342.2.2.2.2.2.2.2.2.2.2.2.1
theorem dL_law_1359 : decode cL_law 1359 = .ok (.iconst 1, 1) := eL_law_1342.2.2.2.2.2.2.2.2.2.2.2.2.1
theorem dL_law_1360 : decode cL_law 1360 = .ok (.iadd, 1) := eL_law_1342.2.2.2.2.2.2.2.2.2.2.2.2.2.1
theorem dL_law_1361 : decode cL_law 1361 = .ok (.iaload, 1) := eL_law_1342.2.2.2.2.2.2.2.2.2.2.2.2.2.2.1
theorem dL_law_1362 : decode cL_law 1362 = .ok (.aload_n 0, 1) := eL_law_1342.2.2.2.2.2.2.2.2.2.2.2.2.2.2.2
theorem eL_law_1363 : (decode cL_law 1363 = .ok (.iload 4, 2)) ∧ (decode cL_law 1365 = .ok (.iconst 2, 1)) ∧ (decode cL_law 1366 = .ok (.iadd, 1)) ∧ (decode cL_law 1367 = .ok (.iaload, 1)) ∧ (decode cL_law 1368 = .ok (.aload_n 0, 1)) ∧ (decode cL_law 1369 = .ok (.iload 4, 2)) ∧ (decode cL_law 1371 = .ok (.iconst 3, 1)) ∧ (decode cL_law 1372 = .ok (.iadd, 1)) ∧ (decode cL_law 1373 = .ok (.iaload, 1)) ∧ (decode cL_law 1374 = .ok (.invokevirtual 227, 3)) ∧ (decode cL_law 1377 = .ok (.istore 6, 2)) ∧ (decode cL_law 1379 = .ok (.goto 912, 3)) ∧ (decode cL_law 1382 = .ok (.aload_n 1, 1)) ∧ (decode cL_law 1383 = .ok (.aload_n 0, 1)) ∧ (decode cL_law 1384 = .ok (.iload 4, 2)) ∧ (decode cL_law 1386 = .ok (.iconst 1, 1)) := by decide +kernel
theorem dL_law_1363 : decode cL_law 1363 = .ok (.iload 4, 2) := eL_law_1363.1
theorem dL_law_1365 : decode cL_law 1365 = .ok (.iconst 2, 1) := eL_law_1363.2.1
theorem dL_law_1366 : decode cL_law 1366 = .ok (.iadd, 1) := eL_law_1363.2.2.1
theorem dL_law_1367 : decode cL_law 1367 = .ok (.iaload, 1) := eL_law_1363.2.2.2.1
theorem dL_law_1368 : decode cL_law 1368 = .ok (.aload_n 0, 1) := eL_law_1363.2.2.2.2.1
theorem dL_law_1369 : decode cL_law 1369 = .ok (.iload 4, 2) := eL_law_1363.2.2.2.2.2.1
theorem dL_law_1371 : decode cL_law 1371 = .ok (.iconst 3, 1) := eL_law_1363.2.2.2.2.2.2.1
theorem dL_law_1372 : decode cL_law 1372 = .ok (.iadd, 1) := eL_law_1363.2.2.2.2.2.2.2.1
theorem dL_law_1373 : decode cL_law 1373 = .ok (.iaload, 1) := eL_law_1363.2.2.2.2.2.2.2.2.1
theorem dL_law_1374 : decode cL_law 1374 = .ok (.invokevirtual 227, 3) := eL_law_1363.2.2.2.2.2.2.2.2.2.1
theorem dL_law_1377 : decode cL_law 1377 = .ok (.istore 6, 2) := eL_law_1363.2.2.2.2.2.2.2.2.2.2.1
theorem dL_law_1379 : decode cL_law 1379 = .ok (.goto 912, 3) := eL_law_1363.2.2.2.2.2.2.2.2.2.2.2.1
theorem dL_law_1382 : decode cL_law 1382 = .ok (.aload_n 1, 1) := eL_law_1363.2.2.2.2.2.2.2.2.2.2.2.2.1
theorem dL_law_1383 : decode cL_law 1383 = .ok (.aload_n 0, 1) := eL_law_1363.2.2.2.2.2.2.2.2.2.2.2.2.2.1
theorem dL_law_1384 : decode cL_law 1384 = .ok (.iload 4, 2) := eL_law_1363.2.2.2.2.2.2.2.2.2.2.2.2.2.2.1
theorem dL_law_1386 : decode cL_law 1386 = .ok (.iconst 1, 1) := eL_law_1363.2.2.2.2.2.2.2.2.2.2.2.2.2.2.2
theorem eL_law_1387 : (decode cL_law 1387 = .ok (.iadd, 1)) ∧ (decode cL_law 1388 = .ok (.iaload, 1)) ∧ (decode cL_law 1389 = .ok (.aload_n 0, 1)) ∧ (decode cL_law 1390 = .ok (.iload 4, 2)) ∧ (decode cL_law 1392 = .ok (.iconst 2, 1)) ∧ (decode cL_law 1393 = .ok (.iadd, 1)) ∧ (decode cL_law 1394 = .ok (.iaload, 1)) ∧ (decode cL_law 1395 = .ok (.aload_n 0, 1)) ∧ (decode cL_law 1396 = .ok (.iload 4, 2)) ∧ (decode cL_law 1398 = .ok (.iconst 3, 1)) ∧ (decode cL_law 1399 = .ok (.iadd, 1)) ∧ (decode cL_law 1400 = .ok (.iaload, 1)) ∧ (decode cL_law 1401 = .ok (.aload_n 3, 1)) ∧ (decode cL_law 1402 = .ok (.invokestatic 228, 3)) ∧ (decode cL_law 1405 = .ok (.istore 5, 2)) ∧ (decode cL_law 1407 = .ok (.aload_n 2, 1)) := by decide +kernel
theorem dL_law_1387 : decode cL_law 1387 = .ok (.iadd, 1) := eL_law_1387.1
theorem dL_law_1388 : decode cL_law 1388 = .ok (.iaload, 1) := eL_law_1387.2.1
theorem dL_law_1389 : decode cL_law 1389 = .ok (.aload_n 0, 1) := eL_law_1387.2.2.1
theorem dL_law_1390 : decode cL_law 1390 = .ok (.iload 4, 2) := eL_law_1387.2.2.2.1
theorem dL_law_1392 : decode cL_law 1392 = .ok (.iconst 2, 1) := eL_law_1387.2.2.2.2.1
theorem dL_law_1393 : decode cL_law 1393 = .ok (.iadd, 1) := eL_law_1387.2.2.2.2.2.1
theorem dL_law_1394 : decode cL_law 1394 = .ok (.iaload, 1) := eL_law_1387.2.2.2.2.2.2.1
theorem dL_law_1395 : decode cL_law 1395 = .ok (.aload_n 0, 1) := eL_law_1387.2.2.2.2.2.2.2.1
theorem dL_law_1396 : decode cL_law 1396 = .ok (.iload 4, 2) := eL_law_1387.2.2.2.2.2.2.2.2.1
theorem dL_law_1398 : decode cL_law 1398 = .ok (.iconst 3, 1) := eL_law_1387.2.2.2.2.2.2.2.2.2.1
theorem dL_law_1399 : decode cL_law 1399 = .ok (.iadd, 1) := eL_law_1387.2.2.2.2.2.2.2.2.2.2.1
theorem dL_law_1400 : decode cL_law 1400 = .ok (.iaload, 1) := eL_law_1387.2.2.2.2.2.2.2.2.2.2.2.1
theorem dL_law_1401 : decode cL_law 1401 = .ok (.aload_n 3, 1) := eL_law_1387.2.2.2.2.2.2.2.2.2.2.2.2.1
theorem dL_law_1402 : decode cL_law 1402 = .ok (.invokestatic 228, 3) := eL_law_1387.2.2.2.2.2.2.2.2.2.2.2.2.2.1
theorem dL_law_1405 : decode cL_law 1405 = .ok (.istore 5, 2) := eL_law_1387.2.2.2.2.2.2.2.2.2.2.2.2.2.2.1
theorem dL_law_1407 : decode cL_law 1407 = .ok (.aload_n 2, 1) := eL_law_1387.2.2.2.2.2.2.2.2.2.2.2.2.2.2.2
theorem eL_law_1408 : (decode cL_law 1408 = .ok (.aload_n 0, 1)) ∧ (decode cL_law 1409 = .ok (.iload 4, 2)) ∧ (decode cL_law 1411 = .ok (.iconst 1, 1)) ∧ (decode cL_law 1412 = .ok (.iadd, 1)) ∧ (decode cL_law 1413 = .ok (.iaload, 1)) ∧ (decode cL_law 1414 = .ok (.aload_n 0, 1)) ∧ (decode cL_law 1415 = .ok (.iload 4, 2)) ∧ (decode cL_law 1417 = .ok (.iconst 2, 1)) ∧ (decode cL_law 1418 = .ok (.iadd, 1)) ∧ (decode cL_law 1419 = .ok (.iaload, 1)) ∧ (decode cL_law 1420 = .ok (.aload_n 0, 1)) ∧ (decode cL_law 1421 = .ok (.iload 4, 2)) ∧ (decode cL_law 1423 = .ok (.iconst 3, 1)) ∧ (decode cL_law 1424 = .ok (.iadd, 1)) ∧ (decode cL_law 1425 = .ok (.iaload, 1)) ∧ (decode cL_law 1426 = .ok (.invokevirtual 230, 3)) := by decide +kernel
theorem dL_law_1408 : decode cL_law 1408 = .ok (.aload_n 0, 1) := eL_law_1408.1
theorem dL_law_1409 : decode cL_law 1409 = .ok (.iload 4, 2) := eL_law_1408.2.1
theorem dL_law_1411 : decode cL_law 1411 = .ok (.iconst 1, 1) := eL_law_1408.2.2.1
theorem dL_law_1412 : decode cL_law 1412 = .ok (.iadd, 1) := eL_law_1408.2.2.2.1
theorem dL_law_1413 : decode cL_law 1413 = .ok (.iaload, 1) := eL_law_1408.2.2.2.2.1
theorem dL_law_1414 : decode cL_law 1414 = .ok (.aload_n 0, 1) := eL_law_1408.2.2.2.2.2.1
theorem dL_law_1415 : decode cL_law 1415 = .ok (.iload 4, 2) := eL_law_1408.2.2.2.2.2.2.1
theorem dL_law_1417 : decode cL_law 1417 = .ok (.iconst 2, 1) := eL_law_1408.2.2.2.2.2.2.2.1
theorem dL_law_1418 : decode cL_law 1418 = .ok (.iadd, 1) := eL_law_1408.2.2.2.2.2.2.2.2.1
theorem dL_law_1419 : decode cL_law 1419 = .ok (.iaload, 1) := eL_law_1408.2.2.2.2.2.2.2.2.2.1
theorem dL_law_1420 : decode cL_law 1420 = .ok (.aload_n 0, 1) := eL_law_1408.2.2.2.2.2.2.2.2.2.2.1
theorem dL_law_1421 : decode cL_law 1421 = .ok (.iload 4, 2) := eL_law_1408.2.2.2.2.2.2.2.2.2.2.2.1
theorem dL_law_1423 : decode cL_law 1423 = .ok (.iconst 3, 1) := eL_law_1408.2.2.2.2.2.2.2.2.2.2.2.2.1
theorem dL_law_1424 : decode cL_law 1424 = .ok (.iadd, 1) := eL_law_1408.2.2.2.2.2.2.2.2.2.2.2.2.2.1
theorem dL_law_1425 : decode cL_law 1425 = .ok (.iaload, 1) := eL_law_1408.2.2.2.2.2.2.2.2.2.2.2.2.2.2.1
theorem dL_law_1426 : decode cL_law 1426 = .ok (.invokevirtual 230, 3) := eL_law_1408.2.2.2.2.2.2.2.2.2.2.2.2.2.2.2
theorem eL_law_1429 : (decode cL_law 1429 = .ok (.istore 6, 2)) ∧ (decode cL_law 1431 = .ok (.goto 860, 3)) ∧ (decode cL_law 1434 = .ok (.aload_n 1, 1)) ∧ (decode cL_law 1435 = .ok (.aload_n 0, 1)) ∧ (decode cL_law 1436 = .ok (.iload 4, 2)) ∧ (decode cL_law 1438 = .ok (.iconst 1, 1)) ∧ (decode cL_law 1439 = .ok (.iadd, 1)) ∧ (decode cL_law 1440 = .ok (.iaload, 1)) ∧ (decode cL_law 1441 = .ok (.aload_n 0, 1)) ∧ (decode cL_law 1442 = .ok (.iload 4, 2)) ∧ (decode cL_law 1444 = .ok (.iconst 2, 1)) ∧ (decode cL_law 1445 = .ok (.iadd, 1)) ∧ (decode cL_law 1446 = .ok (.iaload, 1)) ∧ (decode cL_law 1447 = .ok (.aload_n 3, 1)) ∧ (decode cL_law 1448 = .ok (.invokestatic 231, 3)) ∧ (decode cL_law 1451 = .ok (.istore 5, 2)) := by decide +kernel
theorem dL_law_1429 : decode cL_law 1429 = .ok (.istore 6, 2) := eL_law_1429.1
theorem dL_law_1431 : decode cL_law 1431 = .ok (.goto 860, 3) := eL_law_1429.2.1
theorem dL_law_1434 : decode cL_law 1434 = .ok (.aload_n 1, 1) := eL_law_1429.2.2.1
theorem dL_law_1435 : decode cL_law 1435 = .ok (.aload_n 0, 1) := eL_law_1429.2.2.2.1
theorem dL_law_1436 : decode cL_law 1436 = .ok (.iload 4, 2) := eL_law_1429.2.2.2.2.1
theorem dL_law_1438 : decode cL_law 1438 = .ok (.iconst 1, 1) := eL_law_1429.2.2.2.2.2.1
theorem dL_law_1439 : decode cL_law 1439 = .ok (.iadd, 1) := eL_law_1429.2.2.2.2.2.2.1
theorem dL_law_1440 : decode cL_law 1440 = .ok (.iaload, 1) := eL_law_1429.2.2.2.2.2.2.2.1
theorem dL_law_1441 : decode cL_law 1441 = .ok (.aload_n 0, 1) := eL_law_1429.2.2.2.2.2.2.2.2.1
theorem dL_law_1442 : decode cL_law 1442 = .ok (.iload 4, 2) := eL_law_1429.2.2.2.2.2.2.2.2.2.1
theorem dL_law_1444 : decode cL_law 1444 = .ok (.iconst 2, 1) := eL_law_1429.2.2.2.2.2.2.2.2.2.2.1
theorem dL_law_1445 : decode cL_law 1445 = .ok (.iadd, 1) := eL_law_1429.2.2.2.2.2.2.2.2.2.2.2.1
theorem dL_law_1446 : decode cL_law 1446 = .ok (.iaload, 1) := eL_law_1429.2.2.2.2.2.2.2.2.2.2.2.2.1
theorem dL_law_1447 : decode cL_law 1447 = .ok (.aload_n 3, 1) := eL_law_1429.2.2.2.2.2.2.2.2.2.2.2.2.2.1
theorem dL_law_1448 : decode cL_law 1448 = .ok (.invokestatic 231, 3) := eL_law_1429.2.2.2.2.2.2.2.2.2.2.2.2.2.2.1
theorem dL_law_1451 : decode cL_law 1451 = .ok (.istore 5, 2) := eL_law_1429.2.2.2.2.2.2.2.2.2.2.2.2.2.2.2
theorem eL_law_1453 : (decode cL_law 1453 = .ok (.aload_n 2, 1)) ∧ (decode cL_law 1454 = .ok (.aload_n 0, 1)) ∧ (decode cL_law 1455 = .ok (.iload 4, 2)) ∧ (decode cL_law 1457 = .ok (.iconst 1, 1)) ∧ (decode cL_law 1458 = .ok (.iadd, 1)) ∧ (decode cL_law 1459 = .ok (.iaload, 1)) ∧ (decode cL_law 1460 = .ok (.aload_n 0, 1)) ∧ (decode cL_law 1461 = .ok (.iload 4, 2)) ∧ (decode cL_law 1463 = .ok (.iconst 2, 1)) ∧ (decode cL_law 1464 = .ok (.iadd, 1)) ∧ (decode cL_law 1465 = .ok (.iaload, 1)) ∧ (decode cL_law 1466 = .ok (.invokevirtual 233, 3)) ∧ (decode cL_law 1469 = .ok (.istore 6, 2)) ∧ (decode cL_law 1471 = .ok (.goto 820, 3)) ∧ (decode cL_law 1474 = .ok (.aload_n 1, 1)) ∧ (decode cL_law 1475 = .ok (.aload_n 0, 1)) := by decide +kernel
theorem dL_law_1453 : decode cL_law 1453 = .ok (.aload_n 2, 1) := eL_law_1453.1
theorem dL_law_1454 : decode cL_law 1454 = .ok (.aload_n 0, 1) := eL_law_1453.2.1
theorem dL_law_1455 : decode cL_law 1455 = .ok (.iload 4, 2) := eL_law_1453.2.2.1
theorem dL_law_1457 : decode cL_law 1457 = .ok (.iconst 1, 1) := eL_law_1453.2.2.2.1
theorem dL_law_1458 : decode cL_law 1458 = .ok (.iadd, 1) := eL_law_1453.2.2.2.2.1
theorem dL_law_1459 : decode cL_law 1459 = .ok (.iaload, 1) := eL_law_1453.2.2.2.2.2.1
theorem dL_law_1460 : decode cL_law 1460 = .ok (.aload_n 0, 1) := eL_law_1453.2.2.2.2.2.2.1
theorem dL_law_1461 : decode cL_law 1461 = .ok (.iload 4, 2) := eL_law_1453.2.2.2.2.2.2.2.1
theorem dL_law_1463 : decode cL_law 1463 = .ok (.iconst 2, 1) := eL_law_1453.2.2.2.2.2.2.2.2.1
theorem dL_law_1464 : decode cL_law 1464 = .ok (.iadd, 1) := eL_law_1453.2.2.2.2.2.2.2.2.2.1
theorem dL_law_1465 : decode cL_law 1465 = .ok (.iaload, 1) := eL_law_1453.2.2.2.2.2.2.2.2.2.2.1
theorem dL_law_1466 : decode cL_law 1466 = .ok (.invokevirtual 233, 3) := eL_law_1453.2.2.2.2.2.2.2.2.2.2.2.1
theorem dL_law_1469 : decode cL_law 1469 = .ok (.istore 6, 2) := eL_law_1453.2.2.2.2.2.2.2.2.2.2.2.2.1
theorem dL_law_1471 : decode cL_law 1471 = .ok (.goto 820, 3) := eL_law_1453.2.2.2.2.2.2.2.2.2.2.2.2.2.1
theorem dL_law_1474 : decode cL_law 1474 = .ok (.aload_n 1, 1) := eL_law_1453.2.2.2.2.2.2.2.2.2.2.2.2.2.2.1
theorem dL_law_1475 : decode cL_law 1475 = .ok (.aload_n 0, 1) := eL_law_1453.2.2.2.2.2.2.2.2.2.2.2.2.2.2.2
theorem eL_law_1476 : (decode cL_law 1476 = .ok (.iload 4, 2)) ∧ (decode cL_law 1478 = .ok (.iconst 1, 1)) ∧ (decode cL_law 1479 = .ok (.iadd, 1)) ∧ (decode cL_law 1480 = .ok (.iaload, 1)) ∧ (decode cL_law 1481 = .ok (.aload_n 0, 1)) ∧ (decode cL_law 1482 = .ok (.iload 4, 2)) ∧ (decode cL_law 1484 = .ok (.iconst 2, 1)) ∧ (decode cL_law 1485 = .ok (.iadd, 1)) ∧ (decode cL_law 1486 = .ok (.iaload, 1)) ∧ (decode cL_law 1487 = .ok (.aload_n 3, 1)) ∧ (decode cL_law 1488 = .ok (.invokestatic 234, 3)) ∧ (decode cL_law 1491 = .ok (.istore 5, 2)) ∧ (decode cL_law 1493 = .ok (.aload_n 2, 1)) ∧ (decode cL_law 1494 = .ok (.aload_n 0, 1)) ∧ (decode cL_law 1495 = .ok (.iload 4, 2)) ∧ (decode cL_law 1497 = .ok (.iconst 1, 1)) := by decide +kernel
theorem dL_law_1476 : decode cL_law 1476 = .ok (.iload 4, 2) := eL_law_1476.1
theorem dL_law_1478 : decode cL_law 1478 = .ok (.iconst 1, 1) := eL_law_1476.2.1
theorem dL_law_1479 : decode cL_law 1479 = .ok (.iadd, 1) := eL_law_1476.2.2.1
theorem dL_law_1480 : decode cL_law 1480 = .ok (.iaload, 1) := eL_law_1476.2.2.2.1
theorem dL_law_1481 : decode cL_law 1481 = .ok (.aload_n 0, 1) := eL_law_1476.2.2.2.2.1
theorem dL_law_1482 : decode cL_law 1482 = .ok (.iload 4, 2) := eL_law_1476.2.2.2.2.2.1
theorem dL_law_1484 : decode cL_law 1484 = .ok (.iconst 2, 1) := eL_law_1476.2.2.2.2.2.2.1
theorem dL_law_1485 : decode cL_law 1485 = .ok (.iadd, 1) := eL_law_1476.2.2.2.2.2.2.2.1
theorem dL_law_1486 : decode cL_law 1486 = .ok (.iaload, 1) := eL_law_1476.2.2.2.2.2.2.2.2.1
theorem dL_law_1487 : decode cL_law 1487 = .ok (.aload_n 3, 1) := eL_law_1476.2.2.2.2.2.2.2.2.2.1
theorem dL_law_1488 : decode cL_law 1488 = .ok (.invokestatic 234, 3) := eL_law_1476.2.2.2.2.2.2.2.2.2.2.1
theorem dL_law_1491 : decode cL_law 1491 = .ok (.istore 5, 2) := eL_law_1476.2.2.2.2.2.2.2.2.2.2.2.1
theorem dL_law_1493 : decode cL_law 1493 = .ok (.aload_n 2, 1) := eL_law_1476.2.2.2.2.2.2.2.2.2.2.2.2.1
theorem dL_law_1494 : decode cL_law 1494 = .ok (.aload_n 0, 1) := eL_law_1476.2.2.2.2.2.2.2.2.2.2.2.2.2.1
theorem dL_law_1495 : decode cL_law 1495 = .ok (.iload 4, 2) := eL_law_1476.2.2.2.2.2.2.2.2.2.2.2.2.2.2.1
theorem dL_law_1497 : decode cL_law 1497 = .ok (.iconst 1, 1) := eL_law_1476.2.2.2.2.2.2.2.2.2.2.2.2.2.2.2
theorem eL_law_1498 : (decode cL_law 1498 = .ok (.iadd, 1)) ∧ (decode cL_law 1499 = .ok (.iaload, 1)) ∧ (decode cL_law 1500 = .ok (.aload_n 0, 1)) ∧ (decode cL_law 1501 = .ok (.iload 4, 2)) ∧ (decode cL_law 1503 = .ok (.iconst 2, 1)) ∧ (decode cL_law 1504 = .ok (.iadd, 1)) ∧ (decode cL_law 1505 = .ok (.iaload, 1)) ∧ (decode cL_law 1506 = .ok (.invokevirtual 236, 3)) ∧ (decode cL_law 1509 = .ok (.istore 6, 2)) ∧ (decode cL_law 1511 = .ok (.goto 780, 3)) ∧ (decode cL_law 1514 = .ok (.aload_n 1, 1)) ∧ (decode cL_law 1515 = .ok (.aload_n 0, 1)) ∧ (decode cL_law 1516 = .ok (.iload 4, 2)) ∧ (decode cL_law 1518 = .ok (.iconst 1, 1)) ∧ (decode cL_law 1519 = .ok (.iadd, 1)) ∧ (decode cL_law 1520 = .ok (.iaload, 1)) := by decide +kernel
theorem dL_law_1498 : decode cL_law 1498 = .ok (.iadd, 1) := eL_law_1498.1
theorem dL_law_1499 : decode cL_law 1499 = .ok (.iaload, 1) := eL_law_1498.2.1
theorem dL_law_1500 : decode cL_law 1500 = .ok (.aload_n 0, 1) := eL_law_1498.2.2.1
theorem dL_law_1501 : decode cL_law 1501 = .ok (.iload 4, 2) := eL_law_1498.2.2.2.1
theorem dL_law_1503 : decode cL_law 1503 = .ok (.iconst 2, 1) := eL_law_1498.2.2.2.2.1
theorem dL_law_1504 : decode cL_law 1504 = .ok (.iadd, 1) := eL_law_1498.2.2.2.2.2.1
theorem dL_law_1505 : decode cL_law 1505 = .ok (.iaload, 1) := eL_law_1498.2.2.2.2.2.2.1
theorem dL_law_1506 : decode cL_law 1506 = .ok (.invokevirtual 236, 3) := eL_law_1498.2.2.2.2.2.2.2.1
theorem dL_law_1509 : decode cL_law 1509 = .ok (.istore 6, 2) := eL_law_1498.2.2.2.2.2.2.2.2.1
theorem dL_law_1511 : decode cL_law 1511 = .ok (.goto 780, 3) := eL_law_1498.2.2.2.2.2.2.2.2.2.1
theorem dL_law_1514 : decode cL_law 1514 = .ok (.aload_n 1, 1) := eL_law_1498.2.2.2.2.2.2.2.2.2.2.1
theorem dL_law_1515 : decode cL_law 1515 = .ok (.aload_n 0, 1) := eL_law_1498.2.2.2.2.2.2.2.2.2.2.2.1
theorem dL_law_1516 : decode cL_law 1516 = .ok (.iload 4, 2) := eL_law_1498.2.2.2.2.2.2.2.2.2.2.2.2.1
theorem dL_law_1518 : decode cL_law 1518 = .ok (.iconst 1, 1) := eL_law_1498.2.2.2.2.2.2.2.2.2.2.2.2.2.1
theorem dL_law_1519 : decode cL_law 1519 = .ok (.iadd, 1) := eL_law_1498.2.2.2.2.2.2.2.2.2.2.2.2.2.2.1
theorem dL_law_1520 : decode cL_law 1520 = .ok (.iaload, 1) := eL_law_1498.2.2.2.2.2.2.2.2.2.2.2.2.2.2.2
theorem eL_law_1521 : (decode cL_law 1521 = .ok (.aload_n 0, 1)) ∧ (decode cL_law 1522 = .ok (.iload 4, 2)) ∧ (decode cL_law 1524 = .ok (.iconst 2, 1)) ∧ (decode cL_law 1525 = .ok (.iadd, 1)) ∧ (decode cL_law 1526 = .ok (.iaload, 1)) ∧ (decode cL_law 1527 = .ok (.aload_n 0, 1)) ∧ (decode cL_law 1528 = .ok (.iload 4, 2)) ∧ (decode cL_law 1530 = .ok (.iconst 3, 1)) ∧ (decode cL_law 1531 = .ok (.iadd, 1)) ∧ (decode cL_law 1532 = .ok (.iaload, 1)) ∧ (decode cL_law 1533 = .ok (.aload_n 3, 1)) ∧ (decode cL_law 1534 = .ok (.invokestatic 237, 3)) ∧ (decode cL_law 1537 = .ok (.istore 5, 2)) ∧ (decode cL_law 1539 = .ok (.aload_n 2, 1)) ∧ (decode cL_law 1540 = .ok (.aload_n 0, 1)) ∧ (decode cL_law 1541 = .ok (.iload 4, 2)) := by decide +kernel
theorem dL_law_1521 : decode cL_law 1521 = .ok (.aload_n 0, 1) := eL_law_1521.1
theorem dL_law_1522 : decode cL_law 1522 = .ok (.iload 4, 2) := eL_law_1521.2.1
theorem dL_law_1524 : decode cL_law 1524 = .ok (.iconst 2, 1) := eL_law_1521.2.2.1
theorem dL_law_1525 : decode cL_law 1525 = .ok (.iadd, 1) := eL_law_1521.2.2.2.1
theorem dL_law_1526 : decode cL_law 1526 = .ok (.iaload, 1) := eL_law_1521.2.2.2.2.1
theorem dL_law_1527 : decode cL_law 1527 = .ok (.aload_n 0, 1) := eL_law_1521.2.2.2.2.2.1
theorem dL_law_1528 : decode cL_law 1528 = .ok (.iload 4, 2) := eL_law_1521.2.2.2.2.2.2.1
theorem dL_law_1530 : decode cL_law 1530 = .ok (.iconst 3, 1) := eL_law_1521.2.2.2.2.2.2.2.1
theorem dL_law_1531 : decode cL_law 1531 = .ok (.iadd, 1) := eL_law_1521.2.2.2.2.2.2.2.2.1
theorem dL_law_1532 : decode cL_law 1532 = .ok (.iaload, 1) := eL_law_1521.2.2.2.2.2.2.2.2.2.1
theorem dL_law_1533 : decode cL_law 1533 = .ok (.aload_n 3, 1) := eL_law_1521.2.2.2.2.2.2.2.2.2.2.1
theorem dL_law_1534 : decode cL_law 1534 = .ok (.invokestatic 237, 3) := eL_law_1521.2.2.2.2.2.2.2.2.2.2.2.1
theorem dL_law_1537 : decode cL_law 1537 = .ok (.istore 5, 2) := eL_law_1521.2.2.2.2.2.2.2.2.2.2.2.2.1
theorem dL_law_1539 : decode cL_law 1539 = .ok (.aload_n 2, 1) := eL_law_1521.2.2.2.2.2.2.2.2.2.2.2.2.2.1
theorem dL_law_1540 : decode cL_law 1540 = .ok (.aload_n 0, 1) := eL_law_1521.2.2.2.2.2.2.2.2.2.2.2.2.2.2.1
theorem dL_law_1541 : decode cL_law 1541 = .ok (.iload 4, 2) := eL_law_1521.2.2.2.2.2.2.2.2.2.2.2.2.2.2.2
theorem eL_law_1543 : (decode cL_law 1543 = .ok (.iconst 1, 1)) ∧ (decode cL_law 1544 = .ok (.iadd, 1)) ∧ (decode cL_law 1545 = .ok (.iaload, 1)) ∧ (decode cL_law 1546 = .ok (.aload_n 0, 1)) ∧ (decode cL_law 1547 = .ok (.iload 4, 2)) ∧ (decode cL_law 1549 = .ok (.iconst 2, 1)) ∧ (decode cL_law 1550 = .ok (.iadd, 1)) ∧ (decode cL_law 1551 = .ok (.iaload, 1)) ∧ (decode cL_law 1552 = .ok (.aload_n 0, 1)) ∧ (decode cL_law 1553 = .ok (.iload 4, 2)) ∧ (decode cL_law 1555 = .ok (.iconst 3, 1)) ∧ (decode cL_law 1556 = .ok (.iadd, 1)) ∧ (decode cL_law 1557 = .ok (.iaload, 1)) ∧ (decode cL_law 1558 = .ok (.invokevirtual 239, 3)) ∧ (decode cL_law 1561 = .ok (.istore 6, 2)) ∧ (decode cL_law 1563 = .ok (.goto 728, 3)) := by decide +kernel
theorem dL_law_1543 : decode cL_law 1543 = .ok (.iconst 1, 1) := eL_law_1543.1
theorem dL_law_1544 : decode cL_law 1544 = .ok (.iadd, 1) := eL_law_1543.2.1
theorem dL_law_1545 : decode cL_law 1545 = .ok (.iaload, 1) := eL_law_1543.2.2.1
theorem dL_law_1546 : decode cL_law 1546 = .ok (.aload_n 0, 1) := eL_law_1543.2.2.2.1
theorem dL_law_1547 : decode cL_law 1547 = .ok (.iload 4, 2) := eL_law_1543.2.2.2.2.1
theorem dL_law_1549 : decode cL_law 1549 = .ok (.iconst 2, 1) := eL_law_1543.2.2.2.2.2.1
theorem dL_law_1550 : decode cL_law 1550 = .ok (.iadd, 1) := eL_law_1543.2.2.2.2.2.2.1
theorem dL_law_1551 : decode cL_law 1551 = .ok (.iaload, 1) := eL_law_1543.2.2.2.2.2.2.2.1
theorem dL_law_1552 : decode cL_law 1552 = .ok (.aload_n 0, 1) := eL_law_1543.2.2.2.2.2.2.2.2.1
theorem dL_law_1553 : decode cL_law 1553 = .ok (.iload 4, 2) := eL_law_1543.2.2.2.2.2.2.2.2.2.1
theorem dL_law_1555 : decode cL_law 1555 = .ok (.iconst 3, 1) := eL_law_1543.2.2.2.2.2.2.2.2.2.2.1
theorem dL_law_1556 : decode cL_law 1556 = .ok (.iadd, 1) := eL_law_1543.2.2.2.2.2.2.2.2.2.2.2.1
theorem dL_law_1557 : decode cL_law 1557 = .ok (.iaload, 1) := eL_law_1543.2.2.2.2.2.2.2.2.2.2.2.2.1
theorem dL_law_1558 : decode cL_law 1558 = .ok (.invokevirtual 239, 3) := eL_law_1543.2.2.2.2.2.2.2.2.2.2.2.2.2.1
theorem dL_law_1561 : decode cL_law 1561 = .ok (.istore 6, 2) := eL_law_1543.2.2.2.2.2.2.2.2.2.2.2.2.2.2.1
theorem dL_law_1563 : decode cL_law 1563 = .ok (.goto 728, 3) := eL_law_1543.2.2.2.2.2.2.2.2.2.2.2.2.2.2.2
theorem eL_law_1566 : (decode cL_law 1566 = .ok (.aload_n 1, 1)) ∧ (decode cL_law 1567 = .ok (.aload_n 0, 1)) ∧ (decode cL_law 1568 = .ok (.iload 4, 2)) ∧ (decode cL_law 1570 = .ok (.iconst 1, 1)) ∧ (decode cL_law 1571 = .ok (.iadd, 1)) ∧ (decode cL_law 1572 = .ok (.iaload, 1)) ∧ (decode cL_law 1573 = .ok (.aload_n 0, 1)) ∧ (decode cL_law 1574 = .ok (.iload 4, 2)) ∧ (decode cL_law 1576 = .ok (.iconst 2, 1)) ∧ (decode cL_law 1577 = .ok (.iadd, 1)) ∧ (decode cL_law 1578 = .ok (.iaload, 1)) ∧ (decode cL_law 1579 = .ok (.aload_n 3, 1)) ∧ (decode cL_law 1580 = .ok (.invokestatic 240, 3)) ∧ (decode cL_law 1583 = .ok (.istore 5, 2)) ∧ (decode cL_law 1585 = .ok (.aload_n 2, 1)) ∧ (decode cL_law 1586 = .ok (.aload_n 0, 1)) := by decide +kernel
theorem dL_law_1566 : decode cL_law 1566 = .ok (.aload_n 1, 1) := eL_law_1566.1
theorem dL_law_1567 : decode cL_law 1567 = .ok (.aload_n 0, 1) := eL_law_1566.2.1
theorem dL_law_1568 : decode cL_law 1568 = .ok (.iload 4, 2) := eL_law_1566.2.2.1
theorem dL_law_1570 : decode cL_law 1570 = .ok (.iconst 1, 1) := eL_law_1566.2.2.2.1
theorem dL_law_1571 : decode cL_law 1571 = .ok (.iadd, 1) := eL_law_1566.2.2.2.2.1
theorem dL_law_1572 : decode cL_law 1572 = .ok (.iaload, 1) := eL_law_1566.2.2.2.2.2.1
theorem dL_law_1573 : decode cL_law 1573 = .ok (.aload_n 0, 1) := eL_law_1566.2.2.2.2.2.2.1
theorem dL_law_1574 : decode cL_law 1574 = .ok (.iload 4, 2) := eL_law_1566.2.2.2.2.2.2.2.1
theorem dL_law_1576 : decode cL_law 1576 = .ok (.iconst 2, 1) := eL_law_1566.2.2.2.2.2.2.2.2.1
theorem dL_law_1577 : decode cL_law 1577 = .ok (.iadd, 1) := eL_law_1566.2.2.2.2.2.2.2.2.2.1
theorem dL_law_1578 : decode cL_law 1578 = .ok (.iaload, 1) := eL_law_1566.2.2.2.2.2.2.2.2.2.2.1
theorem dL_law_1579 : decode cL_law 1579 = .ok (.aload_n 3, 1) := eL_law_1566.2.2.2.2.2.2.2.2.2.2.2.1
theorem dL_law_1580 : decode cL_law 1580 = .ok (.invokestatic 240, 3) := eL_law_1566.2.2.2.2.2.2.2.2.2.2.2.2.1
theorem dL_law_1583 : decode cL_law 1583 = .ok (.istore 5, 2) := eL_law_1566.2.2.2.2.2.2.2.2.2.2.2.2.2.1
theorem dL_law_1585 : decode cL_law 1585 = .ok (.aload_n 2, 1) := eL_law_1566.2.2.2.2.2.2.2.2.2.2.2.2.2.2.1
theorem dL_law_1586 : decode cL_law 1586 = .ok (.aload_n 0, 1) := eL_law_1566.2.2.2.2.2.2.2.2.2.2.2.2.2.2.2
theorem eL_law_1587 : (decode cL_law 1587 = .ok (.iload 4, 2)) ∧ (decode cL_law 1589 = .ok (.iconst 1, 1)) ∧ (decode cL_law 1590 = .ok (.iadd, 1)) ∧ (decode cL_law 1591 = .ok (.iaload, 1)) ∧ (decode cL_law 1592 = .ok (.aload_n 0, 1)) ∧ (decode cL_law 1593 = .ok (.iload 4, 2)) ∧ (decode cL_law 1595 = .ok (.iconst 2, 1)) ∧ (decode cL_law 1596 = .ok (.iadd, 1)) ∧ (decode cL_law 1597 = .ok (.iaload, 1)) ∧ (decode cL_law 1598 = .ok (.invokevirtual 242, 3)) ∧ (decode cL_law 1601 = .ok (.istore 6, 2)) ∧ (decode cL_law 1603 = .ok (.goto 688, 3)) ∧ (decode cL_law 1606 = .ok (.aload_n 1, 1)) ∧ (decode cL_law 1607 = .ok (.aload_n 0, 1)) ∧ (decode cL_law 1608 = .ok (.iload 4, 2)) ∧ (decode cL_law 1610 = .ok (.iconst 1, 1)) := by decide +kernel
theorem dL_law_1587 : decode cL_law 1587 = .ok (.iload 4, 2) := eL_law_1587.1
theorem dL_law_1589 : decode cL_law 1589 = .ok (.iconst 1, 1) := eL_law_1587.2.1
theorem dL_law_1590 : decode cL_law 1590 = .ok (.iadd, 1) := eL_law_1587.2.2.1
theorem dL_law_1591 : decode cL_law 1591 = .ok (.iaload, 1) := eL_law_1587.2.2.2.1
theorem dL_law_1592 : decode cL_law 1592 = .ok (.aload_n 0, 1) := eL_law_1587.2.2.2.2.1
theorem dL_law_1593 : decode cL_law 1593 = .ok (.iload 4, 2) := eL_law_1587.2.2.2.2.2.1
theorem dL_law_1595 : decode cL_law 1595 = .ok (.iconst 2, 1) := eL_law_1587.2.2.2.2.2.2.1
theorem dL_law_1596 : decode cL_law 1596 = .ok (.iadd, 1) := eL_law_1587.2.2.2.2.2.2.2.1
theorem dL_law_1597 : decode cL_law 1597 = .ok (.iaload, 1) := eL_law_1587.2.2.2.2.2.2.2.2.1
theorem dL_law_1598 : decode cL_law 1598 = .ok (.invokevirtual 242, 3) := eL_law_1587.2.2.2.2.2.2.2.2.2.1
theorem dL_law_1601 : decode cL_law 1601 = .ok (.istore 6, 2) := eL_law_1587.2.2.2.2.2.2.2.2.2.2.1
theorem dL_law_1603 : decode cL_law 1603 = .ok (.goto 688, 3) := eL_law_1587.2.2.2.2.2.2.2.2.2.2.2.1
theorem dL_law_1606 : decode cL_law 1606 = .ok (.aload_n 1, 1) := eL_law_1587.2.2.2.2.2.2.2.2.2.2.2.2.1
theorem dL_law_1607 : decode cL_law 1607 = .ok (.aload_n 0, 1) := eL_law_1587.2.2.2.2.2.2.2.2.2.2.2.2.2.1
theorem dL_law_1608 : decode cL_law 1608 = .ok (.iload 4, 2) := eL_law_1587.2.2.2.2.2.2.2.2.2.2.2.2.2.2.1
theorem dL_law_1610 : decode cL_law 1610 = .ok (.iconst 1, 1) := eL_law_1587.2.2.2.2.2.2.2.2.2.2.2.2.2.2.2
theorem eL_law_1611 : (decode cL_law 1611 = .ok (.iadd, 1)) ∧ (decode cL_law 1612 = .ok (.iaload, 1)) ∧ (decode cL_law 1613 = .ok (.aload_n 3, 1)) ∧ (decode cL_law 1614 = .ok (.invokestatic 243, 3)) ∧ (decode cL_law 1617 = .ok (.istore 5, 2)) ∧ (decode cL_law 1619 = .ok (.aload_n 2, 1)) ∧ (decode cL_law 1620 = .ok (.aload_n 0, 1)) ∧ (decode cL_law 1621 = .ok (.iload 4, 2)) ∧ (decode cL_law 1623 = .ok (.iconst 1, 1)) ∧ (decode cL_law 1624 = .ok (.iadd, 1)) ∧ (decode cL_law 1625 = .ok (.iaload, 1)) ∧ (decode cL_law 1626 = .ok (.invokevirtual 245, 3)) ∧ (decode cL_law 1629 = .ok (.istore 6, 2)) ∧ (decode cL_law 1631 = .ok (.goto 660, 3)) ∧ (decode cL_law 1634 = .ok (.aload_n 1, 1)) ∧ (decode cL_law 1635 = .ok (.invokevirtual 246, 3)) := by decide +kernel
theorem dL_law_1611 : decode cL_law 1611 = .ok (.iadd, 1) := eL_law_1611.1
theorem dL_law_1612 : decode cL_law 1612 = .ok (.iaload, 1) := eL_law_1611.2.1
theorem dL_law_1613 : decode cL_law 1613 = .ok (.aload_n 3, 1) := eL_law_1611.2.2.1
theorem dL_law_1614 : decode cL_law 1614 = .ok (.invokestatic 243, 3) := eL_law_1611.2.2.2.1
theorem dL_law_1617 : decode cL_law 1617 = .ok (.istore 5, 2) := eL_law_1611.2.2.2.2.1
theorem dL_law_1619 : decode cL_law 1619 = .ok (.aload_n 2, 1) := eL_law_1611.2.2.2.2.2.1
theorem dL_law_1620 : decode cL_law 1620 = .ok (.aload_n 0, 1) := eL_law_1611.2.2.2.2.2.2.1
theorem dL_law_1621 : decode cL_law 1621 = .ok (.iload 4, 2) := eL_law_1611.2.2.2.2.2.2.2.1
theorem dL_law_1623 : decode cL_law 1623 = .ok (.iconst 1, 1) := eL_law_1611.2.2.2.2.2.2.2.2.1
theorem dL_law_1624 : decode cL_law 1624 = .ok (.iadd, 1) := eL_law_1611.2.2.2.2.2.2.2.2.2.1
theorem dL_law_1625 : decode cL_law 1625 = .ok (.iaload, 1) := eL_law_1611.2.2.2.2.2.2.2.2.2.2.1
theorem dL_law_1626 : decode cL_law 1626 = .ok (.invokevirtual 245, 3) := eL_law_1611.2.2.2.2.2.2.2.2.2.2.2.1
theorem dL_law_1629 : decode cL_law 1629 = .ok (.istore 6, 2) := eL_law_1611.2.2.2.2.2.2.2.2.2.2.2.2.1
theorem dL_law_1631 : decode cL_law 1631 = .ok (.goto 660, 3) := eL_law_1611.2.2.2.2.2.2.2.2.2.2.2.2.2.1
theorem dL_law_1634 : decode cL_law 1634 = .ok (.aload_n 1, 1) := eL_law_1611.2.2.2.2.2.2.2.2.2.2.2.2.2.2.1
theorem dL_law_1635 : decode cL_law 1635 = .ok (.invokevirtual 246, 3) := eL_law_1611.2.2.2.2.2.2.2.2.2.2.2.2.2.2.2
theorem eL_law_1638 : (decode cL_law 1638 = .ok (.aload_n 2, 1)) ∧ (decode cL_law 1639 = .ok (.invokevirtual 250, 3)) ∧ (decode cL_law 1642 = .ok (.if_icmp .eq 649, 3)) ∧ (decode cL_law 1645 = .ok (.iconst 0, 1)) ∧ (decode cL_law 1646 = .ok (.ireturn, 1)) ∧ (decode cL_law 1647 = .ok (.aload_n 1, 1)) ∧ (decode cL_law 1648 = .ok (.aload_n 0, 1)) ∧ (decode cL_law 1649 = .ok (.iload 4, 2)) ∧ (decode cL_law 1651 = .ok (.iconst 1, 1)) ∧ (decode cL_law 1652 = .ok (.iadd, 1)) ∧ (decode cL_law 1653 = .ok (.iaload, 1)) ∧ (decode cL_law 1654 = .ok (.aload_n 3, 1)) ∧ (decode cL_law 1655 = .ok (.invokestatic 251, 3)) ∧ (decode cL_law 1658 = .ok (.istore 5, 2)) ∧ (decode cL_law 1660 = .ok (.aload_n 2, 1)) ∧ (decode cL_law 1661 = .ok (.aload_n 0, 1)) := by decide +kernel
theorem dL_law_1638 : decode cL_law 1638 = .ok (.aload_n 2, 1) := eL_law_1638.1
theorem dL_law_1639 : decode cL_law 1639 = .ok (.invokevirtual 250, 3) := eL_law_1638.2.1
theorem dL_law_1642 : decode cL_law 1642 = .ok (.if_icmp .eq 649, 3) := eL_law_1638.2.2.1
theorem dL_law_1645 : decode cL_law 1645 = .ok (.iconst 0, 1) := eL_law_1638.2.2.2.1
theorem dL_law_1646 : decode cL_law 1646 = .ok (.ireturn, 1) := eL_law_1638.2.2.2.2.1
theorem dL_law_1647 : decode cL_law 1647 = .ok (.aload_n 1, 1) := eL_law_1638.2.2.2.2.2.1
theorem dL_law_1648 : decode cL_law 1648 = .ok (.aload_n 0, 1) := eL_law_1638.2.2.2.2.2.2.1
theorem dL_law_1649 : decode cL_law 1649 = .ok (.iload 4, 2) := eL_law_1638.2.2.2.2.2.2.2.1
theorem dL_law_1651 : decode cL_law 1651 = .ok (.iconst 1, 1) := eL_law_1638.2.2.2.2.2.2.2.2.1
theorem dL_law_1652 : decode cL_law 1652 = .ok (.iadd, 1) := eL_law_1638.2.2.2.2.2.2.2.2.2.1
theorem dL_law_1653 : decode cL_law 1653 = .ok (.iaload, 1) := eL_law_1638.2.2.2.2.2.2.2.2.2.2.1
theorem dL_law_1654 : decode cL_law 1654 = .ok (.aload_n 3, 1) := eL_law_1638.2.2.2.2.2.2.2.2.2.2.2.1
theorem dL_law_1655 : decode cL_law 1655 = .ok (.invokestatic 251, 3) := eL_law_1638.2.2.2.2.2.2.2.2.2.2.2.2.1
theorem dL_law_1658 : decode cL_law 1658 = .ok (.istore 5, 2) := eL_law_1638.2.2.2.2.2.2.2.2.2.2.2.2.2.1
theorem dL_law_1660 : decode cL_law 1660 = .ok (.aload_n 2, 1) := eL_law_1638.2.2.2.2.2.2.2.2.2.2.2.2.2.2.1
theorem dL_law_1661 : decode cL_law 1661 = .ok (.aload_n 0, 1) := eL_law_1638.2.2.2.2.2.2.2.2.2.2.2.2.2.2.2
theorem eL_law_1662 : (decode cL_law 1662 = .ok (.iload 4, 2)) ∧ (decode cL_law 1664 = .ok (.iconst 1, 1)) ∧ (decode cL_law 1665 = .ok (.iadd, 1)) ∧ (decode cL_law 1666 = .ok (.iaload, 1)) ∧ (decode cL_law 1667 = .ok (.invokevirtual 253, 3)) ∧ (decode cL_law 1670 = .ok (.istore 6, 2)) ∧ (decode cL_law 1672 = .ok (.goto 619, 3)) ∧ (decode cL_law 1675 = .ok (.aload_n 1, 1)) ∧ (decode cL_law 1676 = .ok (.invokevirtual 254, 3)) ∧ (decode cL_law 1679 = .ok (.pop, 1)) ∧ (decode cL_law 1680 = .ok (.aload_n 2, 1)) ∧ (decode cL_law 1681 = .ok (.invokevirtual 257, 3)) ∧ (decode cL_law 1684 = .ok (.pop, 1)) ∧ (decode cL_law 1685 = .ok (.goto 606, 3)) ∧ (decode cL_law 1688 = .ok (.aload_n 1, 1)) ∧ (decode cL_law 1689 = .ok (.aload_n 0, 1)) := by decide +kernel
theorem dL_law_1662 : decode cL_law 1662 = .ok (.iload 4, 2) := eL_law_1662.1
theorem dL_law_1664 : decode cL_law 1664 = .ok (.iconst 1, 1) := eL_law_1662.2.1
theorem dL_law_1665 : decode cL_law 1665 = .ok (.iadd, 1) := eL_law_1662.2.2.1
theorem dL_law_1666 : decode cL_law 1666 = .ok (.iaload, 1) := eL_law_1662.2.2.2.1
theorem dL_law_1667 : decode cL_law 1667 = .ok (.invokevirtual 253, 3) := eL_law_1662.2.2.2.2.1
theorem dL_law_1670 : decode cL_law 1670 = .ok (.istore 6, 2) := eL_law_1662.2.2.2.2.2.1
theorem dL_law_1672 : decode cL_law 1672 = .ok (.goto 619, 3) := eL_law_1662.2.2.2.2.2.2.1
theorem dL_law_1675 : decode cL_law 1675 = .ok (.aload_n 1, 1) := eL_law_1662.2.2.2.2.2.2.2.1
theorem dL_law_1676 : decode cL_law 1676 = .ok (.invokevirtual 254, 3) := eL_law_1662.2.2.2.2.2.2.2.2.1
theorem dL_law_1679 : decode cL_law 1679 = .ok (.pop, 1) := eL_law_1662.2.2.2.2.2.2.2.2.2.1
theorem dL_law_1680 : decode cL_law 1680 = .ok (.aload_n 2, 1) := eL_law_1662.2.2.2.2.2.2.2.2.2.2.1
theorem dL_law_1681 : decode cL_law 1681 = .ok (.invokevirtual 257, 3) := eL_law_1662.2.2.2.2.2.2.2.2.2.2.2.1
theorem dL_law_1684 : decode cL_law 1684 = .ok (.pop, 1) := eL_law_1662.2.2.2.2.2.2.2.2.2.2.2.2.1
theorem dL_law_1685 : decode cL_law 1685 = .ok (.goto 606, 3) := eL_law_1662.2.2.2.2.2.2.2.2.2.2.2.2.2.1
theorem dL_law_1688 : decode cL_law 1688 = .ok (.aload_n 1, 1) := eL_law_1662.2.2.2.2.2.2.2.2.2.2.2.2.2.2.1
theorem dL_law_1689 : decode cL_law 1689 = .ok (.aload_n 0, 1) := eL_law_1662.2.2.2.2.2.2.2.2.2.2.2.2.2.2.2
theorem eL_law_1690 : (decode cL_law 1690 = .ok (.iload 4, 2)) ∧ (decode cL_law 1692 = .ok (.iconst 1, 1)) ∧ (decode cL_law 1693 = .ok (.iadd, 1)) ∧ (decode cL_law 1694 = .ok (.iaload, 1)) ∧ (decode cL_law 1695 = .ok (.aload_n 0, 1)) ∧ (decode cL_law 1696 = .ok (.iload 4, 2)) ∧ (decode cL_law 1698 = .ok (.iconst 2, 1)) ∧ (decode cL_law 1699 = .ok (.iadd, 1)) ∧ (decode cL_law 1700 = .ok (.iaload, 1)) ∧ (decode cL_law 1701 = .ok (.aload_n 3, 1)) ∧ (decode cL_law 1702 = .ok (.invokestatic 258, 3)) ∧ (decode cL_law 1705 = .ok (.istore 5, 2)) ∧ (decode cL_law 1707 = .ok (.aload_n 2, 1)) ∧ (decode cL_law 1708 = .ok (.aload_n 0, 1)) ∧ (decode cL_law 1709 = .ok (.iload 4, 2)) ∧ (decode cL_law 1711 = .ok (.iconst 1, 1)) := by decide +kernel
theorem dL_law_1690 : decode cL_law 1690 = .ok (.iload 4, 2) := eL_law_1690.1
theorem dL_law_1692 : decode cL_law 1692 = .ok (.iconst 1, 1) := eL_law_1690.2.1
theorem dL_law_1693 : decode cL_law 1693 = .ok (.iadd, 1) := eL_law_1690.2.2.1
theorem dL_law_1694 : decode cL_law 1694 = .ok (.iaload, 1) := eL_law_1690.2.2.2.1
theorem dL_law_1695 : decode cL_law 1695 = .ok (.aload_n 0, 1) := eL_law_1690.2.2.2.2.1
theorem dL_law_1696 : decode cL_law 1696 = .ok (.iload 4, 2) := eL_law_1690.2.2.2.2.2.1
theorem dL_law_1698 : decode cL_law 1698 = .ok (.iconst 2, 1) := eL_law_1690.2.2.2.2.2.2.1
theorem dL_law_1699 : decode cL_law 1699 = .ok (.iadd, 1) := eL_law_1690.2.2.2.2.2.2.2.1
theorem dL_law_1700 : decode cL_law 1700 = .ok (.iaload, 1) := eL_law_1690.2.2.2.2.2.2.2.2.1
theorem dL_law_1701 : decode cL_law 1701 = .ok (.aload_n 3, 1) := eL_law_1690.2.2.2.2.2.2.2.2.2.1
theorem dL_law_1702 : decode cL_law 1702 = .ok (.invokestatic 258, 3) := eL_law_1690.2.2.2.2.2.2.2.2.2.2.1
theorem dL_law_1705 : decode cL_law 1705 = .ok (.istore 5, 2) := eL_law_1690.2.2.2.2.2.2.2.2.2.2.2.1
theorem dL_law_1707 : decode cL_law 1707 = .ok (.aload_n 2, 1) := eL_law_1690.2.2.2.2.2.2.2.2.2.2.2.2.1
theorem dL_law_1708 : decode cL_law 1708 = .ok (.aload_n 0, 1) := eL_law_1690.2.2.2.2.2.2.2.2.2.2.2.2.2.1
theorem dL_law_1709 : decode cL_law 1709 = .ok (.iload 4, 2) := eL_law_1690.2.2.2.2.2.2.2.2.2.2.2.2.2.2.1
theorem dL_law_1711 : decode cL_law 1711 = .ok (.iconst 1, 1) := eL_law_1690.2.2.2.2.2.2.2.2.2.2.2.2.2.2.2
theorem eL_law_1712 : (decode cL_law 1712 = .ok (.iadd, 1)) ∧ (decode cL_law 1713 = .ok (.iaload, 1)) ∧ (decode cL_law 1714 = .ok (.aload_n 0, 1)) ∧ (decode cL_law 1715 = .ok (.iload 4, 2)) ∧ (decode cL_law 1717 = .ok (.iconst 2, 1)) ∧ (decode cL_law 1718 = .ok (.iadd, 1)) ∧ (decode cL_law 1719 = .ok (.iaload, 1)) ∧ (decode cL_law 1720 = .ok (.invokevirtual 260, 3)) ∧ (decode cL_law 1723 = .ok (.istore 6, 2)) ∧ (decode cL_law 1725 = .ok (.goto 566, 3)) ∧ (decode cL_law 1728 = .ok (.aload_n 1, 1)) ∧ (decode cL_law 1729 = .ok (.aload_n 0, 1)) ∧ (decode cL_law 1730 = .ok (.iload 4, 2)) ∧ (decode cL_law 1732 = .ok (.iconst 1, 1)) ∧ (decode cL_law 1733 = .ok (.iadd, 1)) ∧ (decode cL_law 1734 = .ok (.iaload, 1)) := by decide +kernel
theorem dL_law_1712 : decode cL_law 1712 = .ok (.iadd, 1) := eL_law_1712.1
theorem dL_law_1713 : decode cL_law 1713 = .ok (.iaload, 1) := eL_law_1712.2.1
theorem dL_law_1714 : decode cL_law 1714 = .ok (.aload_n 0, 1) := eL_law_1712.2.2.1
theorem dL_law_1715 : decode cL_law 1715 = .ok (.iload 4, 2) := eL_law_1712.2.2.2.1
theorem dL_law_1717 : decode cL_law 1717 = .ok (.iconst 2, 1) := eL_law_1712.2.2.2.2.1
theorem dL_law_1718 : decode cL_law 1718 = .ok (.iadd, 1) := eL_law_1712.2.2.2.2.2.1
theorem dL_law_1719 : decode cL_law 1719 = .ok (.iaload, 1) := eL_law_1712.2.2.2.2.2.2.1
theorem dL_law_1720 : decode cL_law 1720 = .ok (.invokevirtual 260, 3) := eL_law_1712.2.2.2.2.2.2.2.1
theorem dL_law_1723 : decode cL_law 1723 = .ok (.istore 6, 2) := eL_law_1712.2.2.2.2.2.2.2.2.1
theorem dL_law_1725 : decode cL_law 1725 = .ok (.goto 566, 3) := eL_law_1712.2.2.2.2.2.2.2.2.2.1
theorem dL_law_1728 : decode cL_law 1728 = .ok (.aload_n 1, 1) := eL_law_1712.2.2.2.2.2.2.2.2.2.2.1
theorem dL_law_1729 : decode cL_law 1729 = .ok (.aload_n 0, 1) := eL_law_1712.2.2.2.2.2.2.2.2.2.2.2.1
theorem dL_law_1730 : decode cL_law 1730 = .ok (.iload 4, 2) := eL_law_1712.2.2.2.2.2.2.2.2.2.2.2.2.1
theorem dL_law_1732 : decode cL_law 1732 = .ok (.iconst 1, 1) := eL_law_1712.2.2.2.2.2.2.2.2.2.2.2.2.2.1
theorem dL_law_1733 : decode cL_law 1733 = .ok (.iadd, 1) := eL_law_1712.2.2.2.2.2.2.2.2.2.2.2.2.2.2.1
theorem dL_law_1734 : decode cL_law 1734 = .ok (.iaload, 1) := eL_law_1712.2.2.2.2.2.2.2.2.2.2.2.2.2.2.2
theorem eL_law_1735 : (decode cL_law 1735 = .ok (.aload_n 0, 1)) ∧ (decode cL_law 1736 = .ok (.iload 4, 2)) ∧ (decode cL_law 1738 = .ok (.iconst 2, 1)) ∧ (decode cL_law 1739 = .ok (.iadd, 1)) ∧ (decode cL_law 1740 = .ok (.iaload, 1)) ∧ (decode cL_law 1741 = .ok (.aload_n 0, 1)) ∧ (decode cL_law 1742 = .ok (.iload 4, 2)) ∧ (decode cL_law 1744 = .ok (.iconst 3, 1)) ∧ (decode cL_law 1745 = .ok (.iadd, 1)) ∧ (decode cL_law 1746 = .ok (.iaload, 1)) ∧ (decode cL_law 1747 = .ok (.aload_n 3, 1)) ∧ (decode cL_law 1748 = .ok (.invokestatic 261, 3)) ∧ (decode cL_law 1751 = .ok (.istore 5, 2)) ∧ (decode cL_law 1753 = .ok (.aload_n 2, 1)) ∧ (decode cL_law 1754 = .ok (.aload_n 0, 1)) ∧ (decode cL_law 1755 = .ok (.iload 4, 2)) := by decide +kernel
theorem dL_law_1735 : decode cL_law 1735 = .ok (.aload_n 0, 1) := eL_law_1735.1
theorem dL_law_1736 : decode cL_law 1736 = .ok (.iload 4, 2) := eL_law_1735.2.1
theorem dL_law_1738 : decode cL_law 1738 = .ok (.iconst 2, 1) := eL_law_1735.2.2.1
theorem dL_law_1739 : decode cL_law 1739 = .ok (.iadd, 1) := eL_law_1735.2.2.2.1
theorem dL_law_1740 : decode cL_law 1740 = .ok (.iaload, 1) := eL_law_1735.2.2.2.2.1
theorem dL_law_1741 : decode cL_law 1741 = .ok (.aload_n 0, 1) := eL_law_1735.2.2.2.2.2.1
theorem dL_law_1742 : decode cL_law 1742 = .ok (.iload 4, 2) := eL_law_1735.2.2.2.2.2.2.1
theorem dL_law_1744 : decode cL_law 1744 = .ok (.iconst 3, 1) := eL_law_1735.2.2.2.2.2.2.2.1
theorem dL_law_1745 : decode cL_law 1745 = .ok (.iadd, 1) := eL_law_1735.2.2.2.2.2.2.2.2.1
theorem dL_law_1746 : decode cL_law 1746 = .ok (.iaload, 1) := eL_law_1735.2.2.2.2.2.2.2.2.2.1
theorem dL_law_1747 : decode cL_law 1747 = .ok (.aload_n 3, 1) := eL_law_1735.2.2.2.2.2.2.2.2.2.2.1
theorem dL_law_1748 : decode cL_law 1748 = .ok (.invokestatic 261, 3) := eL_law_1735.2.2.2.2.2.2.2.2.2.2.2.1
theorem dL_law_1751 : decode cL_law 1751 = .ok (.istore 5, 2) := eL_law_1735.2.2.2.2.2.2.2.2.2.2.2.2.1
theorem dL_law_1753 : decode cL_law 1753 = .ok (.aload_n 2, 1) := eL_law_1735.2.2.2.2.2.2.2.2.2.2.2.2.2.1
theorem dL_law_1754 : decode cL_law 1754 = .ok (.aload_n 0, 1) := eL_law_1735.2.2.2.2.2.2.2.2.2.2.2.2.2.2.1
theorem dL_law_1755 : decode cL_law 1755 = .ok (.iload 4, 2) := eL_law_1735.2.2.2.2.2.2.2.2.2.2.2.2.2.2.2
theorem eL_law_1757 : (decode cL_law 1757 = .ok (.iconst 1, 1)) ∧ (decode cL_law 1758 = .ok (.iadd, 1)) ∧ (decode cL_law 1759 = .ok (.iaload, 1)) ∧ (decode cL_law 1760 = .ok (.aload_n 0, 1)) ∧ (decode cL_law 1761 = .ok (.iload 4, 2)) ∧ (decode cL_law 1763 = .ok (.iconst 2, 1)) ∧ (decode cL_law 1764 = .ok (.iadd, 1)) ∧ (decode cL_law 1765 = .ok (.iaload, 1)) ∧ (decode cL_law 1766 = .ok (.aload_n 0, 1)) ∧ (decode cL_law 1767 = .ok (.iload 4, 2)) ∧ (decode cL_law 1769 = .ok (.iconst 3, 1)) ∧ (decode cL_law 1770 = .ok (.iadd, 1)) ∧ (decode cL_law 1771 = .ok (.iaload, 1)) ∧ (decode cL_law 1772 = .ok (.invokevirtual 263, 3)) ∧ (decode cL_law 1775 = .ok (.istore 6, 2)) ∧ (decode cL_law 1777 = .ok (.goto 514, 3)) := by decide +kernel
theorem dL_law_1757 : decode cL_law 1757 = .ok (.iconst 1, 1) := eL_law_1757.1
theorem dL_law_1758 : decode cL_law 1758 = .ok (.iadd, 1) := eL_law_1757.2.1
theorem dL_law_1759 : decode cL_law 1759 = .ok (.iaload, 1) := eL_law_1757.2.2.1
theorem dL_law_1760 : decode cL_law 1760 = .ok (.aload_n 0, 1) := eL_law_1757.2.2.2.1
theorem dL_law_1761 : decode cL_law 1761 = .ok (.iload 4, 2) := eL_law_1757.2.2.2.2.1
theorem dL_law_1763 : decode cL_law 1763 = .ok (.iconst 2, 1) := eL_law_1757.2.2.2.2.2.1
theorem dL_law_1764 : decode cL_law 1764 = .ok (.iadd, 1) := eL_law_1757.2.2.2.2.2.2.1
theorem dL_law_1765 : decode cL_law 1765 = .ok (.iaload, 1) := eL_law_1757.2.2.2.2.2.2.2.1
theorem dL_law_1766 : decode cL_law 1766 = .ok (.aload_n 0, 1) := eL_law_1757.2.2.2.2.2.2.2.2.1
theorem dL_law_1767 : decode cL_law 1767 = .ok (.iload 4, 2) := eL_law_1757.2.2.2.2.2.2.2.2.2.1
theorem dL_law_1769 : decode cL_law 1769 = .ok (.iconst 3, 1) := eL_law_1757.2.2.2.2.2.2.2.2.2.2.1
theorem dL_law_1770 : decode cL_law 1770 = .ok (.iadd, 1) := eL_law_1757.2.2.2.2.2.2.2.2.2.2.2.1
theorem dL_law_1771 : decode cL_law 1771 = .ok (.iaload, 1) := eL_law_1757.2.2.2.2.2.2.2.2.2.2.2.2.1
theorem dL_law_1772 : decode cL_law 1772 = .ok (.invokevirtual 263, 3) := eL_law_1757.2.2.2.2.2.2.2.2.2.2.2.2.2.1
theorem dL_law_1775 : decode cL_law 1775 = .ok (.istore 6, 2) := eL_law_1757.2.2.2.2.2.2.2.2.2.2.2.2.2.2.1
theorem dL_law_1777 : decode cL_law 1777 = .ok (.goto 514, 3) := eL_law_1757.2.2.2.2.2.2.2.2.2.2.2.2.2.2.2
theorem eL_law_1780 : (decode cL_law 1780 = .ok (.aload_n 1, 1)) ∧ (decode cL_law 1781 = .ok (.aload_n 0, 1)) ∧ (decode cL_law 1782 = .ok (.iload 4, 2)) ∧ (decode cL_law 1784 = .ok (.iconst 1, 1)) ∧ (decode cL_law 1785 = .ok (.iadd, 1)) ∧ (decode cL_law 1786 = .ok (.iaload, 1)) ∧ (decode cL_law 1787 = .ok (.aload_n 0, 1)) ∧ (decode cL_law 1788 = .ok (.iload 4, 2)) ∧ (decode cL_law 1790 = .ok (.iconst 2, 1)) ∧ (decode cL_law 1791 = .ok (.iadd, 1)) ∧ (decode cL_law 1792 = .ok (.iaload, 1)) ∧ (decode cL_law 1793 = .ok (.aload_n 3, 1)) ∧ (decode cL_law 1794 = .ok (.invokestatic 264, 3)) ∧ (decode cL_law 1797 = .ok (.istore 5, 2)) ∧ (decode cL_law 1799 = .ok (.aload_n 2, 1)) ∧ (decode cL_law 1800 = .ok (.aload_n 0, 1)) := by decide +kernel
theorem dL_law_1780 : decode cL_law 1780 = .ok (.aload_n 1, 1) := eL_law_1780.1
theorem dL_law_1781 : decode cL_law 1781 = .ok (.aload_n 0, 1) := eL_law_1780.2.1
theorem dL_law_1782 : decode cL_law 1782 = .ok (.iload 4, 2) := eL_law_1780.2.2.1
theorem dL_law_1784 : decode cL_law 1784 = .ok (.iconst 1, 1) := eL_law_1780.2.2.2.1
theorem dL_law_1785 : decode cL_law 1785 = .ok (.iadd, 1) := eL_law_1780.2.2.2.2.1
theorem dL_law_1786 : decode cL_law 1786 = .ok (.iaload, 1) := eL_law_1780.2.2.2.2.2.1
theorem dL_law_1787 : decode cL_law 1787 = .ok (.aload_n 0, 1) := eL_law_1780.2.2.2.2.2.2.1
theorem dL_law_1788 : decode cL_law 1788 = .ok (.iload 4, 2) := eL_law_1780.2.2.2.2.2.2.2.1
theorem dL_law_1790 : decode cL_law 1790 = .ok (.iconst 2, 1) := eL_law_1780.2.2.2.2.2.2.2.2.1
theorem dL_law_1791 : decode cL_law 1791 = .ok (.iadd, 1) := eL_law_1780.2.2.2.2.2.2.2.2.2.1
theorem dL_law_1792 : decode cL_law 1792 = .ok (.iaload, 1) := eL_law_1780.2.2.2.2.2.2.2.2.2.2.1
theorem dL_law_1793 : decode cL_law 1793 = .ok (.aload_n 3, 1) := eL_law_1780.2.2.2.2.2.2.2.2.2.2.2.1
theorem dL_law_1794 : decode cL_law 1794 = .ok (.invokestatic 264, 3) := eL_law_1780.2.2.2.2.2.2.2.2.2.2.2.2.1
theorem dL_law_1797 : decode cL_law 1797 = .ok (.istore 5, 2) := eL_law_1780.2.2.2.2.2.2.2.2.2.2.2.2.2.1
theorem dL_law_1799 : decode cL_law 1799 = .ok (.aload_n 2, 1) := eL_law_1780.2.2.2.2.2.2.2.2.2.2.2.2.2.2.1
theorem dL_law_1800 : decode cL_law 1800 = .ok (.aload_n 0, 1) := eL_law_1780.2.2.2.2.2.2.2.2.2.2.2.2.2.2.2
theorem eL_law_1801 : (decode cL_law 1801 = .ok (.iload 4, 2)) ∧ (decode cL_law 1803 = .ok (.iconst 1, 1)) ∧ (decode cL_law 1804 = .ok (.iadd, 1)) ∧ (decode cL_law 1805 = .ok (.iaload, 1)) ∧ (decode cL_law 1806 = .ok (.aload_n 0, 1)) ∧ (decode cL_law 1807 = .ok (.iload 4, 2)) ∧ (decode cL_law 1809 = .ok (.iconst 2, 1)) ∧ (decode cL_law 1810 = .ok (.iadd, 1)) ∧ (decode cL_law 1811 = .ok (.iaload, 1)) ∧ (decode cL_law 1812 = .ok (.invokevirtual 266, 3)) ∧ (decode cL_law 1815 = .ok (.istore 6, 2)) ∧ (decode cL_law 1817 = .ok (.goto 474, 3)) ∧ (decode cL_law 1820 = .ok (.aload_n 1, 1)) ∧ (decode cL_law 1821 = .ok (.aload_n 0, 1)) ∧ (decode cL_law 1822 = .ok (.iload 4, 2)) ∧ (decode cL_law 1824 = .ok (.iconst 1, 1)) := by decide +kernel
theorem dL_law_1801 : decode cL_law 1801 = .ok (.iload 4, 2) := eL_law_1801.1
theorem dL_law_1803 : decode cL_law 1803 = .ok (.iconst 1, 1) := eL_law_1801.2.1
theorem dL_law_1804 : decode cL_law 1804 = .ok (.iadd, 1) := eL_law_1801.2.2.1
theorem dL_law_1805 : decode cL_law 1805 = .ok (.iaload, 1) := eL_law_1801.2.2.2.1
theorem dL_law_1806 : decode cL_law 1806 = .ok (.aload_n 0, 1) := eL_law_1801.2.2.2.2.1
theorem dL_law_1807 : decode cL_law 1807 = .ok (.iload 4, 2) := eL_law_1801.2.2.2.2.2.1
theorem dL_law_1809 : decode cL_law 1809 = .ok (.iconst 2, 1) := eL_law_1801.2.2.2.2.2.2.1
theorem dL_law_1810 : decode cL_law 1810 = .ok (.iadd, 1) := eL_law_1801.2.2.2.2.2.2.2.1
theorem dL_law_1811 : decode cL_law 1811 = .ok (.iaload, 1) := eL_law_1801.2.2.2.2.2.2.2.2.1
theorem dL_law_1812 : decode cL_law 1812 = .ok (.invokevirtual 266, 3) := eL_law_1801.2.2.2.2.2.2.2.2.2.1
theorem dL_law_1815 : decode cL_law 1815 = .ok (.istore 6, 2) := eL_law_1801.2.2.2.2.2.2.2.2.2.2.1
theorem dL_law_1817 : decode cL_law 1817 = .ok (.goto 474, 3) := eL_law_1801.2.2.2.2.2.2.2.2.2.2.2.1
theorem dL_law_1820 : decode cL_law 1820 = .ok (.aload_n 1, 1) := eL_law_1801.2.2.2.2.2.2.2.2.2.2.2.2.1
theorem dL_law_1821 : decode cL_law 1821 = .ok (.aload_n 0, 1) := eL_law_1801.2.2.2.2.2.2.2.2.2.2.2.2.2.1
theorem dL_law_1822 : decode cL_law 1822 = .ok (.iload 4, 2) := eL_law_1801.2.2.2.2.2.2.2.2.2.2.2.2.2.2.1
theorem dL_law_1824 : decode cL_law 1824 = .ok (.iconst 1, 1) := eL_law_1801.2.2.2.2.2.2.2.2.2.2.2.2.2.2.2
theorem eL_law_1825 : (decode cL_law 1825 = .ok (.iadd, 1)) ∧ (decode cL_law 1826 = .ok (.iaload, 1)) ∧ (decode cL_law 1827 = .ok (.aload_n 0, 1)) ∧ (decode cL_law 1828 = .ok (.iload 4, 2)) ∧ (decode cL_law 1830 = .ok (.iconst 2, 1)) ∧ (decode cL_law 1831 = .ok (.iadd, 1)) ∧ (decode cL_law 1832 = .ok (.iaload, 1)) ∧ (decode cL_law 1833 = .ok (.aload_n 0, 1)) ∧ (decode cL_law 1834 = .ok (.iload 4, 2)) ∧ (decode cL_law 1836 = .ok (.iconst 3, 1)) ∧ (decode cL_law 1837 = .ok (.iadd, 1)) ∧ (decode cL_law 1838 = .ok (.iaload, 1)) ∧ (decode cL_law 1839 = .ok (.aload_n 0, 1)) ∧ (decode cL_law 1840 = .ok (.iload 4, 2)) ∧ (decode cL_law 1842 = .ok (.iconst 4, 1)) ∧ (decode cL_law 1843 = .ok (.iadd, 1)) := by decide +kernel
theorem dL_law_1825 : decode cL_law 1825 = .ok (.iadd, 1) := eL_law_1825.1
theorem dL_law_1826 : decode cL_law 1826 = .ok (.iaload, 1) := eL_law_1825.2.1
theorem dL_law_1827 : decode cL_law 1827 = .ok (.aload_n 0, 1) := eL_law_1825.2.2.1
theorem dL_law_1828 : decode cL_law 1828 = .ok (.iload 4, 2) := eL_law_1825.2.2.2.1
theorem dL_law_1830 : decode cL_law 1830 = .ok (.iconst 2, 1) := eL_law_1825.2.2.2.2.1
theorem dL_law_1831 : decode cL_law 1831 = .ok (.iadd, 1) := eL_law_1825.2.2.2.2.2.1
theorem dL_law_1832 : decode cL_law 1832 = .ok (.iaload, 1) := eL_law_1825.2.2.2.2.2.2.1
theorem dL_law_1833 : decode cL_law 1833 = .ok (.aload_n 0, 1) := eL_law_1825.2.2.2.2.2.2.2.1
theorem dL_law_1834 : decode cL_law 1834 = .ok (.iload 4, 2) := eL_law_1825.2.2.2.2.2.2.2.2.1
theorem dL_law_1836 : decode cL_law 1836 = .ok (.iconst 3, 1) := eL_law_1825.2.2.2.2.2.2.2.2.2.1
theorem dL_law_1837 : decode cL_law 1837 = .ok (.iadd, 1) := eL_law_1825.2.2.2.2.2.2.2.2.2.2.1
theorem dL_law_1838 : decode cL_law 1838 = .ok (.iaload, 1) := eL_law_1825.2.2.2.2.2.2.2.2.2.2.2.1
theorem dL_law_1839 : decode cL_law 1839 = .ok (.aload_n 0, 1) := eL_law_1825.2.2.2.2.2.2.2.2.2.2.2.2.1
theorem dL_law_1840 : decode cL_law 1840 = .ok (.iload 4, 2) := eL_law_1825.2.2.2.2.2.2.2.2.2.2.2.2.2.1
theorem dL_law_1842 : decode cL_law 1842 = .ok (.iconst 4, 1) := eL_law_1825.2.2.2.2.2.2.2.2.2.2.2.2.2.2.1
theorem dL_law_1843 : decode cL_law 1843 = .ok (.iadd, 1) := eL_law_1825.2.2.2.2.2.2.2.2.2.2.2.2.2.2.2
theorem eL_law_1844 : (decode cL_law 1844 = .ok (.iaload, 1)) ∧ (decode cL_law 1845 = .ok (.aload_n 0, 1)) ∧ (decode cL_law 1846 = .ok (.iload 4, 2)) ∧ (decode cL_law 1848 = .ok (.iconst 5, 1)) ∧ (decode cL_law 1849 = .ok (.iadd, 1)) ∧ (decode cL_law 1850 = .ok (.iaload, 1)) ∧ (decode cL_law 1851 = .ok (.ifCond .eq 7, 3)) ∧ (decode cL_law 1854 = .ok (.iconst 1, 1)) ∧ (decode cL_law 1855 = .ok (.goto 4, 3)) ∧ (decode cL_law 1858 = .ok (.iconst 0, 1)) ∧ (decode cL_law 1859 = .ok (.aload_n 3, 1)) ∧ (decode cL_law 1860 = .ok (.invokestatic 267, 3)) ∧ (decode cL_law 1863 = .ok (.istore 5, 2)) ∧ (decode cL_law 1865 = .ok (.aload_n 2, 1)) ∧ (decode cL_law 1866 = .ok (.aload_n 0, 1)) ∧ (decode cL_law 1867 = .ok (.iload 4, 2)) := by decide +kernel
theorem dL_law_1844 : decode cL_law 1844 = .ok (.iaload, 1) := eL_law_1844.1
theorem dL_law_1845 : decode cL_law 1845 = .ok (.aload_n 0, 1) := eL_law_1844.2.1
theorem dL_law_1846 : decode cL_law 1846 = .ok (.iload 4, 2) := eL_law_1844.2.2.1
theorem dL_law_1848 : decode cL_law 1848 = .ok (.iconst 5, 1) := eL_law_1844.2.2.2.1
theorem dL_law_1849 : decode cL_law 1849 = .ok (.iadd, 1) := eL_law_1844.2.2.2.2.1
theorem dL_law_1850 : decode cL_law 1850 = .ok (.iaload, 1) := eL_law_1844.2.2.2.2.2.1
theorem dL_law_1851 : decode cL_law 1851 = .ok (.ifCond .eq 7, 3) := eL_law_1844.2.2.2.2.2.2.1
theorem dL_law_1854 : decode cL_law 1854 = .ok (.iconst 1, 1) := eL_law_1844.2.2.2.2.2.2.2.1
theorem dL_law_1855 : decode cL_law 1855 = .ok (.goto 4, 3) := eL_law_1844.2.2.2.2.2.2.2.2.1
theorem dL_law_1858 : decode cL_law 1858 = .ok (.iconst 0, 1) := eL_law_1844.2.2.2.2.2.2.2.2.2.1
theorem dL_law_1859 : decode cL_law 1859 = .ok (.aload_n 3, 1) := eL_law_1844.2.2.2.2.2.2.2.2.2.2.1
theorem dL_law_1860 : decode cL_law 1860 = .ok (.invokestatic 267, 3) := eL_law_1844.2.2.2.2.2.2.2.2.2.2.2.1
theorem dL_law_1863 : decode cL_law 1863 = .ok (.istore 5, 2) := eL_law_1844.2.2.2.2.2.2.2.2.2.2.2.2.1
theorem dL_law_1865 : decode cL_law 1865 = .ok (.aload_n 2, 1) := eL_law_1844.2.2.2.2.2.2.2.2.2.2.2.2.2.1
theorem dL_law_1866 : decode cL_law 1866 = .ok (.aload_n 0, 1) := eL_law_1844.2.2.2.2.2.2.2.2.2.2.2.2.2.2.1
theorem dL_law_1867 : decode cL_law 1867 = .ok (.iload 4, 2) := eL_law_1844.2.2.2.2.2.2.2.2.2.2.2.2.2.2.2
theorem eL_law_1869 : (decode cL_law 1869 = .ok (.iconst 1, 1)) ∧ (decode cL_law 1870 = .ok (.iadd, 1)) ∧ (decode cL_law 1871 = .ok (.iaload, 1)) ∧ (decode cL_law 1872 = .ok (.aload_n 0, 1)) ∧ (decode cL_law 1873 = .ok (.iload 4, 2)) ∧ (decode cL_law 1875 = .ok (.iconst 2, 1)) ∧ (decode cL_law 1876 = .ok (.iadd, 1)) ∧ (decode cL_law 1877 = .ok (.iaload, 1)) ∧ (decode cL_law 1878 = .ok (.aload_n 0, 1)) ∧ (decode cL_law 1879 = .ok (.iload 4, 2)) ∧ (decode cL_law 1881 = .ok (.iconst 3, 1)) ∧ (decode cL_law 1882 = .ok (.iadd, 1)) ∧ (decode cL_law 1883 = .ok (.iaload, 1)) ∧ (decode cL_law 1884 = .ok (.aload_n 0, 1)) ∧ (decode cL_law 1885 = .ok (.iload 4, 2)) ∧ (decode cL_law 1887 = .ok (.iconst 4, 1)) := by decide +kernel
theorem dL_law_1869 : decode cL_law 1869 = .ok (.iconst 1, 1) := eL_law_1869.1
theorem dL_law_1870 : decode cL_law 1870 = .ok (.iadd, 1) := eL_law_1869.2.1
theorem dL_law_1871 : decode cL_law 1871 = .ok (.iaload, 1) := eL_law_1869.2.2.1
theorem dL_law_1872 : decode cL_law 1872 = .ok (.aload_n 0, 1) := eL_law_1869.2.2.2.1
theorem dL_law_1873 : decode cL_law 1873 = .ok (.iload 4, 2) := eL_law_1869.2.2.2.2.1
theorem dL_law_1875 : decode cL_law 1875 = .ok (.iconst 2, 1) := eL_law_1869.2.2.2.2.2.1
theorem dL_law_1876 : decode cL_law 1876 = .ok (.iadd, 1) := eL_law_1869.2.2.2.2.2.2.1
theorem dL_law_1877 : decode cL_law 1877 = .ok (.iaload, 1) := eL_law_1869.2.2.2.2.2.2.2.1
theorem dL_law_1878 : decode cL_law 1878 = .ok (.aload_n 0, 1) := eL_law_1869.2.2.2.2.2.2.2.2.1
theorem dL_law_1879 : decode cL_law 1879 = .ok (.iload 4, 2) := eL_law_1869.2.2.2.2.2.2.2.2.2.1
theorem dL_law_1881 : decode cL_law 1881 = .ok (.iconst 3, 1) := eL_law_1869.2.2.2.2.2.2.2.2.2.2.1
theorem dL_law_1882 : decode cL_law 1882 = .ok (.iadd, 1) := eL_law_1869.2.2.2.2.2.2.2.2.2.2.2.1
theorem dL_law_1883 : decode cL_law 1883 = .ok (.iaload, 1) := eL_law_1869.2.2.2.2.2.2.2.2.2.2.2.2.1
theorem dL_law_1884 : decode cL_law 1884 = .ok (.aload_n 0, 1) := eL_law_1869.2.2.2.2.2.2.2.2.2.2.2.2.2.1
theorem dL_law_1885 : decode cL_law 1885 = .ok (.iload 4, 2) := eL_law_1869.2.2.2.2.2.2.2.2.2.2.2.2.2.2.1
theorem dL_law_1887 : decode cL_law 1887 = .ok (.iconst 4, 1) := eL_law_1869.2.2.2.2.2.2.2.2.2.2.2.2.2.2.2
theorem eL_law_1888 : (decode cL_law 1888 = .ok (.iadd, 1)) ∧ (decode cL_law 1889 = .ok (.iaload, 1)) ∧ (decode cL_law 1890 = .ok (.aload_n 0, 1)) ∧ (decode cL_law 1891 = .ok (.iload 4, 2)) ∧ (decode cL_law 1893 = .ok (.iconst 5, 1)) ∧ (decode cL_law 1894 = .ok (.iadd, 1)) ∧ (decode cL_law 1895 = .ok (.iaload, 1)) ∧ (decode cL_law 1896 = .ok (.ifCond .eq 7, 3)) ∧ (decode cL_law 1899 = .ok (.iconst 1, 1)) ∧ (decode cL_law 1900 = .ok (.goto 4, 3)) ∧ (decode cL_law 1903 = .ok (.iconst 0, 1)) ∧ (decode cL_law 1904 = .ok (.invokevirtual 270, 3)) ∧ (decode cL_law 1907 = .ok (.istore 6, 2)) ∧ (decode cL_law 1909 = .ok (.goto 382, 3)) ∧ (decode cL_law 1912 = .ok (.aload_n 1, 1)) ∧ (decode cL_law 1913 = .ok (.aload_n 0, 1)) := by decide +kernel
theorem dL_law_1888 : decode cL_law 1888 = .ok (.iadd, 1) := eL_law_1888.1
theorem dL_law_1889 : decode cL_law 1889 = .ok (.iaload, 1) := eL_law_1888.2.1
theorem dL_law_1890 : decode cL_law 1890 = .ok (.aload_n 0, 1) := eL_law_1888.2.2.1
theorem dL_law_1891 : decode cL_law 1891 = .ok (.iload 4, 2) := eL_law_1888.2.2.2.1
theorem dL_law_1893 : decode cL_law 1893 = .ok (.iconst 5, 1) := eL_law_1888.2.2.2.2.1
theorem dL_law_1894 : decode cL_law 1894 = .ok (.iadd, 1) := eL_law_1888.2.2.2.2.2.1
theorem dL_law_1895 : decode cL_law 1895 = .ok (.iaload, 1) := eL_law_1888.2.2.2.2.2.2.1
theorem dL_law_1896 : decode cL_law 1896 = .ok (.ifCond .eq 7, 3) := eL_law_1888.2.2.2.2.2.2.2.1
theorem dL_law_1899 : decode cL_law 1899 = .ok (.iconst 1, 1) := eL_law_1888.2.2.2.2.2.2.2.2.1
theorem dL_law_1900 : decode cL_law 1900 = .ok (.goto 4, 3) := eL_law_1888.2.2.2.2.2.2.2.2.2.1
theorem dL_law_1903 : decode cL_law 1903 = .ok (.iconst 0, 1) := eL_law_1888.2.2.2.2.2.2.2.2.2.2.1
theorem dL_law_1904 : decode cL_law 1904 = .ok (.invokevirtual 270, 3) := eL_law_1888.2.2.2.2.2.2.2.2.2.2.2.1
theorem dL_law_1907 : decode cL_law 1907 = .ok (.istore 6, 2) := eL_law_1888.2.2.2.2.2.2.2.2.2.2.2.2.1
theorem dL_law_1909 : decode cL_law 1909 = .ok (.goto 382, 3) := eL_law_1888.2.2.2.2.2.2.2.2.2.2.2.2.2.1
theorem dL_law_1912 : decode cL_law 1912 = .ok (.aload_n 1, 1) := eL_law_1888.2.2.2.2.2.2.2.2.2.2.2.2.2.2.1
theorem dL_law_1913 : decode cL_law 1913 = .ok (.aload_n 0, 1) := eL_law_1888.2.2.2.2.2.2.2.2.2.2.2.2.2.2.2
theorem eL_law_1914 : (decode cL_law 1914 = .ok (.iload 4, 2)) ∧ (decode cL_law 1916 = .ok (.iconst 1, 1)) ∧ (decode cL_law 1917 = .ok (.iadd, 1)) ∧ (decode cL_law 1918 = .ok (.iaload, 1)) ∧ (decode cL_law 1919 = .ok (.aload_n 0, 1)) ∧ (decode cL_law 1920 = .ok (.iload 4, 2)) ∧ (decode cL_law 1922 = .ok (.iconst 2, 1)) ∧ (decode cL_law 1923 = .ok (.iadd, 1)) ∧ (decode cL_law 1924 = .ok (.iaload, 1)) ∧ (decode cL_law 1925 = .ok (.aload_n 0, 1)) ∧ (decode cL_law 1926 = .ok (.iload 4, 2)) ∧ (decode cL_law 1928 = .ok (.iconst 3, 1)) ∧ (decode cL_law 1929 = .ok (.iadd, 1)) ∧ (decode cL_law 1930 = .ok (.iaload, 1)) ∧ (decode cL_law 1931 = .ok (.aload_n 3, 1)) ∧ (decode cL_law 1932 = .ok (.invokestatic 271, 3)) := by decide +kernel
theorem dL_law_1914 : decode cL_law 1914 = .ok (.iload 4, 2) := eL_law_1914.1
theorem dL_law_1916 : decode cL_law 1916 = .ok (.iconst 1, 1) := eL_law_1914.2.1
theorem dL_law_1917 : decode cL_law 1917 = .ok (.iadd, 1) := eL_law_1914.2.2.1
theorem dL_law_1918 : decode cL_law 1918 = .ok (.iaload, 1) := eL_law_1914.2.2.2.1
theorem dL_law_1919 : decode cL_law 1919 = .ok (.aload_n 0, 1) := eL_law_1914.2.2.2.2.1
theorem dL_law_1920 : decode cL_law 1920 = .ok (.iload 4, 2) := eL_law_1914.2.2.2.2.2.1
theorem dL_law_1922 : decode cL_law 1922 = .ok (.iconst 2, 1) := eL_law_1914.2.2.2.2.2.2.1
theorem dL_law_1923 : decode cL_law 1923 = .ok (.iadd, 1) := eL_law_1914.2.2.2.2.2.2.2.1
theorem dL_law_1924 : decode cL_law 1924 = .ok (.iaload, 1) := eL_law_1914.2.2.2.2.2.2.2.2.1
theorem dL_law_1925 : decode cL_law 1925 = .ok (.aload_n 0, 1) := eL_law_1914.2.2.2.2.2.2.2.2.2.1
theorem dL_law_1926 : decode cL_law 1926 = .ok (.iload 4, 2) := eL_law_1914.2.2.2.2.2.2.2.2.2.2.1
theorem dL_law_1928 : decode cL_law 1928 = .ok (.iconst 3, 1) := eL_law_1914.2.2.2.2.2.2.2.2.2.2.2.1
theorem dL_law_1929 : decode cL_law 1929 = .ok (.iadd, 1) := eL_law_1914.2.2.2.2.2.2.2.2.2.2.2.2.1
theorem dL_law_1930 : decode cL_law 1930 = .ok (.iaload, 1) := eL_law_1914.2.2.2.2.2.2.2.2.2.2.2.2.2.1
theorem dL_law_1931 : decode cL_law 1931 = .ok (.aload_n 3, 1) := eL_law_1914.2.2.2.2.2.2.2.2.2.2.2.2.2.2.1
theorem dL_law_1932 : decode cL_law 1932 = .ok (.invokestatic 271, 3) := eL_law_1914.2.2.2.2.2.2.2.2.2.2.2.2.2.2.2
theorem eL_law_1935 : (decode cL_law 1935 = .ok (.istore 5, 2)) ∧ (decode cL_law 1937 = .ok (.aload_n 2, 1)) ∧ (decode cL_law 1938 = .ok (.aload_n 0, 1)) ∧ (decode cL_law 1939 = .ok (.iload 4, 2)) ∧ (decode cL_law 1941 = .ok (.iconst 1, 1)) ∧ (decode cL_law 1942 = .ok (.iadd, 1)) ∧ (decode cL_law 1943 = .ok (.iaload, 1)) ∧ (decode cL_law 1944 = .ok (.aload_n 0, 1)) ∧ (decode cL_law 1945 = .ok (.iload 4, 2)) ∧ (decode cL_law 1947 = .ok (.iconst 2, 1)) ∧ (decode cL_law 1948 = .ok (.iadd, 1)) ∧ (decode cL_law 1949 = .ok (.iaload, 1)) ∧ (decode cL_law 1950 = .ok (.aload_n 0, 1)) ∧ (decode cL_law 1951 = .ok (.iload 4, 2)) ∧ (decode cL_law 1953 = .ok (.iconst 3, 1)) ∧ (decode cL_law 1954 = .ok (.iadd, 1)) := by decide +kernel
theorem dL_law_1935 : decode cL_law 1935 = .ok (.istore 5, 2) := eL_law_1935.1
theorem dL_law_1937 : decode cL_law 1937 = .ok (.aload_n 2, 1) := eL_law_1935.2.1
theorem dL_law_1938 : decode cL_law 1938 = .ok (.aload_n 0, 1) := eL_law_1935.2.2.1
theorem dL_law_1939 : decode cL_law 1939 = .ok (.iload 4, 2) := eL_law_1935.2.2.2.1
theorem dL_law_1941 : decode cL_law 1941 = .ok (.iconst 1, 1) := eL_law_1935.2.2.2.2.1
theorem dL_law_1942 : decode cL_law 1942 = .ok (.iadd, 1) := eL_law_1935.2.2.2.2.2.1
theorem dL_law_1943 : decode cL_law 1943 = .ok (.iaload, 1) := eL_law_1935.2.2.2.2.2.2.1
theorem dL_law_1944 : decode cL_law 1944 = .ok (.aload_n 0, 1) := eL_law_1935.2.2.2.2.2.2.2.1
theorem dL_law_1945 : decode cL_law 1945 = .ok (.iload 4, 2) := eL_law_1935.2.2.2.2.2.2.2.2.1
theorem dL_law_1947 : decode cL_law 1947 = .ok (.iconst 2, 1) := eL_law_1935.2.2.2.2.2.2.2.2.2.1
theorem dL_law_1948 : decode cL_law 1948 = .ok (.iadd, 1) := eL_law_1935.2.2.2.2.2.2.2.2.2.2.1
theorem dL_law_1949 : decode cL_law 1949 = .ok (.iaload, 1) := eL_law_1935.2.2.2.2.2.2.2.2.2.2.2.1
theorem dL_law_1950 : decode cL_law 1950 = .ok (.aload_n 0, 1) := eL_law_1935.2.2.2.2.2.2.2.2.2.2.2.2.1
theorem dL_law_1951 : decode cL_law 1951 = .ok (.iload 4, 2) := eL_law_1935.2.2.2.2.2.2.2.2.2.2.2.2.2.1
theorem dL_law_1953 : decode cL_law 1953 = .ok (.iconst 3, 1) := eL_law_1935.2.2.2.2.2.2.2.2.2.2.2.2.2.2.1
theorem dL_law_1954 : decode cL_law 1954 = .ok (.iadd, 1) := eL_law_1935.2.2.2.2.2.2.2.2.2.2.2.2.2.2.2
theorem eL_law_1955 : (decode cL_law 1955 = .ok (.iaload, 1)) ∧ (decode cL_law 1956 = .ok (.invokevirtual 273, 3)) ∧ (decode cL_law 1959 = .ok (.istore 6, 2)) ∧ (decode cL_law 1961 = .ok (.goto 330, 3)) ∧ (decode cL_law 1964 = .ok (.aload_n 1, 1)) ∧ (decode cL_law 1965 = .ok (.aload_n 0, 1)) ∧ (decode cL_law 1966 = .ok (.iload 4, 2)) ∧ (decode cL_law 1968 = .ok (.iconst 1, 1)) ∧ (decode cL_law 1969 = .ok (.iadd, 1)) ∧ (decode cL_law 1970 = .ok (.iaload, 1)) ∧ (decode cL_law 1971 = .ok (.aload_n 0, 1)) ∧ (decode cL_law 1972 = .ok (.iload 4, 2)) ∧ (decode cL_law 1974 = .ok (.iconst 2, 1)) ∧ (decode cL_law 1975 = .ok (.iadd, 1)) ∧ (decode cL_law 1976 = .ok (.iaload, 1)) ∧ (decode cL_law 1977 = .ok (.aload_n 3, 1)) := by decide +kernel
theorem dL_law_1955 : decode cL_law 1955 = .ok (.iaload, 1) := eL_law_1955.1
theorem dL_law_1956 : decode cL_law 1956 = .ok (.invokevirtual 273, 3) := eL_law_1955.2.1
theorem dL_law_1959 : decode cL_law 1959 = .ok (.istore 6, 2) := eL_law_1955.2.2.1
theorem dL_law_1961 : decode cL_law 1961 = .ok (.goto 330, 3) := eL_law_1955.2.2.2.1
theorem dL_law_1964 : decode cL_law 1964 = .ok (.aload_n 1, 1) := eL_law_1955.2.2.2.2.1
theorem dL_law_1965 : decode cL_law 1965 = .ok (.aload_n 0, 1) := eL_law_1955.2.2.2.2.2.1
theorem dL_law_1966 : decode cL_law 1966 = .ok (.iload 4, 2) := eL_law_1955.2.2.2.2.2.2.1
theorem dL_law_1968 : decode cL_law 1968 = .ok (.iconst 1, 1) := eL_law_1955.2.2.2.2.2.2.2.1
theorem dL_law_1969 : decode cL_law 1969 = .ok (.iadd, 1) := eL_law_1955.2.2.2.2.2.2.2.2.1
theorem dL_law_1970 : decode cL_law 1970 = .ok (.iaload, 1) := eL_law_1955.2.2.2.2.2.2.2.2.2.1
theorem dL_law_1971 : decode cL_law 1971 = .ok (.aload_n 0, 1) := eL_law_1955.2.2.2.2.2.2.2.2.2.2.1
theorem dL_law_1972 : decode cL_law 1972 = .ok (.iload 4, 2) := eL_law_1955.2.2.2.2.2.2.2.2.2.2.2.1
theorem dL_law_1974 : decode cL_law 1974 = .ok (.iconst 2, 1) := eL_law_1955.2.2.2.2.2.2.2.2.2.2.2.2.1
theorem dL_law_1975 : decode cL_law 1975 = .ok (.iadd, 1) := eL_law_1955.2.2.2.2.2.2.2.2.2.2.2.2.2.1
theorem dL_law_1976 : decode cL_law 1976 = .ok (.iaload, 1) := eL_law_1955.2.2.2.2.2.2.2.2.2.2.2.2.2.2.1
theorem dL_law_1977 : decode cL_law 1977 = .ok (.aload_n 3, 1) := eL_law_1955.2.2.2.2.2.2.2.2.2.2.2.2.2.2.2
theorem eL_law_1978 : (decode cL_law 1978 = .ok (.invokestatic 274, 3)) ∧ (decode cL_law 1981 = .ok (.istore 5, 2)) ∧ (decode cL_law 1983 = .ok (.aload_n 2, 1)) ∧ (decode cL_law 1984 = .ok (.aload_n 0, 1)) ∧ (decode cL_law 1985 = .ok (.iload 4, 2)) ∧ (decode cL_law 1987 = .ok (.iconst 1, 1)) ∧ (decode cL_law 1988 = .ok (.iadd, 1)) ∧ (decode cL_law 1989 = .ok (.iaload, 1)) ∧ (decode cL_law 1990 = .ok (.aload_n 0, 1)) ∧ (decode cL_law 1991 = .ok (.iload 4, 2)) ∧ (decode cL_law 1993 = .ok (.iconst 2, 1)) ∧ (decode cL_law 1994 = .ok (.iadd, 1)) ∧ (decode cL_law 1995 = .ok (.iaload, 1)) ∧ (decode cL_law 1996 = .ok (.invokevirtual 276, 3)) ∧ (decode cL_law 1999 = .ok (.istore 6, 2)) ∧ (decode cL_law 2001 = .ok (.goto 290, 3)) := by decide +kernel
theorem dL_law_1978 : decode cL_law 1978 = .ok (.invokestatic 274, 3) := eL_law_1978.1
theorem dL_law_1981 : decode cL_law 1981 = .ok (.istore 5, 2) := eL_law_1978.2.1
theorem dL_law_1983 : decode cL_law 1983 = .ok (.aload_n 2, 1) := eL_law_1978.2.2.1
theorem dL_law_1984 : decode cL_law 1984 = .ok (.aload_n 0, 1) := eL_law_1978.2.2.2.1
theorem dL_law_1985 : decode cL_law 1985 = .ok (.iload 4, 2) := eL_law_1978.2.2.2.2.1
theorem dL_law_1987 : decode cL_law 1987 = .ok (.iconst 1, 1) := eL_law_1978.2.2.2.2.2.1
theorem dL_law_1988 : decode cL_law 1988 = .ok (.iadd, 1) := eL_law_1978.2.2.2.2.2.2.1
theorem dL_law_1989 : decode cL_law 1989 = .ok (.iaload, 1) := eL_law_1978.2.2.2.2.2.2.2.1
theorem dL_law_1990 : decode cL_law 1990 = .ok (.aload_n 0, 1) := eL_law_1978.2.2.2.2.2.2.2.2.1
theorem dL_law_1991 : decode cL_law 1991 = .ok (.iload 4, 2) := eL_law_1978.2.2.2.2.2.2.2.2.2.1
theorem dL_law_1993 : decode cL_law 1993 = .ok (.iconst 2, 1) := eL_law_1978.2.2.2.2.2.2.2.2.2.2.1
theorem dL_law_1994 : decode cL_law 1994 = .ok (.iadd, 1) := eL_law_1978.2.2.2.2.2.2.2.2.2.2.2.1
theorem dL_law_1995 : decode cL_law 1995 = .ok (.iaload, 1) := eL_law_1978.2.2.2.2.2.2.2.2.2.2.2.2.1
theorem dL_law_1996 : decode cL_law 1996 = .ok (.invokevirtual 276, 3) := eL_law_1978.2.2.2.2.2.2.2.2.2.2.2.2.2.1
theorem dL_law_1999 : decode cL_law 1999 = .ok (.istore 6, 2) := eL_law_1978.2.2.2.2.2.2.2.2.2.2.2.2.2.2.1
theorem dL_law_2001 : decode cL_law 2001 = .ok (.goto 290, 3) := eL_law_1978.2.2.2.2.2.2.2.2.2.2.2.2.2.2.2
theorem eL_law_2004 : (decode cL_law 2004 = .ok (.aload_n 1, 1)) ∧ (decode cL_law 2005 = .ok (.aload_n 0, 1)) ∧ (decode cL_law 2006 = .ok (.iload 4, 2)) ∧ (decode cL_law 2008 = .ok (.iconst 1, 1)) ∧ (decode cL_law 2009 = .ok (.iadd, 1)) ∧ (decode cL_law 2010 = .ok (.iaload, 1)) ∧ (decode cL_law 2011 = .ok (.aload_n 0, 1)) ∧ (decode cL_law 2012 = .ok (.iload 4, 2)) ∧ (decode cL_law 2014 = .ok (.iconst 2, 1)) ∧ (decode cL_law 2015 = .ok (.iadd, 1)) ∧ (decode cL_law 2016 = .ok (.iaload, 1)) ∧ (decode cL_law 2017 = .ok (.aload_n 0, 1)) ∧ (decode cL_law 2018 = .ok (.iload 4, 2)) ∧ (decode cL_law 2020 = .ok (.iconst 3, 1)) ∧ (decode cL_law 2021 = .ok (.iadd, 1)) ∧ (decode cL_law 2022 = .ok (.iaload, 1)) := by decide +kernel
theorem dL_law_2004 : decode cL_law 2004 = .ok (.aload_n 1, 1) := eL_law_2004.1
theorem dL_law_2005 : decode cL_law 2005 = .ok (.aload_n 0, 1) := eL_law_2004.2.1
theorem dL_law_2006 : decode cL_law 2006 = .ok (.iload 4, 2) := eL_law_2004.2.2.1
theorem dL_law_2008 : decode cL_law 2008 = .ok (.iconst 1, 1) := eL_law_2004.2.2.2.1
theorem dL_law_2009 : decode cL_law 2009 = .ok (.iadd, 1) := eL_law_2004.2.2.2.2.1
theorem dL_law_2010 : decode cL_law 2010 = .ok (.iaload, 1) := eL_law_2004.2.2.2.2.2.1
theorem dL_law_2011 : decode cL_law 2011 = .ok (.aload_n 0, 1) := eL_law_2004.2.2.2.2.2.2.1
theorem dL_law_2012 : decode cL_law 2012 = .ok (.iload 4, 2) := eL_law_2004.2.2.2.2.2.2.2.1
theorem dL_law_2014 : decode cL_law 2014 = .ok (.iconst 2, 1) := eL_law_2004.2.2.2.2.2.2.2.2.1
theorem dL_law_2015 : decode cL_law 2015 = .ok (.iadd, 1) := eL_law_2004.2.2.2.2.2.2.2.2.2.1
theorem dL_law_2016 : decode cL_law 2016 = .ok (.iaload, 1) := eL_law_2004.2.2.2.2.2.2.2.2.2.2.1
theorem dL_law_2017 : decode cL_law 2017 = .ok (.aload_n 0, 1) := eL_law_2004.2.2.2.2.2.2.2.2.2.2.2.1
theorem dL_law_2018 : decode cL_law 2018 = .ok (.iload 4, 2) := eL_law_2004.2.2.2.2.2.2.2.2.2.2.2.2.1
theorem dL_law_2020 : decode cL_law 2020 = .ok (.iconst 3, 1) := eL_law_2004.2.2.2.2.2.2.2.2.2.2.2.2.2.1
theorem dL_law_2021 : decode cL_law 2021 = .ok (.iadd, 1) := eL_law_2004.2.2.2.2.2.2.2.2.2.2.2.2.2.2.1
theorem dL_law_2022 : decode cL_law 2022 = .ok (.iaload, 1) := eL_law_2004.2.2.2.2.2.2.2.2.2.2.2.2.2.2.2
theorem eL_law_2023 : (decode cL_law 2023 = .ok (.aload_n 0, 1)) ∧ (decode cL_law 2024 = .ok (.iload 4, 2)) ∧ (decode cL_law 2026 = .ok (.iconst 4, 1)) ∧ (decode cL_law 2027 = .ok (.iadd, 1)) ∧ (decode cL_law 2028 = .ok (.iaload, 1)) ∧ (decode cL_law 2029 = .ok (.aload_n 0, 1)) ∧ (decode cL_law 2030 = .ok (.iload 4, 2)) ∧ (decode cL_law 2032 = .ok (.iconst 5, 1)) ∧ (decode cL_law 2033 = .ok (.iadd, 1)) ∧ (decode cL_law 2034 = .ok (.iaload, 1)) ∧ (decode cL_law 2035 = .ok (.aload_n 3, 1)) ∧ (decode cL_law 2036 = .ok (.invokestatic 277, 3)) ∧ (decode cL_law 2039 = .ok (.istore 5, 2)) ∧ (decode cL_law 2041 = .ok (.aload_n 2, 1)) ∧ (decode cL_law 2042 = .ok (.aload_n 0, 1)) ∧ (decode cL_law 2043 = .ok (.iload 4, 2)) := by decide +kernel
theorem dL_law_2023 : decode cL_law 2023 = .ok (.aload_n 0, 1) := eL_law_2023.1
theorem dL_law_2024 : decode cL_law 2024 = .ok (.iload 4, 2) := eL_law_2023.2.1
theorem dL_law_2026 : decode cL_law 2026 = .ok (.iconst 4, 1) := eL_law_2023.2.2.1
theorem dL_law_2027 : decode cL_law 2027 = .ok (.iadd, 1) := eL_law_2023.2.2.2.1
theorem dL_law_2028 : decode cL_law 2028 = .ok (.iaload, 1) := eL_law_2023.2.2.2.2.1
theorem dL_law_2029 : decode cL_law 2029 = .ok (.aload_n 0, 1) := eL_law_2023.2.2.2.2.2.1
theorem dL_law_2030 : decode cL_law 2030 = .ok (.iload 4, 2) := eL_law_2023.2.2.2.2.2.2.1
theorem dL_law_2032 : decode cL_law 2032 = .ok (.iconst 5, 1) := eL_law_2023.2.2.2.2.2.2.2.1
theorem dL_law_2033 : decode cL_law 2033 = .ok (.iadd, 1) := eL_law_2023.2.2.2.2.2.2.2.2.1
theorem dL_law_2034 : decode cL_law 2034 = .ok (.iaload, 1) := eL_law_2023.2.2.2.2.2.2.2.2.2.1
theorem dL_law_2035 : decode cL_law 2035 = .ok (.aload_n 3, 1) := eL_law_2023.2.2.2.2.2.2.2.2.2.2.1
theorem dL_law_2036 : decode cL_law 2036 = .ok (.invokestatic 277, 3) := eL_law_2023.2.2.2.2.2.2.2.2.2.2.2.1
theorem dL_law_2039 : decode cL_law 2039 = .ok (.istore 5, 2) := eL_law_2023.2.2.2.2.2.2.2.2.2.2.2.2.1
theorem dL_law_2041 : decode cL_law 2041 = .ok (.aload_n 2, 1) := eL_law_2023.2.2.2.2.2.2.2.2.2.2.2.2.2.1
theorem dL_law_2042 : decode cL_law 2042 = .ok (.aload_n 0, 1) := eL_law_2023.2.2.2.2.2.2.2.2.2.2.2.2.2.2.1
theorem dL_law_2043 : decode cL_law 2043 = .ok (.iload 4, 2) := eL_law_2023.2.2.2.2.2.2.2.2.2.2.2.2.2.2.2
theorem eL_law_2045 : (decode cL_law 2045 = .ok (.iconst 1, 1)) ∧ (decode cL_law 2046 = .ok (.iadd, 1)) ∧ (decode cL_law 2047 = .ok (.iaload, 1)) ∧ (decode cL_law 2048 = .ok (.aload_n 0, 1)) ∧ (decode cL_law 2049 = .ok (.iload 4, 2)) ∧ (decode cL_law 2051 = .ok (.iconst 2, 1)) ∧ (decode cL_law 2052 = .ok (.iadd, 1)) ∧ (decode cL_law 2053 = .ok (.iaload, 1)) ∧ (decode cL_law 2054 = .ok (.aload_n 0, 1)) ∧ (decode cL_law 2055 = .ok (.iload 4, 2)) ∧ (decode cL_law 2057 = .ok (.iconst 3, 1)) ∧ (decode cL_law 2058 = .ok (.iadd, 1)) ∧ (decode cL_law 2059 = .ok (.iaload, 1)) ∧ (decode cL_law 2060 = .ok (.aload_n 0, 1)) ∧ (decode cL_law 2061 = .ok (.iload 4, 2)) ∧ (decode cL_law 2063 = .ok (.iconst 4, 1)) := by decide +kernel
theorem dL_law_2045 : decode cL_law 2045 = .ok (.iconst 1, 1) := eL_law_2045.1
theorem dL_law_2046 : decode cL_law 2046 = .ok (.iadd, 1) := eL_law_2045.2.1
theorem dL_law_2047 : decode cL_law 2047 = .ok (.iaload, 1) := eL_law_2045.2.2.1
theorem dL_law_2048 : decode cL_law 2048 = .ok (.aload_n 0, 1) := eL_law_2045.2.2.2.1
theorem dL_law_2049 : decode cL_law 2049 = .ok (.iload 4, 2) := eL_law_2045.2.2.2.2.1
theorem dL_law_2051 : decode cL_law 2051 = .ok (.iconst 2, 1) := eL_law_2045.2.2.2.2.2.1
theorem dL_law_2052 : decode cL_law 2052 = .ok (.iadd, 1) := eL_law_2045.2.2.2.2.2.2.1
theorem dL_law_2053 : decode cL_law 2053 = .ok (.iaload, 1) := eL_law_2045.2.2.2.2.2.2.2.1
theorem dL_law_2054 : decode cL_law 2054 = .ok (.aload_n 0, 1) := eL_law_2045.2.2.2.2.2.2.2.2.1
theorem dL_law_2055 : decode cL_law 2055 = .ok (.iload 4, 2) := eL_law_2045.2.2.2.2.2.2.2.2.2.1
theorem dL_law_2057 : decode cL_law 2057 = .ok (.iconst 3, 1) := eL_law_2045.2.2.2.2.2.2.2.2.2.2.1
theorem dL_law_2058 : decode cL_law 2058 = .ok (.iadd, 1) := eL_law_2045.2.2.2.2.2.2.2.2.2.2.2.1
theorem dL_law_2059 : decode cL_law 2059 = .ok (.iaload, 1) := eL_law_2045.2.2.2.2.2.2.2.2.2.2.2.2.1
theorem dL_law_2060 : decode cL_law 2060 = .ok (.aload_n 0, 1) := eL_law_2045.2.2.2.2.2.2.2.2.2.2.2.2.2.1
theorem dL_law_2061 : decode cL_law 2061 = .ok (.iload 4, 2) := eL_law_2045.2.2.2.2.2.2.2.2.2.2.2.2.2.2.1
theorem dL_law_2063 : decode cL_law 2063 = .ok (.iconst 4, 1) := eL_law_2045.2.2.2.2.2.2.2.2.2.2.2.2.2.2.2
theorem eL_law_2064 : (decode cL_law 2064 = .ok (.iadd, 1)) ∧ (decode cL_law 2065 = .ok (.iaload, 1)) ∧ (decode cL_law 2066 = .ok (.aload_n 0, 1)) ∧ (decode cL_law 2067 = .ok (.iload 4, 2)) ∧ (decode cL_law 2069 = .ok (.iconst 5, 1)) ∧ (decode cL_law 2070 = .ok (.iadd, 1)) ∧ (decode cL_law 2071 = .ok (.iaload, 1)) ∧ (decode cL_law 2072 = .ok (.invokevirtual 279, 3)) ∧ (decode cL_law 2075 = .ok (.istore 6, 2)) ∧ (decode cL_law 2077 = .ok (.goto 214, 3)) ∧ (decode cL_law 2080 = .ok (.aload_n 1, 1)) ∧ (decode cL_law 2081 = .ok (.aload_n 0, 1)) ∧ (decode cL_law 2082 = .ok (.iload 4, 2)) ∧ (decode cL_law 2084 = .ok (.iconst 1, 1)) ∧ (decode cL_law 2085 = .ok (.iadd, 1)) ∧ (decode cL_law 2086 = .ok (.iaload, 1)) := by decide +kernel
theorem dL_law_2064 : decode cL_law 2064 = .ok (.iadd, 1) := eL_law_2064.1
theorem dL_law_2065 : decode cL_law 2065 = .ok (.iaload, 1) := eL_law_2064.2.1
theorem dL_law_2066 : decode cL_law 2066 = .ok (.aload_n 0, 1) := eL_law_2064.2.2.1
theorem dL_law_2067 : decode cL_law 2067 = .ok (.iload 4, 2) := eL_law_2064.2.2.2.1
theorem dL_law_2069 : decode cL_law 2069 = .ok (.iconst 5, 1) := eL_law_2064.2.2.2.2.1
theorem dL_law_2070 : decode cL_law 2070 = .ok (.iadd, 1) := eL_law_2064.2.2.2.2.2.1
theorem dL_law_2071 : decode cL_law 2071 = .ok (.iaload, 1) := eL_law_2064.2.2.2.2.2.2.1
theorem dL_law_2072 : decode cL_law 2072 = .ok (.invokevirtual 279, 3) := eL_law_2064.2.2.2.2.2.2.2.1
theorem dL_law_2075 : decode cL_law 2075 = .ok (.istore 6, 2) := eL_law_2064.2.2.2.2.2.2.2.2.1
theorem dL_law_2077 : decode cL_law 2077 = .ok (.goto 214, 3) := eL_law_2064.2.2.2.2.2.2.2.2.2.1
theorem dL_law_2080 : decode cL_law 2080 = .ok (.aload_n 1, 1) := eL_law_2064.2.2.2.2.2.2.2.2.2.2.1
theorem dL_law_2081 : decode cL_law 2081 = .ok (.aload_n 0, 1) := eL_law_2064.2.2.2.2.2.2.2.2.2.2.2.1
theorem dL_law_2082 : decode cL_law 2082 = .ok (.iload 4, 2) := eL_law_2064.2.2.2.2.2.2.2.2.2.2.2.2.1
theorem dL_law_2084 : decode cL_law 2084 = .ok (.iconst 1, 1) := eL_law_2064.2.2.2.2.2.2.2.2.2.2.2.2.2.1
theorem dL_law_2085 : decode cL_law 2085 = .ok (.iadd, 1) := eL_law_2064.2.2.2.2.2.2.2.2.2.2.2.2.2.2.1
theorem dL_law_2086 : decode cL_law 2086 = .ok (.iaload, 1) := eL_law_2064.2.2.2.2.2.2.2.2.2.2.2.2.2.2.2
theorem eL_law_2087 : (decode cL_law 2087 = .ok (.aload_n 0, 1)) ∧ (decode cL_law 2088 = .ok (.iload 4, 2)) ∧ (decode cL_law 2090 = .ok (.iconst 2, 1)) ∧ (decode cL_law 2091 = .ok (.iadd, 1)) ∧ (decode cL_law 2092 = .ok (.iaload, 1)) ∧ (decode cL_law 2093 = .ok (.aload_n 0, 1)) ∧ (decode cL_law 2094 = .ok (.iload 4, 2)) ∧ (decode cL_law 2096 = .ok (.iconst 3, 1)) ∧ (decode cL_law 2097 = .ok (.iadd, 1)) ∧ (decode cL_law 2098 = .ok (.iaload, 1)) ∧ (decode cL_law 2099 = .ok (.aload_n 3, 1)) ∧ (decode cL_law 2100 = .ok (.invokestatic 280, 3)) ∧ (decode cL_law 2103 = .ok (.istore 5, 2)) ∧ (decode cL_law 2105 = .ok (.aload_n 2, 1)) ∧ (decode cL_law 2106 = .ok (.aload_n 0, 1)) ∧ (decode cL_law 2107 = .ok (.iload 4, 2)) := by decide +kernel
theorem dL_law_2087 : decode cL_law 2087 = .ok (.aload_n 0, 1) := eL_law_2087.1
theorem dL_law_2088 : decode cL_law 2088 = .ok (.iload 4, 2) := eL_law_2087.2.1
theorem dL_law_2090 : decode cL_law 2090 = .ok (.iconst 2, 1) := eL_law_2087.2.2.1
theorem dL_law_2091 : decode cL_law 2091 = .ok (.iadd, 1) := eL_law_2087.2.2.2.1
theorem dL_law_2092 : decode cL_law 2092 = .ok (.iaload, 1) := eL_law_2087.2.2.2.2.1
theorem dL_law_2093 : decode cL_law 2093 = .ok (.aload_n 0, 1) := eL_law_2087.2.2.2.2.2.1
theorem dL_law_2094 : decode cL_law 2094 = .ok (.iload 4, 2) := eL_law_2087.2.2.2.2.2.2.1
theorem dL_law_2096 : decode cL_law 2096 = .ok (.iconst 3, 1) := eL_law_2087.2.2.2.2.2.2.2.1
theorem dL_law_2097 : decode cL_law 2097 = .ok (.iadd, 1) := eL_law_2087.2.2.2.2.2.2.2.2.1
theorem dL_law_2098 : decode cL_law 2098 = .ok (.iaload, 1) := eL_law_2087.2.2.2.2.2.2.2.2.2.1
theorem dL_law_2099 : decode cL_law 2099 = .ok (.aload_n 3, 1) := eL_law_2087.2.2.2.2.2.2.2.2.2.2.1
theorem dL_law_2100 : decode cL_law 2100 = .ok (.invokestatic 280, 3) := eL_law_2087.2.2.2.2.2.2.2.2.2.2.2.1
theorem dL_law_2103 : decode cL_law 2103 = .ok (.istore 5, 2) := eL_law_2087.2.2.2.2.2.2.2.2.2.2.2.2.1
theorem dL_law_2105 : decode cL_law 2105 = .ok (.aload_n 2, 1) := eL_law_2087.2.2.2.2.2.2.2.2.2.2.2.2.2.1
theorem dL_law_2106 : decode cL_law 2106 = .ok (.aload_n 0, 1) := eL_law_2087.2.2.2.2.2.2.2.2.2.2.2.2.2.2.1
theorem dL_law_2107 : decode cL_law 2107 = .ok (.iload 4, 2) := eL_law_2087.2.2.2.2.2.2.2.2.2.2.2.2.2.2.2
theorem eL_law_2109 : (decode cL_law 2109 = .ok (.iconst 1, 1)) ∧ (decode cL_law 2110 = .ok (.iadd, 1)) ∧ (decode cL_law 2111 = .ok (.iaload, 1)) ∧ (decode cL_law 2112 = .ok (.aload_n 0, 1)) ∧ (decode cL_law 2113 = .ok (.iload 4, 2)) ∧ (decode cL_law 2115 = .ok (.iconst 2, 1)) ∧ (decode cL_law 2116 = .ok (.iadd, 1)) ∧ (decode cL_law 2117 = .ok (.iaload, 1)) ∧ (decode cL_law 2118 = .ok (.aload_n 0, 1)) ∧ (decode cL_law 2119 = .ok (.iload 4, 2)) ∧ (decode cL_law 2121 = .ok (.iconst 3, 1)) ∧ (decode cL_law 2122 = .ok (.iadd, 1)) ∧ (decode cL_law 2123 = .ok (.iaload, 1)) ∧ (decode cL_law 2124 = .ok (.invokevirtual 282, 3)) ∧ (decode cL_law 2127 = .ok (.istore 6, 2)) ∧ (decode cL_law 2129 = .ok (.goto 162, 3)) := by decide +kernel
theorem dL_law_2109 : decode cL_law 2109 = .ok (.iconst 1, 1) := eL_law_2109.1
theorem dL_law_2110 : decode cL_law 2110 = .ok (.iadd, 1) := eL_law_2109.2.1
theorem dL_law_2111 : decode cL_law 2111 = .ok (.iaload, 1) := eL_law_2109.2.2.1
theorem dL_law_2112 : decode cL_law 2112 = .ok (.aload_n 0, 1) := eL_law_2109.2.2.2.1
theorem dL_law_2113 : decode cL_law 2113 = .ok (.iload 4, 2) := eL_law_2109.2.2.2.2.1
theorem dL_law_2115 : decode cL_law 2115 = .ok (.iconst 2, 1) := eL_law_2109.2.2.2.2.2.1
theorem dL_law_2116 : decode cL_law 2116 = .ok (.iadd, 1) := eL_law_2109.2.2.2.2.2.2.1
theorem dL_law_2117 : decode cL_law 2117 = .ok (.iaload, 1) := eL_law_2109.2.2.2.2.2.2.2.1
theorem dL_law_2118 : decode cL_law 2118 = .ok (.aload_n 0, 1) := eL_law_2109.2.2.2.2.2.2.2.2.1
theorem dL_law_2119 : decode cL_law 2119 = .ok (.iload 4, 2) := eL_law_2109.2.2.2.2.2.2.2.2.2.1
theorem dL_law_2121 : decode cL_law 2121 = .ok (.iconst 3, 1) := eL_law_2109.2.2.2.2.2.2.2.2.2.2.1
theorem dL_law_2122 : decode cL_law 2122 = .ok (.iadd, 1) := eL_law_2109.2.2.2.2.2.2.2.2.2.2.2.1
theorem dL_law_2123 : decode cL_law 2123 = .ok (.iaload, 1) := eL_law_2109.2.2.2.2.2.2.2.2.2.2.2.2.1
theorem dL_law_2124 : decode cL_law 2124 = .ok (.invokevirtual 282, 3) := eL_law_2109.2.2.2.2.2.2.2.2.2.2.2.2.2.1
theorem dL_law_2127 : decode cL_law 2127 = .ok (.istore 6, 2) := eL_law_2109.2.2.2.2.2.2.2.2.2.2.2.2.2.2.1
theorem dL_law_2129 : decode cL_law 2129 = .ok (.goto 162, 3) := eL_law_2109.2.2.2.2.2.2.2.2.2.2.2.2.2.2.2
theorem eL_law_2132 : (decode cL_law 2132 = .ok (.aload_n 1, 1)) ∧ (decode cL_law 2133 = .ok (.aload_n 0, 1)) ∧ (decode cL_law 2134 = .ok (.iload 4, 2)) ∧ (decode cL_law 2136 = .ok (.iconst 1, 1)) ∧ (decode cL_law 2137 = .ok (.iadd, 1)) ∧ (decode cL_law 2138 = .ok (.iaload, 1)) ∧ (decode cL_law 2139 = .ok (.aload_n 0, 1)) ∧ (decode cL_law 2140 = .ok (.iload 4, 2)) ∧ (decode cL_law 2142 = .ok (.iconst 2, 1)) ∧ (decode cL_law 2143 = .ok (.iadd, 1)) ∧ (decode cL_law 2144 = .ok (.iaload, 1)) ∧ (decode cL_law 2145 = .ok (.aload_n 3, 1)) ∧ (decode cL_law 2146 = .ok (.invokestatic 283, 3)) ∧ (decode cL_law 2149 = .ok (.istore 5, 2)) ∧ (decode cL_law 2151 = .ok (.aload_n 2, 1)) ∧ (decode cL_law 2152 = .ok (.aload_n 0, 1)) := by decide +kernel
theorem dL_law_2132 : decode cL_law 2132 = .ok (.aload_n 1, 1) := eL_law_2132.1
theorem dL_law_2133 : decode cL_law 2133 = .ok (.aload_n 0, 1) := eL_law_2132.2.1
theorem dL_law_2134 : decode cL_law 2134 = .ok (.iload 4, 2) := eL_law_2132.2.2.1
theorem dL_law_2136 : decode cL_law 2136 = .ok (.iconst 1, 1) := eL_law_2132.2.2.2.1
theorem dL_law_2137 : decode cL_law 2137 = .ok (.iadd, 1) := eL_law_2132.2.2.2.2.1
theorem dL_law_2138 : decode cL_law 2138 = .ok (.iaload, 1) := eL_law_2132.2.2.2.2.2.1
theorem dL_law_2139 : decode cL_law 2139 = .ok (.aload_n 0, 1) := eL_law_2132.2.2.2.2.2.2.1
theorem dL_law_2140 : decode cL_law 2140 = .ok (.iload 4, 2) := eL_law_2132.2.2.2.2.2.2.2.1
theorem dL_law_2142 : decode cL_law 2142 = .ok (.iconst 2, 1) := eL_law_2132.2.2.2.2.2.2.2.2.1
theorem dL_law_2143 : decode cL_law 2143 = .ok (.iadd, 1) := eL_law_2132.2.2.2.2.2.2.2.2.2.1
theorem dL_law_2144 : decode cL_law 2144 = .ok (.iaload, 1) := eL_law_2132.2.2.2.2.2.2.2.2.2.2.1
theorem dL_law_2145 : decode cL_law 2145 = .ok (.aload_n 3, 1) := eL_law_2132.2.2.2.2.2.2.2.2.2.2.2.1
theorem dL_law_2146 : decode cL_law 2146 = .ok (.invokestatic 283, 3) := eL_law_2132.2.2.2.2.2.2.2.2.2.2.2.2.1
theorem dL_law_2149 : decode cL_law 2149 = .ok (.istore 5, 2) := eL_law_2132.2.2.2.2.2.2.2.2.2.2.2.2.2.1
theorem dL_law_2151 : decode cL_law 2151 = .ok (.aload_n 2, 1) := eL_law_2132.2.2.2.2.2.2.2.2.2.2.2.2.2.2.1
theorem dL_law_2152 : decode cL_law 2152 = .ok (.aload_n 0, 1) := eL_law_2132.2.2.2.2.2.2.2.2.2.2.2.2.2.2.2
theorem eL_law_2153 : (decode cL_law 2153 = .ok (.iload 4, 2)) ∧ (decode cL_law 2155 = .ok (.iconst 1, 1)) ∧ (decode cL_law 2156 = .ok (.iadd, 1)) ∧ (decode cL_law 2157 = .ok (.iaload, 1)) ∧ (decode cL_law 2158 = .ok (.aload_n 0, 1)) ∧ (decode cL_law 2159 = .ok (.iload 4, 2)) ∧ (decode cL_law 2161 = .ok (.iconst 2, 1)) ∧ (decode cL_law 2162 = .ok (.iadd, 1)) ∧ (decode cL_law 2163 = .ok (.iaload, 1)) ∧ (decode cL_law 2164 = .ok (.invokevirtual 285, 3)) ∧ (decode cL_law 2167 = .ok (.istore 6, 2)) ∧ (decode cL_law 2169 = .ok (.goto 122, 3)) ∧ (decode cL_law 2172 = .ok (.aload_n 1, 1)) ∧ (decode cL_law 2173 = .ok (.aload_n 0, 1)) ∧ (decode cL_law 2174 = .ok (.iload 4, 2)) ∧ (decode cL_law 2176 = .ok (.iconst 1, 1)) := by decide +kernel
theorem dL_law_2153 : decode cL_law 2153 = .ok (.iload 4, 2) := eL_law_2153.1
theorem dL_law_2155 : decode cL_law 2155 = .ok (.iconst 1, 1) := eL_law_2153.2.1
theorem dL_law_2156 : decode cL_law 2156 = .ok (.iadd, 1) := eL_law_2153.2.2.1
theorem dL_law_2157 : decode cL_law 2157 = .ok (.iaload, 1) := eL_law_2153.2.2.2.1
theorem dL_law_2158 : decode cL_law 2158 = .ok (.aload_n 0, 1) := eL_law_2153.2.2.2.2.1
theorem dL_law_2159 : decode cL_law 2159 = .ok (.iload 4, 2) := eL_law_2153.2.2.2.2.2.1
theorem dL_law_2161 : decode cL_law 2161 = .ok (.iconst 2, 1) := eL_law_2153.2.2.2.2.2.2.1
theorem dL_law_2162 : decode cL_law 2162 = .ok (.iadd, 1) := eL_law_2153.2.2.2.2.2.2.2.1
theorem dL_law_2163 : decode cL_law 2163 = .ok (.iaload, 1) := eL_law_2153.2.2.2.2.2.2.2.2.1
theorem dL_law_2164 : decode cL_law 2164 = .ok (.invokevirtual 285, 3) := eL_law_2153.2.2.2.2.2.2.2.2.2.1
theorem dL_law_2167 : decode cL_law 2167 = .ok (.istore 6, 2) := eL_law_2153.2.2.2.2.2.2.2.2.2.2.1
theorem dL_law_2169 : decode cL_law 2169 = .ok (.goto 122, 3) := eL_law_2153.2.2.2.2.2.2.2.2.2.2.2.1
theorem dL_law_2172 : decode cL_law 2172 = .ok (.aload_n 1, 1) := eL_law_2153.2.2.2.2.2.2.2.2.2.2.2.2.1
theorem dL_law_2173 : decode cL_law 2173 = .ok (.aload_n 0, 1) := eL_law_2153.2.2.2.2.2.2.2.2.2.2.2.2.2.1
theorem dL_law_2174 : decode cL_law 2174 = .ok (.iload 4, 2) := eL_law_2153.2.2.2.2.2.2.2.2.2.2.2.2.2.2.1
theorem dL_law_2176 : decode cL_law 2176 = .ok (.iconst 1, 1) := eL_law_2153.2.2.2.2.2.2.2.2.2.2.2.2.2.2.2
theorem eL_law_2177 : (decode cL_law 2177 = .ok (.iadd, 1)) ∧ (decode cL_law 2178 = .ok (.iaload, 1)) ∧ (decode cL_law 2179 = .ok (.aload_n 0, 1)) ∧ (decode cL_law 2180 = .ok (.iload 4, 2)) ∧ (decode cL_law 2182 = .ok (.iconst 2, 1)) ∧ (decode cL_law 2183 = .ok (.iadd, 1)) ∧ (decode cL_law 2184 = .ok (.iaload, 1)) ∧ (decode cL_law 2185 = .ok (.aload_n 0, 1)) ∧ (decode cL_law 2186 = .ok (.iload 4, 2)) ∧ (decode cL_law 2188 = .ok (.iconst 3, 1)) ∧ (decode cL_law 2189 = .ok (.iadd, 1)) ∧ (decode cL_law 2190 = .ok (.iaload, 1)) ∧ (decode cL_law 2191 = .ok (.aload_n 3, 1)) ∧ (decode cL_law 2192 = .ok (.invokestatic 286, 3)) ∧ (decode cL_law 2195 = .ok (.istore 5, 2)) ∧ (decode cL_law 2197 = .ok (.aload_n 2, 1)) := by decide +kernel
theorem dL_law_2177 : decode cL_law 2177 = .ok (.iadd, 1) := eL_law_2177.1
theorem dL_law_2178 : decode cL_law 2178 = .ok (.iaload, 1) := eL_law_2177.2.1
theorem dL_law_2179 : decode cL_law 2179 = .ok (.aload_n 0, 1) := eL_law_2177.2.2.1
theorem dL_law_2180 : decode cL_law 2180 = .ok (.iload 4, 2) := eL_law_2177.2.2.2.1
theorem dL_law_2182 : decode cL_law 2182 = .ok (.iconst 2, 1) := eL_law_2177.2.2.2.2.1
theorem dL_law_2183 : decode cL_law 2183 = .ok (.iadd, 1) := eL_law_2177.2.2.2.2.2.1
theorem dL_law_2184 : decode cL_law 2184 = .ok (.iaload, 1) := eL_law_2177.2.2.2.2.2.2.1
theorem dL_law_2185 : decode cL_law 2185 = .ok (.aload_n 0, 1) := eL_law_2177.2.2.2.2.2.2.2.1
theorem dL_law_2186 : decode cL_law 2186 = .ok (.iload 4, 2) := eL_law_2177.2.2.2.2.2.2.2.2.1
theorem dL_law_2188 : decode cL_law 2188 = .ok (.iconst 3, 1) := eL_law_2177.2.2.2.2.2.2.2.2.2.1
theorem dL_law_2189 : decode cL_law 2189 = .ok (.iadd, 1) := eL_law_2177.2.2.2.2.2.2.2.2.2.2.1
theorem dL_law_2190 : decode cL_law 2190 = .ok (.iaload, 1) := eL_law_2177.2.2.2.2.2.2.2.2.2.2.2.1
theorem dL_law_2191 : decode cL_law 2191 = .ok (.aload_n 3, 1) := eL_law_2177.2.2.2.2.2.2.2.2.2.2.2.2.1
theorem dL_law_2192 : decode cL_law 2192 = .ok (.invokestatic 286, 3) := eL_law_2177.2.2.2.2.2.2.2.2.2.2.2.2.2.1
theorem dL_law_2195 : decode cL_law 2195 = .ok (.istore 5, 2) := eL_law_2177.2.2.2.2.2.2.2.2.2.2.2.2.2.2.1
theorem dL_law_2197 : decode cL_law 2197 = .ok (.aload_n 2, 1) := eL_law_2177.2.2.2.2.2.2.2.2.2.2.2.2.2.2.2
theorem eL_law_2198 : (decode cL_law 2198 = .ok (.aload_n 0, 1)) ∧ (decode cL_law 2199 = .ok (.iload 4, 2)) ∧ (decode cL_law 2201 = .ok (.iconst 1, 1)) ∧ (decode cL_law 2202 = .ok (.iadd, 1)) ∧ (decode cL_law 2203 = .ok (.iaload, 1)) ∧ (decode cL_law 2204 = .ok (.aload_n 0, 1)) ∧ (decode cL_law 2205 = .ok (.iload 4, 2)) ∧ (decode cL_law 2207 = .ok (.iconst 2, 1)) ∧ (decode cL_law 2208 = .ok (.iadd, 1)) ∧ (decode cL_law 2209 = .ok (.iaload, 1)) ∧ (decode cL_law 2210 = .ok (.aload_n 0, 1)) ∧ (decode cL_law 2211 = .ok (.iload 4, 2)) ∧ (decode cL_law 2213 = .ok (.iconst 3, 1)) ∧ (decode cL_law 2214 = .ok (.iadd, 1)) ∧ (decode cL_law 2215 = .ok (.iaload, 1)) ∧ (decode cL_law 2216 = .ok (.invokevirtual 288, 3)) := by decide +kernel
theorem dL_law_2198 : decode cL_law 2198 = .ok (.aload_n 0, 1) := eL_law_2198.1
theorem dL_law_2199 : decode cL_law 2199 = .ok (.iload 4, 2) := eL_law_2198.2.1
theorem dL_law_2201 : decode cL_law 2201 = .ok (.iconst 1, 1) := eL_law_2198.2.2.1
theorem dL_law_2202 : decode cL_law 2202 = .ok (.iadd, 1) := eL_law_2198.2.2.2.1
theorem dL_law_2203 : decode cL_law 2203 = .ok (.iaload, 1) := eL_law_2198.2.2.2.2.1
theorem dL_law_2204 : decode cL_law 2204 = .ok (.aload_n 0, 1) := eL_law_2198.2.2.2.2.2.1
theorem dL_law_2205 : decode cL_law 2205 = .ok (.iload 4, 2) := eL_law_2198.2.2.2.2.2.2.1
theorem dL_law_2207 : decode cL_law 2207 = .ok (.iconst 2, 1) := eL_law_2198.2.2.2.2.2.2.2.1
theorem dL_law_2208 : decode cL_law 2208 = .ok (.iadd, 1) := eL_law_2198.2.2.2.2.2.2.2.2.1
theorem dL_law_2209 : decode cL_law 2209 = .ok (.iaload, 1) := eL_law_2198.2.2.2.2.2.2.2.2.2.1
theorem dL_law_2210 : decode cL_law 2210 = .ok (.aload_n 0, 1) := eL_law_2198.2.2.2.2.2.2.2.2.2.2.1
theorem dL_law_2211 : decode cL_law 2211 = .ok (.iload 4, 2) := eL_law_2198.2.2.2.2.2.2.2.2.2.2.2.1
theorem dL_law_2213 : decode cL_law 2213 = .ok (.iconst 3, 1) := eL_law_2198.2.2.2.2.2.2.2.2.2.2.2.2.1
theorem dL_law_2214 : decode cL_law 2214 = .ok (.iadd, 1) := eL_law_2198.2.2.2.2.2.2.2.2.2.2.2.2.2.1
theorem dL_law_2215 : decode cL_law 2215 = .ok (.iaload, 1) := eL_law_2198.2.2.2.2.2.2.2.2.2.2.2.2.2.2.1
theorem dL_law_2216 : decode cL_law 2216 = .ok (.invokevirtual 288, 3) := eL_law_2198.2.2.2.2.2.2.2.2.2.2.2.2.2.2.2
theorem eL_law_2219 : (decode cL_law 2219 = .ok (.istore 6, 2)) ∧ (decode cL_law 2221 = .ok (.goto 70, 3)) ∧ (decode cL_law 2224 = .ok (.aload_n 1, 1)) ∧ (decode cL_law 2225 = .ok (.aload_n 0, 1)) ∧ (decode cL_law 2226 = .ok (.iload 4, 2)) ∧ (decode cL_law 2228 = .ok (.iconst 1, 1)) ∧ (decode cL_law 2229 = .ok (.iadd, 1)) ∧ (decode cL_law 2230 = .ok (.iaload, 1)) ∧ (decode cL_law 2231 = .ok (.aload_n 3, 1)) ∧ (decode cL_law 2232 = .ok (.invokestatic 289, 3)) ∧ (decode cL_law 2235 = .ok (.istore 5, 2)) ∧ (decode cL_law 2237 = .ok (.aload_n 2, 1)) ∧ (decode cL_law 2238 = .ok (.aload_n 0, 1)) ∧ (decode cL_law 2239 = .ok (.iload 4, 2)) ∧ (decode cL_law 2241 = .ok (.iconst 1, 1)) ∧ (decode cL_law 2242 = .ok (.iadd, 1)) := by decide +kernel
theorem dL_law_2219 : decode cL_law 2219 = .ok (.istore 6, 2) := eL_law_2219.1
theorem dL_law_2221 : decode cL_law 2221 = .ok (.goto 70, 3) := eL_law_2219.2.1
theorem dL_law_2224 : decode cL_law 2224 = .ok (.aload_n 1, 1) := eL_law_2219.2.2.1
theorem dL_law_2225 : decode cL_law 2225 = .ok (.aload_n 0, 1) := eL_law_2219.2.2.2.1
theorem dL_law_2226 : decode cL_law 2226 = .ok (.iload 4, 2) := eL_law_2219.2.2.2.2.1
theorem dL_law_2228 : decode cL_law 2228 = .ok (.iconst 1, 1) := eL_law_2219.2.2.2.2.2.1
theorem dL_law_2229 : decode cL_law 2229 = .ok (.iadd, 1) := eL_law_2219.2.2.2.2.2.2.1
theorem dL_law_2230 : decode cL_law 2230 = .ok (.iaload, 1) := eL_law_2219.2.2.2.2.2.2.2.1
theorem dL_law_2231 : decode cL_law 2231 = .ok (.aload_n 3, 1) := eL_law_2219.2.2.2.2.2.2.2.2.1
theorem dL_law_2232 : decode cL_law 2232 = .ok (.invokestatic 289, 3) := eL_law_2219.2.2.2.2.2.2.2.2.2.1
theorem dL_law_2235 : decode cL_law 2235 = .ok (.istore 5, 2) := eL_law_2219.2.2.2.2.2.2.2.2.2.2.1
theorem dL_law_2237 : decode cL_law 2237 = .ok (.aload_n 2, 1) := eL_law_2219.2.2.2.2.2.2.2.2.2.2.2.1
theorem dL_law_2238 : decode cL_law 2238 = .ok (.aload_n 0, 1) := eL_law_2219.2.2.2.2.2.2.2.2.2.2.2.2.1
theorem dL_law_2239 : decode cL_law 2239 = .ok (.iload 4, 2) := eL_law_2219.2.2.2.2.2.2.2.2.2.2.2.2.2.1
theorem dL_law_2241 : decode cL_law 2241 = .ok (.iconst 1, 1) := eL_law_2219.2.2.2.2.2.2.2.2.2.2.2.2.2.2.1
theorem dL_law_2242 : decode cL_law 2242 = .ok (.iadd, 1) := eL_law_2219.2.2.2.2.2.2.2.2.2.2.2.2.2.2.2
theorem eL_law_2243 : (decode cL_law 2243 = .ok (.iaload, 1)) ∧ (decode cL_law 2244 = .ok (.invokevirtual 291, 3)) ∧ (decode cL_law 2247 = .ok (.istore 6, 2)) ∧ (decode cL_law 2249 = .ok (.goto 42, 3)) ∧ (decode cL_law 2252 = .ok (.aload_n 1, 1)) ∧ (decode cL_law 2253 = .ok (.invokevirtual 292, 3)) ∧ (decode cL_law 2256 = .ok (.pop, 1)) ∧ (decode cL_law 2257 = .ok (.aload_n 2, 1)) ∧ (decode cL_law 2258 = .ok (.invokevirtual 295, 3)) ∧ (decode cL_law 2261 = .ok (.pop, 1)) ∧ (decode cL_law 2262 = .ok (.goto 29, 3)) ∧ (decode cL_law 2265 = .ok (.aload_n 1, 1)) ∧ (decode cL_law 2266 = .ok (.invokevirtual 296, 3)) ∧ (decode cL_law 2269 = .ok (.pop, 1)) ∧ (decode cL_law 2270 = .ok (.aload_n 2, 1)) ∧ (decode cL_law 2271 = .ok (.invokevirtual 300, 3)) := by decide +kernel
theorem dL_law_2243 : decode cL_law 2243 = .ok (.iaload, 1) := eL_law_2243.1
theorem dL_law_2244 : decode cL_law 2244 = .ok (.invokevirtual 291, 3) := eL_law_2243.2.1
theorem dL_law_2247 : decode cL_law 2247 = .ok (.istore 6, 2) := eL_law_2243.2.2.1
theorem dL_law_2249 : decode cL_law 2249 = .ok (.goto 42, 3) := eL_law_2243.2.2.2.1
theorem dL_law_2252 : decode cL_law 2252 = .ok (.aload_n 1, 1) := eL_law_2243.2.2.2.2.1
theorem dL_law_2253 : decode cL_law 2253 = .ok (.invokevirtual 292, 3) := eL_law_2243.2.2.2.2.2.1
theorem dL_law_2256 : decode cL_law 2256 = .ok (.pop, 1) := eL_law_2243.2.2.2.2.2.2.1
theorem dL_law_2257 : decode cL_law 2257 = .ok (.aload_n 2, 1) := eL_law_2243.2.2.2.2.2.2.2.1
theorem dL_law_2258 : decode cL_law 2258 = .ok (.invokevirtual 295, 3) := eL_law_2243.2.2.2.2.2.2.2.2.1
theorem dL_law_2261 : decode cL_law 2261 = .ok (.pop, 1) := eL_law_2243.2.2.2.2.2.2.2.2.2.1
theorem dL_law_2262 : decode cL_law 2262 = .ok (.goto 29, 3) := eL_law_2243.2.2.2.2.2.2.2.2.2.2.1
theorem dL_law_2265 : decode cL_law 2265 = .ok (.aload_n 1, 1) := eL_law_2243.2.2.2.2.2.2.2.2.2.2.2.1
theorem dL_law_2266 : decode cL_law 2266 = .ok (.invokevirtual 296, 3) := eL_law_2243.2.2.2.2.2.2.2.2.2.2.2.2.1
theorem dL_law_2269 : decode cL_law 2269 = .ok (.pop, 1) := eL_law_2243.2.2.2.2.2.2.2.2.2.2.2.2.2.1
theorem dL_law_2270 : decode cL_law 2270 = .ok (.aload_n 2, 1) := eL_law_2243.2.2.2.2.2.2.2.2.2.2.2.2.2.2.1
theorem dL_law_2271 : decode cL_law 2271 = .ok (.invokevirtual 300, 3) := eL_law_2243.2.2.2.2.2.2.2.2.2.2.2.2.2.2.2
theorem eL_law_2274 : (decode cL_law 2274 = .ok (.pop, 1)) ∧ (decode cL_law 2275 = .ok (.goto 16, 3)) ∧ (decode cL_law 2278 = .ok (.aload_n 1, 1)) ∧ (decode cL_law 2279 = .ok (.invokevirtual 301, 3)) ∧ (decode cL_law 2282 = .ok (.pop2, 1)) ∧ (decode cL_law 2283 = .ok (.aload_n 2, 1)) ∧ (decode cL_law 2284 = .ok (.invokevirtual 305, 3)) ∧ (decode cL_law 2287 = .ok (.pop2, 1)) ∧ (decode cL_law 2288 = .ok (.goto 3, 3)) ∧ (decode cL_law 2291 = .ok (.iinc 4 7, 3)) ∧ (decode cL_law 2294 = .ok (.goto (-2267), 3)) ∧ (decode cL_law 2297 = .ok (.iconst 1, 1)) ∧ (decode cL_law 2298 = .ok (.ireturn, 1)) := by decide +kernel
theorem dL_law_2274 : decode cL_law 2274 = .ok (.pop, 1) := eL_law_2274.1
theorem dL_law_2275 : decode cL_law 2275 = .ok (.goto 16, 3) := eL_law_2274.2.1
theorem dL_law_2278 : decode cL_law 2278 = .ok (.aload_n 1, 1) := eL_law_2274.2.2.1
theorem dL_law_2279 : decode cL_law 2279 = .ok (.invokevirtual 301, 3) := eL_law_2274.2.2.2.1
theorem dL_law_2282 : decode cL_law 2282 = .ok (.pop2, 1) := eL_law_2274.2.2.2.2.1
theorem dL_law_2283 : decode cL_law 2283 = .ok (.aload_n 2, 1) := eL_law_2274.2.2.2.2.2.1
theorem dL_law_2284 : decode cL_law 2284 = .ok (.invokevirtual 305, 3) := eL_law_2274.2.2.2.2.2.2.1
theorem dL_law_2287 : decode cL_law 2287 = .ok (.pop2, 1) := eL_law_2274.2.2.2.2.2.2.2.1
theorem dL_law_2288 : decode cL_law 2288 = .ok (.goto 3, 3) := eL_law_2274.2.2.2.2.2.2.2.2.1
theorem dL_law_2291 : decode cL_law 2291 = .ok (.iinc 4 7, 3) := eL_law_2274.2.2.2.2.2.2.2.2.2.1
theorem dL_law_2294 : decode cL_law 2294 = .ok (.goto (-2267), 3) := eL_law_2274.2.2.2.2.2.2.2.2.2.2.1
theorem dL_law_2297 : decode cL_law 2297 = .ok (.iconst 1, 1) := eL_law_2274.2.2.2.2.2.2.2.2.2.2.2.1
theorem dL_law_2298 : decode cL_law 2298 = .ok (.ireturn, 1) := eL_law_2274.2.2.2.2.2.2.2.2.2.2.2.2
