theorem eL_freshBook_0 : (decode cL_freshBook 0 = .ok (.aload_n 3, 1)) ∧ (decode cL_freshBook 1 = .ok (.aload_n 0, 1)) ∧ (decode cL_freshBook 2 = .ok (.iload_n 1, 1)) ∧ (decode cL_freshBook 3 = .ok (.iload_n 2, 1)) ∧ (decode cL_freshBook 4 = .ok (.invokevirtual 7, 3)) ∧ (decode cL_freshBook 7 = .ok (.i2l, 1)) ∧ (decode cL_freshBook 8 = .ok (.putfield 13, 3)) ∧ (decode cL_freshBook 11 = .ok (.goto 11, 3)) ∧ (decode cL_freshBook 14 = .ok (.astore 4, 2)) ∧ (decode cL_freshBook 16 = .ok (.iconst 1, 1)) ∧ (decode cL_freshBook 17 = .ok (.ireturn, 1)) ∧ (decode cL_freshBook 18 = .ok (.astore 4, 2)) ∧ (decode cL_freshBook 20 = .ok (.iconst 2, 1)) ∧ (decode cL_freshBook 21 = .ok (.ireturn, 1)) ∧ (decode cL_freshBook 22 = .ok (.iconst 0, 1)) ∧ (decode cL_freshBook 23 = .ok (.ireturn, 1)) := by decide +kernel
theorem dL_freshBook_0 : decode cL_freshBook 0 = .ok (.aload_n 3, 1) := eL_freshBook_0.1
theorem dL_freshBook_1 : decode cL_freshBook 1 = .ok (.aload_n 0, 1) := eL_freshBook_0.2.1
theorem dL_freshBook_2 : decode cL_freshBook 2 = .ok (.iload_n 1, 1) := eL_freshBook_0.2.2.1
theorem dL_freshBook_3 : decode cL_freshBook 3 = .ok (.iload_n 2, 1) := eL_freshBook_0.2.2.2.1
theorem dL_freshBook_4 : decode cL_freshBook 4 = .ok (.invokevirtual 7, 3) := eL_freshBook_0.2.2.2.2.1
theorem dL_freshBook_7 : decode cL_freshBook 7 = .ok (.i2l, 1) := eL_freshBook_0.2.2.2.2.2.1
theorem dL_freshBook_8 : decode cL_freshBook 8 = .ok (.putfield 13, 3) := eL_freshBook_0.2.2.2.2.2.2.1
theorem dL_freshBook_11 : decode cL_freshBook 11 = .ok (.goto 11, 3) := eL_freshBook_0.2.2.2.2.2.2.2.1
theorem dL_freshBook_14 : decode cL_freshBook 14 = .ok (.astore 4, 2) := eL_freshBook_0.2.2.2.2.2.2.2.2.1
theorem dL_freshBook_16 : decode cL_freshBook 16 = .ok (.iconst 1, 1) := eL_freshBook_0.2.2.2.2.2.2.2.2.2.1
theorem dL_freshBook_17 : decode cL_freshBook 17 = .ok (.ireturn, 1) := eL_freshBook_0.2.2.2.2.2.2.2.2.2.2.1
theorem dL_freshBook_18 : decode cL_freshBook 18 = .ok (.astore 4, 2) := eL_freshBook_0.2.2.2.2.2.2.2.2.2.2.2.1
theorem dL_freshBook_20 : decode cL_freshBook 20 = .ok (.iconst 2, 1) := eL_freshBook_0.2.2.2.2.2.2.2.2.2.2.2.2.1
theorem dL_freshBook_21 : decode cL_freshBook 21 = .ok (.ireturn, 1) := eL_freshBook_0.2.2.2.2.2.2.2.2.2.2.2.2.2.1
theorem dL_freshBook_22 : decode cL_freshBook 22 = .ok (.iconst 0, 1) := eL_freshBook_0.2.2.2.2.2.2.2.2.2.2.2.2.2.2.1
theorem dL_freshBook_23 : decode cL_freshBook 23 = .ok (.ireturn, 1) := eL_freshBook_0.2.2.2.2.2.2.2.2.2.2.2.2.2.2.2
theorem eL_buildBook_0 : (decode cL_buildBook 0 = .ok (.aload 4, 2)) ∧ (decode cL_buildBook 2 = .ok (.aload_n 0, 1)) ∧ (decode cL_buildBook 3 = .ok (.iload_n 1, 1)) ∧ (decode cL_buildBook 4 = .ok (.iload_n 2, 1)) ∧ (decode cL_buildBook 5 = .ok (.iload_n 3, 1)) ∧ (decode cL_buildBook 6 = .ok (.invokevirtual 23, 3)) ∧ (decode cL_buildBook 9 = .ok (.i2l, 1)) ∧ (decode cL_buildBook 10 = .ok (.putfield 13, 3)) ∧ (decode cL_buildBook 13 = .ok (.goto 11, 3)) ∧ (decode cL_buildBook 16 = .ok (.astore 5, 2)) ∧ (decode cL_buildBook 18 = .ok (.iconst 1, 1)) ∧ (decode cL_buildBook 19 = .ok (.ireturn, 1)) ∧ (decode cL_buildBook 20 = .ok (.astore 5, 2)) ∧ (decode cL_buildBook 22 = .ok (.iconst 2, 1)) ∧ (decode cL_buildBook 23 = .ok (.ireturn, 1)) ∧ (decode cL_buildBook 24 = .ok (.iconst 0, 1)) := by decide +kernel
theorem dL_buildBook_0 : decode cL_buildBook 0 = .ok (.aload 4, 2) := eL_buildBook_0.1
theorem dL_buildBook_2 : decode cL_buildBook 2 = .ok (.aload_n 0, 1) := eL_buildBook_0.2.1
theorem dL_buildBook_3 : decode cL_buildBook 3 = .ok (.iload_n 1, 1) := eL_buildBook_0.2.2.1
theorem dL_buildBook_4 : decode cL_buildBook 4 = .ok (.iload_n 2, 1) := eL_buildBook_0.2.2.2.1
theorem dL_buildBook_5 : decode cL_buildBook 5 = .ok (.iload_n 3, 1) := eL_buildBook_0.2.2.2.2.1
theorem dL_buildBook_6 : decode cL_buildBook 6 = .ok (.invokevirtual 23, 3) := eL_buildBook_0.2.2.2.2.2.1
theorem dL_buildBook_9 : decode cL_buildBook 9 = .ok (.i2l, 1) := eL_buildBook_0.2.2.2.2.2.2.1
theorem dL_buildBook_10 : decode cL_buildBook 10 = .ok (.putfield 13, 3) := eL_buildBook_0.2.2.2.2.2.2.2.1
theorem dL_buildBook_13 : decode cL_buildBook 13 = .ok (.goto 11, 3) := eL_buildBook_0.2.2.2.2.2.2.2.2.1
theorem dL_buildBook_16 : decode cL_buildBook 16 = .ok (.astore 5, 2) := eL_buildBook_0.2.2.2.2.2.2.2.2.2.1
theorem dL_buildBook_18 : decode cL_buildBook 18 = .ok (.iconst 1, 1) := eL_buildBook_0.2.2.2.2.2.2.2.2.2.2.1
theorem dL_buildBook_19 : decode cL_buildBook 19 = .ok (.ireturn, 1) := eL_buildBook_0.2.2.2.2.2.2.2.2.2.2.2.1
theorem dL_buildBook_20 : decode cL_buildBook 20 = .ok (.astore 5, 2) := eL_buildBook_0.2.2.2.2.2.2.2.2.2.2.2.2.1
theorem dL_buildBook_22 : decode cL_buildBook 22 = .ok (.iconst 2, 1) := eL_buildBook_0.2.2.2.2.2.2.2.2.2.2.2.2.2.1
theorem dL_buildBook_23 : decode cL_buildBook 23 = .ok (.ireturn, 1) := eL_buildBook_0.2.2.2.2.2.2.2.2.2.2.2.2.2.2.1
theorem dL_buildBook_24 : decode cL_buildBook 24 = .ok (.iconst 0, 1) := eL_buildBook_0.2.2.2.2.2.2.2.2.2.2.2.2.2.2.2
theorem dL_buildBook_25 : decode cL_buildBook 25 = .ok (.ireturn, 1) := by decide +kernel
theorem eL_splitBook_0 : (decode cL_splitBook 0 = .ok (.aload 4, 2)) ∧ (decode cL_splitBook 2 = .ok (.aload_n 0, 1)) ∧ (decode cL_splitBook 3 = .ok (.iload_n 1, 1)) ∧ (decode cL_splitBook 4 = .ok (.iload_n 2, 1)) ∧ (decode cL_splitBook 5 = .ok (.iload_n 3, 1)) ∧ (decode cL_splitBook 6 = .ok (.invokevirtual 27, 3)) ∧ (decode cL_splitBook 9 = .ok (.i2l, 1)) ∧ (decode cL_splitBook 10 = .ok (.putfield 13, 3)) ∧ (decode cL_splitBook 13 = .ok (.goto 11, 3)) ∧ (decode cL_splitBook 16 = .ok (.astore 5, 2)) ∧ (decode cL_splitBook 18 = .ok (.iconst 1, 1)) ∧ (decode cL_splitBook 19 = .ok (.ireturn, 1)) ∧ (decode cL_splitBook 20 = .ok (.astore 5, 2)) ∧ (decode cL_splitBook 22 = .ok (.iconst 2, 1)) ∧ (decode cL_splitBook 23 = .ok (.ireturn, 1)) ∧ (decode cL_splitBook 24 = .ok (.iconst 0, 1)) := by decide +kernel
theorem dL_splitBook_0 : decode cL_splitBook 0 = .ok (.aload 4, 2) := eL_splitBook_0.1
theorem dL_splitBook_2 : decode cL_splitBook 2 = .ok (.aload_n 0, 1) := eL_splitBook_0.2.1
theorem dL_splitBook_3 : decode cL_splitBook 3 = .ok (.iload_n 1, 1) := eL_splitBook_0.2.2.1
theorem dL_splitBook_4 : decode cL_splitBook 4 = .ok (.iload_n 2, 1) := eL_splitBook_0.2.2.2.1
theorem dL_splitBook_5 : decode cL_splitBook 5 = .ok (.iload_n 3, 1) := eL_splitBook_0.2.2.2.2.1
theorem dL_splitBook_6 : decode cL_splitBook 6 = .ok (.invokevirtual 27, 3) := eL_splitBook_0.2.2.2.2.2.1
theorem dL_splitBook_9 : decode cL_splitBook 9 = .ok (.i2l, 1) := eL_splitBook_0.2.2.2.2.2.2.1
theorem dL_splitBook_10 : decode cL_splitBook 10 = .ok (.putfield 13, 3) := eL_splitBook_0.2.2.2.2.2.2.2.1
theorem dL_splitBook_13 : decode cL_splitBook 13 = .ok (.goto 11, 3) := eL_splitBook_0.2.2.2.2.2.2.2.2.1
theorem dL_splitBook_16 : decode cL_splitBook 16 = .ok (.astore 5, 2) := eL_splitBook_0.2.2.2.2.2.2.2.2.2.1
theorem dL_splitBook_18 : decode cL_splitBook 18 = .ok (.iconst 1, 1) := eL_splitBook_0.2.2.2.2.2.2.2.2.2.2.1
theorem dL_splitBook_19 : decode cL_splitBook 19 = .ok (.ireturn, 1) := eL_splitBook_0.2.2.2.2.2.2.2.2.2.2.2.1
theorem dL_splitBook_20 : decode cL_splitBook 20 = .ok (.astore 5, 2) := eL_splitBook_0.2.2.2.2.2.2.2.2.2.2.2.2.1
theorem dL_splitBook_22 : decode cL_splitBook 22 = .ok (.iconst 2, 1) := eL_splitBook_0.2.2.2.2.2.2.2.2.2.2.2.2.2.1
theorem dL_splitBook_23 : decode cL_splitBook 23 = .ok (.ireturn, 1) := eL_splitBook_0.2.2.2.2.2.2.2.2.2.2.2.2.2.2.1
theorem dL_splitBook_24 : decode cL_splitBook 24 = .ok (.iconst 0, 1) := eL_splitBook_0.2.2.2.2.2.2.2.2.2.2.2.2.2.2.2
theorem dL_splitBook_25 : decode cL_splitBook 25 = .ok (.ireturn, 1) := by decide +kernel
theorem eL_fill_0 : (decode cL_fill 0 = .ok (.aload 6, 2)) ∧ (decode cL_fill 2 = .ok (.aload_n 0, 1)) ∧ (decode cL_fill 3 = .ok (.iload_n 1, 1)) ∧ (decode cL_fill 4 = .ok (.iload_n 2, 1)) ∧ (decode cL_fill 5 = .ok (.iload_n 3, 1)) ∧ (decode cL_fill 6 = .ok (.iload 4, 2)) ∧ (decode cL_fill 8 = .ok (.iload 5, 2)) ∧ (decode cL_fill 10 = .ok (.invokevirtual 30, 3)) ∧ (decode cL_fill 13 = .ok (.i2l, 1)) ∧ (decode cL_fill 14 = .ok (.putfield 13, 3)) ∧ (decode cL_fill 17 = .ok (.goto 11, 3)) ∧ (decode cL_fill 20 = .ok (.astore 7, 2)) ∧ (decode cL_fill 22 = .ok (.iconst 1, 1)) ∧ (decode cL_fill 23 = .ok (.ireturn, 1)) ∧ (decode cL_fill 24 = .ok (.astore 7, 2)) ∧ (decode cL_fill 26 = .ok (.iconst 2, 1)) := by decide +kernel
theorem dL_fill_0 : decode cL_fill 0 = .ok (.aload 6, 2) := eL_fill_0.1
theorem dL_fill_2 : decode cL_fill 2 = .ok (.aload_n 0, 1) := eL_fill_0.2.1
theorem dL_fill_3 : decode cL_fill 3 = .ok (.iload_n 1, 1) := eL_fill_0.2.2.1
theorem dL_fill_4 : decode cL_fill 4 = .ok (.iload_n 2, 1) := eL_fill_0.2.2.2.1
theorem dL_fill_5 : decode cL_fill 5 = .ok (.iload_n 3, 1) := eL_fill_0.2.2.2.2.1
theorem dL_fill_6 : decode cL_fill 6 = .ok (.iload 4, 2) := eL_fill_0.2.2.2.2.2.1
theorem dL_fill_8 : decode cL_fill 8 = .ok (.iload 5, 2) := eL_fill_0.2.2.2.2.2.2.1
theorem dL_fill_10 : decode cL_fill 10 = .ok (.invokevirtual 30, 3) := eL_fill_0.2.2.2.2.2.2.2.1
theorem dL_fill_13 : decode cL_fill 13 = .ok (.i2l, 1) := eL_fill_0.2.2.2.2.2.2.2.2.1
theorem dL_fill_14 : decode cL_fill 14 = .ok (.putfield 13, 3) := eL_fill_0.2.2.2.2.2.2.2.2.2.1
theorem dL_fill_17 : decode cL_fill 17 = .ok (.goto 11, 3) := eL_fill_0.2.2.2.2.2.2.2.2.2.2.1
theorem dL_fill_20 : decode cL_fill 20 = .ok (.astore 7, 2) := eL_fill_0.2.2.2.2.2.2.2.2.2.2.2.1
theorem dL_fill_22 : decode cL_fill 22 = .ok (.iconst 1, 1) := eL_fill_0.2.2.2.2.2.2.2.2.2.2.2.2.1
theorem dL_fill_23 : decode cL_fill 23 = .ok (.ireturn, 1) := eL_fill_0.2.2.2.2.2.2.2.2.2.2.2.2.2.1
theorem dL_fill_24 : decode cL_fill 24 = .ok (.astore 7, 2) := eL_fill_0.2.2.2.2.2.2.2.2.2.2.2.2.2.2.1
theorem dL_fill_26 : decode cL_fill 26 = .ok (.iconst 2, 1) := eL_fill_0.2.2.2.2.2.2.2.2.2.2.2.2.2.2.2
theorem eL_fill_27 : (decode cL_fill 27 = .ok (.ireturn, 1)) ∧ (decode cL_fill 28 = .ok (.iconst 0, 1)) ∧ (decode cL_fill 29 = .ok (.ireturn, 1)) := by decide +kernel
theorem dL_fill_27 : decode cL_fill 27 = .ok (.ireturn, 1) := eL_fill_27.1
theorem dL_fill_28 : decode cL_fill 28 = .ok (.iconst 0, 1) := eL_fill_27.2.1
theorem dL_fill_29 : decode cL_fill 29 = .ok (.ireturn, 1) := eL_fill_27.2.2
theorem eL_pour_0 : (decode cL_pour 0 = .ok (.aload_n 3, 1)) ∧ (decode cL_pour 1 = .ok (.aload_n 0, 1)) ∧ (decode cL_pour 2 = .ok (.iload_n 1, 1)) ∧ (decode cL_pour 3 = .ok (.iload_n 2, 1)) ∧ (decode cL_pour 4 = .ok (.invokevirtual 34, 3)) ∧ (decode cL_pour 7 = .ok (.i2l, 1)) ∧ (decode cL_pour 8 = .ok (.putfield 13, 3)) ∧ (decode cL_pour 11 = .ok (.goto 7, 3)) ∧ (decode cL_pour 14 = .ok (.astore 4, 2)) ∧ (decode cL_pour 16 = .ok (.iconst 1, 1)) ∧ (decode cL_pour 17 = .ok (.ireturn, 1)) ∧ (decode cL_pour 18 = .ok (.iconst 0, 1)) ∧ (decode cL_pour 19 = .ok (.ireturn, 1)) := by decide +kernel
theorem dL_pour_0 : decode cL_pour 0 = .ok (.aload_n 3, 1) := eL_pour_0.1
theorem dL_pour_1 : decode cL_pour 1 = .ok (.aload_n 0, 1) := eL_pour_0.2.1
theorem dL_pour_2 : decode cL_pour 2 = .ok (.iload_n 1, 1) := eL_pour_0.2.2.1
theorem dL_pour_3 : decode cL_pour 3 = .ok (.iload_n 2, 1) := eL_pour_0.2.2.2.1
theorem dL_pour_4 : decode cL_pour 4 = .ok (.invokevirtual 34, 3) := eL_pour_0.2.2.2.2.1
theorem dL_pour_7 : decode cL_pour 7 = .ok (.i2l, 1) := eL_pour_0.2.2.2.2.2.1
theorem dL_pour_8 : decode cL_pour 8 = .ok (.putfield 13, 3) := eL_pour_0.2.2.2.2.2.2.1
theorem dL_pour_11 : decode cL_pour 11 = .ok (.goto 7, 3) := eL_pour_0.2.2.2.2.2.2.2.1
theorem dL_pour_14 : decode cL_pour 14 = .ok (.astore 4, 2) := eL_pour_0.2.2.2.2.2.2.2.2.1
theorem dL_pour_16 : decode cL_pour 16 = .ok (.iconst 1, 1) := eL_pour_0.2.2.2.2.2.2.2.2.2.1
theorem dL_pour_17 : decode cL_pour 17 = .ok (.ireturn, 1) := eL_pour_0.2.2.2.2.2.2.2.2.2.2.1
theorem dL_pour_18 : decode cL_pour 18 = .ok (.iconst 0, 1) := eL_pour_0.2.2.2.2.2.2.2.2.2.2.2.1
theorem dL_pour_19 : decode cL_pour 19 = .ok (.ireturn, 1) := eL_pour_0.2.2.2.2.2.2.2.2.2.2.2.2
theorem eL_keep_0 : (decode cL_keep 0 = .ok (.aload 4, 2)) ∧ (decode cL_keep 2 = .ok (.aload_n 0, 1)) ∧ (decode cL_keep 3 = .ok (.iload_n 1, 1)) ∧ (decode cL_keep 4 = .ok (.iload_n 2, 1)) ∧ (decode cL_keep 5 = .ok (.iload_n 3, 1)) ∧ (decode cL_keep 6 = .ok (.invokevirtual 37, 3)) ∧ (decode cL_keep 9 = .ok (.i2l, 1)) ∧ (decode cL_keep 10 = .ok (.putfield 13, 3)) ∧ (decode cL_keep 13 = .ok (.goto 7, 3)) ∧ (decode cL_keep 16 = .ok (.astore 5, 2)) ∧ (decode cL_keep 18 = .ok (.iconst 1, 1)) ∧ (decode cL_keep 19 = .ok (.ireturn, 1)) ∧ (decode cL_keep 20 = .ok (.iconst 0, 1)) ∧ (decode cL_keep 21 = .ok (.ireturn, 1)) := by decide +kernel
theorem dL_keep_0 : decode cL_keep 0 = .ok (.aload 4, 2) := eL_keep_0.1
theorem dL_keep_2 : decode cL_keep 2 = .ok (.aload_n 0, 1) := eL_keep_0.2.1
theorem dL_keep_3 : decode cL_keep 3 = .ok (.iload_n 1, 1) := eL_keep_0.2.2.1
theorem dL_keep_4 : decode cL_keep 4 = .ok (.iload_n 2, 1) := eL_keep_0.2.2.2.1
theorem dL_keep_5 : decode cL_keep 5 = .ok (.iload_n 3, 1) := eL_keep_0.2.2.2.2.1
theorem dL_keep_6 : decode cL_keep 6 = .ok (.invokevirtual 37, 3) := eL_keep_0.2.2.2.2.2.1
theorem dL_keep_9 : decode cL_keep 9 = .ok (.i2l, 1) := eL_keep_0.2.2.2.2.2.2.1
theorem dL_keep_10 : decode cL_keep 10 = .ok (.putfield 13, 3) := eL_keep_0.2.2.2.2.2.2.2.1
theorem dL_keep_13 : decode cL_keep 13 = .ok (.goto 7, 3) := eL_keep_0.2.2.2.2.2.2.2.2.1
theorem dL_keep_16 : decode cL_keep 16 = .ok (.astore 5, 2) := eL_keep_0.2.2.2.2.2.2.2.2.2.1
theorem dL_keep_18 : decode cL_keep 18 = .ok (.iconst 1, 1) := eL_keep_0.2.2.2.2.2.2.2.2.2.2.1
theorem dL_keep_19 : decode cL_keep 19 = .ok (.ireturn, 1) := eL_keep_0.2.2.2.2.2.2.2.2.2.2.2.1
theorem dL_keep_20 : decode cL_keep 20 = .ok (.iconst 0, 1) := eL_keep_0.2.2.2.2.2.2.2.2.2.2.2.2.1
theorem dL_keep_21 : decode cL_keep 21 = .ok (.ireturn, 1) := eL_keep_0.2.2.2.2.2.2.2.2.2.2.2.2.2
theorem eL_put_0 : (decode cL_put 0 = .ok (.aload 5, 2)) ∧ (decode cL_put 2 = .ok (.aload_n 0, 1)) ∧ (decode cL_put 3 = .ok (.iload_n 1, 1)) ∧ (decode cL_put 4 = .ok (.iload_n 2, 1)) ∧ (decode cL_put 5 = .ok (.iload_n 3, 1)) ∧ (decode cL_put 6 = .ok (.iload 4, 2)) ∧ (decode cL_put 8 = .ok (.invokevirtual 41, 3)) ∧ (decode cL_put 11 = .ok (.i2l, 1)) ∧ (decode cL_put 12 = .ok (.putfield 13, 3)) ∧ (decode cL_put 15 = .ok (.goto 11, 3)) ∧ (decode cL_put 18 = .ok (.astore 6, 2)) ∧ (decode cL_put 20 = .ok (.iconst 1, 1)) ∧ (decode cL_put 21 = .ok (.ireturn, 1)) ∧ (decode cL_put 22 = .ok (.astore 6, 2)) ∧ (decode cL_put 24 = .ok (.iconst 2, 1)) ∧ (decode cL_put 25 = .ok (.ireturn, 1)) := by decide +kernel
theorem dL_put_0 : decode cL_put 0 = .ok (.aload 5, 2) := eL_put_0.1
theorem dL_put_2 : decode cL_put 2 = .ok (.aload_n 0, 1) := eL_put_0.2.1
theorem dL_put_3 : decode cL_put 3 = .ok (.iload_n 1, 1) := eL_put_0.2.2.1
theorem dL_put_4 : decode cL_put 4 = .ok (.iload_n 2, 1) := eL_put_0.2.2.2.1
theorem dL_put_5 : decode cL_put 5 = .ok (.iload_n 3, 1) := eL_put_0.2.2.2.2.1
theorem dL_put_6 : decode cL_put 6 = .ok (.iload 4, 2) := eL_put_0.2.2.2.2.2.1
theorem dL_put_8 : decode cL_put 8 = .ok (.invokevirtual 41, 3) := eL_put_0.2.2.2.2.2.2.1
theorem dL_put_11 : decode cL_put 11 = .ok (.i2l, 1) := eL_put_0.2.2.2.2.2.2.2.1
theorem dL_put_12 : decode cL_put 12 = .ok (.putfield 13, 3) := eL_put_0.2.2.2.2.2.2.2.2.1
theorem dL_put_15 : decode cL_put 15 = .ok (.goto 11, 3) := eL_put_0.2.2.2.2.2.2.2.2.2.1
theorem dL_put_18 : decode cL_put 18 = .ok (.astore 6, 2) := eL_put_0.2.2.2.2.2.2.2.2.2.2.1
theorem dL_put_20 : decode cL_put 20 = .ok (.iconst 1, 1) := eL_put_0.2.2.2.2.2.2.2.2.2.2.2.1
theorem dL_put_21 : decode cL_put 21 = .ok (.ireturn, 1) := eL_put_0.2.2.2.2.2.2.2.2.2.2.2.2.1
theorem dL_put_22 : decode cL_put 22 = .ok (.astore 6, 2) := eL_put_0.2.2.2.2.2.2.2.2.2.2.2.2.2.1
theorem dL_put_24 : decode cL_put 24 = .ok (.iconst 2, 1) := eL_put_0.2.2.2.2.2.2.2.2.2.2.2.2.2.2.1
theorem dL_put_25 : decode cL_put 25 = .ok (.ireturn, 1) := eL_put_0.2.2.2.2.2.2.2.2.2.2.2.2.2.2.2
theorem eL_put_26 : (decode cL_put 26 = .ok (.iconst 0, 1)) ∧ (decode cL_put 27 = .ok (.ireturn, 1)) := by decide +kernel
theorem dL_put_26 : decode cL_put 26 = .ok (.iconst 0, 1) := eL_put_26.1
theorem dL_put_27 : decode cL_put 27 = .ok (.ireturn, 1) := eL_put_26.2
theorem eL_exchange_0 : (decode cL_exchange 0 = .ok (.aload 5, 2)) ∧ (decode cL_exchange 2 = .ok (.aload_n 0, 1)) ∧ (decode cL_exchange 3 = .ok (.iload_n 1, 1)) ∧ (decode cL_exchange 4 = .ok (.iload_n 2, 1)) ∧ (decode cL_exchange 5 = .ok (.iload_n 3, 1)) ∧ (decode cL_exchange 6 = .ok (.iload 4, 2)) ∧ (decode cL_exchange 8 = .ok (.invokevirtual 45, 3)) ∧ (decode cL_exchange 11 = .ok (.i2l, 1)) ∧ (decode cL_exchange 12 = .ok (.putfield 13, 3)) ∧ (decode cL_exchange 15 = .ok (.goto 11, 3)) ∧ (decode cL_exchange 18 = .ok (.astore 6, 2)) ∧ (decode cL_exchange 20 = .ok (.iconst 1, 1)) ∧ (decode cL_exchange 21 = .ok (.ireturn, 1)) ∧ (decode cL_exchange 22 = .ok (.astore 6, 2)) ∧ (decode cL_exchange 24 = .ok (.iconst 2, 1)) ∧ (decode cL_exchange 25 = .ok (.ireturn, 1)) := by decide +kernel
theorem dL_exchange_0 : decode cL_exchange 0 = .ok (.aload 5, 2) := eL_exchange_0.1
theorem dL_exchange_2 : decode cL_exchange 2 = .ok (.aload_n 0, 1) := eL_exchange_0.2.1
theorem dL_exchange_3 : decode cL_exchange 3 = .ok (.iload_n 1, 1) := eL_exchange_0.2.2.1
theorem dL_exchange_4 : decode cL_exchange 4 = .ok (.iload_n 2, 1) := eL_exchange_0.2.2.2.1
theorem dL_exchange_5 : decode cL_exchange 5 = .ok (.iload_n 3, 1) := eL_exchange_0.2.2.2.2.1
theorem dL_exchange_6 : decode cL_exchange 6 = .ok (.iload 4, 2) := eL_exchange_0.2.2.2.2.2.1
theorem dL_exchange_8 : decode cL_exchange 8 = .ok (.invokevirtual 45, 3) := eL_exchange_0.2.2.2.2.2.2.1
theorem dL_exchange_11 : decode cL_exchange 11 = .ok (.i2l, 1) := eL_exchange_0.2.2.2.2.2.2.2.1
theorem dL_exchange_12 : decode cL_exchange 12 = .ok (.putfield 13, 3) := eL_exchange_0.2.2.2.2.2.2.2.2.1
theorem dL_exchange_15 : decode cL_exchange 15 = .ok (.goto 11, 3) := eL_exchange_0.2.2.2.2.2.2.2.2.2.1
theorem dL_exchange_18 : decode cL_exchange 18 = .ok (.astore 6, 2) := eL_exchange_0.2.2.2.2.2.2.2.2.2.2.1
theorem dL_exchange_20 : decode cL_exchange 20 = .ok (.iconst 1, 1) := eL_exchange_0.2.2.2.2.2.2.2.2.2.2.2.1
theorem dL_exchange_21 : decode cL_exchange 21 = .ok (.ireturn, 1) := eL_exchange_0.2.2.2.2.2.2.2.2.2.2.2.2.1
theorem dL_exchange_22 : decode cL_exchange 22 = .ok (.astore 6, 2) := eL_exchange_0.2.2.2.2.2.2.2.2.2.2.2.2.2.1
theorem dL_exchange_24 : decode cL_exchange 24 = .ok (.iconst 2, 1) := eL_exchange_0.2.2.2.2.2.2.2.2.2.2.2.2.2.2.1
theorem dL_exchange_25 : decode cL_exchange 25 = .ok (.ireturn, 1) := eL_exchange_0.2.2.2.2.2.2.2.2.2.2.2.2.2.2.2
theorem eL_exchange_26 : (decode cL_exchange 26 = .ok (.iconst 0, 1)) ∧ (decode cL_exchange 27 = .ok (.ireturn, 1)) := by decide +kernel
theorem dL_exchange_26 : decode cL_exchange 26 = .ok (.iconst 0, 1) := eL_exchange_26.1
theorem dL_exchange_27 : decode cL_exchange 27 = .ok (.ireturn, 1) := eL_exchange_26.2
theorem eL_take_0 : (decode cL_take 0 = .ok (.aload_n 3, 1)) ∧ (decode cL_take 1 = .ok (.aload_n 0, 1)) ∧ (decode cL_take 2 = .ok (.iload_n 1, 1)) ∧ (decode cL_take 3 = .ok (.iload_n 2, 1)) ∧ (decode cL_take 4 = .ok (.invokevirtual 48, 3)) ∧ (decode cL_take 7 = .ok (.i2l, 1)) ∧ (decode cL_take 8 = .ok (.putfield 13, 3)) ∧ (decode cL_take 11 = .ok (.goto 11, 3)) ∧ (decode cL_take 14 = .ok (.astore 4, 2)) ∧ (decode cL_take 16 = .ok (.iconst 1, 1)) ∧ (decode cL_take 17 = .ok (.ireturn, 1)) ∧ (decode cL_take 18 = .ok (.astore 4, 2)) ∧ (decode cL_take 20 = .ok (.iconst 2, 1)) ∧ (decode cL_take 21 = .ok (.ireturn, 1)) ∧ (decode cL_take 22 = .ok (.iconst 0, 1)) ∧ (decode cL_take 23 = .ok (.ireturn, 1)) := by decide +kernel
theorem dL_take_0 : decode cL_take 0 = .ok (.aload_n 3, 1) := eL_take_0.1
theorem dL_take_1 : decode cL_take 1 = .ok (.aload_n 0, 1) := eL_take_0.2.1
theorem dL_take_2 : decode cL_take 2 = .ok (.iload_n 1, 1) := eL_take_0.2.2.1
theorem dL_take_3 : decode cL_take 3 = .ok (.iload_n 2, 1) := eL_take_0.2.2.2.1
theorem dL_take_4 : decode cL_take 4 = .ok (.invokevirtual 48, 3) := eL_take_0.2.2.2.2.1
theorem dL_take_7 : decode cL_take 7 = .ok (.i2l, 1) := eL_take_0.2.2.2.2.2.1
theorem dL_take_8 : decode cL_take 8 = .ok (.putfield 13, 3) := eL_take_0.2.2.2.2.2.2.1
theorem dL_take_11 : decode cL_take 11 = .ok (.goto 11, 3) := eL_take_0.2.2.2.2.2.2.2.1
theorem dL_take_14 : decode cL_take 14 = .ok (.astore 4, 2) := eL_take_0.2.2.2.2.2.2.2.2.1
theorem dL_take_16 : decode cL_take 16 = .ok (.iconst 1, 1) := eL_take_0.2.2.2.2.2.2.2.2.2.1
theorem dL_take_17 : decode cL_take 17 = .ok (.ireturn, 1) := eL_take_0.2.2.2.2.2.2.2.2.2.2.1
theorem dL_take_18 : decode cL_take 18 = .ok (.astore 4, 2) := eL_take_0.2.2.2.2.2.2.2.2.2.2.2.1
theorem dL_take_20 : decode cL_take 20 = .ok (.iconst 2, 1) := eL_take_0.2.2.2.2.2.2.2.2.2.2.2.2.1
theorem dL_take_21 : decode cL_take 21 = .ok (.ireturn, 1) := eL_take_0.2.2.2.2.2.2.2.2.2.2.2.2.2.1
theorem dL_take_22 : decode cL_take 22 = .ok (.iconst 0, 1) := eL_take_0.2.2.2.2.2.2.2.2.2.2.2.2.2.2.1
theorem dL_take_23 : decode cL_take 23 = .ok (.ireturn, 1) := eL_take_0.2.2.2.2.2.2.2.2.2.2.2.2.2.2.2
theorem eL_drop_0 : (decode cL_drop 0 = .ok (.aload_n 3, 1)) ∧ (decode cL_drop 1 = .ok (.aload_n 0, 1)) ∧ (decode cL_drop 2 = .ok (.iload_n 1, 1)) ∧ (decode cL_drop 3 = .ok (.iload_n 2, 1)) ∧ (decode cL_drop 4 = .ok (.invokevirtual 51, 3)) ∧ (decode cL_drop 7 = .ok (.i2l, 1)) ∧ (decode cL_drop 8 = .ok (.putfield 13, 3)) ∧ (decode cL_drop 11 = .ok (.goto 11, 3)) ∧ (decode cL_drop 14 = .ok (.astore 4, 2)) ∧ (decode cL_drop 16 = .ok (.iconst 1, 1)) ∧ (decode cL_drop 17 = .ok (.ireturn, 1)) ∧ (decode cL_drop 18 = .ok (.astore 4, 2)) ∧ (decode cL_drop 20 = .ok (.iconst 2, 1)) ∧ (decode cL_drop 21 = .ok (.ireturn, 1)) ∧ (decode cL_drop 22 = .ok (.iconst 0, 1)) ∧ (decode cL_drop 23 = .ok (.ireturn, 1)) := by decide +kernel
theorem dL_drop_0 : decode cL_drop 0 = .ok (.aload_n 3, 1) := eL_drop_0.1
theorem dL_drop_1 : decode cL_drop 1 = .ok (.aload_n 0, 1) := eL_drop_0.2.1
theorem dL_drop_2 : decode cL_drop 2 = .ok (.iload_n 1, 1) := eL_drop_0.2.2.1
theorem dL_drop_3 : decode cL_drop 3 = .ok (.iload_n 2, 1) := eL_drop_0.2.2.2.1
theorem dL_drop_4 : decode cL_drop 4 = .ok (.invokevirtual 51, 3) := eL_drop_0.2.2.2.2.1
theorem dL_drop_7 : decode cL_drop 7 = .ok (.i2l, 1) := eL_drop_0.2.2.2.2.2.1
theorem dL_drop_8 : decode cL_drop 8 = .ok (.putfield 13, 3) := eL_drop_0.2.2.2.2.2.2.1
theorem dL_drop_11 : decode cL_drop 11 = .ok (.goto 11, 3) := eL_drop_0.2.2.2.2.2.2.2.1
theorem dL_drop_14 : decode cL_drop 14 = .ok (.astore 4, 2) := eL_drop_0.2.2.2.2.2.2.2.2.1
theorem dL_drop_16 : decode cL_drop 16 = .ok (.iconst 1, 1) := eL_drop_0.2.2.2.2.2.2.2.2.2.1
theorem dL_drop_17 : decode cL_drop 17 = .ok (.ireturn, 1) := eL_drop_0.2.2.2.2.2.2.2.2.2.2.1
theorem dL_drop_18 : decode cL_drop 18 = .ok (.astore 4, 2) := eL_drop_0.2.2.2.2.2.2.2.2.2.2.2.1
theorem dL_drop_20 : decode cL_drop 20 = .ok (.iconst 2, 1) := eL_drop_0.2.2.2.2.2.2.2.2.2.2.2.2.1
theorem dL_drop_21 : decode cL_drop 21 = .ok (.ireturn, 1) := eL_drop_0.2.2.2.2.2.2.2.2.2.2.2.2.2.1
theorem dL_drop_22 : decode cL_drop 22 = .ok (.iconst 0, 1) := eL_drop_0.2.2.2.2.2.2.2.2.2.2.2.2.2.2.1
theorem dL_drop_23 : decode cL_drop 23 = .ok (.ireturn, 1) := eL_drop_0.2.2.2.2.2.2.2.2.2.2.2.2.2.2.2
theorem eL_has_0 : (decode cL_has 0 = .ok (.aload 4, 2)) ∧ (decode cL_has 2 = .ok (.aload_n 0, 1)) ∧ (decode cL_has 3 = .ok (.iload_n 1, 1)) ∧ (decode cL_has 4 = .ok (.iload_n 2, 1)) ∧ (decode cL_has 5 = .ok (.iload_n 3, 1)) ∧ (decode cL_has 6 = .ok (.invokevirtual 54, 3)) ∧ (decode cL_has 9 = .ok (.ifCond .eq 7, 3)) ∧ (decode cL_has 12 = .ok (.lconst 1, 1)) ∧ (decode cL_has 13 = .ok (.goto 4, 3)) ∧ (decode cL_has 16 = .ok (.lconst 0, 1)) ∧ (decode cL_has 17 = .ok (.putfield 13, 3)) ∧ (decode cL_has 20 = .ok (.goto 11, 3)) ∧ (decode cL_has 23 = .ok (.astore 5, 2)) ∧ (decode cL_has 25 = .ok (.iconst 1, 1)) ∧ (decode cL_has 26 = .ok (.ireturn, 1)) ∧ (decode cL_has 27 = .ok (.astore 5, 2)) := by decide +kernel
theorem dL_has_0 : decode cL_has 0 = .ok (.aload 4, 2) := eL_has_0.1
theorem dL_has_2 : decode cL_has 2 = .ok (.aload_n 0, 1) := eL_has_0.2.1
theorem dL_has_3 : decode cL_has 3 = .ok (.iload_n 1, 1) := eL_has_0.2.2.1
theorem dL_has_4 : decode cL_has 4 = .ok (.iload_n 2, 1) := eL_has_0.2.2.2.1
theorem dL_has_5 : decode cL_has 5 = .ok (.iload_n 3, 1) := eL_has_0.2.2.2.2.1
theorem dL_has_6 : decode cL_has 6 = .ok (.invokevirtual 54, 3) := eL_has_0.2.2.2.2.2.1
theorem dL_has_9 : decode cL_has 9 = .ok (.ifCond .eq 7, 3) := eL_has_0.2.2.2.2.2.2.1
theorem dL_has_12 : decode cL_has 12 = .ok (.lconst 1, 1) := eL_has_0.2.2.2.2.2.2.2.1
theorem dL_has_13 : decode cL_has 13 = .ok (.goto 4, 3) := eL_has_0.2.2.2.2.2.2.2.2.1
theorem dL_has_16 : decode cL_has 16 = .ok (.lconst 0, 1) := eL_has_0.2.2.2.2.2.2.2.2.2.1
theorem dL_has_17 : decode cL_has 17 = .ok (.putfield 13, 3) := eL_has_0.2.2.2.2.2.2.2.2.2.2.1
theorem dL_has_20 : decode cL_has 20 = .ok (.goto 11, 3) := eL_has_0.2.2.2.2.2.2.2.2.2.2.2.1
theorem dL_has_23 : decode cL_has 23 = .ok (.astore 5, 2) := eL_has_0.2.2.2.2.2.2.2.2.2.2.2.2.1
theorem dL_has_25 : decode cL_has 25 = .ok (.iconst 1, 1) := eL_has_0.2.2.2.2.2.2.2.2.2.2.2.2.2.1
theorem dL_has_26 : decode cL_has 26 = .ok (.ireturn, 1) := eL_has_0.2.2.2.2.2.2.2.2.2.2.2.2.2.2.1
theorem dL_has_27 : decode cL_has 27 = .ok (.astore 5, 2) := eL_has_0.2.2.2.2.2.2.2.2.2.2.2.2.2.2.2
theorem eL_has_29 : (decode cL_has 29 = .ok (.iconst 2, 1)) ∧ (decode cL_has 30 = .ok (.ireturn, 1)) ∧ (decode cL_has 31 = .ok (.iconst 0, 1)) ∧ (decode cL_has 32 = .ok (.ireturn, 1)) := by decide +kernel
theorem dL_has_29 : decode cL_has 29 = .ok (.iconst 2, 1) := eL_has_29.1
theorem dL_has_30 : decode cL_has 30 = .ok (.ireturn, 1) := eL_has_29.2.1
theorem dL_has_31 : decode cL_has 31 = .ok (.iconst 0, 1) := eL_has_29.2.2.1
theorem dL_has_32 : decode cL_has 32 = .ok (.ireturn, 1) := eL_has_29.2.2.2
theorem eL_near_0 : (decode cL_near 0 = .ok (.aload 5, 2)) ∧ (decode cL_near 2 = .ok (.aload_n 0, 1)) ∧ (decode cL_near 3 = .ok (.iload_n 1, 1)) ∧ (decode cL_near 4 = .ok (.iload_n 2, 1)) ∧ (decode cL_near 5 = .ok (.iload_n 3, 1)) ∧ (decode cL_near 6 = .ok (.iload 4, 2)) ∧ (decode cL_near 8 = .ok (.invokevirtual 58, 3)) ∧ (decode cL_near 11 = .ok (.i2l, 1)) ∧ (decode cL_near 12 = .ok (.putfield 13, 3)) ∧ (decode cL_near 15 = .ok (.goto 11, 3)) ∧ (decode cL_near 18 = .ok (.astore 6, 2)) ∧ (decode cL_near 20 = .ok (.iconst 1, 1)) ∧ (decode cL_near 21 = .ok (.ireturn, 1)) ∧ (decode cL_near 22 = .ok (.astore 6, 2)) ∧ (decode cL_near 24 = .ok (.iconst 2, 1)) ∧ (decode cL_near 25 = .ok (.ireturn, 1)) := by decide +kernel
theorem dL_near_0 : decode cL_near 0 = .ok (.aload 5, 2) := eL_near_0.1
theorem dL_near_2 : decode cL_near 2 = .ok (.aload_n 0, 1) := eL_near_0.2.1
theorem dL_near_3 : decode cL_near 3 = .ok (.iload_n 1, 1) := eL_near_0.2.2.1
theorem dL_near_4 : decode cL_near 4 = .ok (.iload_n 2, 1) := eL_near_0.2.2.2.1
theorem dL_near_5 : decode cL_near 5 = .ok (.iload_n 3, 1) := eL_near_0.2.2.2.2.1
theorem dL_near_6 : decode cL_near 6 = .ok (.iload 4, 2) := eL_near_0.2.2.2.2.2.1
theorem dL_near_8 : decode cL_near 8 = .ok (.invokevirtual 58, 3) := eL_near_0.2.2.2.2.2.2.1
theorem dL_near_11 : decode cL_near 11 = .ok (.i2l, 1) := eL_near_0.2.2.2.2.2.2.2.1
theorem dL_near_12 : decode cL_near 12 = .ok (.putfield 13, 3) := eL_near_0.2.2.2.2.2.2.2.2.1
theorem dL_near_15 : decode cL_near 15 = .ok (.goto 11, 3) := eL_near_0.2.2.2.2.2.2.2.2.2.1
theorem dL_near_18 : decode cL_near 18 = .ok (.astore 6, 2) := eL_near_0.2.2.2.2.2.2.2.2.2.2.1
theorem dL_near_20 : decode cL_near 20 = .ok (.iconst 1, 1) := eL_near_0.2.2.2.2.2.2.2.2.2.2.2.1
theorem dL_near_21 : decode cL_near 21 = .ok (.ireturn, 1) := eL_near_0.2.2.2.2.2.2.2.2.2.2.2.2.1
theorem dL_near_22 : decode cL_near 22 = .ok (.astore 6, 2) := eL_near_0.2.2.2.2.2.2.2.2.2.2.2.2.2.1
theorem dL_near_24 : decode cL_near 24 = .ok (.iconst 2, 1) := eL_near_0.2.2.2.2.2.2.2.2.2.2.2.2.2.2.1
theorem dL_near_25 : decode cL_near 25 = .ok (.ireturn, 1) := eL_near_0.2.2.2.2.2.2.2.2.2.2.2.2.2.2.2
theorem eL_near_26 : (decode cL_near 26 = .ok (.iconst 0, 1)) ∧ (decode cL_near 27 = .ok (.ireturn, 1)) := by decide +kernel
theorem dL_near_26 : decode cL_near 26 = .ok (.iconst 0, 1) := eL_near_26.1
theorem dL_near_27 : decode cL_near 27 = .ok (.ireturn, 1) := eL_near_26.2
theorem eL_end_0 : (decode cL_end 0 = .ok (.aload 4, 2)) ∧ (decode cL_end 2 = .ok (.aload_n 0, 1)) ∧ (decode cL_end 3 = .ok (.iload_n 1, 1)) ∧ (decode cL_end 4 = .ok (.iload_n 2, 1)) ∧ (decode cL_end 5 = .ok (.iload_n 3, 1)) ∧ (decode cL_end 6 = .ok (.invokevirtual 62, 3)) ∧ (decode cL_end 9 = .ok (.i2l, 1)) ∧ (decode cL_end 10 = .ok (.putfield 13, 3)) ∧ (decode cL_end 13 = .ok (.goto 7, 3)) ∧ (decode cL_end 16 = .ok (.astore 5, 2)) ∧ (decode cL_end 18 = .ok (.iconst 1, 1)) ∧ (decode cL_end 19 = .ok (.ireturn, 1)) ∧ (decode cL_end 20 = .ok (.iconst 0, 1)) ∧ (decode cL_end 21 = .ok (.ireturn, 1)) := by decide +kernel
theorem dL_end_0 : decode cL_end 0 = .ok (.aload 4, 2) := eL_end_0.1
theorem dL_end_2 : decode cL_end 2 = .ok (.aload_n 0, 1) := eL_end_0.2.1
theorem dL_end_3 : decode cL_end 3 = .ok (.iload_n 1, 1) := eL_end_0.2.2.1
theorem dL_end_4 : decode cL_end 4 = .ok (.iload_n 2, 1) := eL_end_0.2.2.2.1
theorem dL_end_5 : decode cL_end 5 = .ok (.iload_n 3, 1) := eL_end_0.2.2.2.2.1
theorem dL_end_6 : decode cL_end 6 = .ok (.invokevirtual 62, 3) := eL_end_0.2.2.2.2.2.1
theorem dL_end_9 : decode cL_end 9 = .ok (.i2l, 1) := eL_end_0.2.2.2.2.2.2.1
theorem dL_end_10 : decode cL_end 10 = .ok (.putfield 13, 3) := eL_end_0.2.2.2.2.2.2.2.1
theorem dL_end_13 : decode cL_end 13 = .ok (.goto 7, 3) := eL_end_0.2.2.2.2.2.2.2.2.1
theorem dL_end_16 : decode cL_end 16 = .ok (.astore 5, 2) := eL_end_0.2.2.2.2.2.2.2.2.2.1
theorem dL_end_18 : decode cL_end 18 = .ok (.iconst 1, 1) := eL_end_0.2.2.2.2.2.2.2.2.2.2.1
theorem dL_end_19 : decode cL_end 19 = .ok (.ireturn, 1) := eL_end_0.2.2.2.2.2.2.2.2.2.2.2.1
theorem dL_end_20 : decode cL_end 20 = .ok (.iconst 0, 1) := eL_end_0.2.2.2.2.2.2.2.2.2.2.2.2.1
theorem dL_end_21 : decode cL_end 21 = .ok (.ireturn, 1) := eL_end_0.2.2.2.2.2.2.2.2.2.2.2.2.2
theorem eL_keyAt_0 : (decode cL_keyAt 0 = .ok (.aload 4, 2)) ∧ (decode cL_keyAt 2 = .ok (.aload_n 0, 1)) ∧ (decode cL_keyAt 3 = .ok (.iload_n 1, 1)) ∧ (decode cL_keyAt 4 = .ok (.iload_n 2, 1)) ∧ (decode cL_keyAt 5 = .ok (.iload_n 3, 1)) ∧ (decode cL_keyAt 6 = .ok (.invokevirtual 66, 3)) ∧ (decode cL_keyAt 9 = .ok (.i2l, 1)) ∧ (decode cL_keyAt 10 = .ok (.putfield 13, 3)) ∧ (decode cL_keyAt 13 = .ok (.goto 11, 3)) ∧ (decode cL_keyAt 16 = .ok (.astore 5, 2)) ∧ (decode cL_keyAt 18 = .ok (.iconst 1, 1)) ∧ (decode cL_keyAt 19 = .ok (.ireturn, 1)) ∧ (decode cL_keyAt 20 = .ok (.astore 5, 2)) ∧ (decode cL_keyAt 22 = .ok (.iconst 2, 1)) ∧ (decode cL_keyAt 23 = .ok (.ireturn, 1)) ∧ (decode cL_keyAt 24 = .ok (.iconst 0, 1)) := by decide +kernel
theorem dL_keyAt_0 : decode cL_keyAt 0 = .ok (.aload 4, 2) := eL_keyAt_0.1
theorem dL_keyAt_2 : decode cL_keyAt 2 = .ok (.aload_n 0, 1) := eL_keyAt_0.2.1
theorem dL_keyAt_3 : decode cL_keyAt 3 = .ok (.iload_n 1, 1) := eL_keyAt_0.2.2.1
theorem dL_keyAt_4 : decode cL_keyAt 4 = .ok (.iload_n 2, 1) := eL_keyAt_0.2.2.2.1
theorem dL_keyAt_5 : decode cL_keyAt 5 = .ok (.iload_n 3, 1) := eL_keyAt_0.2.2.2.2.1
theorem dL_keyAt_6 : decode cL_keyAt 6 = .ok (.invokevirtual 66, 3) := eL_keyAt_0.2.2.2.2.2.1
theorem dL_keyAt_9 : decode cL_keyAt 9 = .ok (.i2l, 1) := eL_keyAt_0.2.2.2.2.2.2.1
theorem dL_keyAt_10 : decode cL_keyAt 10 = .ok (.putfield 13, 3) := eL_keyAt_0.2.2.2.2.2.2.2.1
theorem dL_keyAt_13 : decode cL_keyAt 13 = .ok (.goto 11, 3) := eL_keyAt_0.2.2.2.2.2.2.2.2.1
theorem dL_keyAt_16 : decode cL_keyAt 16 = .ok (.astore 5, 2) := eL_keyAt_0.2.2.2.2.2.2.2.2.2.1
theorem dL_keyAt_18 : decode cL_keyAt 18 = .ok (.iconst 1, 1) := eL_keyAt_0.2.2.2.2.2.2.2.2.2.2.1
theorem dL_keyAt_19 : decode cL_keyAt 19 = .ok (.ireturn, 1) := eL_keyAt_0.2.2.2.2.2.2.2.2.2.2.2.1
theorem dL_keyAt_20 : decode cL_keyAt 20 = .ok (.astore 5, 2) := eL_keyAt_0.2.2.2.2.2.2.2.2.2.2.2.2.1
theorem dL_keyAt_22 : decode cL_keyAt 22 = .ok (.iconst 2, 1) := eL_keyAt_0.2.2.2.2.2.2.2.2.2.2.2.2.2.1
theorem dL_keyAt_23 : decode cL_keyAt 23 = .ok (.ireturn, 1) := eL_keyAt_0.2.2.2.2.2.2.2.2.2.2.2.2.2.2.1
theorem dL_keyAt_24 : decode cL_keyAt 24 = .ok (.iconst 0, 1) := eL_keyAt_0.2.2.2.2.2.2.2.2.2.2.2.2.2.2.2
theorem dL_keyAt_25 : decode cL_keyAt 25 = .ok (.ireturn, 1) := by decide +kernel
theorem eL_tellBook_0 : (decode cL_tellBook 0 = .ok (.aload_n 3, 1)) ∧ (decode cL_tellBook 1 = .ok (.aload_n 0, 1)) ∧ (decode cL_tellBook 2 = .ok (.iload_n 1, 1)) ∧ (decode cL_tellBook 3 = .ok (.iload_n 2, 1)) ∧ (decode cL_tellBook 4 = .ok (.invokevirtual 69, 3)) ∧ (decode cL_tellBook 7 = .ok (.i2l, 1)) ∧ (decode cL_tellBook 8 = .ok (.putfield 13, 3)) ∧ (decode cL_tellBook 11 = .ok (.goto 11, 3)) ∧ (decode cL_tellBook 14 = .ok (.astore 4, 2)) ∧ (decode cL_tellBook 16 = .ok (.iconst 1, 1)) ∧ (decode cL_tellBook 17 = .ok (.ireturn, 1)) ∧ (decode cL_tellBook 18 = .ok (.astore 4, 2)) ∧ (decode cL_tellBook 20 = .ok (.iconst 2, 1)) ∧ (decode cL_tellBook 21 = .ok (.ireturn, 1)) ∧ (decode cL_tellBook 22 = .ok (.iconst 0, 1)) ∧ (decode cL_tellBook 23 = .ok (.ireturn, 1)) := by decide +kernel
theorem dL_tellBook_0 : decode cL_tellBook 0 = .ok (.aload_n 3, 1) := eL_tellBook_0.1
theorem dL_tellBook_1 : decode cL_tellBook 1 = .ok (.aload_n 0, 1) := eL_tellBook_0.2.1
theorem dL_tellBook_2 : decode cL_tellBook 2 = .ok (.iload_n 1, 1) := eL_tellBook_0.2.2.1
theorem dL_tellBook_3 : decode cL_tellBook 3 = .ok (.iload_n 2, 1) := eL_tellBook_0.2.2.2.1
theorem dL_tellBook_4 : decode cL_tellBook 4 = .ok (.invokevirtual 69, 3) := eL_tellBook_0.2.2.2.2.1
theorem dL_tellBook_7 : decode cL_tellBook 7 = .ok (.i2l, 1) := eL_tellBook_0.2.2.2.2.2.1
theorem dL_tellBook_8 : decode cL_tellBook 8 = .ok (.putfield 13, 3) := eL_tellBook_0.2.2.2.2.2.2.1
theorem dL_tellBook_11 : decode cL_tellBook 11 = .ok (.goto 11, 3) := eL_tellBook_0.2.2.2.2.2.2.2.1
theorem dL_tellBook_14 : decode cL_tellBook 14 = .ok (.astore 4, 2) := eL_tellBook_0.2.2.2.2.2.2.2.2.1
theorem dL_tellBook_16 : decode cL_tellBook 16 = .ok (.iconst 1, 1) := eL_tellBook_0.2.2.2.2.2.2.2.2.2.1
theorem dL_tellBook_17 : decode cL_tellBook 17 = .ok (.ireturn, 1) := eL_tellBook_0.2.2.2.2.2.2.2.2.2.2.1
theorem dL_tellBook_18 : decode cL_tellBook 18 = .ok (.astore 4, 2) := eL_tellBook_0.2.2.2.2.2.2.2.2.2.2.2.1
theorem dL_tellBook_20 : decode cL_tellBook 20 = .ok (.iconst 2, 1) := eL_tellBook_0.2.2.2.2.2.2.2.2.2.2.2.2.1
theorem dL_tellBook_21 : decode cL_tellBook 21 = .ok (.ireturn, 1) := eL_tellBook_0.2.2.2.2.2.2.2.2.2.2.2.2.2.1
theorem dL_tellBook_22 : decode cL_tellBook 22 = .ok (.iconst 0, 1) := eL_tellBook_0.2.2.2.2.2.2.2.2.2.2.2.2.2.2.1
theorem dL_tellBook_23 : decode cL_tellBook 23 = .ok (.ireturn, 1) := eL_tellBook_0.2.2.2.2.2.2.2.2.2.2.2.2.2.2.2
theorem eL_bookText_0 : (decode cL_bookText 0 = .ok (.aload_n 2, 1)) ∧ (decode cL_bookText 1 = .ok (.aload_n 0, 1)) ∧ (decode cL_bookText 2 = .ok (.iload_n 1, 1)) ∧ (decode cL_bookText 3 = .ok (.invokevirtual 72, 3)) ∧ (decode cL_bookText 6 = .ok (.putfield 76, 3)) ∧ (decode cL_bookText 9 = .ok (.goto 6, 3)) ∧ (decode cL_bookText 12 = .ok (.astore_n 3, 1)) ∧ (decode cL_bookText 13 = .ok (.iconst 1, 1)) ∧ (decode cL_bookText 14 = .ok (.ireturn, 1)) ∧ (decode cL_bookText 15 = .ok (.iconst 0, 1)) ∧ (decode cL_bookText 16 = .ok (.ireturn, 1)) := by decide +kernel
theorem dL_bookText_0 : decode cL_bookText 0 = .ok (.aload_n 2, 1) := eL_bookText_0.1
theorem dL_bookText_1 : decode cL_bookText 1 = .ok (.aload_n 0, 1) := eL_bookText_0.2.1
theorem dL_bookText_2 : decode cL_bookText 2 = .ok (.iload_n 1, 1) := eL_bookText_0.2.2.1
theorem dL_bookText_3 : decode cL_bookText 3 = .ok (.invokevirtual 72, 3) := eL_bookText_0.2.2.2.1
theorem dL_bookText_6 : decode cL_bookText 6 = .ok (.putfield 76, 3) := eL_bookText_0.2.2.2.2.1
theorem dL_bookText_9 : decode cL_bookText 9 = .ok (.goto 6, 3) := eL_bookText_0.2.2.2.2.2.1
theorem dL_bookText_12 : decode cL_bookText 12 = .ok (.astore_n 3, 1) := eL_bookText_0.2.2.2.2.2.2.1
theorem dL_bookText_13 : decode cL_bookText 13 = .ok (.iconst 1, 1) := eL_bookText_0.2.2.2.2.2.2.2.1
theorem dL_bookText_14 : decode cL_bookText 14 = .ok (.ireturn, 1) := eL_bookText_0.2.2.2.2.2.2.2.2.1
theorem dL_bookText_15 : decode cL_bookText 15 = .ok (.iconst 0, 1) := eL_bookText_0.2.2.2.2.2.2.2.2.2.1
theorem dL_bookText_16 : decode cL_bookText 16 = .ok (.ireturn, 1) := eL_bookText_0.2.2.2.2.2.2.2.2.2.2
theorem eL_sameBooks_0 : (decode cL_sameBooks 0 = .ok (.aload_n 3, 1)) ∧ (decode cL_sameBooks 1 = .ok (.aload_n 0, 1)) ∧ (decode cL_sameBooks 2 = .ok (.iload_n 1, 1)) ∧ (decode cL_sameBooks 3 = .ok (.iload_n 2, 1)) ∧ (decode cL_sameBooks 4 = .ok (.invokevirtual 80, 3)) ∧ (decode cL_sameBooks 7 = .ok (.ifCond .eq 7, 3)) ∧ (decode cL_sameBooks 10 = .ok (.lconst 1, 1)) ∧ (decode cL_sameBooks 11 = .ok (.goto 4, 3)) ∧ (decode cL_sameBooks 14 = .ok (.lconst 0, 1)) ∧ (decode cL_sameBooks 15 = .ok (.putfield 13, 3)) ∧ (decode cL_sameBooks 18 = .ok (.goto 7, 3)) ∧ (decode cL_sameBooks 21 = .ok (.astore 4, 2)) ∧ (decode cL_sameBooks 23 = .ok (.iconst 1, 1)) ∧ (decode cL_sameBooks 24 = .ok (.ireturn, 1)) ∧ (decode cL_sameBooks 25 = .ok (.iconst 0, 1)) ∧ (decode cL_sameBooks 26 = .ok (.ireturn, 1)) := by decide +kernel
theorem dL_sameBooks_0 : decode cL_sameBooks 0 = .ok (.aload_n 3, 1) := eL_sameBooks_0.1
theorem dL_sameBooks_1 : decode cL_sameBooks 1 = .ok (.aload_n 0, 1) := eL_sameBooks_0.2.1
theorem dL_sameBooks_2 : decode cL_sameBooks 2 = .ok (.iload_n 1, 1) := eL_sameBooks_0.2.2.1
theorem dL_sameBooks_3 : decode cL_sameBooks 3 = .ok (.iload_n 2, 1) := eL_sameBooks_0.2.2.2.1
theorem dL_sameBooks_4 : decode cL_sameBooks 4 = .ok (.invokevirtual 80, 3) := eL_sameBooks_0.2.2.2.2.1
theorem dL_sameBooks_7 : decode cL_sameBooks 7 = .ok (.ifCond .eq 7, 3) := eL_sameBooks_0.2.2.2.2.2.1
theorem dL_sameBooks_10 : decode cL_sameBooks 10 = .ok (.lconst 1, 1) := eL_sameBooks_0.2.2.2.2.2.2.1
theorem dL_sameBooks_11 : decode cL_sameBooks 11 = .ok (.goto 4, 3) := eL_sameBooks_0.2.2.2.2.2.2.2.1
theorem dL_sameBooks_14 : decode cL_sameBooks 14 = .ok (.lconst 0, 1) := eL_sameBooks_0.2.2.2.2.2.2.2.2.1
theorem dL_sameBooks_15 : decode cL_sameBooks 15 = .ok (.putfield 13, 3) := eL_sameBooks_0.2.2.2.2.2.2.2.2.2.1
theorem dL_sameBooks_18 : decode cL_sameBooks 18 = .ok (.goto 7, 3) := eL_sameBooks_0.2.2.2.2.2.2.2.2.2.2.1
theorem dL_sameBooks_21 : decode cL_sameBooks 21 = .ok (.astore 4, 2) := eL_sameBooks_0.2.2.2.2.2.2.2.2.2.2.2.1
theorem dL_sameBooks_23 : decode cL_sameBooks 23 = .ok (.iconst 1, 1) := eL_sameBooks_0.2.2.2.2.2.2.2.2.2.2.2.2.1
theorem dL_sameBooks_24 : decode cL_sameBooks 24 = .ok (.ireturn, 1) := eL_sameBooks_0.2.2.2.2.2.2.2.2.2.2.2.2.2.1
theorem dL_sameBooks_25 : decode cL_sameBooks 25 = .ok (.iconst 0, 1) := eL_sameBooks_0.2.2.2.2.2.2.2.2.2.2.2.2.2.2.1
theorem dL_sameBooks_26 : decode cL_sameBooks 26 = .ok (.ireturn, 1) := eL_sameBooks_0.2.2.2.2.2.2.2.2.2.2.2.2.2.2.2
theorem eL_openView_0 : (decode cL_openView 0 = .ok (.aload 7, 2)) ∧ (decode cL_openView 2 = .ok (.aload_n 0, 1)) ∧ (decode cL_openView 3 = .ok (.iload_n 1, 1)) ∧ (decode cL_openView 4 = .ok (.iload_n 2, 1)) ∧ (decode cL_openView 5 = .ok (.iload_n 3, 1)) ∧ (decode cL_openView 6 = .ok (.iload 4, 2)) ∧ (decode cL_openView 8 = .ok (.iload 5, 2)) ∧ (decode cL_openView 10 = .ok (.iload 6, 2)) ∧ (decode cL_openView 12 = .ok (.invokevirtual 84, 3)) ∧ (decode cL_openView 15 = .ok (.i2l, 1)) ∧ (decode cL_openView 16 = .ok (.putfield 13, 3)) ∧ (decode cL_openView 19 = .ok (.goto 11, 3)) ∧ (decode cL_openView 22 = .ok (.astore 8, 2)) ∧ (decode cL_openView 24 = .ok (.iconst 1, 1)) ∧ (decode cL_openView 25 = .ok (.ireturn, 1)) ∧ (decode cL_openView 26 = .ok (.astore 8, 2)) := by decide +kernel
theorem dL_openView_0 : decode cL_openView 0 = .ok (.aload 7, 2) := eL_openView_0.1
theorem dL_openView_2 : decode cL_openView 2 = .ok (.aload_n 0, 1) := eL_openView_0.2.1
theorem dL_openView_3 : decode cL_openView 3 = .ok (.iload_n 1, 1) := eL_openView_0.2.2.1
theorem dL_openView_4 : decode cL_openView 4 = .ok (.iload_n 2, 1) := eL_openView_0.2.2.2.1
theorem dL_openView_5 : decode cL_openView 5 = .ok (.iload_n 3, 1) := eL_openView_0.2.2.2.2.1
theorem dL_openView_6 : decode cL_openView 6 = .ok (.iload 4, 2) := eL_openView_0.2.2.2.2.2.1
theorem dL_openView_8 : decode cL_openView 8 = .ok (.iload 5, 2) := eL_openView_0.2.2.2.2.2.2.1
theorem dL_openView_10 : decode cL_openView 10 = .ok (.iload 6, 2) := eL_openView_0.2.2.2.2.2.2.2.1
theorem dL_openView_12 : decode cL_openView 12 = .ok (.invokevirtual 84, 3) := eL_openView_0.2.2.2.2.2.2.2.2.1
theorem dL_openView_15 : decode cL_openView 15 = .ok (.i2l, 1) := eL_openView_0.2.2.2.2.2.2.2.2.2.1
theorem dL_openView_16 : decode cL_openView 16 = .ok (.putfield 13, 3) := eL_openView_0.2.2.2.2.2.2.2.2.2.2.1
theorem dL_openView_19 : decode cL_openView 19 = .ok (.goto 11, 3) := eL_openView_0.2.2.2.2.2.2.2.2.2.2.2.1
theorem dL_openView_22 : decode cL_openView 22 = .ok (.astore 8, 2) := eL_openView_0.2.2.2.2.2.2.2.2.2.2.2.2.1
theorem dL_openView_24 : decode cL_openView 24 = .ok (.iconst 1, 1) := eL_openView_0.2.2.2.2.2.2.2.2.2.2.2.2.2.1
theorem dL_openView_25 : decode cL_openView 25 = .ok (.ireturn, 1) := eL_openView_0.2.2.2.2.2.2.2.2.2.2.2.2.2.2.1
theorem dL_openView_26 : decode cL_openView 26 = .ok (.astore 8, 2) := eL_openView_0.2.2.2.2.2.2.2.2.2.2.2.2.2.2.2
theorem eL_openView_28 : (decode cL_openView 28 = .ok (.iconst 2, 1)) ∧ (decode cL_openView 29 = .ok (.ireturn, 1)) ∧ (decode cL_openView 30 = .ok (.iconst 0, 1)) ∧ (decode cL_openView 31 = .ok (.ireturn, 1)) := by decide +kernel
theorem dL_openView_28 : decode cL_openView 28 = .ok (.iconst 2, 1) := eL_openView_28.1
theorem dL_openView_29 : decode cL_openView 29 = .ok (.ireturn, 1) := eL_openView_28.2.1
theorem dL_openView_30 : decode cL_openView 30 = .ok (.iconst 0, 1) := eL_openView_28.2.2.1
theorem dL_openView_31 : decode cL_openView 31 = .ok (.ireturn, 1) := eL_openView_28.2.2.2
theorem eL_narrowView_0 : (decode cL_narrowView 0 = .ok (.aload 5, 2)) ∧ (decode cL_narrowView 2 = .ok (.aload_n 0, 1)) ∧ (decode cL_narrowView 3 = .ok (.iload_n 1, 1)) ∧ (decode cL_narrowView 4 = .ok (.iload_n 2, 1)) ∧ (decode cL_narrowView 5 = .ok (.iload_n 3, 1)) ∧ (decode cL_narrowView 6 = .ok (.iload 4, 2)) ∧ (decode cL_narrowView 8 = .ok (.invokevirtual 88, 3)) ∧ (decode cL_narrowView 11 = .ok (.i2l, 1)) ∧ (decode cL_narrowView 12 = .ok (.putfield 13, 3)) ∧ (decode cL_narrowView 15 = .ok (.goto 11, 3)) ∧ (decode cL_narrowView 18 = .ok (.astore 6, 2)) ∧ (decode cL_narrowView 20 = .ok (.iconst 1, 1)) ∧ (decode cL_narrowView 21 = .ok (.ireturn, 1)) ∧ (decode cL_narrowView 22 = .ok (.astore 6, 2)) ∧ (decode cL_narrowView 24 = .ok (.iconst 2, 1)) ∧ (decode cL_narrowView 25 = .ok (.ireturn, 1)) := by decide +kernel
theorem dL_narrowView_0 : decode cL_narrowView 0 = .ok (.aload 5, 2) := eL_narrowView_0.1
theorem dL_narrowView_2 : decode cL_narrowView 2 = .ok (.aload_n 0, 1) := eL_narrowView_0.2.1
theorem dL_narrowView_3 : decode cL_narrowView 3 = .ok (.iload_n 1, 1) := eL_narrowView_0.2.2.1
theorem dL_narrowView_4 : decode cL_narrowView 4 = .ok (.iload_n 2, 1) := eL_narrowView_0.2.2.2.1
theorem dL_narrowView_5 : decode cL_narrowView 5 = .ok (.iload_n 3, 1) := eL_narrowView_0.2.2.2.2.1
theorem dL_narrowView_6 : decode cL_narrowView 6 = .ok (.iload 4, 2) := eL_narrowView_0.2.2.2.2.2.1
theorem dL_narrowView_8 : decode cL_narrowView 8 = .ok (.invokevirtual 88, 3) := eL_narrowView_0.2.2.2.2.2.2.1
theorem dL_narrowView_11 : decode cL_narrowView 11 = .ok (.i2l, 1) := eL_narrowView_0.2.2.2.2.2.2.2.1
theorem dL_narrowView_12 : decode cL_narrowView 12 = .ok (.putfield 13, 3) := eL_narrowView_0.2.2.2.2.2.2.2.2.1
theorem dL_narrowView_15 : decode cL_narrowView 15 = .ok (.goto 11, 3) := eL_narrowView_0.2.2.2.2.2.2.2.2.2.1
theorem dL_narrowView_18 : decode cL_narrowView 18 = .ok (.astore 6, 2) := eL_narrowView_0.2.2.2.2.2.2.2.2.2.2.1
theorem dL_narrowView_20 : decode cL_narrowView 20 = .ok (.iconst 1, 1) := eL_narrowView_0.2.2.2.2.2.2.2.2.2.2.2.1
theorem dL_narrowView_21 : decode cL_narrowView 21 = .ok (.ireturn, 1) := eL_narrowView_0.2.2.2.2.2.2.2.2.2.2.2.2.1
theorem dL_narrowView_22 : decode cL_narrowView 22 = .ok (.astore 6, 2) := eL_narrowView_0.2.2.2.2.2.2.2.2.2.2.2.2.2.1
theorem dL_narrowView_24 : decode cL_narrowView 24 = .ok (.iconst 2, 1) := eL_narrowView_0.2.2.2.2.2.2.2.2.2.2.2.2.2.2.1
theorem dL_narrowView_25 : decode cL_narrowView 25 = .ok (.ireturn, 1) := eL_narrowView_0.2.2.2.2.2.2.2.2.2.2.2.2.2.2.2
theorem eL_narrowView_26 : (decode cL_narrowView 26 = .ok (.iconst 0, 1)) ∧ (decode cL_narrowView 27 = .ok (.ireturn, 1)) := by decide +kernel
theorem dL_narrowView_26 : decode cL_narrowView 26 = .ok (.iconst 0, 1) := eL_narrowView_26.1
theorem dL_narrowView_27 : decode cL_narrowView 27 = .ok (.ireturn, 1) := eL_narrowView_26.2
theorem eL_buildFromView_0 : (decode cL_buildFromView 0 = .ok (.aload 4, 2)) ∧ (decode cL_buildFromView 2 = .ok (.aload_n 0, 1)) ∧ (decode cL_buildFromView 3 = .ok (.iload_n 1, 1)) ∧ (decode cL_buildFromView 4 = .ok (.iload_n 2, 1)) ∧ (decode cL_buildFromView 5 = .ok (.iload_n 3, 1)) ∧ (decode cL_buildFromView 6 = .ok (.invokevirtual 91, 3)) ∧ (decode cL_buildFromView 9 = .ok (.i2l, 1)) ∧ (decode cL_buildFromView 10 = .ok (.putfield 13, 3)) ∧ (decode cL_buildFromView 13 = .ok (.goto 11, 3)) ∧ (decode cL_buildFromView 16 = .ok (.astore 5, 2)) ∧ (decode cL_buildFromView 18 = .ok (.iconst 1, 1)) ∧ (decode cL_buildFromView 19 = .ok (.ireturn, 1)) ∧ (decode cL_buildFromView 20 = .ok (.astore 5, 2)) ∧ (decode cL_buildFromView 22 = .ok (.iconst 2, 1)) ∧ (decode cL_buildFromView 23 = .ok (.ireturn, 1)) ∧ (decode cL_buildFromView 24 = .ok (.iconst 0, 1)) := by decide +kernel
theorem dL_buildFromView_0 : decode cL_buildFromView 0 = .ok (.aload 4, 2) := eL_buildFromView_0.1
theorem dL_buildFromView_2 : decode cL_buildFromView 2 = .ok (.aload_n 0, 1) := eL_buildFromView_0.2.1
theorem dL_buildFromView_3 : decode cL_buildFromView 3 = .ok (.iload_n 1, 1) := eL_buildFromView_0.2.2.1
theorem dL_buildFromView_4 : decode cL_buildFromView 4 = .ok (.iload_n 2, 1) := eL_buildFromView_0.2.2.2.1
theorem dL_buildFromView_5 : decode cL_buildFromView 5 = .ok (.iload_n 3, 1) := eL_buildFromView_0.2.2.2.2.1
theorem dL_buildFromView_6 : decode cL_buildFromView 6 = .ok (.invokevirtual 91, 3) := eL_buildFromView_0.2.2.2.2.2.1
theorem dL_buildFromView_9 : decode cL_buildFromView 9 = .ok (.i2l, 1) := eL_buildFromView_0.2.2.2.2.2.2.1
theorem dL_buildFromView_10 : decode cL_buildFromView 10 = .ok (.putfield 13, 3) := eL_buildFromView_0.2.2.2.2.2.2.2.1
theorem dL_buildFromView_13 : decode cL_buildFromView 13 = .ok (.goto 11, 3) := eL_buildFromView_0.2.2.2.2.2.2.2.2.1
theorem dL_buildFromView_16 : decode cL_buildFromView 16 = .ok (.astore 5, 2) := eL_buildFromView_0.2.2.2.2.2.2.2.2.2.1
theorem dL_buildFromView_18 : decode cL_buildFromView 18 = .ok (.iconst 1, 1) := eL_buildFromView_0.2.2.2.2.2.2.2.2.2.2.1
theorem dL_buildFromView_19 : decode cL_buildFromView 19 = .ok (.ireturn, 1) := eL_buildFromView_0.2.2.2.2.2.2.2.2.2.2.2.1
theorem dL_buildFromView_20 : decode cL_buildFromView 20 = .ok (.astore 5, 2) := eL_buildFromView_0.2.2.2.2.2.2.2.2.2.2.2.2.1
theorem dL_buildFromView_22 : decode cL_buildFromView 22 = .ok (.iconst 2, 1) := eL_buildFromView_0.2.2.2.2.2.2.2.2.2.2.2.2.2.1
theorem dL_buildFromView_23 : decode cL_buildFromView 23 = .ok (.ireturn, 1) := eL_buildFromView_0.2.2.2.2.2.2.2.2.2.2.2.2.2.2.1
theorem dL_buildFromView_24 : decode cL_buildFromView 24 = .ok (.iconst 0, 1) := eL_buildFromView_0.2.2.2.2.2.2.2.2.2.2.2.2.2.2.2
theorem dL_buildFromView_25 : decode cL_buildFromView 25 = .ok (.ireturn, 1) := by decide +kernel
theorem eL_viewPut_0 : (decode cL_viewPut 0 = .ok (.aload 4, 2)) ∧ (decode cL_viewPut 2 = .ok (.aload_n 0, 1)) ∧ (decode cL_viewPut 3 = .ok (.iload_n 1, 1)) ∧ (decode cL_viewPut 4 = .ok (.iload_n 2, 1)) ∧ (decode cL_viewPut 5 = .ok (.iload_n 3, 1)) ∧ (decode cL_viewPut 6 = .ok (.invokevirtual 94, 3)) ∧ (decode cL_viewPut 9 = .ok (.i2l, 1)) ∧ (decode cL_viewPut 10 = .ok (.putfield 13, 3)) ∧ (decode cL_viewPut 13 = .ok (.goto 11, 3)) ∧ (decode cL_viewPut 16 = .ok (.astore 5, 2)) ∧ (decode cL_viewPut 18 = .ok (.iconst 1, 1)) ∧ (decode cL_viewPut 19 = .ok (.ireturn, 1)) ∧ (decode cL_viewPut 20 = .ok (.astore 5, 2)) ∧ (decode cL_viewPut 22 = .ok (.iconst 2, 1)) ∧ (decode cL_viewPut 23 = .ok (.ireturn, 1)) ∧ (decode cL_viewPut 24 = .ok (.iconst 0, 1)) := by decide +kernel
theorem dL_viewPut_0 : decode cL_viewPut 0 = .ok (.aload 4, 2) := eL_viewPut_0.1
theorem dL_viewPut_2 : decode cL_viewPut 2 = .ok (.aload_n 0, 1) := eL_viewPut_0.2.1
theorem dL_viewPut_3 : decode cL_viewPut 3 = .ok (.iload_n 1, 1) := eL_viewPut_0.2.2.1
theorem dL_viewPut_4 : decode cL_viewPut 4 = .ok (.iload_n 2, 1) := eL_viewPut_0.2.2.2.1
theorem dL_viewPut_5 : decode cL_viewPut 5 = .ok (.iload_n 3, 1) := eL_viewPut_0.2.2.2.2.1
theorem dL_viewPut_6 : decode cL_viewPut 6 = .ok (.invokevirtual 94, 3) := eL_viewPut_0.2.2.2.2.2.1
theorem dL_viewPut_9 : decode cL_viewPut 9 = .ok (.i2l, 1) := eL_viewPut_0.2.2.2.2.2.2.1
theorem dL_viewPut_10 : decode cL_viewPut 10 = .ok (.putfield 13, 3) := eL_viewPut_0.2.2.2.2.2.2.2.1
theorem dL_viewPut_13 : decode cL_viewPut 13 = .ok (.goto 11, 3) := eL_viewPut_0.2.2.2.2.2.2.2.2.1
theorem dL_viewPut_16 : decode cL_viewPut 16 = .ok (.astore 5, 2) := eL_viewPut_0.2.2.2.2.2.2.2.2.2.1
theorem dL_viewPut_18 : decode cL_viewPut 18 = .ok (.iconst 1, 1) := eL_viewPut_0.2.2.2.2.2.2.2.2.2.2.1
theorem dL_viewPut_19 : decode cL_viewPut 19 = .ok (.ireturn, 1) := eL_viewPut_0.2.2.2.2.2.2.2.2.2.2.2.1
theorem dL_viewPut_20 : decode cL_viewPut 20 = .ok (.astore 5, 2) := eL_viewPut_0.2.2.2.2.2.2.2.2.2.2.2.2.1
theorem dL_viewPut_22 : decode cL_viewPut 22 = .ok (.iconst 2, 1) := eL_viewPut_0.2.2.2.2.2.2.2.2.2.2.2.2.2.1
theorem dL_viewPut_23 : decode cL_viewPut 23 = .ok (.ireturn, 1) := eL_viewPut_0.2.2.2.2.2.2.2.2.2.2.2.2.2.2.1
theorem dL_viewPut_24 : decode cL_viewPut 24 = .ok (.iconst 0, 1) := eL_viewPut_0.2.2.2.2.2.2.2.2.2.2.2.2.2.2.2
theorem dL_viewPut_25 : decode cL_viewPut 25 = .ok (.ireturn, 1) := by decide +kernel
theorem eL_viewTake_0 : (decode cL_viewTake 0 = .ok (.aload_n 3, 1)) ∧ (decode cL_viewTake 1 = .ok (.aload_n 0, 1)) ∧ (decode cL_viewTake 2 = .ok (.iload_n 1, 1)) ∧ (decode cL_viewTake 3 = .ok (.iload_n 2, 1)) ∧ (decode cL_viewTake 4 = .ok (.invokevirtual 97, 3)) ∧ (decode cL_viewTake 7 = .ok (.i2l, 1)) ∧ (decode cL_viewTake 8 = .ok (.putfield 13, 3)) ∧ (decode cL_viewTake 11 = .ok (.goto 11, 3)) ∧ (decode cL_viewTake 14 = .ok (.astore 4, 2)) ∧ (decode cL_viewTake 16 = .ok (.iconst 1, 1)) ∧ (decode cL_viewTake 17 = .ok (.ireturn, 1)) ∧ (decode cL_viewTake 18 = .ok (.astore 4, 2)) ∧ (decode cL_viewTake 20 = .ok (.iconst 2, 1)) ∧ (decode cL_viewTake 21 = .ok (.ireturn, 1)) ∧ (decode cL_viewTake 22 = .ok (.iconst 0, 1)) ∧ (decode cL_viewTake 23 = .ok (.ireturn, 1)) := by decide +kernel
theorem dL_viewTake_0 : decode cL_viewTake 0 = .ok (.aload_n 3, 1) := eL_viewTake_0.1
theorem dL_viewTake_1 : decode cL_viewTake 1 = .ok (.aload_n 0, 1) := eL_viewTake_0.2.1
theorem dL_viewTake_2 : decode cL_viewTake 2 = .ok (.iload_n 1, 1) := eL_viewTake_0.2.2.1
theorem dL_viewTake_3 : decode cL_viewTake 3 = .ok (.iload_n 2, 1) := eL_viewTake_0.2.2.2.1
theorem dL_viewTake_4 : decode cL_viewTake 4 = .ok (.invokevirtual 97, 3) := eL_viewTake_0.2.2.2.2.1
theorem dL_viewTake_7 : decode cL_viewTake 7 = .ok (.i2l, 1) := eL_viewTake_0.2.2.2.2.2.1
theorem dL_viewTake_8 : decode cL_viewTake 8 = .ok (.putfield 13, 3) := eL_viewTake_0.2.2.2.2.2.2.1
theorem dL_viewTake_11 : decode cL_viewTake 11 = .ok (.goto 11, 3) := eL_viewTake_0.2.2.2.2.2.2.2.1
theorem dL_viewTake_14 : decode cL_viewTake 14 = .ok (.astore 4, 2) := eL_viewTake_0.2.2.2.2.2.2.2.2.1
theorem dL_viewTake_16 : decode cL_viewTake 16 = .ok (.iconst 1, 1) := eL_viewTake_0.2.2.2.2.2.2.2.2.2.1
theorem dL_viewTake_17 : decode cL_viewTake 17 = .ok (.ireturn, 1) := eL_viewTake_0.2.2.2.2.2.2.2.2.2.2.1
theorem dL_viewTake_18 : decode cL_viewTake 18 = .ok (.astore 4, 2) := eL_viewTake_0.2.2.2.2.2.2.2.2.2.2.2.1
theorem dL_viewTake_20 : decode cL_viewTake 20 = .ok (.iconst 2, 1) := eL_viewTake_0.2.2.2.2.2.2.2.2.2.2.2.2.1
theorem dL_viewTake_21 : decode cL_viewTake 21 = .ok (.ireturn, 1) := eL_viewTake_0.2.2.2.2.2.2.2.2.2.2.2.2.2.1
theorem dL_viewTake_22 : decode cL_viewTake 22 = .ok (.iconst 0, 1) := eL_viewTake_0.2.2.2.2.2.2.2.2.2.2.2.2.2.2.1
theorem dL_viewTake_23 : decode cL_viewTake 23 = .ok (.ireturn, 1) := eL_viewTake_0.2.2.2.2.2.2.2.2.2.2.2.2.2.2.2
theorem eL_viewDrop_0 : (decode cL_viewDrop 0 = .ok (.aload_n 3, 1)) ∧ (decode cL_viewDrop 1 = .ok (.aload_n 0, 1)) ∧ (decode cL_viewDrop 2 = .ok (.iload_n 1, 1)) ∧ (decode cL_viewDrop 3 = .ok (.iload_n 2, 1)) ∧ (decode cL_viewDrop 4 = .ok (.invokevirtual 100, 3)) ∧ (decode cL_viewDrop 7 = .ok (.i2l, 1)) ∧ (decode cL_viewDrop 8 = .ok (.putfield 13, 3)) ∧ (decode cL_viewDrop 11 = .ok (.goto 11, 3)) ∧ (decode cL_viewDrop 14 = .ok (.astore 4, 2)) ∧ (decode cL_viewDrop 16 = .ok (.iconst 1, 1)) ∧ (decode cL_viewDrop 17 = .ok (.ireturn, 1)) ∧ (decode cL_viewDrop 18 = .ok (.astore 4, 2)) ∧ (decode cL_viewDrop 20 = .ok (.iconst 2, 1)) ∧ (decode cL_viewDrop 21 = .ok (.ireturn, 1)) ∧ (decode cL_viewDrop 22 = .ok (.iconst 0, 1)) ∧ (decode cL_viewDrop 23 = .ok (.ireturn, 1)) := by decide +kernel
theorem dL_viewDrop_0 : decode cL_viewDrop 0 = .ok (.aload_n 3, 1) := eL_viewDrop_0.1
theorem dL_viewDrop_1 : decode cL_viewDrop 1 = .ok (.aload_n 0, 1) := eL_viewDrop_0.2.1
theorem dL_viewDrop_2 : decode cL_viewDrop 2 = .ok (.iload_n 1, 1) := eL_viewDrop_0.2.2.1
theorem dL_viewDrop_3 : decode cL_viewDrop 3 = .ok (.iload_n 2, 1) := eL_viewDrop_0.2.2.2.1
theorem dL_viewDrop_4 : decode cL_viewDrop 4 = .ok (.invokevirtual 100, 3) := eL_viewDrop_0.2.2.2.2.1
theorem dL_viewDrop_7 : decode cL_viewDrop 7 = .ok (.i2l, 1) := eL_viewDrop_0.2.2.2.2.2.1
theorem dL_viewDrop_8 : decode cL_viewDrop 8 = .ok (.putfield 13, 3) := eL_viewDrop_0.2.2.2.2.2.2.1
theorem dL_viewDrop_11 : decode cL_viewDrop 11 = .ok (.goto 11, 3) := eL_viewDrop_0.2.2.2.2.2.2.2.1
theorem dL_viewDrop_14 : decode cL_viewDrop 14 = .ok (.astore 4, 2) := eL_viewDrop_0.2.2.2.2.2.2.2.2.1
theorem dL_viewDrop_16 : decode cL_viewDrop 16 = .ok (.iconst 1, 1) := eL_viewDrop_0.2.2.2.2.2.2.2.2.2.1
theorem dL_viewDrop_17 : decode cL_viewDrop 17 = .ok (.ireturn, 1) := eL_viewDrop_0.2.2.2.2.2.2.2.2.2.2.1
theorem dL_viewDrop_18 : decode cL_viewDrop 18 = .ok (.astore 4, 2) := eL_viewDrop_0.2.2.2.2.2.2.2.2.2.2.2.1
theorem dL_viewDrop_20 : decode cL_viewDrop 20 = .ok (.iconst 2, 1) := eL_viewDrop_0.2.2.2.2.2.2.2.2.2.2.2.2.1
theorem dL_viewDrop_21 : decode cL_viewDrop 21 = .ok (.ireturn, 1) := eL_viewDrop_0.2.2.2.2.2.2.2.2.2.2.2.2.2.1
theorem dL_viewDrop_22 : decode cL_viewDrop 22 = .ok (.iconst 0, 1) := eL_viewDrop_0.2.2.2.2.2.2.2.2.2.2.2.2.2.2.1
theorem dL_viewDrop_23 : decode cL_viewDrop 23 = .ok (.ireturn, 1) := eL_viewDrop_0.2.2.2.2.2.2.2.2.2.2.2.2.2.2.2
theorem eL_viewNear_0 : (decode cL_viewNear 0 = .ok (.aload 4, 2)) ∧ (decode cL_viewNear 2 = .ok (.aload_n 0, 1)) ∧ (decode cL_viewNear 3 = .ok (.iload_n 1, 1)) ∧ (decode cL_viewNear 4 = .ok (.iload_n 2, 1)) ∧ (decode cL_viewNear 5 = .ok (.iload_n 3, 1)) ∧ (decode cL_viewNear 6 = .ok (.invokevirtual 103, 3)) ∧ (decode cL_viewNear 9 = .ok (.i2l, 1)) ∧ (decode cL_viewNear 10 = .ok (.putfield 13, 3)) ∧ (decode cL_viewNear 13 = .ok (.goto 11, 3)) ∧ (decode cL_viewNear 16 = .ok (.astore 5, 2)) ∧ (decode cL_viewNear 18 = .ok (.iconst 1, 1)) ∧ (decode cL_viewNear 19 = .ok (.ireturn, 1)) ∧ (decode cL_viewNear 20 = .ok (.astore 5, 2)) ∧ (decode cL_viewNear 22 = .ok (.iconst 2, 1)) ∧ (decode cL_viewNear 23 = .ok (.ireturn, 1)) ∧ (decode cL_viewNear 24 = .ok (.iconst 0, 1)) := by decide +kernel
theorem dL_viewNear_0 : decode cL_viewNear 0 = .ok (.aload 4, 2) := eL_viewNear_0.1
theorem dL_viewNear_2 : decode cL_viewNear 2 = .ok (.aload_n 0, 1) := eL_viewNear_0.2.1
theorem dL_viewNear_3 : decode cL_viewNear 3 = .ok (.iload_n 1, 1) := eL_viewNear_0.2.2.1
theorem dL_viewNear_4 : decode cL_viewNear 4 = .ok (.iload_n 2, 1) := eL_viewNear_0.2.2.2.1
theorem dL_viewNear_5 : decode cL_viewNear 5 = .ok (.iload_n 3, 1) := eL_viewNear_0.2.2.2.2.1
theorem dL_viewNear_6 : decode cL_viewNear 6 = .ok (.invokevirtual 103, 3) := eL_viewNear_0.2.2.2.2.2.1
theorem dL_viewNear_9 : decode cL_viewNear 9 = .ok (.i2l, 1) := eL_viewNear_0.2.2.2.2.2.2.1
theorem dL_viewNear_10 : decode cL_viewNear 10 = .ok (.putfield 13, 3) := eL_viewNear_0.2.2.2.2.2.2.2.1
theorem dL_viewNear_13 : decode cL_viewNear 13 = .ok (.goto 11, 3) := eL_viewNear_0.2.2.2.2.2.2.2.2.1
theorem dL_viewNear_16 : decode cL_viewNear 16 = .ok (.astore 5, 2) := eL_viewNear_0.2.2.2.2.2.2.2.2.2.1
theorem dL_viewNear_18 : decode cL_viewNear 18 = .ok (.iconst 1, 1) := eL_viewNear_0.2.2.2.2.2.2.2.2.2.2.1
theorem dL_viewNear_19 : decode cL_viewNear 19 = .ok (.ireturn, 1) := eL_viewNear_0.2.2.2.2.2.2.2.2.2.2.2.1
theorem dL_viewNear_20 : decode cL_viewNear 20 = .ok (.astore 5, 2) := eL_viewNear_0.2.2.2.2.2.2.2.2.2.2.2.2.1
theorem dL_viewNear_22 : decode cL_viewNear 22 = .ok (.iconst 2, 1) := eL_viewNear_0.2.2.2.2.2.2.2.2.2.2.2.2.2.1
theorem dL_viewNear_23 : decode cL_viewNear 23 = .ok (.ireturn, 1) := eL_viewNear_0.2.2.2.2.2.2.2.2.2.2.2.2.2.2.1
theorem dL_viewNear_24 : decode cL_viewNear 24 = .ok (.iconst 0, 1) := eL_viewNear_0.2.2.2.2.2.2.2.2.2.2.2.2.2.2.2
theorem dL_viewNear_25 : decode cL_viewNear 25 = .ok (.ireturn, 1) := by decide +kernel
theorem eL_viewTell_0 : (decode cL_viewTell 0 = .ok (.aload_n 3, 1)) ∧ (decode cL_viewTell 1 = .ok (.aload_n 0, 1)) ∧ (decode cL_viewTell 2 = .ok (.iload_n 1, 1)) ∧ (decode cL_viewTell 3 = .ok (.iload_n 2, 1)) ∧ (decode cL_viewTell 4 = .ok (.invokevirtual 106, 3)) ∧ (decode cL_viewTell 7 = .ok (.i2l, 1)) ∧ (decode cL_viewTell 8 = .ok (.putfield 13, 3)) ∧ (decode cL_viewTell 11 = .ok (.goto 11, 3)) ∧ (decode cL_viewTell 14 = .ok (.astore 4, 2)) ∧ (decode cL_viewTell 16 = .ok (.iconst 1, 1)) ∧ (decode cL_viewTell 17 = .ok (.ireturn, 1)) ∧ (decode cL_viewTell 18 = .ok (.astore 4, 2)) ∧ (decode cL_viewTell 20 = .ok (.iconst 2, 1)) ∧ (decode cL_viewTell 21 = .ok (.ireturn, 1)) ∧ (decode cL_viewTell 22 = .ok (.iconst 0, 1)) ∧ (decode cL_viewTell 23 = .ok (.ireturn, 1)) := by decide +kernel
theorem dL_viewTell_0 : decode cL_viewTell 0 = .ok (.aload_n 3, 1) := eL_viewTell_0.1
theorem dL_viewTell_1 : decode cL_viewTell 1 = .ok (.aload_n 0, 1) := eL_viewTell_0.2.1
theorem dL_viewTell_2 : decode cL_viewTell 2 = .ok (.iload_n 1, 1) := eL_viewTell_0.2.2.1
theorem dL_viewTell_3 : decode cL_viewTell 3 = .ok (.iload_n 2, 1) := eL_viewTell_0.2.2.2.1
theorem dL_viewTell_4 : decode cL_viewTell 4 = .ok (.invokevirtual 106, 3) := eL_viewTell_0.2.2.2.2.1
theorem dL_viewTell_7 : decode cL_viewTell 7 = .ok (.i2l, 1) := eL_viewTell_0.2.2.2.2.2.1
theorem dL_viewTell_8 : decode cL_viewTell 8 = .ok (.putfield 13, 3) := eL_viewTell_0.2.2.2.2.2.2.1
theorem dL_viewTell_11 : decode cL_viewTell 11 = .ok (.goto 11, 3) := eL_viewTell_0.2.2.2.2.2.2.2.1
theorem dL_viewTell_14 : decode cL_viewTell 14 = .ok (.astore 4, 2) := eL_viewTell_0.2.2.2.2.2.2.2.2.1
theorem dL_viewTell_16 : decode cL_viewTell 16 = .ok (.iconst 1, 1) := eL_viewTell_0.2.2.2.2.2.2.2.2.2.1
theorem dL_viewTell_17 : decode cL_viewTell 17 = .ok (.ireturn, 1) := eL_viewTell_0.2.2.2.2.2.2.2.2.2.2.1
theorem dL_viewTell_18 : decode cL_viewTell 18 = .ok (.astore 4, 2) := eL_viewTell_0.2.2.2.2.2.2.2.2.2.2.2.1
theorem dL_viewTell_20 : decode cL_viewTell 20 = .ok (.iconst 2, 1) := eL_viewTell_0.2.2.2.2.2.2.2.2.2.2.2.2.1
theorem dL_viewTell_21 : decode cL_viewTell 21 = .ok (.ireturn, 1) := eL_viewTell_0.2.2.2.2.2.2.2.2.2.2.2.2.2.1
theorem dL_viewTell_22 : decode cL_viewTell 22 = .ok (.iconst 0, 1) := eL_viewTell_0.2.2.2.2.2.2.2.2.2.2.2.2.2.2.1
theorem dL_viewTell_23 : decode cL_viewTell 23 = .ok (.ireturn, 1) := eL_viewTell_0.2.2.2.2.2.2.2.2.2.2.2.2.2.2.2
theorem eL_startWalk_0 : (decode cL_startWalk 0 = .ok (.aload_n 2, 1)) ∧ (decode cL_startWalk 1 = .ok (.aload_n 0, 1)) ∧ (decode cL_startWalk 2 = .ok (.iload_n 1, 1)) ∧ (decode cL_startWalk 3 = .ok (.invokevirtual 109, 3)) ∧ (decode cL_startWalk 6 = .ok (.i2l, 1)) ∧ (decode cL_startWalk 7 = .ok (.putfield 13, 3)) ∧ (decode cL_startWalk 10 = .ok (.goto 6, 3)) ∧ (decode cL_startWalk 13 = .ok (.astore_n 3, 1)) ∧ (decode cL_startWalk 14 = .ok (.iconst 1, 1)) ∧ (decode cL_startWalk 15 = .ok (.ireturn, 1)) ∧ (decode cL_startWalk 16 = .ok (.iconst 0, 1)) ∧ (decode cL_startWalk 17 = .ok (.ireturn, 1)) := by decide +kernel
theorem dL_startWalk_0 : decode cL_startWalk 0 = .ok (.aload_n 2, 1) := eL_startWalk_0.1
theorem dL_startWalk_1 : decode cL_startWalk 1 = .ok (.aload_n 0, 1) := eL_startWalk_0.2.1
theorem dL_startWalk_2 : decode cL_startWalk 2 = .ok (.iload_n 1, 1) := eL_startWalk_0.2.2.1
theorem dL_startWalk_3 : decode cL_startWalk 3 = .ok (.invokevirtual 109, 3) := eL_startWalk_0.2.2.2.1
theorem dL_startWalk_6 : decode cL_startWalk 6 = .ok (.i2l, 1) := eL_startWalk_0.2.2.2.2.1
theorem dL_startWalk_7 : decode cL_startWalk 7 = .ok (.putfield 13, 3) := eL_startWalk_0.2.2.2.2.2.1
theorem dL_startWalk_10 : decode cL_startWalk 10 = .ok (.goto 6, 3) := eL_startWalk_0.2.2.2.2.2.2.1
theorem dL_startWalk_13 : decode cL_startWalk 13 = .ok (.astore_n 3, 1) := eL_startWalk_0.2.2.2.2.2.2.2.1
theorem dL_startWalk_14 : decode cL_startWalk 14 = .ok (.iconst 1, 1) := eL_startWalk_0.2.2.2.2.2.2.2.2.1
theorem dL_startWalk_15 : decode cL_startWalk 15 = .ok (.ireturn, 1) := eL_startWalk_0.2.2.2.2.2.2.2.2.2.1
theorem dL_startWalk_16 : decode cL_startWalk 16 = .ok (.iconst 0, 1) := eL_startWalk_0.2.2.2.2.2.2.2.2.2.2.1
theorem dL_startWalk_17 : decode cL_startWalk 17 = .ok (.ireturn, 1) := eL_startWalk_0.2.2.2.2.2.2.2.2.2.2.2
theorem eL_walkSet_0 : (decode cL_walkSet 0 = .ok (.aload_n 2, 1)) ∧ (decode cL_walkSet 1 = .ok (.aload_n 0, 1)) ∧ (decode cL_walkSet 2 = .ok (.iload_n 1, 1)) ∧ (decode cL_walkSet 3 = .ok (.invokevirtual 113, 3)) ∧ (decode cL_walkSet 6 = .ok (.i2l, 1)) ∧ (decode cL_walkSet 7 = .ok (.putfield 13, 3)) ∧ (decode cL_walkSet 10 = .ok (.goto 6, 3)) ∧ (decode cL_walkSet 13 = .ok (.astore_n 3, 1)) ∧ (decode cL_walkSet 14 = .ok (.iconst 1, 1)) ∧ (decode cL_walkSet 15 = .ok (.ireturn, 1)) ∧ (decode cL_walkSet 16 = .ok (.iconst 0, 1)) ∧ (decode cL_walkSet 17 = .ok (.ireturn, 1)) := by decide +kernel
theorem dL_walkSet_0 : decode cL_walkSet 0 = .ok (.aload_n 2, 1) := eL_walkSet_0.1
theorem dL_walkSet_1 : decode cL_walkSet 1 = .ok (.aload_n 0, 1) := eL_walkSet_0.2.1
theorem dL_walkSet_2 : decode cL_walkSet 2 = .ok (.iload_n 1, 1) := eL_walkSet_0.2.2.1
theorem dL_walkSet_3 : decode cL_walkSet 3 = .ok (.invokevirtual 113, 3) := eL_walkSet_0.2.2.2.1
theorem dL_walkSet_6 : decode cL_walkSet 6 = .ok (.i2l, 1) := eL_walkSet_0.2.2.2.2.1
theorem dL_walkSet_7 : decode cL_walkSet 7 = .ok (.putfield 13, 3) := eL_walkSet_0.2.2.2.2.2.1
theorem dL_walkSet_10 : decode cL_walkSet 10 = .ok (.goto 6, 3) := eL_walkSet_0.2.2.2.2.2.2.1
theorem dL_walkSet_13 : decode cL_walkSet 13 = .ok (.astore_n 3, 1) := eL_walkSet_0.2.2.2.2.2.2.2.1
theorem dL_walkSet_14 : decode cL_walkSet 14 = .ok (.iconst 1, 1) := eL_walkSet_0.2.2.2.2.2.2.2.2.1
theorem dL_walkSet_15 : decode cL_walkSet 15 = .ok (.ireturn, 1) := eL_walkSet_0.2.2.2.2.2.2.2.2.2.1
theorem dL_walkSet_16 : decode cL_walkSet 16 = .ok (.iconst 0, 1) := eL_walkSet_0.2.2.2.2.2.2.2.2.2.2.1
theorem dL_walkSet_17 : decode cL_walkSet 17 = .ok (.ireturn, 1) := eL_walkSet_0.2.2.2.2.2.2.2.2.2.2.2
theorem eL_freshShelf_0 : (decode cL_freshShelf 0 = .ok (.aload_n 3, 1)) ∧ (decode cL_freshShelf 1 = .ok (.aload_n 0, 1)) ∧ (decode cL_freshShelf 2 = .ok (.iload_n 1, 1)) ∧ (decode cL_freshShelf 3 = .ok (.iload_n 2, 1)) ∧ (decode cL_freshShelf 4 = .ok (.invokevirtual 116, 3)) ∧ (decode cL_freshShelf 7 = .ok (.i2l, 1)) ∧ (decode cL_freshShelf 8 = .ok (.putfield 13, 3)) ∧ (decode cL_freshShelf 11 = .ok (.goto 11, 3)) ∧ (decode cL_freshShelf 14 = .ok (.astore 4, 2)) ∧ (decode cL_freshShelf 16 = .ok (.iconst 1, 1)) ∧ (decode cL_freshShelf 17 = .ok (.ireturn, 1)) ∧ (decode cL_freshShelf 18 = .ok (.astore 4, 2)) ∧ (decode cL_freshShelf 20 = .ok (.iconst 2, 1)) ∧ (decode cL_freshShelf 21 = .ok (.ireturn, 1)) ∧ (decode cL_freshShelf 22 = .ok (.iconst 0, 1)) ∧ (decode cL_freshShelf 23 = .ok (.ireturn, 1)) := by decide +kernel
theorem dL_freshShelf_0 : decode cL_freshShelf 0 = .ok (.aload_n 3, 1) := eL_freshShelf_0.1
theorem dL_freshShelf_1 : decode cL_freshShelf 1 = .ok (.aload_n 0, 1) := eL_freshShelf_0.2.1
theorem dL_freshShelf_2 : decode cL_freshShelf 2 = .ok (.iload_n 1, 1) := eL_freshShelf_0.2.2.1
theorem dL_freshShelf_3 : decode cL_freshShelf 3 = .ok (.iload_n 2, 1) := eL_freshShelf_0.2.2.2.1
theorem dL_freshShelf_4 : decode cL_freshShelf 4 = .ok (.invokevirtual 116, 3) := eL_freshShelf_0.2.2.2.2.1
theorem dL_freshShelf_7 : decode cL_freshShelf 7 = .ok (.i2l, 1) := eL_freshShelf_0.2.2.2.2.2.1
theorem dL_freshShelf_8 : decode cL_freshShelf 8 = .ok (.putfield 13, 3) := eL_freshShelf_0.2.2.2.2.2.2.1
theorem dL_freshShelf_11 : decode cL_freshShelf 11 = .ok (.goto 11, 3) := eL_freshShelf_0.2.2.2.2.2.2.2.1
theorem dL_freshShelf_14 : decode cL_freshShelf 14 = .ok (.astore 4, 2) := eL_freshShelf_0.2.2.2.2.2.2.2.2.1
theorem dL_freshShelf_16 : decode cL_freshShelf 16 = .ok (.iconst 1, 1) := eL_freshShelf_0.2.2.2.2.2.2.2.2.2.1
theorem dL_freshShelf_17 : decode cL_freshShelf 17 = .ok (.ireturn, 1) := eL_freshShelf_0.2.2.2.2.2.2.2.2.2.2.1
theorem dL_freshShelf_18 : decode cL_freshShelf 18 = .ok (.astore 4, 2) := eL_freshShelf_0.2.2.2.2.2.2.2.2.2.2.2.1
theorem dL_freshShelf_20 : decode cL_freshShelf 20 = .ok (.iconst 2, 1) := eL_freshShelf_0.2.2.2.2.2.2.2.2.2.2.2.2.1
theorem dL_freshShelf_21 : decode cL_freshShelf 21 = .ok (.ireturn, 1) := eL_freshShelf_0.2.2.2.2.2.2.2.2.2.2.2.2.2.1
theorem dL_freshShelf_22 : decode cL_freshShelf 22 = .ok (.iconst 0, 1) := eL_freshShelf_0.2.2.2.2.2.2.2.2.2.2.2.2.2.2.1
theorem dL_freshShelf_23 : decode cL_freshShelf 23 = .ok (.ireturn, 1) := eL_freshShelf_0.2.2.2.2.2.2.2.2.2.2.2.2.2.2.2
theorem eL_buildShelf_0 : (decode cL_buildShelf 0 = .ok (.aload 4, 2)) ∧ (decode cL_buildShelf 2 = .ok (.aload_n 0, 1)) ∧ (decode cL_buildShelf 3 = .ok (.iload_n 1, 1)) ∧ (decode cL_buildShelf 4 = .ok (.iload_n 2, 1)) ∧ (decode cL_buildShelf 5 = .ok (.iload_n 3, 1)) ∧ (decode cL_buildShelf 6 = .ok (.invokevirtual 119, 3)) ∧ (decode cL_buildShelf 9 = .ok (.i2l, 1)) ∧ (decode cL_buildShelf 10 = .ok (.putfield 13, 3)) ∧ (decode cL_buildShelf 13 = .ok (.goto 11, 3)) ∧ (decode cL_buildShelf 16 = .ok (.astore 5, 2)) ∧ (decode cL_buildShelf 18 = .ok (.iconst 1, 1)) ∧ (decode cL_buildShelf 19 = .ok (.ireturn, 1)) ∧ (decode cL_buildShelf 20 = .ok (.astore 5, 2)) ∧ (decode cL_buildShelf 22 = .ok (.iconst 2, 1)) ∧ (decode cL_buildShelf 23 = .ok (.ireturn, 1)) ∧ (decode cL_buildShelf 24 = .ok (.iconst 0, 1)) := by decide +kernel
theorem dL_buildShelf_0 : decode cL_buildShelf 0 = .ok (.aload 4, 2) := eL_buildShelf_0.1
theorem dL_buildShelf_2 : decode cL_buildShelf 2 = .ok (.aload_n 0, 1) := eL_buildShelf_0.2.1
theorem dL_buildShelf_3 : decode cL_buildShelf 3 = .ok (.iload_n 1, 1) := eL_buildShelf_0.2.2.1
theorem dL_buildShelf_4 : decode cL_buildShelf 4 = .ok (.iload_n 2, 1) := eL_buildShelf_0.2.2.2.1
theorem dL_buildShelf_5 : decode cL_buildShelf 5 = .ok (.iload_n 3, 1) := eL_buildShelf_0.2.2.2.2.1
theorem dL_buildShelf_6 : decode cL_buildShelf 6 = .ok (.invokevirtual 119, 3) := eL_buildShelf_0.2.2.2.2.2.1
theorem dL_buildShelf_9 : decode cL_buildShelf 9 = .ok (.i2l, 1) := eL_buildShelf_0.2.2.2.2.2.2.1
theorem dL_buildShelf_10 : decode cL_buildShelf 10 = .ok (.putfield 13, 3) := eL_buildShelf_0.2.2.2.2.2.2.2.1
theorem dL_buildShelf_13 : decode cL_buildShelf 13 = .ok (.goto 11, 3) := eL_buildShelf_0.2.2.2.2.2.2.2.2.1
theorem dL_buildShelf_16 : decode cL_buildShelf 16 = .ok (.astore 5, 2) := eL_buildShelf_0.2.2.2.2.2.2.2.2.2.1
theorem dL_buildShelf_18 : decode cL_buildShelf 18 = .ok (.iconst 1, 1) := eL_buildShelf_0.2.2.2.2.2.2.2.2.2.2.1
theorem dL_buildShelf_19 : decode cL_buildShelf 19 = .ok (.ireturn, 1) := eL_buildShelf_0.2.2.2.2.2.2.2.2.2.2.2.1
theorem dL_buildShelf_20 : decode cL_buildShelf 20 = .ok (.astore 5, 2) := eL_buildShelf_0.2.2.2.2.2.2.2.2.2.2.2.2.1
theorem dL_buildShelf_22 : decode cL_buildShelf 22 = .ok (.iconst 2, 1) := eL_buildShelf_0.2.2.2.2.2.2.2.2.2.2.2.2.2.1
theorem dL_buildShelf_23 : decode cL_buildShelf 23 = .ok (.ireturn, 1) := eL_buildShelf_0.2.2.2.2.2.2.2.2.2.2.2.2.2.2.1
theorem dL_buildShelf_24 : decode cL_buildShelf 24 = .ok (.iconst 0, 1) := eL_buildShelf_0.2.2.2.2.2.2.2.2.2.2.2.2.2.2.2
theorem dL_buildShelf_25 : decode cL_buildShelf 25 = .ok (.ireturn, 1) := by decide +kernel
theorem eL_keysOf_0 : (decode cL_keysOf 0 = .ok (.aload_n 3, 1)) ∧ (decode cL_keysOf 1 = .ok (.aload_n 0, 1)) ∧ (decode cL_keysOf 2 = .ok (.iload_n 1, 1)) ∧ (decode cL_keysOf 3 = .ok (.iload_n 2, 1)) ∧ (decode cL_keysOf 4 = .ok (.invokevirtual 122, 3)) ∧ (decode cL_keysOf 7 = .ok (.i2l, 1)) ∧ (decode cL_keysOf 8 = .ok (.putfield 13, 3)) ∧ (decode cL_keysOf 11 = .ok (.goto 7, 3)) ∧ (decode cL_keysOf 14 = .ok (.astore 4, 2)) ∧ (decode cL_keysOf 16 = .ok (.iconst 1, 1)) ∧ (decode cL_keysOf 17 = .ok (.ireturn, 1)) ∧ (decode cL_keysOf 18 = .ok (.iconst 0, 1)) ∧ (decode cL_keysOf 19 = .ok (.ireturn, 1)) := by decide +kernel
theorem dL_keysOf_0 : decode cL_keysOf 0 = .ok (.aload_n 3, 1) := eL_keysOf_0.1
theorem dL_keysOf_1 : decode cL_keysOf 1 = .ok (.aload_n 0, 1) := eL_keysOf_0.2.1
theorem dL_keysOf_2 : decode cL_keysOf 2 = .ok (.iload_n 1, 1) := eL_keysOf_0.2.2.1
theorem dL_keysOf_3 : decode cL_keysOf 3 = .ok (.iload_n 2, 1) := eL_keysOf_0.2.2.2.1
theorem dL_keysOf_4 : decode cL_keysOf 4 = .ok (.invokevirtual 122, 3) := eL_keysOf_0.2.2.2.2.1
theorem dL_keysOf_7 : decode cL_keysOf 7 = .ok (.i2l, 1) := eL_keysOf_0.2.2.2.2.2.1
theorem dL_keysOf_8 : decode cL_keysOf 8 = .ok (.putfield 13, 3) := eL_keysOf_0.2.2.2.2.2.2.1
theorem dL_keysOf_11 : decode cL_keysOf 11 = .ok (.goto 7, 3) := eL_keysOf_0.2.2.2.2.2.2.2.1
theorem dL_keysOf_14 : decode cL_keysOf 14 = .ok (.astore 4, 2) := eL_keysOf_0.2.2.2.2.2.2.2.2.1
theorem dL_keysOf_16 : decode cL_keysOf 16 = .ok (.iconst 1, 1) := eL_keysOf_0.2.2.2.2.2.2.2.2.2.1
theorem dL_keysOf_17 : decode cL_keysOf 17 = .ok (.ireturn, 1) := eL_keysOf_0.2.2.2.2.2.2.2.2.2.2.1
theorem dL_keysOf_18 : decode cL_keysOf 18 = .ok (.iconst 0, 1) := eL_keysOf_0.2.2.2.2.2.2.2.2.2.2.2.1
theorem dL_keysOf_19 : decode cL_keysOf 19 = .ok (.ireturn, 1) := eL_keysOf_0.2.2.2.2.2.2.2.2.2.2.2.2
theorem eL_lay_0 : (decode cL_lay 0 = .ok (.aload 6, 2)) ∧ (decode cL_lay 2 = .ok (.aload_n 0, 1)) ∧ (decode cL_lay 3 = .ok (.iload_n 1, 1)) ∧ (decode cL_lay 4 = .ok (.iload_n 2, 1)) ∧ (decode cL_lay 5 = .ok (.iload_n 3, 1)) ∧ (decode cL_lay 6 = .ok (.iload 4, 2)) ∧ (decode cL_lay 8 = .ok (.iload 5, 2)) ∧ (decode cL_lay 10 = .ok (.invokevirtual 125, 3)) ∧ (decode cL_lay 13 = .ok (.i2l, 1)) ∧ (decode cL_lay 14 = .ok (.putfield 13, 3)) ∧ (decode cL_lay 17 = .ok (.goto 11, 3)) ∧ (decode cL_lay 20 = .ok (.astore 7, 2)) ∧ (decode cL_lay 22 = .ok (.iconst 1, 1)) ∧ (decode cL_lay 23 = .ok (.ireturn, 1)) ∧ (decode cL_lay 24 = .ok (.astore 7, 2)) ∧ (decode cL_lay 26 = .ok (.iconst 2, 1)) := by decide +kernel
theorem dL_lay_0 : decode cL_lay 0 = .ok (.aload 6, 2) := eL_lay_0.1
theorem dL_lay_2 : decode cL_lay 2 = .ok (.aload_n 0, 1) := eL_lay_0.2.1
theorem dL_lay_3 : decode cL_lay 3 = .ok (.iload_n 1, 1) := eL_lay_0.2.2.1
theorem dL_lay_4 : decode cL_lay 4 = .ok (.iload_n 2, 1) := eL_lay_0.2.2.2.1
theorem dL_lay_5 : decode cL_lay 5 = .ok (.iload_n 3, 1) := eL_lay_0.2.2.2.2.1
theorem dL_lay_6 : decode cL_lay 6 = .ok (.iload 4, 2) := eL_lay_0.2.2.2.2.2.1
theorem dL_lay_8 : decode cL_lay 8 = .ok (.iload 5, 2) := eL_lay_0.2.2.2.2.2.2.1
theorem dL_lay_10 : decode cL_lay 10 = .ok (.invokevirtual 125, 3) := eL_lay_0.2.2.2.2.2.2.2.1
theorem dL_lay_13 : decode cL_lay 13 = .ok (.i2l, 1) := eL_lay_0.2.2.2.2.2.2.2.2.1
theorem dL_lay_14 : decode cL_lay 14 = .ok (.putfield 13, 3) := eL_lay_0.2.2.2.2.2.2.2.2.2.1
theorem dL_lay_17 : decode cL_lay 17 = .ok (.goto 11, 3) := eL_lay_0.2.2.2.2.2.2.2.2.2.2.1
theorem dL_lay_20 : decode cL_lay 20 = .ok (.astore 7, 2) := eL_lay_0.2.2.2.2.2.2.2.2.2.2.2.1
theorem dL_lay_22 : decode cL_lay 22 = .ok (.iconst 1, 1) := eL_lay_0.2.2.2.2.2.2.2.2.2.2.2.2.1
theorem dL_lay_23 : decode cL_lay 23 = .ok (.ireturn, 1) := eL_lay_0.2.2.2.2.2.2.2.2.2.2.2.2.2.1
theorem dL_lay_24 : decode cL_lay 24 = .ok (.astore 7, 2) := eL_lay_0.2.2.2.2.2.2.2.2.2.2.2.2.2.2.1
theorem dL_lay_26 : decode cL_lay 26 = .ok (.iconst 2, 1) := eL_lay_0.2.2.2.2.2.2.2.2.2.2.2.2.2.2.2
theorem eL_lay_27 : (decode cL_lay 27 = .ok (.ireturn, 1)) ∧ (decode cL_lay 28 = .ok (.iconst 0, 1)) ∧ (decode cL_lay 29 = .ok (.ireturn, 1)) := by decide +kernel
theorem dL_lay_27 : decode cL_lay 27 = .ok (.ireturn, 1) := eL_lay_27.1
theorem dL_lay_28 : decode cL_lay 28 = .ok (.iconst 0, 1) := eL_lay_27.2.1
theorem dL_lay_29 : decode cL_lay 29 = .ok (.ireturn, 1) := eL_lay_27.2.2
theorem eL_shelfBoth_0 : (decode cL_shelfBoth 0 = .ok (.aload 4, 2)) ∧ (decode cL_shelfBoth 2 = .ok (.aload_n 0, 1)) ∧ (decode cL_shelfBoth 3 = .ok (.iload_n 1, 1)) ∧ (decode cL_shelfBoth 4 = .ok (.iload_n 2, 1)) ∧ (decode cL_shelfBoth 5 = .ok (.iload_n 3, 1)) ∧ (decode cL_shelfBoth 6 = .ok (.invokevirtual 129, 3)) ∧ (decode cL_shelfBoth 9 = .ok (.i2l, 1)) ∧ (decode cL_shelfBoth 10 = .ok (.putfield 13, 3)) ∧ (decode cL_shelfBoth 13 = .ok (.goto 11, 3)) ∧ (decode cL_shelfBoth 16 = .ok (.astore 5, 2)) ∧ (decode cL_shelfBoth 18 = .ok (.iconst 1, 1)) ∧ (decode cL_shelfBoth 19 = .ok (.ireturn, 1)) ∧ (decode cL_shelfBoth 20 = .ok (.astore 5, 2)) ∧ (decode cL_shelfBoth 22 = .ok (.iconst 2, 1)) ∧ (decode cL_shelfBoth 23 = .ok (.ireturn, 1)) ∧ (decode cL_shelfBoth 24 = .ok (.iconst 0, 1)) := by decide +kernel
theorem dL_shelfBoth_0 : decode cL_shelfBoth 0 = .ok (.aload 4, 2) := eL_shelfBoth_0.1
theorem dL_shelfBoth_2 : decode cL_shelfBoth 2 = .ok (.aload_n 0, 1) := eL_shelfBoth_0.2.1
theorem dL_shelfBoth_3 : decode cL_shelfBoth 3 = .ok (.iload_n 1, 1) := eL_shelfBoth_0.2.2.1
theorem dL_shelfBoth_4 : decode cL_shelfBoth 4 = .ok (.iload_n 2, 1) := eL_shelfBoth_0.2.2.2.1
theorem dL_shelfBoth_5 : decode cL_shelfBoth 5 = .ok (.iload_n 3, 1) := eL_shelfBoth_0.2.2.2.2.1
theorem dL_shelfBoth_6 : decode cL_shelfBoth 6 = .ok (.invokevirtual 129, 3) := eL_shelfBoth_0.2.2.2.2.2.1
theorem dL_shelfBoth_9 : decode cL_shelfBoth 9 = .ok (.i2l, 1) := eL_shelfBoth_0.2.2.2.2.2.2.1
theorem dL_shelfBoth_10 : decode cL_shelfBoth 10 = .ok (.putfield 13, 3) := eL_shelfBoth_0.2.2.2.2.2.2.2.1
theorem dL_shelfBoth_13 : decode cL_shelfBoth 13 = .ok (.goto 11, 3) := eL_shelfBoth_0.2.2.2.2.2.2.2.2.1
theorem dL_shelfBoth_16 : decode cL_shelfBoth 16 = .ok (.astore 5, 2) := eL_shelfBoth_0.2.2.2.2.2.2.2.2.2.1
theorem dL_shelfBoth_18 : decode cL_shelfBoth 18 = .ok (.iconst 1, 1) := eL_shelfBoth_0.2.2.2.2.2.2.2.2.2.2.1
theorem dL_shelfBoth_19 : decode cL_shelfBoth 19 = .ok (.ireturn, 1) := eL_shelfBoth_0.2.2.2.2.2.2.2.2.2.2.2.1
theorem dL_shelfBoth_20 : decode cL_shelfBoth 20 = .ok (.astore 5, 2) := eL_shelfBoth_0.2.2.2.2.2.2.2.2.2.2.2.2.1
theorem dL_shelfBoth_22 : decode cL_shelfBoth 22 = .ok (.iconst 2, 1) := eL_shelfBoth_0.2.2.2.2.2.2.2.2.2.2.2.2.2.1
theorem dL_shelfBoth_23 : decode cL_shelfBoth 23 = .ok (.ireturn, 1) := eL_shelfBoth_0.2.2.2.2.2.2.2.2.2.2.2.2.2.2.1
theorem dL_shelfBoth_24 : decode cL_shelfBoth 24 = .ok (.iconst 0, 1) := eL_shelfBoth_0.2.2.2.2.2.2.2.2.2.2.2.2.2.2.2
theorem dL_shelfBoth_25 : decode cL_shelfBoth 25 = .ok (.ireturn, 1) := by decide +kernel
theorem eL_shelfDrop_0 : (decode cL_shelfDrop 0 = .ok (.aload_n 3, 1)) ∧ (decode cL_shelfDrop 1 = .ok (.aload_n 0, 1)) ∧ (decode cL_shelfDrop 2 = .ok (.iload_n 1, 1)) ∧ (decode cL_shelfDrop 3 = .ok (.iload_n 2, 1)) ∧ (decode cL_shelfDrop 4 = .ok (.invokevirtual 132, 3)) ∧ (decode cL_shelfDrop 7 = .ok (.i2l, 1)) ∧ (decode cL_shelfDrop 8 = .ok (.putfield 13, 3)) ∧ (decode cL_shelfDrop 11 = .ok (.goto 11, 3)) ∧ (decode cL_shelfDrop 14 = .ok (.astore 4, 2)) ∧ (decode cL_shelfDrop 16 = .ok (.iconst 1, 1)) ∧ (decode cL_shelfDrop 17 = .ok (.ireturn, 1)) ∧ (decode cL_shelfDrop 18 = .ok (.astore 4, 2)) ∧ (decode cL_shelfDrop 20 = .ok (.iconst 2, 1)) ∧ (decode cL_shelfDrop 21 = .ok (.ireturn, 1)) ∧ (decode cL_shelfDrop 22 = .ok (.iconst 0, 1)) ∧ (decode cL_shelfDrop 23 = .ok (.ireturn, 1)) := by decide +kernel
theorem dL_shelfDrop_0 : decode cL_shelfDrop 0 = .ok (.aload_n 3, 1) := eL_shelfDrop_0.1
theorem dL_shelfDrop_1 : decode cL_shelfDrop 1 = .ok (.aload_n 0, 1) := eL_shelfDrop_0.2.1
theorem dL_shelfDrop_2 : decode cL_shelfDrop 2 = .ok (.iload_n 1, 1) := eL_shelfDrop_0.2.2.1
theorem dL_shelfDrop_3 : decode cL_shelfDrop 3 = .ok (.iload_n 2, 1) := eL_shelfDrop_0.2.2.2.1
theorem dL_shelfDrop_4 : decode cL_shelfDrop 4 = .ok (.invokevirtual 132, 3) := eL_shelfDrop_0.2.2.2.2.1
theorem dL_shelfDrop_7 : decode cL_shelfDrop 7 = .ok (.i2l, 1) := eL_shelfDrop_0.2.2.2.2.2.1
theorem dL_shelfDrop_8 : decode cL_shelfDrop 8 = .ok (.putfield 13, 3) := eL_shelfDrop_0.2.2.2.2.2.2.1
theorem dL_shelfDrop_11 : decode cL_shelfDrop 11 = .ok (.goto 11, 3) := eL_shelfDrop_0.2.2.2.2.2.2.2.1
theorem dL_shelfDrop_14 : decode cL_shelfDrop 14 = .ok (.astore 4, 2) := eL_shelfDrop_0.2.2.2.2.2.2.2.2.1
theorem dL_shelfDrop_16 : decode cL_shelfDrop 16 = .ok (.iconst 1, 1) := eL_shelfDrop_0.2.2.2.2.2.2.2.2.2.1
theorem dL_shelfDrop_17 : decode cL_shelfDrop 17 = .ok (.ireturn, 1) := eL_shelfDrop_0.2.2.2.2.2.2.2.2.2.2.1
theorem dL_shelfDrop_18 : decode cL_shelfDrop 18 = .ok (.astore 4, 2) := eL_shelfDrop_0.2.2.2.2.2.2.2.2.2.2.2.1
theorem dL_shelfDrop_20 : decode cL_shelfDrop 20 = .ok (.iconst 2, 1) := eL_shelfDrop_0.2.2.2.2.2.2.2.2.2.2.2.2.1
theorem dL_shelfDrop_21 : decode cL_shelfDrop 21 = .ok (.ireturn, 1) := eL_shelfDrop_0.2.2.2.2.2.2.2.2.2.2.2.2.2.1
theorem dL_shelfDrop_22 : decode cL_shelfDrop 22 = .ok (.iconst 0, 1) := eL_shelfDrop_0.2.2.2.2.2.2.2.2.2.2.2.2.2.2.1
theorem dL_shelfDrop_23 : decode cL_shelfDrop 23 = .ok (.ireturn, 1) := eL_shelfDrop_0.2.2.2.2.2.2.2.2.2.2.2.2.2.2.2
theorem eL_shelfCut_0 : (decode cL_shelfCut 0 = .ok (.aload 6, 2)) ∧ (decode cL_shelfCut 2 = .ok (.aload_n 0, 1)) ∧ (decode cL_shelfCut 3 = .ok (.iload_n 1, 1)) ∧ (decode cL_shelfCut 4 = .ok (.iload_n 2, 1)) ∧ (decode cL_shelfCut 5 = .ok (.iload_n 3, 1)) ∧ (decode cL_shelfCut 6 = .ok (.iload 4, 2)) ∧ (decode cL_shelfCut 8 = .ok (.iload 5, 2)) ∧ (decode cL_shelfCut 10 = .ok (.invokevirtual 135, 3)) ∧ (decode cL_shelfCut 13 = .ok (.i2l, 1)) ∧ (decode cL_shelfCut 14 = .ok (.putfield 13, 3)) ∧ (decode cL_shelfCut 17 = .ok (.goto 11, 3)) ∧ (decode cL_shelfCut 20 = .ok (.astore 7, 2)) ∧ (decode cL_shelfCut 22 = .ok (.iconst 1, 1)) ∧ (decode cL_shelfCut 23 = .ok (.ireturn, 1)) ∧ (decode cL_shelfCut 24 = .ok (.astore 7, 2)) ∧ (decode cL_shelfCut 26 = .ok (.iconst 2, 1)) := by decide +kernel
theorem dL_shelfCut_0 : decode cL_shelfCut 0 = .ok (.aload 6, 2) := eL_shelfCut_0.1
theorem dL_shelfCut_2 : decode cL_shelfCut 2 = .ok (.aload_n 0, 1) := eL_shelfCut_0.2.1
theorem dL_shelfCut_3 : decode cL_shelfCut 3 = .ok (.iload_n 1, 1) := eL_shelfCut_0.2.2.1
theorem dL_shelfCut_4 : decode cL_shelfCut 4 = .ok (.iload_n 2, 1) := eL_shelfCut_0.2.2.2.1
theorem dL_shelfCut_5 : decode cL_shelfCut 5 = .ok (.iload_n 3, 1) := eL_shelfCut_0.2.2.2.2.1
theorem dL_shelfCut_6 : decode cL_shelfCut 6 = .ok (.iload 4, 2) := eL_shelfCut_0.2.2.2.2.2.1
theorem dL_shelfCut_8 : decode cL_shelfCut 8 = .ok (.iload 5, 2) := eL_shelfCut_0.2.2.2.2.2.2.1
theorem dL_shelfCut_10 : decode cL_shelfCut 10 = .ok (.invokevirtual 135, 3) := eL_shelfCut_0.2.2.2.2.2.2.2.1
theorem dL_shelfCut_13 : decode cL_shelfCut 13 = .ok (.i2l, 1) := eL_shelfCut_0.2.2.2.2.2.2.2.2.1
theorem dL_shelfCut_14 : decode cL_shelfCut 14 = .ok (.putfield 13, 3) := eL_shelfCut_0.2.2.2.2.2.2.2.2.2.1
theorem dL_shelfCut_17 : decode cL_shelfCut 17 = .ok (.goto 11, 3) := eL_shelfCut_0.2.2.2.2.2.2.2.2.2.2.1
theorem dL_shelfCut_20 : decode cL_shelfCut 20 = .ok (.astore 7, 2) := eL_shelfCut_0.2.2.2.2.2.2.2.2.2.2.2.1
theorem dL_shelfCut_22 : decode cL_shelfCut 22 = .ok (.iconst 1, 1) := eL_shelfCut_0.2.2.2.2.2.2.2.2.2.2.2.2.1
theorem dL_shelfCut_23 : decode cL_shelfCut 23 = .ok (.ireturn, 1) := eL_shelfCut_0.2.2.2.2.2.2.2.2.2.2.2.2.2.1
theorem dL_shelfCut_24 : decode cL_shelfCut 24 = .ok (.astore 7, 2) := eL_shelfCut_0.2.2.2.2.2.2.2.2.2.2.2.2.2.2.1
theorem dL_shelfCut_26 : decode cL_shelfCut 26 = .ok (.iconst 2, 1) := eL_shelfCut_0.2.2.2.2.2.2.2.2.2.2.2.2.2.2.2
theorem eL_shelfCut_27 : (decode cL_shelfCut 27 = .ok (.ireturn, 1)) ∧ (decode cL_shelfCut 28 = .ok (.iconst 0, 1)) ∧ (decode cL_shelfCut 29 = .ok (.ireturn, 1)) := by decide +kernel
theorem dL_shelfCut_27 : decode cL_shelfCut 27 = .ok (.ireturn, 1) := eL_shelfCut_27.1
theorem dL_shelfCut_28 : decode cL_shelfCut 28 = .ok (.iconst 0, 1) := eL_shelfCut_27.2.1
theorem dL_shelfCut_29 : decode cL_shelfCut 29 = .ok (.ireturn, 1) := eL_shelfCut_27.2.2
theorem eL_shelfNear_0 : (decode cL_shelfNear 0 = .ok (.aload 4, 2)) ∧ (decode cL_shelfNear 2 = .ok (.aload_n 0, 1)) ∧ (decode cL_shelfNear 3 = .ok (.iload_n 1, 1)) ∧ (decode cL_shelfNear 4 = .ok (.iload_n 2, 1)) ∧ (decode cL_shelfNear 5 = .ok (.iload_n 3, 1)) ∧ (decode cL_shelfNear 6 = .ok (.invokevirtual 138, 3)) ∧ (decode cL_shelfNear 9 = .ok (.i2l, 1)) ∧ (decode cL_shelfNear 10 = .ok (.putfield 13, 3)) ∧ (decode cL_shelfNear 13 = .ok (.goto 11, 3)) ∧ (decode cL_shelfNear 16 = .ok (.astore 5, 2)) ∧ (decode cL_shelfNear 18 = .ok (.iconst 1, 1)) ∧ (decode cL_shelfNear 19 = .ok (.ireturn, 1)) ∧ (decode cL_shelfNear 20 = .ok (.astore 5, 2)) ∧ (decode cL_shelfNear 22 = .ok (.iconst 2, 1)) ∧ (decode cL_shelfNear 23 = .ok (.ireturn, 1)) ∧ (decode cL_shelfNear 24 = .ok (.iconst 0, 1)) := by decide +kernel
theorem dL_shelfNear_0 : decode cL_shelfNear 0 = .ok (.aload 4, 2) := eL_shelfNear_0.1
theorem dL_shelfNear_2 : decode cL_shelfNear 2 = .ok (.aload_n 0, 1) := eL_shelfNear_0.2.1
theorem dL_shelfNear_3 : decode cL_shelfNear 3 = .ok (.iload_n 1, 1) := eL_shelfNear_0.2.2.1
theorem dL_shelfNear_4 : decode cL_shelfNear 4 = .ok (.iload_n 2, 1) := eL_shelfNear_0.2.2.2.1
theorem dL_shelfNear_5 : decode cL_shelfNear 5 = .ok (.iload_n 3, 1) := eL_shelfNear_0.2.2.2.2.1
theorem dL_shelfNear_6 : decode cL_shelfNear 6 = .ok (.invokevirtual 138, 3) := eL_shelfNear_0.2.2.2.2.2.1
theorem dL_shelfNear_9 : decode cL_shelfNear 9 = .ok (.i2l, 1) := eL_shelfNear_0.2.2.2.2.2.2.1
theorem dL_shelfNear_10 : decode cL_shelfNear 10 = .ok (.putfield 13, 3) := eL_shelfNear_0.2.2.2.2.2.2.2.1
theorem dL_shelfNear_13 : decode cL_shelfNear 13 = .ok (.goto 11, 3) := eL_shelfNear_0.2.2.2.2.2.2.2.2.1
theorem dL_shelfNear_16 : decode cL_shelfNear 16 = .ok (.astore 5, 2) := eL_shelfNear_0.2.2.2.2.2.2.2.2.2.1
theorem dL_shelfNear_18 : decode cL_shelfNear 18 = .ok (.iconst 1, 1) := eL_shelfNear_0.2.2.2.2.2.2.2.2.2.2.1
theorem dL_shelfNear_19 : decode cL_shelfNear 19 = .ok (.ireturn, 1) := eL_shelfNear_0.2.2.2.2.2.2.2.2.2.2.2.1
theorem dL_shelfNear_20 : decode cL_shelfNear 20 = .ok (.astore 5, 2) := eL_shelfNear_0.2.2.2.2.2.2.2.2.2.2.2.2.1
theorem dL_shelfNear_22 : decode cL_shelfNear 22 = .ok (.iconst 2, 1) := eL_shelfNear_0.2.2.2.2.2.2.2.2.2.2.2.2.2.1
theorem dL_shelfNear_23 : decode cL_shelfNear 23 = .ok (.ireturn, 1) := eL_shelfNear_0.2.2.2.2.2.2.2.2.2.2.2.2.2.2.1
theorem dL_shelfNear_24 : decode cL_shelfNear 24 = .ok (.iconst 0, 1) := eL_shelfNear_0.2.2.2.2.2.2.2.2.2.2.2.2.2.2.2
theorem dL_shelfNear_25 : decode cL_shelfNear 25 = .ok (.ireturn, 1) := by decide +kernel
theorem eL_shelfTell_0 : (decode cL_shelfTell 0 = .ok (.aload_n 3, 1)) ∧ (decode cL_shelfTell 1 = .ok (.aload_n 0, 1)) ∧ (decode cL_shelfTell 2 = .ok (.iload_n 1, 1)) ∧ (decode cL_shelfTell 3 = .ok (.iload_n 2, 1)) ∧ (decode cL_shelfTell 4 = .ok (.invokevirtual 141, 3)) ∧ (decode cL_shelfTell 7 = .ok (.i2l, 1)) ∧ (decode cL_shelfTell 8 = .ok (.putfield 13, 3)) ∧ (decode cL_shelfTell 11 = .ok (.goto 11, 3)) ∧ (decode cL_shelfTell 14 = .ok (.astore 4, 2)) ∧ (decode cL_shelfTell 16 = .ok (.iconst 1, 1)) ∧ (decode cL_shelfTell 17 = .ok (.ireturn, 1)) ∧ (decode cL_shelfTell 18 = .ok (.astore 4, 2)) ∧ (decode cL_shelfTell 20 = .ok (.iconst 2, 1)) ∧ (decode cL_shelfTell 21 = .ok (.ireturn, 1)) ∧ (decode cL_shelfTell 22 = .ok (.iconst 0, 1)) ∧ (decode cL_shelfTell 23 = .ok (.ireturn, 1)) := by decide +kernel
theorem dL_shelfTell_0 : decode cL_shelfTell 0 = .ok (.aload_n 3, 1) := eL_shelfTell_0.1
theorem dL_shelfTell_1 : decode cL_shelfTell 1 = .ok (.aload_n 0, 1) := eL_shelfTell_0.2.1
theorem dL_shelfTell_2 : decode cL_shelfTell 2 = .ok (.iload_n 1, 1) := eL_shelfTell_0.2.2.1
theorem dL_shelfTell_3 : decode cL_shelfTell 3 = .ok (.iload_n 2, 1) := eL_shelfTell_0.2.2.2.1
theorem dL_shelfTell_4 : decode cL_shelfTell 4 = .ok (.invokevirtual 141, 3) := eL_shelfTell_0.2.2.2.2.1
theorem dL_shelfTell_7 : decode cL_shelfTell 7 = .ok (.i2l, 1) := eL_shelfTell_0.2.2.2.2.2.1
theorem dL_shelfTell_8 : decode cL_shelfTell 8 = .ok (.putfield 13, 3) := eL_shelfTell_0.2.2.2.2.2.2.1
theorem dL_shelfTell_11 : decode cL_shelfTell 11 = .ok (.goto 11, 3) := eL_shelfTell_0.2.2.2.2.2.2.2.1
theorem dL_shelfTell_14 : decode cL_shelfTell 14 = .ok (.astore 4, 2) := eL_shelfTell_0.2.2.2.2.2.2.2.2.1
theorem dL_shelfTell_16 : decode cL_shelfTell 16 = .ok (.iconst 1, 1) := eL_shelfTell_0.2.2.2.2.2.2.2.2.2.1
theorem dL_shelfTell_17 : decode cL_shelfTell 17 = .ok (.ireturn, 1) := eL_shelfTell_0.2.2.2.2.2.2.2.2.2.2.1
theorem dL_shelfTell_18 : decode cL_shelfTell 18 = .ok (.astore 4, 2) := eL_shelfTell_0.2.2.2.2.2.2.2.2.2.2.2.1
theorem dL_shelfTell_20 : decode cL_shelfTell 20 = .ok (.iconst 2, 1) := eL_shelfTell_0.2.2.2.2.2.2.2.2.2.2.2.2.1
theorem dL_shelfTell_21 : decode cL_shelfTell 21 = .ok (.ireturn, 1) := eL_shelfTell_0.2.2.2.2.2.2.2.2.2.2.2.2.2.1
theorem dL_shelfTell_22 : decode cL_shelfTell 22 = .ok (.iconst 0, 1) := eL_shelfTell_0.2.2.2.2.2.2.2.2.2.2.2.2.2.2.1
theorem dL_shelfTell_23 : decode cL_shelfTell 23 = .ok (.ireturn, 1) := eL_shelfTell_0.2.2.2.2.2.2.2.2.2.2.2.2.2.2.2
theorem eL_sameShelves_0 : (decode cL_sameShelves 0 = .ok (.aload 4, 2)) ∧ (decode cL_sameShelves 2 = .ok (.aload_n 0, 1)) ∧ (decode cL_sameShelves 3 = .ok (.iload_n 1, 1)) ∧ (decode cL_sameShelves 4 = .ok (.iload_n 2, 1)) ∧ (decode cL_sameShelves 5 = .ok (.iload_n 3, 1)) ∧ (decode cL_sameShelves 6 = .ok (.invokevirtual 144, 3)) ∧ (decode cL_sameShelves 9 = .ok (.ifCond .eq 7, 3)) ∧ (decode cL_sameShelves 12 = .ok (.lconst 1, 1)) ∧ (decode cL_sameShelves 13 = .ok (.goto 4, 3)) ∧ (decode cL_sameShelves 16 = .ok (.lconst 0, 1)) ∧ (decode cL_sameShelves 17 = .ok (.putfield 13, 3)) ∧ (decode cL_sameShelves 20 = .ok (.goto 11, 3)) ∧ (decode cL_sameShelves 23 = .ok (.astore 5, 2)) ∧ (decode cL_sameShelves 25 = .ok (.iconst 1, 1)) ∧ (decode cL_sameShelves 26 = .ok (.ireturn, 1)) ∧ (decode cL_sameShelves 27 = .ok (.astore 5, 2)) := by decide +kernel
theorem dL_sameShelves_0 : decode cL_sameShelves 0 = .ok (.aload 4, 2) := eL_sameShelves_0.1
theorem dL_sameShelves_2 : decode cL_sameShelves 2 = .ok (.aload_n 0, 1) := eL_sameShelves_0.2.1
theorem dL_sameShelves_3 : decode cL_sameShelves 3 = .ok (.iload_n 1, 1) := eL_sameShelves_0.2.2.1
theorem dL_sameShelves_4 : decode cL_sameShelves 4 = .ok (.iload_n 2, 1) := eL_sameShelves_0.2.2.2.1
theorem dL_sameShelves_5 : decode cL_sameShelves 5 = .ok (.iload_n 3, 1) := eL_sameShelves_0.2.2.2.2.1
theorem dL_sameShelves_6 : decode cL_sameShelves 6 = .ok (.invokevirtual 144, 3) := eL_sameShelves_0.2.2.2.2.2.1
theorem dL_sameShelves_9 : decode cL_sameShelves 9 = .ok (.ifCond .eq 7, 3) := eL_sameShelves_0.2.2.2.2.2.2.1
theorem dL_sameShelves_12 : decode cL_sameShelves 12 = .ok (.lconst 1, 1) := eL_sameShelves_0.2.2.2.2.2.2.2.1
theorem dL_sameShelves_13 : decode cL_sameShelves 13 = .ok (.goto 4, 3) := eL_sameShelves_0.2.2.2.2.2.2.2.2.1
theorem dL_sameShelves_16 : decode cL_sameShelves 16 = .ok (.lconst 0, 1) := eL_sameShelves_0.2.2.2.2.2.2.2.2.2.1
theorem dL_sameShelves_17 : decode cL_sameShelves 17 = .ok (.putfield 13, 3) := eL_sameShelves_0.2.2.2.2.2.2.2.2.2.2.1
theorem dL_sameShelves_20 : decode cL_sameShelves 20 = .ok (.goto 11, 3) := eL_sameShelves_0.2.2.2.2.2.2.2.2.2.2.2.1
theorem dL_sameShelves_23 : decode cL_sameShelves 23 = .ok (.astore 5, 2) := eL_sameShelves_0.2.2.2.2.2.2.2.2.2.2.2.2.1
theorem dL_sameShelves_25 : decode cL_sameShelves 25 = .ok (.iconst 1, 1) := eL_sameShelves_0.2.2.2.2.2.2.2.2.2.2.2.2.2.1
theorem dL_sameShelves_26 : decode cL_sameShelves 26 = .ok (.ireturn, 1) := eL_sameShelves_0.2.2.2.2.2.2.2.2.2.2.2.2.2.2.1
theorem dL_sameShelves_27 : decode cL_sameShelves 27 = .ok (.astore 5, 2) := eL_sameShelves_0.2.2.2.2.2.2.2.2.2.2.2.2.2.2.2
theorem eL_sameShelves_29 : (decode cL_sameShelves 29 = .ok (.iconst 2, 1)) ∧ (decode cL_sameShelves 30 = .ok (.ireturn, 1)) ∧ (decode cL_sameShelves 31 = .ok (.iconst 0, 1)) ∧ (decode cL_sameShelves 32 = .ok (.ireturn, 1)) := by decide +kernel
theorem dL_sameShelves_29 : decode cL_sameShelves 29 = .ok (.iconst 2, 1) := eL_sameShelves_29.1
theorem dL_sameShelves_30 : decode cL_sameShelves 30 = .ok (.ireturn, 1) := eL_sameShelves_29.2.1
theorem dL_sameShelves_31 : decode cL_sameShelves 31 = .ok (.iconst 0, 1) := eL_sameShelves_29.2.2.1
theorem dL_sameShelves_32 : decode cL_sameShelves 32 = .ok (.ireturn, 1) := eL_sameShelves_29.2.2.2
theorem eL_house_0 : (decode cL_house 0 = .ok (.aload_n 2, 1)) ∧ (decode cL_house 1 = .ok (.aload_n 0, 1)) ∧ (decode cL_house 2 = .ok (.iload_n 1, 1)) ∧ (decode cL_house 3 = .ok (.invokevirtual 148, 3)) ∧ (decode cL_house 6 = .ok (.i2l, 1)) ∧ (decode cL_house 7 = .ok (.putfield 13, 3)) ∧ (decode cL_house 10 = .ok (.goto 6, 3)) ∧ (decode cL_house 13 = .ok (.astore_n 3, 1)) ∧ (decode cL_house 14 = .ok (.iconst 1, 1)) ∧ (decode cL_house 15 = .ok (.ireturn, 1)) ∧ (decode cL_house 16 = .ok (.iconst 0, 1)) ∧ (decode cL_house 17 = .ok (.ireturn, 1)) := by decide +kernel
theorem dL_house_0 : decode cL_house 0 = .ok (.aload_n 2, 1) := eL_house_0.1
theorem dL_house_1 : decode cL_house 1 = .ok (.aload_n 0, 1) := eL_house_0.2.1
theorem dL_house_2 : decode cL_house 2 = .ok (.iload_n 1, 1) := eL_house_0.2.2.1
theorem dL_house_3 : decode cL_house 3 = .ok (.invokevirtual 148, 3) := eL_house_0.2.2.2.1
theorem dL_house_6 : decode cL_house 6 = .ok (.i2l, 1) := eL_house_0.2.2.2.2.1
theorem dL_house_7 : decode cL_house 7 = .ok (.putfield 13, 3) := eL_house_0.2.2.2.2.2.1
theorem dL_house_10 : decode cL_house 10 = .ok (.goto 6, 3) := eL_house_0.2.2.2.2.2.2.1
theorem dL_house_13 : decode cL_house 13 = .ok (.astore_n 3, 1) := eL_house_0.2.2.2.2.2.2.2.1
theorem dL_house_14 : decode cL_house 14 = .ok (.iconst 1, 1) := eL_house_0.2.2.2.2.2.2.2.2.1
theorem dL_house_15 : decode cL_house 15 = .ok (.ireturn, 1) := eL_house_0.2.2.2.2.2.2.2.2.2.1
theorem dL_house_16 : decode cL_house 16 = .ok (.iconst 0, 1) := eL_house_0.2.2.2.2.2.2.2.2.2.2.1
theorem dL_house_17 : decode cL_house 17 = .ok (.ireturn, 1) := eL_house_0.2.2.2.2.2.2.2.2.2.2.2

theorem fx_all : ∃ body : Nat → Nat → Jvm.ClassFile.Decoder Jvm.ClassFile.Instr, (∀ p, Jvm.ClassFile.Decoder.instr p = (Jvm.ClassFile.Reader.u1 >>= body p)) ∧ (∀ p, body p 21 = ((Jvm.ClassFile.Reader.u1 >>= fun x => Pure.pure (.iload x)) : Jvm.ClassFile.Decoder Jvm.ClassFile.Instr)) ∧ (∀ p, body p 42 = (Pure.pure (.aload_n 0) : Jvm.ClassFile.Decoder Jvm.ClassFile.Instr)) ∧ (∀ p, body p 46 = (Pure.pure .iaload : Jvm.ClassFile.Decoder Jvm.ClassFile.Instr)) ∧ (∀ p, body p 96 = (Pure.pure .iadd : Jvm.ClassFile.Decoder Jvm.ClassFile.Instr)) ∧ (∀ p, body p 4 = (Pure.pure (.iconst 1) : Jvm.ClassFile.Decoder Jvm.ClassFile.Instr)) ∧ (∀ p, body p 54 = ((Jvm.ClassFile.Reader.u1 >>= fun x => Pure.pure (.istore x)) : Jvm.ClassFile.Decoder Jvm.ClassFile.Instr)) ∧ (∀ p, body p 5 = (Pure.pure (.iconst 2) : Jvm.ClassFile.Decoder Jvm.ClassFile.Instr)) ∧ (∀ p, body p 167 = ((Jvm.ClassFile.Reader.s2 >>= fun x => Pure.pure (.goto x)) : Jvm.ClassFile.Decoder Jvm.ClassFile.Instr)) ∧ (∀ p, body p 182 = ((Jvm.ClassFile.Reader.u2 >>= fun x => Pure.pure (.invokevirtual x)) : Jvm.ClassFile.Decoder Jvm.ClassFile.Instr)) ∧ (∀ p, body p 44 = (Pure.pure (.aload_n 2) : Jvm.ClassFile.Decoder Jvm.ClassFile.Instr)) ∧ (∀ p, body p 43 = (Pure.pure (.aload_n 1) : Jvm.ClassFile.Decoder Jvm.ClassFile.Instr)) ∧ (∀ p, body p 6 = (Pure.pure (.iconst 3) : Jvm.ClassFile.Decoder Jvm.ClassFile.Instr)) ∧ (∀ p, body p 45 = (Pure.pure (.aload_n 3) : Jvm.ClassFile.Decoder Jvm.ClassFile.Instr)) ∧ (∀ p, body p 184 = ((Jvm.ClassFile.Reader.u2 >>= fun x => Pure.pure (.invokestatic x)) : Jvm.ClassFile.Decoder Jvm.ClassFile.Instr)) ∧ (∀ p, body p 3 = (Pure.pure (.iconst 0) : Jvm.ClassFile.Decoder Jvm.ClassFile.Instr)) ∧ (∀ p, body p 7 = (Pure.pure (.iconst 4) : Jvm.ClassFile.Decoder Jvm.ClassFile.Instr)) ∧ (∀ p, body p 153 = ((Jvm.ClassFile.Reader.s2 >>= fun x => Pure.pure (.ifCond .eq x)) : Jvm.ClassFile.Decoder Jvm.ClassFile.Instr)) ∧ (∀ p, body p 8 = (Pure.pure (.iconst 5) : Jvm.ClassFile.Decoder Jvm.ClassFile.Instr)) ∧ (∀ p, body p 87 = (Pure.pure .pop : Jvm.ClassFile.Decoder Jvm.ClassFile.Instr)) ∧ (∀ p, body p 187 = ((Jvm.ClassFile.Reader.u2 >>= fun x => Pure.pure (.new x)) : Jvm.ClassFile.Decoder Jvm.ClassFile.Instr)) ∧ (∀ p, body p 89 = (Pure.pure .dup : Jvm.ClassFile.Decoder Jvm.ClassFile.Instr)) ∧ (∀ p, body p 183 = ((Jvm.ClassFile.Reader.u2 >>= fun x => Pure.pure (.invokespecial x)) : Jvm.ClassFile.Decoder Jvm.ClassFile.Instr)) ∧ (∀ p, body p 172 = (Pure.pure .ireturn : Jvm.ClassFile.Decoder Jvm.ClassFile.Instr)) ∧ (∀ p, body p 88 = (Pure.pure .pop2 : Jvm.ClassFile.Decoder Jvm.ClassFile.Instr)) ∧ (∀ p, body p 76 = (Pure.pure (.astore_n 1) : Jvm.ClassFile.Decoder Jvm.ClassFile.Instr)) ∧ (∀ p, body p 77 = (Pure.pure (.astore_n 2) : Jvm.ClassFile.Decoder Jvm.ClassFile.Instr)) ∧ (∀ p, body p 78 = (Pure.pure (.astore_n 3) : Jvm.ClassFile.Decoder Jvm.ClassFile.Instr)) ∧ (∀ p, body p 190 = (Pure.pure .arraylength : Jvm.ClassFile.Decoder Jvm.ClassFile.Instr)) ∧ (∀ p, body p 100 = (Pure.pure .isub : Jvm.ClassFile.Decoder Jvm.ClassFile.Instr)) ∧ (∀ p, body p 163 = ((Jvm.ClassFile.Reader.s2 >>= fun x => Pure.pure (.if_icmp .gt x)) : Jvm.ClassFile.Decoder Jvm.ClassFile.Instr)) ∧ (∀ p, body p 126 = (Pure.pure .iand : Jvm.ClassFile.Decoder Jvm.ClassFile.Instr)) ∧ (∀ p, body p 58 = ((Jvm.ClassFile.Reader.u1 >>= fun x => Pure.pure (.astore x)) : Jvm.ClassFile.Decoder Jvm.ClassFile.Instr)) ∧ (∀ p, body p 159 = ((Jvm.ClassFile.Reader.s2 >>= fun x => Pure.pure (.if_icmp .eq x)) : Jvm.ClassFile.Decoder Jvm.ClassFile.Instr)) ∧ (∀ p, body p 154 = ((Jvm.ClassFile.Reader.s2 >>= fun x => Pure.pure (.ifCond .ne x)) : Jvm.ClassFile.Decoder Jvm.ClassFile.Instr)) ∧ (∀ p, body p 180 = ((Jvm.ClassFile.Reader.u2 >>= fun x => Pure.pure (.getfield x)) : Jvm.ClassFile.Decoder Jvm.ClassFile.Instr)) ∧ (∀ p, body p 133 = (Pure.pure .i2l : Jvm.ClassFile.Decoder Jvm.ClassFile.Instr)) ∧ (∀ p, body p 148 = (Pure.pure .lcmp : Jvm.ClassFile.Decoder Jvm.ClassFile.Instr)) :=
  ⟨_, fun _ => rfl, fun _ => rfl, fun _ => rfl, fun _ => rfl, fun _ => rfl, fun _ => rfl, fun _ => rfl, fun _ => rfl, fun _ => rfl, fun _ => rfl, fun _ => rfl, fun _ => rfl, fun _ => rfl, fun _ => rfl, fun _ => rfl, fun _ => rfl, fun _ => rfl, fun _ => rfl, fun _ => rfl, fun _ => rfl, fun _ => rfl, fun _ => rfl, fun _ => rfl, fun _ => rfl, fun _ => rfl, fun _ => rfl, fun _ => rfl, fun _ => rfl, fun _ => rfl, fun _ => rfl, fun _ => rfl, fun _ => rfl, fun _ => rfl, fun _ => rfl, fun _ => rfl, fun _ => rfl, fun _ => rfl, fun _ => rfl⟩
noncomputable def fxB : Nat → Nat → Jvm.ClassFile.Decoder Jvm.ClassFile.Instr := Classical.choose fx_all
theorem fx_s : (∀ p, Jvm.ClassFile.Decoder.instr p = (Jvm.ClassFile.Reader.u1 >>= fxB p)) ∧ (∀ p, fxB p 21 = ((Jvm.ClassFile.Reader.u1 >>= fun x => Pure.pure (.iload x)) : Jvm.ClassFile.Decoder Jvm.ClassFile.Instr)) ∧ (∀ p, fxB p 42 = (Pure.pure (.aload_n 0) : Jvm.ClassFile.Decoder Jvm.ClassFile.Instr)) ∧ (∀ p, fxB p 46 = (Pure.pure .iaload : Jvm.ClassFile.Decoder Jvm.ClassFile.Instr)) ∧ (∀ p, fxB p 96 = (Pure.pure .iadd : Jvm.ClassFile.Decoder Jvm.ClassFile.Instr)) ∧ (∀ p, fxB p 4 = (Pure.pure (.iconst 1) : Jvm.ClassFile.Decoder Jvm.ClassFile.Instr)) ∧ (∀ p, fxB p 54 = ((Jvm.ClassFile.Reader.u1 >>= fun x => Pure.pure (.istore x)) : Jvm.ClassFile.Decoder Jvm.ClassFile.Instr)) ∧ (∀ p, fxB p 5 = (Pure.pure (.iconst 2) : Jvm.ClassFile.Decoder Jvm.ClassFile.Instr)) ∧ (∀ p, fxB p 167 = ((Jvm.ClassFile.Reader.s2 >>= fun x => Pure.pure (.goto x)) : Jvm.ClassFile.Decoder Jvm.ClassFile.Instr)) ∧ (∀ p, fxB p 182 = ((Jvm.ClassFile.Reader.u2 >>= fun x => Pure.pure (.invokevirtual x)) : Jvm.ClassFile.Decoder Jvm.ClassFile.Instr)) ∧ (∀ p, fxB p 44 = (Pure.pure (.aload_n 2) : Jvm.ClassFile.Decoder Jvm.ClassFile.Instr)) ∧ (∀ p, fxB p 43 = (Pure.pure (.aload_n 1) : Jvm.ClassFile.Decoder Jvm.ClassFile.Instr)) ∧ (∀ p, fxB p 6 = (Pure.pure (.iconst 3) : Jvm.ClassFile.Decoder Jvm.ClassFile.Instr)) ∧ (∀ p, fxB p 45 = (Pure.pure (.aload_n 3) : Jvm.ClassFile.Decoder Jvm.ClassFile.Instr)) ∧ (∀ p, fxB p 184 = ((Jvm.ClassFile.Reader.u2 >>= fun x => Pure.pure (.invokestatic x)) : Jvm.ClassFile.Decoder Jvm.ClassFile.Instr)) ∧ (∀ p, fxB p 3 = (Pure.pure (.iconst 0) : Jvm.ClassFile.Decoder Jvm.ClassFile.Instr)) ∧ (∀ p, fxB p 7 = (Pure.pure (.iconst 4) : Jvm.ClassFile.Decoder Jvm.ClassFile.Instr)) ∧ (∀ p, fxB p 153 = ((Jvm.ClassFile.Reader.s2 >>= fun x => Pure.pure (.ifCond .eq x)) : Jvm.ClassFile.Decoder Jvm.ClassFile.Instr)) ∧ (∀ p, fxB p 8 = (Pure.pure (.iconst 5) : Jvm.ClassFile.Decoder Jvm.ClassFile.Instr)) ∧ (∀ p, fxB p 87 = (Pure.pure .pop : Jvm.ClassFile.Decoder Jvm.ClassFile.Instr)) ∧ (∀ p, fxB p 187 = ((Jvm.ClassFile.Reader.u2 >>= fun x => Pure.pure (.new x)) : Jvm.ClassFile.Decoder Jvm.ClassFile.Instr)) ∧ (∀ p, fxB p 89 = (Pure.pure .dup : Jvm.ClassFile.Decoder Jvm.ClassFile.Instr)) ∧ (∀ p, fxB p 183 = ((Jvm.ClassFile.Reader.u2 >>= fun x => Pure.pure (.invokespecial x)) : Jvm.ClassFile.Decoder Jvm.ClassFile.Instr)) ∧ (∀ p, fxB p 172 = (Pure.pure .ireturn : Jvm.ClassFile.Decoder Jvm.ClassFile.Instr)) ∧ (∀ p, fxB p 88 = (Pure.pure .pop2 : Jvm.ClassFile.Decoder Jvm.ClassFile.Instr)) ∧ (∀ p, fxB p 76 = (Pure.pure (.astore_n 1) : Jvm.ClassFile.Decoder Jvm.ClassFile.Instr)) ∧ (∀ p, fxB p 77 = (Pure.pure (.astore_n 2) : Jvm.ClassFile.Decoder Jvm.ClassFile.Instr)) ∧ (∀ p, fxB p 78 = (Pure.pure (.astore_n 3) : Jvm.ClassFile.Decoder Jvm.ClassFile.Instr)) ∧ (∀ p, fxB p 190 = (Pure.pure .arraylength : Jvm.ClassFile.Decoder Jvm.ClassFile.Instr)) ∧ (∀ p, fxB p 100 = (Pure.pure .isub : Jvm.ClassFile.Decoder Jvm.ClassFile.Instr)) ∧ (∀ p, fxB p 163 = ((Jvm.ClassFile.Reader.s2 >>= fun x => Pure.pure (.if_icmp .gt x)) : Jvm.ClassFile.Decoder Jvm.ClassFile.Instr)) ∧ (∀ p, fxB p 126 = (Pure.pure .iand : Jvm.ClassFile.Decoder Jvm.ClassFile.Instr)) ∧ (∀ p, fxB p 58 = ((Jvm.ClassFile.Reader.u1 >>= fun x => Pure.pure (.astore x)) : Jvm.ClassFile.Decoder Jvm.ClassFile.Instr)) ∧ (∀ p, fxB p 159 = ((Jvm.ClassFile.Reader.s2 >>= fun x => Pure.pure (.if_icmp .eq x)) : Jvm.ClassFile.Decoder Jvm.ClassFile.Instr)) ∧ (∀ p, fxB p 154 = ((Jvm.ClassFile.Reader.s2 >>= fun x => Pure.pure (.ifCond .ne x)) : Jvm.ClassFile.Decoder Jvm.ClassFile.Instr)) ∧ (∀ p, fxB p 180 = ((Jvm.ClassFile.Reader.u2 >>= fun x => Pure.pure (.getfield x)) : Jvm.ClassFile.Decoder Jvm.ClassFile.Instr)) ∧ (∀ p, fxB p 133 = (Pure.pure .i2l : Jvm.ClassFile.Decoder Jvm.ClassFile.Instr)) ∧ (∀ p, fxB p 148 = (Pure.pure .lcmp : Jvm.ClassFile.Decoder Jvm.ClassFile.Instr)) := Classical.choose_spec fx_all
def fk0 (n : Nat) : Option Jvm.ClassFile.Instr := if n = 42 then some (.aload_n 0) else if n = 46 then some .iaload else if n = 96 then some .iadd else if n = 4 then some (.iconst 1) else if n = 5 then some (.iconst 2) else if n = 44 then some (.aload_n 2) else if n = 43 then some (.aload_n 1) else if n = 6 then some (.iconst 3) else if n = 45 then some (.aload_n 3) else if n = 3 then some (.iconst 0) else if n = 7 then some (.iconst 4) else if n = 8 then some (.iconst 5) else if n = 87 then some .pop else if n = 89 then some .dup else if n = 172 then some .ireturn else if n = 88 then some .pop2 else if n = 76 then some (.astore_n 1) else if n = 77 then some (.astore_n 2) else if n = 78 then some (.astore_n 3) else if n = 190 then some .arraylength else if n = 100 then some .isub else if n = 126 then some .iand else if n = 133 then some .i2l else if n = 148 then some .lcmp else none
theorem fk0_ok {n : Nat} {I : Jvm.ClassFile.Instr} (h : fk0 n = some I) (p : Nat) : fxB p n = (Pure.pure I : Jvm.ClassFile.Decoder Jvm.ClassFile.Instr) := by
  unfold fk0 at h
  by_cases h42 : n = 42
  · rw [if_pos h42] at h; cases h; subst h42; exact fx_s.2.2.1 p
  rw [if_neg h42] at h
  by_cases h46 : n = 46
  · rw [if_pos h46] at h; cases h; subst h46; exact fx_s.2.2.2.1 p
  rw [if_neg h46] at h
  by_cases h96 : n = 96
  · rw [if_pos h96] at h; cases h; subst h96; exact fx_s.2.2.2.2.1 p
  rw [if_neg h96] at h
  by_cases h4 : n = 4
  · rw [if_pos h4] at h; cases h; subst h4; exact fx_s.2.2.2.2.2.1 p
  rw [if_neg h4] at h
  by_cases h5 : n = 5
  · rw [if_pos h5] at h; cases h; subst h5; exact fx_s.2.2.2.2.2.2.2.1 p
  rw [if_neg h5] at h
  by_cases h44 : n = 44
  · rw [if_pos h44] at h; cases h; subst h44; exact fx_s.2.2.2.2.2.2.2.2.2.2.1 p
  rw [if_neg h44] at h
  by_cases h43 : n = 43
  · rw [if_pos h43] at h; cases h; subst h43; exact fx_s.2.2.2.2.2.2.2.2.2.2.2.1 p
  rw [if_neg h43] at h
  by_cases h6 : n = 6
  · rw [if_pos h6] at h; cases h; subst h6; exact fx_s.2.2.2.2.2.2.2.2.2.2.2.2.1 p
  rw [if_neg h6] at h
  by_cases h45 : n = 45
  · rw [if_pos h45] at h; cases h; subst h45; exact fx_s.2.2.2.2.2.2.2.2.2.2.2.2.2.1 p
  rw [if_neg h45] at h
  by_cases h3 : n = 3
  · rw [if_pos h3] at h; cases h; subst h3; exact fx_s.2.2.2.2.2.2.2.2.2.2.2.2.2.2.2.1 p
  rw [if_neg h3] at h
  by_cases h7 : n = 7
  · rw [if_pos h7] at h; cases h; subst h7; exact fx_s.2.2.2.2.2.2.2.2.2.2.2.2.2.2.2.2.1 p
  rw [if_neg h7] at h
  by_cases h8 : n = 8
  · rw [if_pos h8] at h; cases h; subst h8; exact fx_s.2.2.2.2.2.2.2.2.2.2.2.2.2.2.2.2.2.2.1 p
  rw [if_neg h8] at h
  by_cases h87 : n = 87
  · rw [if_pos h87] at h; cases h; subst h87; exact fx_s.2.2.2.2.2.2.2.2.2.2.2.2.2.2.2.2.2.2.2.1 p
  rw [if_neg h87] at h
  by_cases h89 : n = 89
  · rw [if_pos h89] at h; cases h; subst h89; exact fx_s.2.2.2.2.2.2.2.2.2.2.2.2.2.2.2.2.2.2.2.2.2.1 p
  rw [if_neg h89] at h
  by_cases h172 : n = 172
  · rw [if_pos h172] at h; cases h; subst h172; exact fx_s.2.2.2.2.2.2.2.2.2.2.2.2.2.2.2.2.2.2.2.2.2.2.2.1 p
  rw [if_neg h172] at h
  by_cases h88 : n = 88
  · rw [if_pos h88] at h; cases h; subst h88; exact fx_s.2.2.2.2.2.2.2.2.2.2.2.2.2.2.2.2.2.2.2.2.2.2.2.2.1 p
  rw [if_neg h88] at h
  by_cases h76 : n = 76
  · rw [if_pos h76] at h; cases h; subst h76; exact fx_s.2.2.2.2.2.2.2.2.2.2.2.2.2.2.2.2.2.2.2.2.2.2.2.2.2.1 p
  rw [if_neg h76] at h
  by_cases h77 : n = 77
  · rw [if_pos h77] at h; cases h; subst h77; exact fx_s.2.2.2.2.2.2.2.2.2.2.2.2.2.2.2.2.2.2.2.2.2.2.2.2.2.2.1 p
  rw [if_neg h77] at h
  by_cases h78 : n = 78
  · rw [if_pos h78] at h; cases h; subst h78; exact fx_s.2.2.2.2.2.2.2.2.2.2.2.2.2.2.2.2.2.2.2.2.2.2.2.2.2.2.2.1 p
  rw [if_neg h78] at h
  by_cases h190 : n = 190
  · rw [if_pos h190] at h; cases h; subst h190; exact fx_s.2.2.2.2.2.2.2.2.2.2.2.2.2.2.2.2.2.2.2.2.2.2.2.2.2.2.2.2.1 p
  rw [if_neg h190] at h
  by_cases h100 : n = 100
  · rw [if_pos h100] at h; cases h; subst h100; exact fx_s.2.2.2.2.2.2.2.2.2.2.2.2.2.2.2.2.2.2.2.2.2.2.2.2.2.2.2.2.2.1 p
  rw [if_neg h100] at h
  by_cases h126 : n = 126
  · rw [if_pos h126] at h; cases h; subst h126; exact fx_s.2.2.2.2.2.2.2.2.2.2.2.2.2.2.2.2.2.2.2.2.2.2.2.2.2.2.2.2.2.2.2.1 p
  rw [if_neg h126] at h
  by_cases h133 : n = 133
  · rw [if_pos h133] at h; cases h; subst h133; exact fx_s.2.2.2.2.2.2.2.2.2.2.2.2.2.2.2.2.2.2.2.2.2.2.2.2.2.2.2.2.2.2.2.2.2.2.2.2.1 p
  rw [if_neg h133] at h
  by_cases h148 : n = 148
  · rw [if_pos h148] at h; cases h; subst h148; exact fx_s.2.2.2.2.2.2.2.2.2.2.2.2.2.2.2.2.2.2.2.2.2.2.2.2.2.2.2.2.2.2.2.2.2.2.2.2.2 p
  rw [if_neg h148] at h
  cases h
def fk1 (n : Nat) : Option (Nat → Jvm.ClassFile.Instr) := if n = 21 then some (fun x => .iload x) else if n = 54 then some (fun x => .istore x) else if n = 58 then some (fun x => .astore x) else none
theorem fk1_ok {n : Nat} {f : (Nat → Jvm.ClassFile.Instr)} (h : fk1 n = some f) (p : Nat) : fxB p n = ((Jvm.ClassFile.Reader.u1 >>= fun x => Pure.pure (f x)) : Jvm.ClassFile.Decoder Jvm.ClassFile.Instr) := by
  unfold fk1 at h
  by_cases h21 : n = 21
  · rw [if_pos h21] at h; cases h; subst h21; exact fx_s.2.1 p
  rw [if_neg h21] at h
  by_cases h54 : n = 54
  · rw [if_pos h54] at h; cases h; subst h54; exact fx_s.2.2.2.2.2.2.1 p
  rw [if_neg h54] at h
  by_cases h58 : n = 58
  · rw [if_pos h58] at h; cases h; subst h58; exact fx_s.2.2.2.2.2.2.2.2.2.2.2.2.2.2.2.2.2.2.2.2.2.2.2.2.2.2.2.2.2.2.2.2.1 p
  rw [if_neg h58] at h
  cases h
def fk2 (n : Nat) : Option (Nat → Jvm.ClassFile.Instr) := if n = 182 then some (fun x => .invokevirtual x) else if n = 184 then some (fun x => .invokestatic x) else if n = 187 then some (fun x => .new x) else if n = 183 then some (fun x => .invokespecial x) else if n = 180 then some (fun x => .getfield x) else none
theorem fk2_ok {n : Nat} {f : (Nat → Jvm.ClassFile.Instr)} (h : fk2 n = some f) (p : Nat) : fxB p n = ((Jvm.ClassFile.Reader.u2 >>= fun x => Pure.pure (f x)) : Jvm.ClassFile.Decoder Jvm.ClassFile.Instr) := by
  unfold fk2 at h
  by_cases h182 : n = 182
  · rw [if_pos h182] at h; cases h; subst h182; exact fx_s.2.2.2.2.2.2.2.2.2.1 p
  rw [if_neg h182] at h
  by_cases h184 : n = 184
  · rw [if_pos h184] at h; cases h; subst h184; exact fx_s.2.2.2.2.2.2.2.2.2.2.2.2.2.2.1 p
  rw [if_neg h184] at h
  by_cases h187 : n = 187
  · rw [if_pos h187] at h; cases h; subst h187; exact fx_s.2.2.2.2.2.2.2.2.2.2.2.2.2.2.2.2.2.2.2.2.1 p
  rw [if_neg h187] at h
  by_cases h183 : n = 183
  · rw [if_pos h183] at h; cases h; subst h183; exact fx_s.2.2.2.2.2.2.2.2.2.2.2.2.2.2.2.2.2.2.2.2.2.2.1 p
  rw [if_neg h183] at h
  by_cases h180 : n = 180
  · rw [if_pos h180] at h; cases h; subst h180; exact fx_s.2.2.2.2.2.2.2.2.2.2.2.2.2.2.2.2.2.2.2.2.2.2.2.2.2.2.2.2.2.2.2.2.2.2.2.1 p
  rw [if_neg h180] at h
  cases h
def fk3 (n : Nat) : Option (Int → Jvm.ClassFile.Instr) := if n = 167 then some (fun x => .goto x) else if n = 153 then some (fun x => .ifCond .eq x) else if n = 163 then some (fun x => .if_icmp .gt x) else if n = 159 then some (fun x => .if_icmp .eq x) else if n = 154 then some (fun x => .ifCond .ne x) else none
theorem fk3_ok {n : Nat} {f : (Int → Jvm.ClassFile.Instr)} (h : fk3 n = some f) (p : Nat) : fxB p n = ((Jvm.ClassFile.Reader.s2 >>= fun x => Pure.pure (f x)) : Jvm.ClassFile.Decoder Jvm.ClassFile.Instr) := by
  unfold fk3 at h
  by_cases h167 : n = 167
  · rw [if_pos h167] at h; cases h; subst h167; exact fx_s.2.2.2.2.2.2.2.2.1 p
  rw [if_neg h167] at h
  by_cases h153 : n = 153
  · rw [if_pos h153] at h; cases h; subst h153; exact fx_s.2.2.2.2.2.2.2.2.2.2.2.2.2.2.2.2.2.1 p
  rw [if_neg h153] at h
  by_cases h163 : n = 163
  · rw [if_pos h163] at h; cases h; subst h163; exact fx_s.2.2.2.2.2.2.2.2.2.2.2.2.2.2.2.2.2.2.2.2.2.2.2.2.2.2.2.2.2.2.1 p
  rw [if_neg h163] at h
  by_cases h159 : n = 159
  · rw [if_pos h159] at h; cases h; subst h159; exact fx_s.2.2.2.2.2.2.2.2.2.2.2.2.2.2.2.2.2.2.2.2.2.2.2.2.2.2.2.2.2.2.2.2.2.1 p
  rw [if_neg h159] at h
  by_cases h154 : n = 154
  · rw [if_pos h154] at h; cases h; subst h154; exact fx_s.2.2.2.2.2.2.2.2.2.2.2.2.2.2.2.2.2.2.2.2.2.2.2.2.2.2.2.2.2.2.2.2.2.2.1 p
  rw [if_neg h154] at h
  cases h
def fdec (b0 b1 b2 : Nat) : Option (Jvm.ClassFile.Instr × Nat) :=
  match fk0 b0 with
  | some I => some (I, 1)
  | none => match fk1 b0 with
    | some f => some (f b1, 2)
    | none => match fk2 b0 with
      | some f => some (f (b1 * 256 + b2), 3)
      | none => match fk3 b0 with
        | some f => some (f (Jvm.ClassFile.Reader.signed 16 (b1 * 256 + b2)), 3)
        | none => none
def fdecl (l : List UInt8) (i : Nat) : Option (Jvm.ClassFile.Instr × Nat) :=
  match l.drop i with
  | b0 :: b1 :: b2 :: _ => fdec b0.toNat b1.toNat b2.toNat
  | _ => none
theorem fx_bind {α β : Type} (r : Jvm.ClassFile.Decoder α) (f : α → Jvm.ClassFile.Decoder β) (c : ByteArray) (p : Nat) (a : α) (q : Nat) (h : Jvm.ClassFile.Reader.runAt r c p = .ok (a, q)) : Jvm.ClassFile.Reader.runAt (r >>= f) c p = Jvm.ClassFile.Reader.runAt (f a) c q := by
  first
  | (have e : Jvm.ClassFile.Reader.runAt (r >>= f) c p = Except.bind (Jvm.ClassFile.Reader.runAt r c p) (fun x => Jvm.ClassFile.Reader.runAt (f x.1) c x.2) := rfl
     rw [e, h]; rfl)
  | (unfold Jvm.ClassFile.Reader.runAt at *
     simp only [ReaderT.run_bind, StateT.run_bind]
     rw [h]; rfl)
theorem fx_u1 {c : ByteArray} {p : Nat} {b : UInt8} (h : c.data.toList[p]? = some b) : Jvm.ClassFile.Reader.runAt (Jvm.ClassFile.Reader.u1 : Jvm.ClassFile.Decoder Nat) c p = .ok (b.toNat, p + 1) := by
  obtain ⟨hl, hv⟩ := List.getElem?_eq_some_iff.mp h
  have hs : p < c.size := hl
  have e : Jvm.ClassFile.Reader.runAt (Jvm.ClassFile.Reader.u1 : Jvm.ClassFile.Decoder Nat) c p = Jvm.ClassFile.Reader.runAt (dite (p < c.size) (fun h => ((set (p + 1) : Jvm.ClassFile.Decoder PUnit) >>= fun _ => Pure.pure (c[p]'h).toNat)) (fun _ => throw (Jvm.ClassFile.HasTruncated.truncated p)) : Jvm.ClassFile.Decoder Nat) c p := rfl
  rw [e, dif_pos hs, ← hv]; rfl
theorem fx_u2 {c : ByteArray} {p : Nat} {b d : UInt8} (h : c.data.toList[p]? = some b) (h1 : c.data.toList[p + 1]? = some d) : Jvm.ClassFile.Reader.runAt (Jvm.ClassFile.Reader.u2 : Jvm.ClassFile.Decoder Nat) c p = .ok (b.toNat * 256 + d.toNat, p + 2) := by
  have e : (Jvm.ClassFile.Reader.u2 : Jvm.ClassFile.Decoder Nat) = ((Jvm.ClassFile.Reader.u1 >>= fun hi => Jvm.ClassFile.Reader.u1 >>= fun lo => Pure.pure (hi * 256 + lo)) : Jvm.ClassFile.Decoder Nat) := rfl
  rw [e, fx_bind _ _ _ _ _ _ (fx_u1 h), fx_bind _ _ _ _ _ _ (fx_u1 h1)]; rfl
theorem fx_s2 {c : ByteArray} {p : Nat} {b d : UInt8} (h : c.data.toList[p]? = some b) (h1 : c.data.toList[p + 1]? = some d) : Jvm.ClassFile.Reader.runAt (Jvm.ClassFile.Reader.s2 : Jvm.ClassFile.Decoder Int) c p = .ok (Jvm.ClassFile.Reader.signed 16 (b.toNat * 256 + d.toNat), p + 2) := by
  have e : Jvm.ClassFile.Reader.runAt (Jvm.ClassFile.Reader.s2 : Jvm.ClassFile.Decoder Int) c p = Except.bind (Jvm.ClassFile.Reader.runAt (Jvm.ClassFile.Reader.u2 : Jvm.ClassFile.Decoder Nat) c p) (fun x => .ok (Jvm.ClassFile.Reader.signed 16 x.1, x.2)) := rfl
  rw [e, fx_u2 h h1]; rfl
theorem fx_dec {c : ByteArray} {p q : Nat} {I : Jvm.ClassFile.Instr} (h : Jvm.ClassFile.Reader.runAt (Jvm.ClassFile.Decoder.instr p) c p = .ok (I, q)) : decode c p = .ok (I, q - p) := by
  unfold Jvm.ClassFile.decode; rw [h]; rfl
theorem fx_k0 {c : ByteArray} {p : Nat} {b : UInt8} {I : Jvm.ClassFile.Instr} (h : c.data.toList[p]? = some b) (hb : fxB p b.toNat = (Pure.pure I : Jvm.ClassFile.Decoder (Jvm.ClassFile.Instr))) : decode c p = .ok (I, 1) := by
  have e : Jvm.ClassFile.Reader.runAt (Jvm.ClassFile.Decoder.instr p) c p = .ok (I, p + 1) := by rw [fx_s.1 p, fx_bind _ _ _ _ _ _ (fx_u1 h), hb]; rfl
  have e2 := fx_dec e
  rw [show p + 1 - p = 1 by omega] at e2
  exact e2
theorem fx_k1 {c : ByteArray} {p : Nat} {b b1 : UInt8} {f : Nat → Jvm.ClassFile.Instr} (h : c.data.toList[p]? = some b) (h1 : c.data.toList[p + 1]? = some b1) (hb : fxB p b.toNat = ((Jvm.ClassFile.Reader.u1 >>= fun x => Pure.pure (f x)) : Jvm.ClassFile.Decoder (Jvm.ClassFile.Instr))) : decode c p = .ok (f b1.toNat, 2) := by
  have e : Jvm.ClassFile.Reader.runAt (Jvm.ClassFile.Decoder.instr p) c p = .ok (f b1.toNat, p + 1 + 1) := by rw [fx_s.1 p, fx_bind _ _ _ _ _ _ (fx_u1 h), hb, fx_bind _ _ _ _ _ _ (fx_u1 h1)]; rfl
  have e2 := fx_dec e
  rw [show p + 1 + 1 - p = 2 by omega] at e2
  exact e2
theorem fx_k2 {c : ByteArray} {p : Nat} {b b1 b2 : UInt8} {f : Nat → Jvm.ClassFile.Instr} (h : c.data.toList[p]? = some b) (h1 : c.data.toList[p + 1]? = some b1) (h2 : c.data.toList[p + 1 + 1]? = some b2) (hb : fxB p b.toNat = ((Jvm.ClassFile.Reader.u2 >>= fun x => Pure.pure (f x)) : Jvm.ClassFile.Decoder (Jvm.ClassFile.Instr))) : decode c p = .ok (f (b1.toNat * 256 + b2.toNat), 3) := by
  have e : Jvm.ClassFile.Reader.runAt (Jvm.ClassFile.Decoder.instr p) c p = .ok (f (b1.toNat * 256 + b2.toNat), p + 1 + 2) := by rw [fx_s.1 p, fx_bind _ _ _ _ _ _ (fx_u1 h), hb, fx_bind _ _ _ _ _ _ (fx_u2 h1 h2)]; rfl
  have e2 := fx_dec e
  rw [show p + 1 + 2 - p = 3 by omega] at e2
  exact e2
theorem fx_k3 {c : ByteArray} {p : Nat} {b b1 b2 : UInt8} {f : Int → Jvm.ClassFile.Instr} (h : c.data.toList[p]? = some b) (h1 : c.data.toList[p + 1]? = some b1) (h2 : c.data.toList[p + 1 + 1]? = some b2) (hb : fxB p b.toNat = ((Jvm.ClassFile.Reader.s2 >>= fun x => Pure.pure (f x)) : Jvm.ClassFile.Decoder (Jvm.ClassFile.Instr))) : decode c p = .ok (f (Jvm.ClassFile.Reader.signed 16 (b1.toNat * 256 + b2.toNat)), 3) := by
  have e : Jvm.ClassFile.Reader.runAt (Jvm.ClassFile.Decoder.instr p) c p = .ok (f (Jvm.ClassFile.Reader.signed 16 (b1.toNat * 256 + b2.toNat)), p + 1 + 2) := by rw [fx_s.1 p, fx_bind _ _ _ _ _ _ (fx_u1 h), hb, fx_bind _ _ _ _ _ _ (fx_s2 h1 h2)]; rfl
  have e2 := fx_dec e
  rw [show p + 1 + 2 - p = 3 by omega] at e2
  exact e2
theorem fx_ok {c : ByteArray} {d i : Nat} {T : List UInt8} {r : Jvm.ClassFile.Instr × Nat} (h : c.data.toList.drop d = T) (e : fdecl T i = some r) : decode c (d + i) = .ok r := by
  have g : ∀ (b0 b1 b2 : UInt8) (t : List UInt8), T.drop i = b0 :: b1 :: b2 :: t → fdec b0.toNat b1.toNat b2.toNat = some r → decode c (d + i) = .ok r := by
    intro b0 b1 b2 t hT e
    have hD : c.data.toList.drop (d + i) = b0 :: b1 :: b2 :: t := by rw [← List.drop_drop, h, hT]
    have g : ∀ j : Nat, c.data.toList[d + i + j]? = (b0 :: b1 :: b2 :: t)[j]? := fun j => by rw [← hD, List.getElem?_drop]
    have g0 : c.data.toList[d + i]? = some b0 := g 0
    have g1 : c.data.toList[d + i + 1]? = some b1 := g 1
    have g2 : c.data.toList[d + i + 1 + 1]? = some b2 := g 2
    unfold fdec at e
    cases h0 : fk0 b0.toNat with
    | some I => rw [h0] at e; have e' : some (I, 1) = some r := e; cases e'; exact fx_k0 g0 (fk0_ok h0 _)
    | none =>
      rw [h0] at e
      cases h1 : fk1 b0.toNat with
      | some f => rw [h1] at e; have e' : some (f b1.toNat, 2) = some r := e; cases e'; exact fx_k1 g0 g1 (fk1_ok h1 _)
      | none =>
        rw [h1] at e
        cases h2 : fk2 b0.toNat with
        | some f => rw [h2] at e; have e' : some (f (b1.toNat * 256 + b2.toNat), 3) = some r := e; cases e'; exact fx_k2 g0 g1 g2 (fk2_ok h2 _)
        | none =>
          rw [h2] at e
          cases h3 : fk3 b0.toNat with
          | some f => rw [h3] at e; have e' : some (f (Jvm.ClassFile.Reader.signed 16 (b1.toNat * 256 + b2.toNat)), 3) = some r := e; cases e'; exact fx_k3 g0 g1 g2 (fk3_ok h3 _)
          | none => rw [h3] at e; have e' : (none : Option (Jvm.ClassFile.Instr × Nat)) = some r := e; cases e'
  unfold fdecl at e
  cases hT : T.drop i with
  | nil => rw [hT] at e; have e' : (none : Option (Jvm.ClassFile.Instr × Nat)) = some r := e; cases e'
  | cons b0 t0 =>
    cases t0 with
    | nil => rw [hT] at e; have e' : (none : Option (Jvm.ClassFile.Instr × Nat)) = some r := e; cases e'
    | cons b1 t1 =>
      cases t1 with
      | nil => rw [hT] at e; have e' : (none : Option (Jvm.ClassFile.Instr × Nat)) = some r := e; cases e'
      | cons b2 t => rw [hT] at e; exact g b0 b1 b2 t hT e
theorem fx_nx {l a t : List UInt8} {d n : Nat} (h : l.drop d = a ++ t) (ha : a.length = n) : l.drop (d + n) = t := by
  rw [← List.drop_drop, h, ← ha, List.drop_left]
def fA_0 : List UInt8 := [187, 0, 8, 89, 183, 0, 151, 76, 187, 0, 152, 89, 183, 0, 154, 77, 187, 0, 14, 89, 183, 0, 155, 78, 3, 54, 4, 21, 4, 42, 190, 16, 7, 100, 163, 8, 244, 42, 21, 4, 46, 16, 63, 126, 170, 0, 0, 0, 0, 0, 8, 228, 0, 0, 0, 0, 0, 0, 0, 42, 0, 0, 0, 188]
def fA_1 : List UInt8 := [0, 0, 0, 228, 0, 0, 1, 24, 0, 0, 1, 76, 0, 0, 1, 152, 0, 0, 1, 192, 0, 0, 2, 4, 0, 0, 2, 68, 0, 0, 2, 132, 0, 0, 2, 172, 0, 0, 2, 212, 0, 0, 3, 24, 0, 0, 3, 104, 0, 0, 3, 188, 0, 0, 4, 0, 0, 0, 4, 40, 0, 0, 4, 68]
def fA_2 : List UInt8 := [0, 0, 4, 108, 0, 0, 4, 198, 0, 0, 5, 6, 0, 0, 5, 58, 0, 0, 5, 110, 0, 0, 5, 150, 0, 0, 5, 190, 0, 0, 5, 242, 0, 0, 6, 26, 0, 0, 6, 54, 0, 0, 6, 67, 0, 0, 6, 124, 0, 0, 6, 137, 0, 0, 6, 177, 0, 0, 6, 229, 0, 0, 7, 13]
def fA_3 : List UInt8 := [0, 0, 7, 105, 0, 0, 7, 157, 0, 0, 7, 197, 0, 0, 8, 17, 0, 0, 8, 69, 0, 0, 8, 109, 0, 0, 8, 161, 0, 0, 8, 189, 0, 0, 8, 202, 0, 0, 8, 215, 43, 42, 21, 4, 4, 96, 46, 42, 21, 4, 5, 96, 46, 45, 184, 0, 156, 54, 5, 44, 42, 21, 4, 4]
def fA_4 : List UInt8 := [96, 46, 42, 21, 4, 5, 96, 46, 182, 0, 161, 54, 6, 167, 8, 3, 43, 42, 21, 4, 4, 96, 46, 42, 21, 4, 5, 96, 46, 42, 21, 4, 6, 96, 46, 45, 184, 0, 162, 54, 5, 44, 42, 21, 4, 4, 96, 46, 42, 21, 4, 5, 96, 46, 42, 21, 4, 6, 96, 46, 182, 0, 165, 54]
def fA_5 : List UInt8 := [6, 167, 7, 207, 43, 42, 21, 4, 4, 96, 46, 42, 21, 4, 5, 96, 46, 42, 21, 4, 6, 96, 46, 45, 184, 0, 166, 54, 5, 44, 42, 21, 4, 4, 96, 46, 42, 21, 4, 5, 96, 46, 42, 21, 4, 6, 96, 46, 182, 0, 168, 54, 6, 167, 7, 155, 43, 42, 21, 4, 4, 96, 46, 42]
def fA_6 : List UInt8 := [21, 4, 5, 96, 46, 42, 21, 4, 6, 96, 46, 42, 21, 4, 7, 96, 46, 42, 21, 4, 8, 96, 46, 45, 184, 0, 169, 54, 5, 44, 42, 21, 4, 4, 96, 46, 42, 21, 4, 5, 96, 46, 42, 21, 4, 6, 96, 46, 42, 21, 4, 7, 96, 46, 42, 21, 4, 8, 96, 46, 182, 0, 172, 54]
def fA_7 : List UInt8 := [6, 167, 7, 79, 43, 42, 21, 4, 4, 96, 46, 42, 21, 4, 5, 96, 46, 45, 184, 0, 173, 54, 5, 44, 42, 21, 4, 4, 96, 46, 42, 21, 4, 5, 96, 46, 182, 0, 175, 54, 6, 167, 7, 39, 43, 42, 21, 4, 4, 96, 46, 42, 21, 4, 5, 96, 46, 42, 21, 4, 6, 96, 46, 153]
def fA_8 : List UInt8 := [0, 7, 4, 167, 0, 4, 3, 45, 184, 0, 176, 54, 5, 44, 42, 21, 4, 4, 96, 46, 42, 21, 4, 5, 96, 46, 42, 21, 4, 6, 96, 46, 153, 0, 7, 4, 167, 0, 4, 3, 182, 0, 179, 54, 6, 167, 6, 227, 43, 42, 21, 4, 4, 96, 46, 42, 21, 4, 5, 96, 46, 42, 21, 4]
def fA_9 : List UInt8 := [6, 96, 46, 42, 21, 4, 7, 96, 46, 45, 184, 0, 180, 54, 5, 44, 42, 21, 4, 4, 96, 46, 42, 21, 4, 5, 96, 46, 42, 21, 4, 6, 96, 46, 42, 21, 4, 7, 96, 46, 182, 0, 183, 54, 6, 167, 6, 163, 43, 42, 21, 4, 4, 96, 46, 42, 21, 4, 5, 96, 46, 42, 21, 4]
def fA_10 : List UInt8 := [6, 96, 46, 42, 21, 4, 7, 96, 46, 45, 184, 0, 184, 54, 5, 44, 42, 21, 4, 4, 96, 46, 42, 21, 4, 5, 96, 46, 42, 21, 4, 6, 96, 46, 42, 21, 4, 7, 96, 46, 182, 0, 186, 54, 6, 167, 6, 99, 43, 42, 21, 4, 4, 96, 46, 42, 21, 4, 5, 96, 46, 45, 184, 0]
def fA_11 : List UInt8 := [187, 54, 5, 44, 42, 21, 4, 4, 96, 46, 42, 21, 4, 5, 96, 46, 182, 0, 189, 54, 6, 167, 6, 59, 43, 42, 21, 4, 4, 96, 46, 42, 21, 4, 5, 96, 46, 45, 184, 0, 190, 54, 5, 44, 42, 21, 4, 4, 96, 46, 42, 21, 4, 5, 96, 46, 182, 0, 192, 54, 6, 167, 6, 19]
def fA_12 : List UInt8 := [43, 42, 21, 4, 4, 96, 46, 42, 21, 4, 5, 96, 46, 153, 0, 7, 4, 167, 0, 4, 3, 42, 21, 4, 6, 96, 46, 45, 184, 0, 193, 54, 5, 44, 42, 21, 4, 4, 96, 46, 42, 21, 4, 5, 96, 46, 153, 0, 7, 4, 167, 0, 4, 3, 42, 21, 4, 6, 96, 46, 182, 0, 196, 54]
def fA_13 : List UInt8 := [6, 167, 5, 207, 43, 42, 21, 4, 4, 96, 46, 42, 21, 4, 5, 96, 46, 42, 21, 4, 6, 96, 46, 42, 21, 4, 7, 96, 46, 153, 0, 7, 4, 167, 0, 4, 3, 45, 184, 0, 197, 54, 5, 44, 42, 21, 4, 4, 96, 46, 42, 21, 4, 5, 96, 46, 42, 21, 4, 6, 96, 46, 42, 21]
def fA_14 : List UInt8 := [4, 7, 96, 46, 153, 0, 7, 4, 167, 0, 4, 3, 182, 0, 200, 54, 6, 167, 5, 127, 43, 42, 21, 4, 4, 96, 46, 42, 21, 4, 5, 96, 46, 153, 0, 7, 4, 167, 0, 4, 3, 42, 21, 4, 6, 96, 46, 153, 0, 7, 4, 167, 0, 4, 3, 45, 184, 0, 201, 54, 5, 44, 42, 21]
def fA_15 : List UInt8 := [4, 4, 96, 46, 42, 21, 4, 5, 96, 46, 153, 0, 7, 4, 167, 0, 4, 3, 42, 21, 4, 6, 96, 46, 153, 0, 7, 4, 167, 0, 4, 3, 182, 0, 204, 54, 6, 167, 5, 43, 43, 42, 21, 4, 4, 96, 46, 42, 21, 4, 5, 96, 46, 42, 21, 4, 6, 96, 46, 153, 0, 7, 4, 167]
def fA_16 : List UInt8 := [0, 4, 3, 45, 184, 0, 205, 54, 5, 44, 42, 21, 4, 4, 96, 46, 42, 21, 4, 5, 96, 46, 42, 21, 4, 6, 96, 46, 153, 0, 7, 4, 167, 0, 4, 3, 182, 0, 207, 54, 6, 167, 4, 231, 43, 42, 21, 4, 4, 96, 46, 42, 21, 4, 5, 96, 46, 45, 184, 0, 208, 54, 5, 44]
def fA_17 : List UInt8 := [42, 21, 4, 4, 96, 46, 42, 21, 4, 5, 96, 46, 182, 0, 210, 54, 6, 167, 4, 191, 43, 42, 21, 4, 4, 96, 46, 45, 184, 0, 211, 54, 5, 44, 42, 21, 4, 4, 96, 46, 182, 0, 214, 58, 6, 167, 4, 163, 43, 42, 21, 4, 4, 96, 46, 42, 21, 4, 5, 96, 46, 45, 184, 0]
def fA_18 : List UInt8 := [215, 54, 5, 44, 42, 21, 4, 4, 96, 46, 42, 21, 4, 5, 96, 46, 182, 0, 217, 54, 6, 167, 4, 123, 43, 42, 21, 4, 4, 96, 46, 42, 21, 4, 5, 96, 46, 42, 21, 4, 6, 96, 46, 42, 21, 4, 7, 96, 46, 42, 21, 4, 8, 96, 46, 42, 21, 4, 16, 6, 96, 46, 45, 184]
def fA_19 : List UInt8 := [0, 218, 54, 5, 44, 42, 21, 4, 4, 96, 46, 42, 21, 4, 5, 96, 46, 42, 21, 4, 6, 96, 46, 42, 21, 4, 7, 96, 46, 42, 21, 4, 8, 96, 46, 42, 21, 4, 16, 6, 96, 46, 182, 0, 221, 54, 6, 167, 4, 33, 43, 42, 21, 4, 4, 96, 46, 42, 21, 4, 5, 96, 46, 42]
def fA_20 : List UInt8 := [21, 4, 6, 96, 46, 42, 21, 4, 7, 96, 46, 45, 184, 0, 222, 54, 5, 44, 42, 21, 4, 4, 96, 46, 42, 21, 4, 5, 96, 46, 42, 21, 4, 6, 96, 46, 42, 21, 4, 7, 96, 46, 182, 0, 224, 54, 6, 167, 3, 225, 43, 42, 21, 4, 4, 96, 46, 42, 21, 4, 5, 96, 46, 42]
def fA_21 : List UInt8 := [21, 4, 6, 96, 46, 45, 184, 0, 225, 54, 5, 44, 42, 21, 4, 4, 96, 46, 42, 21, 4, 5, 96, 46, 42, 21, 4, 6, 96, 46, 182, 0, 227, 54, 6, 167, 3, 173, 43, 42, 21, 4, 4, 96, 46, 42, 21, 4, 5, 96, 46, 42, 21, 4, 6, 96, 46, 45, 184, 0, 228, 54, 5, 44]
def fA_22 : List UInt8 := [42, 21, 4, 4, 96, 46, 42, 21, 4, 5, 96, 46, 42, 21, 4, 6, 96, 46, 182, 0, 230, 54, 6, 167, 3, 121, 43, 42, 21, 4, 4, 96, 46, 42, 21, 4, 5, 96, 46, 45, 184, 0, 231, 54, 5, 44, 42, 21, 4, 4, 96, 46, 42, 21, 4, 5, 96, 46, 182, 0, 233, 54, 6, 167]
def fA_23 : List UInt8 := [3, 81, 43, 42, 21, 4, 4, 96, 46, 42, 21, 4, 5, 96, 46, 45, 184, 0, 234, 54, 5, 44, 42, 21, 4, 4, 96, 46, 42, 21, 4, 5, 96, 46, 182, 0, 236, 54, 6, 167, 3, 41, 43, 42, 21, 4, 4, 96, 46, 42, 21, 4, 5, 96, 46, 42, 21, 4, 6, 96, 46, 45, 184, 0]
def fA_24 : List UInt8 := [237, 54, 5, 44, 42, 21, 4, 4, 96, 46, 42, 21, 4, 5, 96, 46, 42, 21, 4, 6, 96, 46, 182, 0, 239, 54, 6, 167, 2, 245, 43, 42, 21, 4, 4, 96, 46, 42, 21, 4, 5, 96, 46, 45, 184, 0, 240, 54, 5, 44, 42, 21, 4, 4, 96, 46, 42, 21, 4, 5, 96, 46, 182, 0]
def fA_25 : List UInt8 := [242, 54, 6, 167, 2, 205, 43, 42, 21, 4, 4, 96, 46, 45, 184, 0, 243, 54, 5, 44, 42, 21, 4, 4, 96, 46, 182, 0, 245, 54, 6, 167, 2, 177, 43, 182, 0, 246, 87, 44, 182, 0, 250, 87, 167, 2, 164, 43, 42, 21, 4, 4, 96, 46, 45, 184, 0, 251, 54, 5, 44, 42, 21, 4]
def fA_26 : List UInt8 := [4, 96, 46, 182, 0, 253, 54, 6, 44, 182, 0, 254, 21, 5, 159, 0, 5, 3, 172, 21, 5, 154, 0, 16, 45, 180, 0, 13, 21, 6, 133, 148, 153, 0, 5, 3, 172, 167, 2, 107, 43, 182, 1, 1, 87, 44, 182, 1, 4, 87, 167, 2, 94, 43, 42, 21, 4, 4, 96, 46, 42, 21, 4, 5]
def fA_27 : List UInt8 := [96, 46, 45, 184, 1, 5, 54, 5, 44, 42, 21, 4, 4, 96, 46, 42, 21, 4, 5, 96, 46, 182, 1, 7, 54, 6, 167, 2, 54, 43, 42, 21, 4, 4, 96, 46, 42, 21, 4, 5, 96, 46, 42, 21, 4, 6, 96, 46, 45, 184, 1, 8, 54, 5, 44, 42, 21, 4, 4, 96, 46, 42, 21, 4]
def fA_28 : List UInt8 := [5, 96, 46, 42, 21, 4, 6, 96, 46, 182, 1, 10, 54, 6, 167, 2, 2, 43, 42, 21, 4, 4, 96, 46, 42, 21, 4, 5, 96, 46, 45, 184, 1, 11, 54, 5, 44, 42, 21, 4, 4, 96, 46, 42, 21, 4, 5, 96, 46, 182, 1, 13, 54, 6, 167, 1, 218, 43, 42, 21, 4, 4, 96, 46]
def fA_29 : List UInt8 := [42, 21, 4, 5, 96, 46, 42, 21, 4, 6, 96, 46, 42, 21, 4, 7, 96, 46, 42, 21, 4, 8, 96, 46, 153, 0, 7, 4, 167, 0, 4, 3, 45, 184, 1, 14, 54, 5, 44, 42, 21, 4, 4, 96, 46, 42, 21, 4, 5, 96, 46, 42, 21, 4, 6, 96, 46, 42, 21, 4, 7, 96, 46, 42]
def fA_30 : List UInt8 := [21, 4, 8, 96, 46, 153, 0, 7, 4, 167, 0, 4, 3, 182, 1, 17, 54, 6, 167, 1, 126, 43, 42, 21, 4, 4, 96, 46, 42, 21, 4, 5, 96, 46, 42, 21, 4, 6, 96, 46, 45, 184, 1, 18, 54, 5, 44, 42, 21, 4, 4, 96, 46, 42, 21, 4, 5, 96, 46, 42, 21, 4, 6, 96]
def fA_31 : List UInt8 := [46, 182, 1, 20, 54, 6, 167, 1, 74, 43, 42, 21, 4, 4, 96, 46, 42, 21, 4, 5, 96, 46, 45, 184, 1, 21, 54, 5, 44, 42, 21, 4, 4, 96, 46, 42, 21, 4, 5, 96, 46, 182, 1, 23, 54, 6, 167, 1, 34, 43, 42, 21, 4, 4, 96, 46, 42, 21, 4, 5, 96, 46, 42, 21]
def fA_32 : List UInt8 := [4, 6, 96, 46, 42, 21, 4, 7, 96, 46, 42, 21, 4, 8, 96, 46, 45, 184, 1, 24, 54, 5, 44, 42, 21, 4, 4, 96, 46, 42, 21, 4, 5, 96, 46, 42, 21, 4, 6, 96, 46, 42, 21, 4, 7, 96, 46, 42, 21, 4, 8, 96, 46, 182, 1, 26, 54, 6, 167, 0, 214, 43, 42, 21]
def fA_33 : List UInt8 := [4, 4, 96, 46, 42, 21, 4, 5, 96, 46, 42, 21, 4, 6, 96, 46, 45, 184, 1, 27, 54, 5, 44, 42, 21, 4, 4, 96, 46, 42, 21, 4, 5, 96, 46, 42, 21, 4, 6, 96, 46, 182, 1, 29, 54, 6, 167, 0, 162, 43, 42, 21, 4, 4, 96, 46, 42, 21, 4, 5, 96, 46, 45, 184]
def fA_34 : List UInt8 := [1, 30, 54, 5, 44, 42, 21, 4, 4, 96, 46, 42, 21, 4, 5, 96, 46, 182, 1, 32, 54, 6, 167, 0, 122, 43, 42, 21, 4, 4, 96, 46, 42, 21, 4, 5, 96, 46, 42, 21, 4, 6, 96, 46, 45, 184, 1, 33, 54, 5, 44, 42, 21, 4, 4, 96, 46, 42, 21, 4, 5, 96, 46, 42]
def fA_35 : List UInt8 := [21, 4, 6, 96, 46, 182, 1, 35, 54, 6, 167, 0, 70, 43, 42, 21, 4, 4, 96, 46, 45, 184, 1, 36, 54, 5, 44, 42, 21, 4, 4, 96, 46, 182, 1, 38, 54, 6, 167, 0, 42, 43, 182, 1, 39, 87, 44, 182, 1, 42, 87, 167, 0, 29, 43, 182, 1, 43, 87, 44, 182, 1, 47, 87]
def fA_36 : List UInt8 := [167, 0, 16, 43, 182, 1, 48, 88, 44, 182, 1, 52, 88, 167, 0, 3, 132, 4, 7, 167, 247, 8, 4, 172]
def fT_36 : List UInt8 := fA_36
def fT_35 : List UInt8 := fA_35 ++ fT_36
def fT_34 : List UInt8 := fA_34 ++ fT_35
def fT_33 : List UInt8 := fA_33 ++ fT_34
def fT_32 : List UInt8 := fA_32 ++ fT_33
def fT_31 : List UInt8 := fA_31 ++ fT_32
def fT_30 : List UInt8 := fA_30 ++ fT_31
def fT_29 : List UInt8 := fA_29 ++ fT_30
def fT_28 : List UInt8 := fA_28 ++ fT_29
def fT_27 : List UInt8 := fA_27 ++ fT_28
def fT_26 : List UInt8 := fA_26 ++ fT_27
def fT_25 : List UInt8 := fA_25 ++ fT_26
def fT_24 : List UInt8 := fA_24 ++ fT_25
def fT_23 : List UInt8 := fA_23 ++ fT_24
def fT_22 : List UInt8 := fA_22 ++ fT_23
def fT_21 : List UInt8 := fA_21 ++ fT_22
def fT_20 : List UInt8 := fA_20 ++ fT_21
def fT_19 : List UInt8 := fA_19 ++ fT_20
def fT_18 : List UInt8 := fA_18 ++ fT_19
def fT_17 : List UInt8 := fA_17 ++ fT_18
def fT_16 : List UInt8 := fA_16 ++ fT_17
def fT_15 : List UInt8 := fA_15 ++ fT_16
def fT_14 : List UInt8 := fA_14 ++ fT_15
def fT_13 : List UInt8 := fA_13 ++ fT_14
def fT_12 : List UInt8 := fA_12 ++ fT_13
def fT_11 : List UInt8 := fA_11 ++ fT_12
def fT_10 : List UInt8 := fA_10 ++ fT_11
def fT_9 : List UInt8 := fA_9 ++ fT_10
def fT_8 : List UInt8 := fA_8 ++ fT_9
def fT_7 : List UInt8 := fA_7 ++ fT_8
def fT_6 : List UInt8 := fA_6 ++ fT_7
def fT_5 : List UInt8 := fA_5 ++ fT_6
def fT_4 : List UInt8 := fA_4 ++ fT_5
def fT_3 : List UInt8 := fA_3 ++ fT_4
def fT_2 : List UInt8 := fA_2 ++ fT_3
def fT_1 : List UInt8 := fA_1 ++ fT_2
def fT_0 : List UInt8 := fA_0 ++ fT_1
theorem fD_0 : cL_law.data.toList.drop 0 = fT_0 := eq_of_beq (by decide +kernel)
theorem fD_1 : cL_law.data.toList.drop 64 = fT_1 := fx_nx (d := 0) (n := 64) (a := fA_0) fD_0 rfl
theorem fD_2 : cL_law.data.toList.drop 128 = fT_2 := fx_nx (d := 64) (n := 64) (a := fA_1) fD_1 rfl
theorem fD_3 : cL_law.data.toList.drop 192 = fT_3 := fx_nx (d := 128) (n := 64) (a := fA_2) fD_2 rfl
theorem fD_4 : cL_law.data.toList.drop 256 = fT_4 := fx_nx (d := 192) (n := 64) (a := fA_3) fD_3 rfl
theorem fD_5 : cL_law.data.toList.drop 320 = fT_5 := fx_nx (d := 256) (n := 64) (a := fA_4) fD_4 rfl
theorem fD_6 : cL_law.data.toList.drop 384 = fT_6 := fx_nx (d := 320) (n := 64) (a := fA_5) fD_5 rfl
theorem fD_7 : cL_law.data.toList.drop 448 = fT_7 := fx_nx (d := 384) (n := 64) (a := fA_6) fD_6 rfl
theorem fD_8 : cL_law.data.toList.drop 512 = fT_8 := fx_nx (d := 448) (n := 64) (a := fA_7) fD_7 rfl
theorem fD_9 : cL_law.data.toList.drop 576 = fT_9 := fx_nx (d := 512) (n := 64) (a := fA_8) fD_8 rfl
theorem fD_10 : cL_law.data.toList.drop 640 = fT_10 := fx_nx (d := 576) (n := 64) (a := fA_9) fD_9 rfl
theorem fD_11 : cL_law.data.toList.drop 704 = fT_11 := fx_nx (d := 640) (n := 64) (a := fA_10) fD_10 rfl
theorem fD_12 : cL_law.data.toList.drop 768 = fT_12 := fx_nx (d := 704) (n := 64) (a := fA_11) fD_11 rfl
theorem fD_13 : cL_law.data.toList.drop 832 = fT_13 := fx_nx (d := 768) (n := 64) (a := fA_12) fD_12 rfl
theorem fD_14 : cL_law.data.toList.drop 896 = fT_14 := fx_nx (d := 832) (n := 64) (a := fA_13) fD_13 rfl
theorem fD_15 : cL_law.data.toList.drop 960 = fT_15 := fx_nx (d := 896) (n := 64) (a := fA_14) fD_14 rfl
theorem fD_16 : cL_law.data.toList.drop 1024 = fT_16 := fx_nx (d := 960) (n := 64) (a := fA_15) fD_15 rfl
theorem fD_17 : cL_law.data.toList.drop 1088 = fT_17 := fx_nx (d := 1024) (n := 64) (a := fA_16) fD_16 rfl
theorem fD_18 : cL_law.data.toList.drop 1152 = fT_18 := fx_nx (d := 1088) (n := 64) (a := fA_17) fD_17 rfl
theorem fD_19 : cL_law.data.toList.drop 1216 = fT_19 := fx_nx (d := 1152) (n := 64) (a := fA_18) fD_18 rfl
theorem fD_20 : cL_law.data.toList.drop 1280 = fT_20 := fx_nx (d := 1216) (n := 64) (a := fA_19) fD_19 rfl
theorem fD_21 : cL_law.data.toList.drop 1344 = fT_21 := fx_nx (d := 1280) (n := 64) (a := fA_20) fD_20 rfl
theorem fD_22 : cL_law.data.toList.drop 1408 = fT_22 := fx_nx (d := 1344) (n := 64) (a := fA_21) fD_21 rfl
theorem fD_23 : cL_law.data.toList.drop 1472 = fT_23 := fx_nx (d := 1408) (n := 64) (a := fA_22) fD_22 rfl
theorem fD_24 : cL_law.data.toList.drop 1536 = fT_24 := fx_nx (d := 1472) (n := 64) (a := fA_23) fD_23 rfl
theorem fD_25 : cL_law.data.toList.drop 1600 = fT_25 := fx_nx (d := 1536) (n := 64) (a := fA_24) fD_24 rfl
theorem fD_26 : cL_law.data.toList.drop 1664 = fT_26 := fx_nx (d := 1600) (n := 64) (a := fA_25) fD_25 rfl
theorem fD_27 : cL_law.data.toList.drop 1728 = fT_27 := fx_nx (d := 1664) (n := 64) (a := fA_26) fD_26 rfl
theorem fD_28 : cL_law.data.toList.drop 1792 = fT_28 := fx_nx (d := 1728) (n := 64) (a := fA_27) fD_27 rfl
theorem fD_29 : cL_law.data.toList.drop 1856 = fT_29 := fx_nx (d := 1792) (n := 64) (a := fA_28) fD_28 rfl
theorem fD_30 : cL_law.data.toList.drop 1920 = fT_30 := fx_nx (d := 1856) (n := 64) (a := fA_29) fD_29 rfl
theorem fD_31 : cL_law.data.toList.drop 1984 = fT_31 := fx_nx (d := 1920) (n := 64) (a := fA_30) fD_30 rfl
theorem fD_32 : cL_law.data.toList.drop 2048 = fT_32 := fx_nx (d := 1984) (n := 64) (a := fA_31) fD_31 rfl
theorem fD_33 : cL_law.data.toList.drop 2112 = fT_33 := fx_nx (d := 2048) (n := 64) (a := fA_32) fD_32 rfl
theorem fD_34 : cL_law.data.toList.drop 2176 = fT_34 := fx_nx (d := 2112) (n := 64) (a := fA_33) fD_33 rfl
theorem fD_35 : cL_law.data.toList.drop 2240 = fT_35 := fx_nx (d := 2176) (n := 64) (a := fA_34) fD_34 rfl
theorem fD_36 : cL_law.data.toList.drop 2304 = fT_36 := fx_nx (d := 2240) (n := 64) (a := fA_35) fD_35 rfl
theorem eL_law_0 : (fdecl fT_0 0 = some (.new 8, 3)) ∧ (fdecl fT_0 3 = some (.dup, 1)) ∧ (fdecl fT_0 4 = some (.invokespecial 151, 3)) ∧ (fdecl fT_0 7 = some (.astore_n 1, 1)) ∧ (fdecl fT_0 8 = some (.new 152, 3)) ∧ (fdecl fT_0 11 = some (.dup, 1)) ∧ (fdecl fT_0 12 = some (.invokespecial 154, 3)) ∧ (fdecl fT_0 15 = some (.astore_n 2, 1)) ∧ (fdecl fT_0 16 = some (.new 14, 3)) ∧ (fdecl fT_0 19 = some (.dup, 1)) ∧ (fdecl fT_0 20 = some (.invokespecial 155, 3)) ∧ (fdecl fT_0 23 = some (.astore_n 3, 1)) ∧ (fdecl fT_0 24 = some (.iconst 0, 1)) ∧ (fdecl fT_0 25 = some (.istore 4, 2)) ∧ (fdecl fT_0 27 = some (.iload 4, 2)) ∧ (fdecl fT_0 29 = some (.aload_n 0, 1)) := by decide +kernel
theorem dL_law_0 : decode cL_law 0 = .ok (.new 8, 3) := fx_ok (d := 0) (i := 0) fD_0 eL_law_0.1
theorem dL_law_3 : decode cL_law 3 = .ok (.dup, 1) := fx_ok (d := 0) (i := 3) fD_0 eL_law_0.2.1
theorem dL_law_4 : decode cL_law 4 = .ok (.invokespecial 151, 3) := fx_ok (d := 0) (i := 4) fD_0 eL_law_0.2.2.1
theorem dL_law_7 : decode cL_law 7 = .ok (.astore_n 1, 1) := fx_ok (d := 0) (i := 7) fD_0 eL_law_0.2.2.2.1
theorem dL_law_8 : decode cL_law 8 = .ok (.new 152, 3) := fx_ok (d := 0) (i := 8) fD_0 eL_law_0.2.2.2.2.1
theorem dL_law_11 : decode cL_law 11 = .ok (.dup, 1) := fx_ok (d := 0) (i := 11) fD_0 eL_law_0.2.2.2.2.2.1
theorem dL_law_12 : decode cL_law 12 = .ok (.invokespecial 154, 3) := fx_ok (d := 0) (i := 12) fD_0 eL_law_0.2.2.2.2.2.2.1
theorem dL_law_15 : decode cL_law 15 = .ok (.astore_n 2, 1) := fx_ok (d := 0) (i := 15) fD_0 eL_law_0.2.2.2.2.2.2.2.1
theorem dL_law_16 : decode cL_law 16 = .ok (.new 14, 3) := fx_ok (d := 0) (i := 16) fD_0 eL_law_0.2.2.2.2.2.2.2.2.1
theorem dL_law_19 : decode cL_law 19 = .ok (.dup, 1) := fx_ok (d := 0) (i := 19) fD_0 eL_law_0.2.2.2.2.2.2.2.2.2.1
theorem dL_law_20 : decode cL_law 20 = .ok (.invokespecial 155, 3) := fx_ok (d := 0) (i := 20) fD_0 eL_law_0.2.2.2.2.2.2.2.2.2.2.1
theorem dL_law_23 : decode cL_law 23 = .ok (.astore_n 3, 1) := fx_ok (d := 0) (i := 23) fD_0 eL_law_0.2.2.2.2.2.2.2.2.2.2.2.1
theorem dL_law_24 : decode cL_law 24 = .ok (.iconst 0, 1) := fx_ok (d := 0) (i := 24) fD_0 eL_law_0.2.2.2.2.2.2.2.2.2.2.2.2.1
theorem dL_law_25 : decode cL_law 25 = .ok (.istore 4, 2) := fx_ok (d := 0) (i := 25) fD_0 eL_law_0.2.2.2.2.2.2.2.2.2.2.2.2.2.1
theorem dL_law_27 : decode cL_law 27 = .ok (.iload 4, 2) := fx_ok (d := 0) (i := 27) fD_0 eL_law_0.2.2.2.2.2.2.2.2.2.2.2.2.2.2.1
theorem dL_law_29 : decode cL_law 29 = .ok (.aload_n 0, 1) := fx_ok (d := 0) (i := 29) fD_0 eL_law_0.2.2.2.2.2.2.2.2.2.2.2.2.2.2.2
theorem eL_law_30 : (fdecl fT_0 30 = some (.arraylength, 1)) ∧ (fdecl fT_0 33 = some (.isub, 1)) ∧ (fdecl fT_0 34 = some (.if_icmp .gt 2292, 3)) ∧ (fdecl fT_0 37 = some (.aload_n 0, 1)) ∧ (fdecl fT_0 38 = some (.iload 4, 2)) ∧ (fdecl fT_0 40 = some (.iaload, 1)) ∧ (fdecl fT_0 43 = some (.iand, 1)) ∧ (fdecl fT_3 40 = some (.aload_n 1, 1)) ∧ (fdecl fT_3 41 = some (.aload_n 0, 1)) ∧ (fdecl fT_3 42 = some (.iload 4, 2)) ∧ (fdecl fT_3 44 = some (.iconst 1, 1)) ∧ (fdecl fT_3 45 = some (.iadd, 1)) ∧ (fdecl fT_3 46 = some (.iaload, 1)) ∧ (fdecl fT_3 47 = some (.aload_n 0, 1)) ∧ (fdecl fT_3 48 = some (.iload 4, 2)) ∧ (fdecl fT_3 50 = some (.iconst 2, 1)) := by decide +kernel
theorem dL_law_30 : decode cL_law 30 = .ok (.arraylength, 1) := fx_ok (d := 0) (i := 30) fD_0 eL_law_30.1
theorem dL_law_33 : decode cL_law 33 = .ok (.isub, 1) := fx_ok (d := 0) (i := 33) fD_0 eL_law_30.2.1
theorem dL_law_34 : decode cL_law 34 = .ok (.if_icmp .gt 2292, 3) := fx_ok (d := 0) (i := 34) fD_0 eL_law_30.2.2.1
theorem dL_law_37 : decode cL_law 37 = .ok (.aload_n 0, 1) := fx_ok (d := 0) (i := 37) fD_0 eL_law_30.2.2.2.1
theorem dL_law_38 : decode cL_law 38 = .ok (.iload 4, 2) := fx_ok (d := 0) (i := 38) fD_0 eL_law_30.2.2.2.2.1
theorem dL_law_40 : decode cL_law 40 = .ok (.iaload, 1) := fx_ok (d := 0) (i := 40) fD_0 eL_law_30.2.2.2.2.2.1
theorem dL_law_43 : decode cL_law 43 = .ok (.iand, 1) := fx_ok (d := 0) (i := 43) fD_0 eL_law_30.2.2.2.2.2.2.1
theorem dL_law_232 : decode cL_law 232 = .ok (.aload_n 1, 1) := fx_ok (d := 192) (i := 40) fD_3 eL_law_30.2.2.2.2.2.2.2.1
theorem dL_law_233 : decode cL_law 233 = .ok (.aload_n 0, 1) := fx_ok (d := 192) (i := 41) fD_3 eL_law_30.2.2.2.2.2.2.2.2.1
theorem dL_law_234 : decode cL_law 234 = .ok (.iload 4, 2) := fx_ok (d := 192) (i := 42) fD_3 eL_law_30.2.2.2.2.2.2.2.2.2.1
theorem dL_law_236 : decode cL_law 236 = .ok (.iconst 1, 1) := fx_ok (d := 192) (i := 44) fD_3 eL_law_30.2.2.2.2.2.2.2.2.2.2.1
theorem dL_law_237 : decode cL_law 237 = .ok (.iadd, 1) := fx_ok (d := 192) (i := 45) fD_3 eL_law_30.2.2.2.2.2.2.2.2.2.2.2.1
theorem dL_law_238 : decode cL_law 238 = .ok (.iaload, 1) := fx_ok (d := 192) (i := 46) fD_3 eL_law_30.2.2.2.2.2.2.2.2.2.2.2.2.1
theorem dL_law_239 : decode cL_law 239 = .ok (.aload_n 0, 1) := fx_ok (d := 192) (i := 47) fD_3 eL_law_30.2.2.2.2.2.2.2.2.2.2.2.2.2.1
theorem dL_law_240 : decode cL_law 240 = .ok (.iload 4, 2) := fx_ok (d := 192) (i := 48) fD_3 eL_law_30.2.2.2.2.2.2.2.2.2.2.2.2.2.2.1
theorem dL_law_242 : decode cL_law 242 = .ok (.iconst 2, 1) := fx_ok (d := 192) (i := 50) fD_3 eL_law_30.2.2.2.2.2.2.2.2.2.2.2.2.2.2.2
theorem eL_law_243 : (fdecl fT_3 51 = some (.iadd, 1)) ∧ (fdecl fT_3 52 = some (.iaload, 1)) ∧ (fdecl fT_3 53 = some (.aload_n 3, 1)) ∧ (fdecl fT_3 54 = some (.invokestatic 156, 3)) ∧ (fdecl fT_3 57 = some (.istore 5, 2)) ∧ (fdecl fT_3 59 = some (.aload_n 2, 1)) ∧ (fdecl fT_3 60 = some (.aload_n 0, 1)) ∧ (fdecl fT_3 61 = some (.iload 4, 2)) ∧ (fdecl fT_3 63 = some (.iconst 1, 1)) ∧ (fdecl fT_4 0 = some (.iadd, 1)) ∧ (fdecl fT_4 1 = some (.iaload, 1)) ∧ (fdecl fT_4 2 = some (.aload_n 0, 1)) ∧ (fdecl fT_4 3 = some (.iload 4, 2)) ∧ (fdecl fT_4 5 = some (.iconst 2, 1)) ∧ (fdecl fT_4 6 = some (.iadd, 1)) ∧ (fdecl fT_4 7 = some (.iaload, 1)) := by decide +kernel
theorem dL_law_243 : decode cL_law 243 = .ok (.iadd, 1) := fx_ok (d := 192) (i := 51) fD_3 eL_law_243.1
theorem dL_law_244 : decode cL_law 244 = .ok (.iaload, 1) := fx_ok (d := 192) (i := 52) fD_3 eL_law_243.2.1
theorem dL_law_245 : decode cL_law 245 = .ok (.aload_n 3, 1) := fx_ok (d := 192) (i := 53) fD_3 eL_law_243.2.2.1
theorem dL_law_246 : decode cL_law 246 = .ok (.invokestatic 156, 3) := fx_ok (d := 192) (i := 54) fD_3 eL_law_243.2.2.2.1
theorem dL_law_249 : decode cL_law 249 = .ok (.istore 5, 2) := fx_ok (d := 192) (i := 57) fD_3 eL_law_243.2.2.2.2.1
theorem dL_law_251 : decode cL_law 251 = .ok (.aload_n 2, 1) := fx_ok (d := 192) (i := 59) fD_3 eL_law_243.2.2.2.2.2.1
theorem dL_law_252 : decode cL_law 252 = .ok (.aload_n 0, 1) := fx_ok (d := 192) (i := 60) fD_3 eL_law_243.2.2.2.2.2.2.1
theorem dL_law_253 : decode cL_law 253 = .ok (.iload 4, 2) := fx_ok (d := 192) (i := 61) fD_3 eL_law_243.2.2.2.2.2.2.2.1
theorem dL_law_255 : decode cL_law 255 = .ok (.iconst 1, 1) := fx_ok (d := 192) (i := 63) fD_3 eL_law_243.2.2.2.2.2.2.2.2.1
theorem dL_law_256 : decode cL_law 256 = .ok (.iadd, 1) := fx_ok (d := 256) (i := 0) fD_4 eL_law_243.2.2.2.2.2.2.2.2.2.1
theorem dL_law_257 : decode cL_law 257 = .ok (.iaload, 1) := fx_ok (d := 256) (i := 1) fD_4 eL_law_243.2.2.2.2.2.2.2.2.2.2.1
theorem dL_law_258 : decode cL_law 258 = .ok (.aload_n 0, 1) := fx_ok (d := 256) (i := 2) fD_4 eL_law_243.2.2.2.2.2.2.2.2.2.2.2.1
theorem dL_law_259 : decode cL_law 259 = .ok (.iload 4, 2) := fx_ok (d := 256) (i := 3) fD_4 eL_law_243.2.2.2.2.2.2.2.2.2.2.2.2.1
theorem dL_law_261 : decode cL_law 261 = .ok (.iconst 2, 1) := fx_ok (d := 256) (i := 5) fD_4 eL_law_243.2.2.2.2.2.2.2.2.2.2.2.2.2.1
theorem dL_law_262 : decode cL_law 262 = .ok (.iadd, 1) := fx_ok (d := 256) (i := 6) fD_4 eL_law_243.2.2.2.2.2.2.2.2.2.2.2.2.2.2.1
theorem dL_law_263 : decode cL_law 263 = .ok (.iaload, 1) := fx_ok (d := 256) (i := 7) fD_4 eL_law_243.2.2.2.2.2.2.2.2.2.2.2.2.2.2.2
theorem eL_law_264 : (fdecl fT_4 8 = some (.invokevirtual 161, 3)) ∧ (fdecl fT_4 11 = some (.istore 6, 2)) ∧ (fdecl fT_4 13 = some (.goto 2051, 3)) ∧ (fdecl fT_4 16 = some (.aload_n 1, 1)) ∧ (fdecl fT_4 17 = some (.aload_n 0, 1)) ∧ (fdecl fT_4 18 = some (.iload 4, 2)) ∧ (fdecl fT_4 20 = some (.iconst 1, 1)) ∧ (fdecl fT_4 21 = some (.iadd, 1)) ∧ (fdecl fT_4 22 = some (.iaload, 1)) ∧ (fdecl fT_4 23 = some (.aload_n 0, 1)) ∧ (fdecl fT_4 24 = some (.iload 4, 2)) ∧ (fdecl fT_4 26 = some (.iconst 2, 1)) ∧ (fdecl fT_4 27 = some (.iadd, 1)) ∧ (fdecl fT_4 28 = some (.iaload, 1)) ∧ (fdecl fT_4 29 = some (.aload_n 0, 1)) ∧ (fdecl fT_4 30 = some (.iload 4, 2)) := by decide +kernel
theorem dL_law_264 : decode cL_law 264 = .ok (.invokevirtual 161, 3) := fx_ok (d := 256) (i := 8) fD_4 eL_law_264.1
theorem dL_law_267 : decode cL_law 267 = .ok (.istore 6, 2) := fx_ok (d := 256) (i := 11) fD_4 eL_law_264.2.1
theorem dL_law_269 : decode cL_law 269 = .ok (.goto 2051, 3) := fx_ok (d := 256) (i := 13) fD_4 eL_law_264.2.2.1
theorem dL_law_272 : decode cL_law 272 = .ok (.aload_n 1, 1) := fx_ok (d := 256) (i := 16) fD_4 eL_law_264.2.2.2.1
theorem dL_law_273 : decode cL_law 273 = .ok (.aload_n 0, 1) := fx_ok (d := 256) (i := 17) fD_4 eL_law_264.2.2.2.2.1
theorem dL_law_274 : decode cL_law 274 = .ok (.iload 4, 2) := fx_ok (d := 256) (i := 18) fD_4 eL_law_264.2.2.2.2.2.1
theorem dL_law_276 : decode cL_law 276 = .ok (.iconst 1, 1) := fx_ok (d := 256) (i := 20) fD_4 eL_law_264.2.2.2.2.2.2.1
theorem dL_law_277 : decode cL_law 277 = .ok (.iadd, 1) := fx_ok (d := 256) (i := 21) fD_4 eL_law_264.2.2.2.2.2.2.2.1
theorem dL_law_278 : decode cL_law 278 = .ok (.iaload, 1) := fx_ok (d := 256) (i := 22) fD_4 eL_law_264.2.2.2.2.2.2.2.2.1
theorem dL_law_279 : decode cL_law 279 = .ok (.aload_n 0, 1) := fx_ok (d := 256) (i := 23) fD_4 eL_law_264.2.2.2.2.2.2.2.2.2.1
theorem dL_law_280 : decode cL_law 280 = .ok (.iload 4, 2) := fx_ok (d := 256) (i := 24) fD_4 eL_law_264.2.2.2.2.2.2.2.2.2.2.1
theorem dL_law_282 : decode cL_law 282 = .ok (.iconst 2, 1) := fx_ok (d := 256) (i := 26) fD_4 eL_law_264.2.2.2.2.2.2.2.2.2.2.2.1
theorem dL_law_283 : decode cL_law 283 = .ok (.iadd, 1) := fx_ok (d := 256) (i := 27) fD_4 eL_law_264.2.2.2.2.2.2.2.2.2.2.2.2.1
theorem dL_law_284 : decode cL_law 284 = .ok (.iaload, 1) := fx_ok (d := 256) (i := 28) fD_4 eL_law_264.2.2.2.2.2.2.2.2.2.2.2.2.2.1
theorem dL_law_285 : decode cL_law 285 = .ok (.aload_n 0, 1) := fx_ok (d := 256) (i := 29) fD_4 eL_law_264.2.2.2.2.2.2.2.2.2.2.2.2.2.2.1
theorem dL_law_286 : decode cL_law 286 = .ok (.iload 4, 2) := fx_ok (d := 256) (i := 30) fD_4 eL_law_264.2.2.2.2.2.2.2.2.2.2.2.2.2.2.2
theorem eL_law_288 : (fdecl fT_4 32 = some (.iconst 3, 1)) ∧ (fdecl fT_4 33 = some (.iadd, 1)) ∧ (fdecl fT_4 34 = some (.iaload, 1)) ∧ (fdecl fT_4 35 = some (.aload_n 3, 1)) ∧ (fdecl fT_4 36 = some (.invokestatic 162, 3)) ∧ (fdecl fT_4 39 = some (.istore 5, 2)) ∧ (fdecl fT_4 41 = some (.aload_n 2, 1)) ∧ (fdecl fT_4 42 = some (.aload_n 0, 1)) ∧ (fdecl fT_4 43 = some (.iload 4, 2)) ∧ (fdecl fT_4 45 = some (.iconst 1, 1)) ∧ (fdecl fT_4 46 = some (.iadd, 1)) ∧ (fdecl fT_4 47 = some (.iaload, 1)) ∧ (fdecl fT_4 48 = some (.aload_n 0, 1)) ∧ (fdecl fT_4 49 = some (.iload 4, 2)) ∧ (fdecl fT_4 51 = some (.iconst 2, 1)) ∧ (fdecl fT_4 52 = some (.iadd, 1)) := by decide +kernel
theorem dL_law_288 : decode cL_law 288 = .ok (.iconst 3, 1) := fx_ok (d := 256) (i := 32) fD_4 eL_law_288.1
theorem dL_law_289 : decode cL_law 289 = .ok (.iadd, 1) := fx_ok (d := 256) (i := 33) fD_4 eL_law_288.2.1
theorem dL_law_290 : decode cL_law 290 = .ok (.iaload, 1) := fx_ok (d := 256) (i := 34) fD_4 eL_law_288.2.2.1
theorem dL_law_291 : decode cL_law 291 = .ok (.aload_n 3, 1) := fx_ok (d := 256) (i := 35) fD_4 eL_law_288.2.2.2.1
theorem dL_law_292 : decode cL_law 292 = .ok (.invokestatic 162, 3) := fx_ok (d := 256) (i := 36) fD_4 eL_law_288.2.2.2.2.1
theorem dL_law_295 : decode cL_law 295 = .ok (.istore 5, 2) := fx_ok (d := 256) (i := 39) fD_4 eL_law_288.2.2.2.2.2.1
theorem dL_law_297 : decode cL_law 297 = .ok (.aload_n 2, 1) := fx_ok (d := 256) (i := 41) fD_4 eL_law_288.2.2.2.2.2.2.1
theorem dL_law_298 : decode cL_law 298 = .ok (.aload_n 0, 1) := fx_ok (d := 256) (i := 42) fD_4 eL_law_288.2.2.2.2.2.2.2.1
theorem dL_law_299 : decode cL_law 299 = .ok (.iload 4, 2) := fx_ok (d := 256) (i := 43) fD_4 eL_law_288.2.2.2.2.2.2.2.2.1
theorem dL_law_301 : decode cL_law 301 = .ok (.iconst 1, 1) := fx_ok (d := 256) (i := 45) fD_4 eL_law_288.2.2.2.2.2.2.2.2.2.1
theorem dL_law_302 : decode cL_law 302 = .ok (.iadd, 1) := fx_ok (d := 256) (i := 46) fD_4 eL_law_288.2.2.2.2.2.2.2.2.2.2.1
theorem dL_law_303 : decode cL_law 303 = .ok (.iaload, 1) := fx_ok (d := 256) (i := 47) fD_4 eL_law_288.2.2.2.2.2.2.2.2.2.2.2.1
theorem dL_law_304 : decode cL_law 304 = .ok (.aload_n 0, 1) := fx_ok (d := 256) (i := 48) fD_4 eL_law_288.2.2.2.2.2.2.2.2.2.2.2.2.1
theorem dL_law_305 : decode cL_law 305 = .ok (.iload 4, 2) := fx_ok (d := 256) (i := 49) fD_4 eL_law_288.2.2.2.2.2.2.2.2.2.2.2.2.2.1
theorem dL_law_307 : decode cL_law 307 = .ok (.iconst 2, 1) := fx_ok (d := 256) (i := 51) fD_4 eL_law_288.2.2.2.2.2.2.2.2.2.2.2.2.2.2.1
theorem dL_law_308 : decode cL_law 308 = .ok (.iadd, 1) := fx_ok (d := 256) (i := 52) fD_4 eL_law_288.2.2.2.2.2.2.2.2.2.2.2.2.2.2.2
theorem eL_law_309 : (fdecl fT_4 53 = some (.iaload, 1)) ∧ (fdecl fT_4 54 = some (.aload_n 0, 1)) ∧ (fdecl fT_4 55 = some (.iload 4, 2)) ∧ (fdecl fT_4 57 = some (.iconst 3, 1)) ∧ (fdecl fT_4 58 = some (.iadd, 1)) ∧ (fdecl fT_4 59 = some (.iaload, 1)) ∧ (fdecl fT_4 60 = some (.invokevirtual 165, 3)) ∧ (fdecl fT_4 63 = some (.istore 6, 2)) ∧ (fdecl fT_5 1 = some (.goto 1999, 3)) ∧ (fdecl fT_5 4 = some (.aload_n 1, 1)) ∧ (fdecl fT_5 5 = some (.aload_n 0, 1)) ∧ (fdecl fT_5 6 = some (.iload 4, 2)) ∧ (fdecl fT_5 8 = some (.iconst 1, 1)) ∧ (fdecl fT_5 9 = some (.iadd, 1)) ∧ (fdecl fT_5 10 = some (.iaload, 1)) ∧ (fdecl fT_5 11 = some (.aload_n 0, 1)) := by decide +kernel
theorem dL_law_309 : decode cL_law 309 = .ok (.iaload, 1) := fx_ok (d := 256) (i := 53) fD_4 eL_law_309.1
theorem dL_law_310 : decode cL_law 310 = .ok (.aload_n 0, 1) := fx_ok (d := 256) (i := 54) fD_4 eL_law_309.2.1
theorem dL_law_311 : decode cL_law 311 = .ok (.iload 4, 2) := fx_ok (d := 256) (i := 55) fD_4 eL_law_309.2.2.1
theorem dL_law_313 : decode cL_law 313 = .ok (.iconst 3, 1) := fx_ok (d := 256) (i := 57) fD_4 eL_law_309.2.2.2.1
theorem dL_law_314 : decode cL_law 314 = .ok (.iadd, 1) := fx_ok (d := 256) (i := 58) fD_4 eL_law_309.2.2.2.2.1
theorem dL_law_315 : decode cL_law 315 = .ok (.iaload, 1) := fx_ok (d := 256) (i := 59) fD_4 eL_law_309.2.2.2.2.2.1
theorem dL_law_316 : decode cL_law 316 = .ok (.invokevirtual 165, 3) := fx_ok (d := 256) (i := 60) fD_4 eL_law_309.2.2.2.2.2.2.1
theorem dL_law_319 : decode cL_law 319 = .ok (.istore 6, 2) := fx_ok (d := 256) (i := 63) fD_4 eL_law_309.2.2.2.2.2.2.2.1
theorem dL_law_321 : decode cL_law 321 = .ok (.goto 1999, 3) := fx_ok (d := 320) (i := 1) fD_5 eL_law_309.2.2.2.2.2.2.2.2.1
theorem dL_law_324 : decode cL_law 324 = .ok (.aload_n 1, 1) := fx_ok (d := 320) (i := 4) fD_5 eL_law_309.2.2.2.2.2.2.2.2.2.1
theorem dL_law_325 : decode cL_law 325 = .ok (.aload_n 0, 1) := fx_ok (d := 320) (i := 5) fD_5 eL_law_309.2.2.2.2.2.2.2.2.2.2.1
theorem dL_law_326 : decode cL_law 326 = .ok (.iload 4, 2) := fx_ok (d := 320) (i := 6) fD_5 eL_law_309.2.2.2.2.2.2.2.2.2.2.2.1
theorem dL_law_328 : decode cL_law 328 = .ok (.iconst 1, 1) := fx_ok (d := 320) (i := 8) fD_5 eL_law_309.2.2.2.2.2.2.2.2.2.2.2.2.1
theorem dL_law_329 : decode cL_law 329 = .ok (.iadd, 1) := fx_ok (d := 320) (i := 9) fD_5 eL_law_309.2.2.2.2.2.2.2.2.2.2.2.2.2.1
theorem dL_law_330 : decode cL_law 330 = .ok (.iaload, 1) := fx_ok (d := 320) (i := 10) fD_5 eL_law_309.2.2.2.2.2.2.2.2.2.2.2.2.2.2.1
theorem dL_law_331 : decode cL_law 331 = .ok (.aload_n 0, 1) := fx_ok (d := 320) (i := 11) fD_5 eL_law_309.2.2.2.2.2.2.2.2.2.2.2.2.2.2.2
theorem eL_law_332 : (fdecl fT_5 12 = some (.iload 4, 2)) ∧ (fdecl fT_5 14 = some (.iconst 2, 1)) ∧ (fdecl fT_5 15 = some (.iadd, 1)) ∧ (fdecl fT_5 16 = some (.iaload, 1)) ∧ (fdecl fT_5 17 = some (.aload_n 0, 1)) ∧ (fdecl fT_5 18 = some (.iload 4, 2)) ∧ (fdecl fT_5 20 = some (.iconst 3, 1)) ∧ (fdecl fT_5 21 = some (.iadd, 1)) ∧ (fdecl fT_5 22 = some (.iaload, 1)) ∧ (fdecl fT_5 23 = some (.aload_n 3, 1)) ∧ (fdecl fT_5 24 = some (.invokestatic 166, 3)) ∧ (fdecl fT_5 27 = some (.istore 5, 2)) ∧ (fdecl fT_5 29 = some (.aload_n 2, 1)) ∧ (fdecl fT_5 30 = some (.aload_n 0, 1)) ∧ (fdecl fT_5 31 = some (.iload 4, 2)) ∧ (fdecl fT_5 33 = some (.iconst 1, 1)) := by decide +kernel
theorem dL_law_332 : decode cL_law 332 = .ok (.iload 4, 2) := fx_ok (d := 320) (i := 12) fD_5 eL_law_332.1
theorem dL_law_334 : decode cL_law 334 = .ok (.iconst 2, 1) := fx_ok (d := 320) (i := 14) fD_5 eL_law_332.2.1
theorem dL_law_335 : decode cL_law 335 = .ok (.iadd, 1) := fx_ok (d := 320) (i := 15) fD_5 eL_law_332.2.2.1
theorem dL_law_336 : decode cL_law 336 = .ok (.iaload, 1) := fx_ok (d := 320) (i := 16) fD_5 eL_law_332.2.2.2.1
theorem dL_law_337 : decode cL_law 337 = .ok (.aload_n 0, 1) := fx_ok (d := 320) (i := 17) fD_5 eL_law_332.2.2.2.2.1
theorem dL_law_338 : decode cL_law 338 = .ok (.iload 4, 2) := fx_ok (d := 320) (i := 18) fD_5 eL_law_332.2.2.2.2.2.1
theorem dL_law_340 : decode cL_law 340 = .ok (.iconst 3, 1) := fx_ok (d := 320) (i := 20) fD_5 eL_law_332.2.2.2.2.2.2.1
theorem dL_law_341 : decode cL_law 341 = .ok (.iadd, 1) := fx_ok (d := 320) (i := 21) fD_5 eL_law_332.2.2.2.2.2.2.2.1
theorem dL_law_342 : decode cL_law 342 = .ok (.iaload, 1) := fx_ok (d := 320) (i := 22) fD_5 eL_law_332.2.2.2.2.2.2.2.2.1
theorem dL_law_343 : decode cL_law 343 = .ok (.aload_n 3, 1) := fx_ok (d := 320) (i := 23) fD_5 eL_law_332.2.2.2.2.2.2.2.2.2.1
theorem dL_law_344 : decode cL_law 344 = .ok (.invokestatic 166, 3) := fx_ok (d := 320) (i := 24) fD_5 eL_law_332.2.2.2.2.2.2.2.2.2.2.1
theorem dL_law_347 : decode cL_law 347 = .ok (.istore 5, 2) := fx_ok (d := 320) (i := 27) fD_5 eL_law_332.2.2.2.2.2.2.2.2.2.2.2.1
theorem dL_law_349 : decode cL_law 349 = .ok (.aload_n 2, 1) := fx_ok (d := 320) (i := 29) fD_5 eL_law_332.2.2.2.2.2.2.2.2.2.2.2.2.1
theorem dL_law_350 : decode cL_law 350 = .ok (.aload_n 0, 1) := fx_ok (d := 320) (i := 30) fD_5 eL_law_332.2.2.2.2.2.2.2.2.2.2.2.2.2.1
theorem dL_law_351 : decode cL_law 351 = .ok (.iload 4, 2) := fx_ok (d := 320) (i := 31) fD_5 eL_law_332.2.2.2.2.2.2.2.2.2.2.2.2.2.2.1
theorem dL_law_353 : decode cL_law 353 = .ok (.iconst 1, 1) := fx_ok (d := 320) (i := 33) fD_5 eL_law_332.2.2.2.2.2.2.2.2.2.2.2.2.2.2.2
theorem eL_law_354 : (fdecl fT_5 34 = some (.iadd, 1)) ∧ (fdecl fT_5 35 = some (.iaload, 1)) ∧ (fdecl fT_5 36 = some (.aload_n 0, 1)) ∧ (fdecl fT_5 37 = some (.iload 4, 2)) ∧ (fdecl fT_5 39 = some (.iconst 2, 1)) ∧ (fdecl fT_5 40 = some (.iadd, 1)) ∧ (fdecl fT_5 41 = some (.iaload, 1)) ∧ (fdecl fT_5 42 = some (.aload_n 0, 1)) ∧ (fdecl fT_5 43 = some (.iload 4, 2)) ∧ (fdecl fT_5 45 = some (.iconst 3, 1)) ∧ (fdecl fT_5 46 = some (.iadd, 1)) ∧ (fdecl fT_5 47 = some (.iaload, 1)) ∧ (fdecl fT_5 48 = some (.invokevirtual 168, 3)) ∧ (fdecl fT_5 51 = some (.istore 6, 2)) ∧ (fdecl fT_5 53 = some (.goto 1947, 3)) ∧ (fdecl fT_5 56 = some (.aload_n 1, 1)) := by decide +kernel
theorem dL_law_354 : decode cL_law 354 = .ok (.iadd, 1) := fx_ok (d := 320) (i := 34) fD_5 eL_law_354.1
theorem dL_law_355 : decode cL_law 355 = .ok (.iaload, 1) := fx_ok (d := 320) (i := 35) fD_5 eL_law_354.2.1
theorem dL_law_356 : decode cL_law 356 = .ok (.aload_n 0, 1) := fx_ok (d := 320) (i := 36) fD_5 eL_law_354.2.2.1
theorem dL_law_357 : decode cL_law 357 = .ok (.iload 4, 2) := fx_ok (d := 320) (i := 37) fD_5 eL_law_354.2.2.2.1
theorem dL_law_359 : decode cL_law 359 = .ok (.iconst 2, 1) := fx_ok (d := 320) (i := 39) fD_5 eL_law_354.2.2.2.2.1
theorem dL_law_360 : decode cL_law 360 = .ok (.iadd, 1) := fx_ok (d := 320) (i := 40) fD_5 eL_law_354.2.2.2.2.2.1
theorem dL_law_361 : decode cL_law 361 = .ok (.iaload, 1) := fx_ok (d := 320) (i := 41) fD_5 eL_law_354.2.2.2.2.2.2.1
theorem dL_law_362 : decode cL_law 362 = .ok (.aload_n 0, 1) := fx_ok (d := 320) (i := 42) fD_5 eL_law_354.2.2.2.2.2.2.2.1
theorem dL_law_363 : decode cL_law 363 = .ok (.iload 4, 2) := fx_ok (d := 320) (i := 43) fD_5 eL_law_354.2.2.2.2.2.2.2.2.1
theorem dL_law_365 : decode cL_law 365 = .ok (.iconst 3, 1) := fx_ok (d := 320) (i := 45) fD_5 eL_law_354.2.2.2.2.2.2.2.2.2.1
theorem dL_law_366 : decode cL_law 366 = .ok (.iadd, 1) := fx_ok (d := 320) (i := 46) fD_5 eL_law_354.2.2.2.2.2.2.2.2.2.2.1
theorem dL_law_367 : decode cL_law 367 = .ok (.iaload, 1) := fx_ok (d := 320) (i := 47) fD_5 eL_law_354.2.2.2.2.2.2.2.2.2.2.2.1
theorem dL_law_368 : decode cL_law 368 = .ok (.invokevirtual 168, 3) := fx_ok (d := 320) (i := 48) fD_5 eL_law_354.2.2.2.2.2.2.2.2.2.2.2.2.1
theorem dL_law_371 : decode cL_law 371 = .ok (.istore 6, 2) := fx_ok (d := 320) (i := 51) fD_5 eL_law_354.2.2.2.2.2.2.2.2.2.2.2.2.2.1
theorem dL_law_373 : decode cL_law 373 = .ok (.goto 1947, 3) := fx_ok (d := 320) (i := 53) fD_5 eL_law_354.2.2.2.2.2.2.2.2.2.2.2.2.2.2.1
theorem dL_law_376 : decode cL_law 376 = .ok (.aload_n 1, 1) := fx_ok (d := 320) (i := 56) fD_5 eL_law_354.2.2.2.2.2.2.2.2.2.2.2.2.2.2.2
theorem eL_law_377 : (fdecl fT_5 57 = some (.aload_n 0, 1)) ∧ (fdecl fT_5 58 = some (.iload 4, 2)) ∧ (fdecl fT_5 60 = some (.iconst 1, 1)) ∧ (fdecl fT_5 61 = some (.iadd, 1)) ∧ (fdecl fT_5 62 = some (.iaload, 1)) ∧ (fdecl fT_5 63 = some (.aload_n 0, 1)) ∧ (fdecl fT_6 0 = some (.iload 4, 2)) ∧ (fdecl fT_6 2 = some (.iconst 2, 1)) ∧ (fdecl fT_6 3 = some (.iadd, 1)) ∧ (fdecl fT_6 4 = some (.iaload, 1)) ∧ (fdecl fT_6 5 = some (.aload_n 0, 1)) ∧ (fdecl fT_6 6 = some (.iload 4, 2)) ∧ (fdecl fT_6 8 = some (.iconst 3, 1)) ∧ (fdecl fT_6 9 = some (.iadd, 1)) ∧ (fdecl fT_6 10 = some (.iaload, 1)) ∧ (fdecl fT_6 11 = some (.aload_n 0, 1)) := by decide +kernel
theorem dL_law_377 : decode cL_law 377 = .ok (.aload_n 0, 1) := fx_ok (d := 320) (i := 57) fD_5 eL_law_377.1
theorem dL_law_378 : decode cL_law 378 = .ok (.iload 4, 2) := fx_ok (d := 320) (i := 58) fD_5 eL_law_377.2.1
theorem dL_law_380 : decode cL_law 380 = .ok (.iconst 1, 1) := fx_ok (d := 320) (i := 60) fD_5 eL_law_377.2.2.1
theorem dL_law_381 : decode cL_law 381 = .ok (.iadd, 1) := fx_ok (d := 320) (i := 61) fD_5 eL_law_377.2.2.2.1
theorem dL_law_382 : decode cL_law 382 = .ok (.iaload, 1) := fx_ok (d := 320) (i := 62) fD_5 eL_law_377.2.2.2.2.1
theorem dL_law_383 : decode cL_law 383 = .ok (.aload_n 0, 1) := fx_ok (d := 320) (i := 63) fD_5 eL_law_377.2.2.2.2.2.1
theorem dL_law_384 : decode cL_law 384 = .ok (.iload 4, 2) := fx_ok (d := 384) (i := 0) fD_6 eL_law_377.2.2.2.2.2.2.1
theorem dL_law_386 : decode cL_law 386 = .ok (.iconst 2, 1) := fx_ok (d := 384) (i := 2) fD_6 eL_law_377.2.2.2.2.2.2.2.1
theorem dL_law_387 : decode cL_law 387 = .ok (.iadd, 1) := fx_ok (d := 384) (i := 3) fD_6 eL_law_377.2.2.2.2.2.2.2.2.1
theorem dL_law_388 : decode cL_law 388 = .ok (.iaload, 1) := fx_ok (d := 384) (i := 4) fD_6 eL_law_377.2.2.2.2.2.2.2.2.2.1
theorem dL_law_389 : decode cL_law 389 = .ok (.aload_n 0, 1) := fx_ok (d := 384) (i := 5) fD_6 eL_law_377.2.2.2.2.2.2.2.2.2.2.1
theorem dL_law_390 : decode cL_law 390 = .ok (.iload 4, 2) := fx_ok (d := 384) (i := 6) fD_6 eL_law_377.2.2.2.2.2.2.2.2.2.2.2.1
theorem dL_law_392 : decode cL_law 392 = .ok (.iconst 3, 1) := fx_ok (d := 384) (i := 8) fD_6 eL_law_377.2.2.2.2.2.2.2.2.2.2.2.2.1
theorem dL_law_393 : decode cL_law 393 = .ok (.iadd, 1) := fx_ok (d := 384) (i := 9) fD_6 eL_law_377.2.2.2.2.2.2.2.2.2.2.2.2.2.1
theorem dL_law_394 : decode cL_law 394 = .ok (.iaload, 1) := fx_ok (d := 384) (i := 10) fD_6 eL_law_377.2.2.2.2.2.2.2.2.2.2.2.2.2.2.1
theorem dL_law_395 : decode cL_law 395 = .ok (.aload_n 0, 1) := fx_ok (d := 384) (i := 11) fD_6 eL_law_377.2.2.2.2.2.2.2.2.2.2.2.2.2.2.2
theorem eL_law_396 : (fdecl fT_6 12 = some (.iload 4, 2)) ∧ (fdecl fT_6 14 = some (.iconst 4, 1)) ∧ (fdecl fT_6 15 = some (.iadd, 1)) ∧ (fdecl fT_6 16 = some (.iaload, 1)) ∧ (fdecl fT_6 17 = some (.aload_n 0, 1)) ∧ (fdecl fT_6 18 = some (.iload 4, 2)) ∧ (fdecl fT_6 20 = some (.iconst 5, 1)) ∧ (fdecl fT_6 21 = some (.iadd, 1)) ∧ (fdecl fT_6 22 = some (.iaload, 1)) ∧ (fdecl fT_6 23 = some (.aload_n 3, 1)) ∧ (fdecl fT_6 24 = some (.invokestatic 169, 3)) ∧ (fdecl fT_6 27 = some (.istore 5, 2)) ∧ (fdecl fT_6 29 = some (.aload_n 2, 1)) ∧ (fdecl fT_6 30 = some (.aload_n 0, 1)) ∧ (fdecl fT_6 31 = some (.iload 4, 2)) ∧ (fdecl fT_6 33 = some (.iconst 1, 1)) := by decide +kernel
theorem dL_law_396 : decode cL_law 396 = .ok (.iload 4, 2) := fx_ok (d := 384) (i := 12) fD_6 eL_law_396.1
theorem dL_law_398 : decode cL_law 398 = .ok (.iconst 4, 1) := fx_ok (d := 384) (i := 14) fD_6 eL_law_396.2.1
theorem dL_law_399 : decode cL_law 399 = .ok (.iadd, 1) := fx_ok (d := 384) (i := 15) fD_6 eL_law_396.2.2.1
theorem dL_law_400 : decode cL_law 400 = .ok (.iaload, 1) := fx_ok (d := 384) (i := 16) fD_6 eL_law_396.2.2.2.1
theorem dL_law_401 : decode cL_law 401 = .ok (.aload_n 0, 1) := fx_ok (d := 384) (i := 17) fD_6 eL_law_396.2.2.2.2.1
theorem dL_law_402 : decode cL_law 402 = .ok (.iload 4, 2) := fx_ok (d := 384) (i := 18) fD_6 eL_law_396.2.2.2.2.2.1
theorem dL_law_404 : decode cL_law 404 = .ok (.iconst 5, 1) := fx_ok (d := 384) (i := 20) fD_6 eL_law_396.2.2.2.2.2.2.1
theorem dL_law_405 : decode cL_law 405 = .ok (.iadd, 1) := fx_ok (d := 384) (i := 21) fD_6 eL_law_396.2.2.2.2.2.2.2.1
theorem dL_law_406 : decode cL_law 406 = .ok (.iaload, 1) := fx_ok (d := 384) (i := 22) fD_6 eL_law_396.2.2.2.2.2.2.2.2.1
theorem dL_law_407 : decode cL_law 407 = .ok (.aload_n 3, 1) := fx_ok (d := 384) (i := 23) fD_6 eL_law_396.2.2.2.2.2.2.2.2.2.1
theorem dL_law_408 : decode cL_law 408 = .ok (.invokestatic 169, 3) := fx_ok (d := 384) (i := 24) fD_6 eL_law_396.2.2.2.2.2.2.2.2.2.2.1
theorem dL_law_411 : decode cL_law 411 = .ok (.istore 5, 2) := fx_ok (d := 384) (i := 27) fD_6 eL_law_396.2.2.2.2.2.2.2.2.2.2.2.1
theorem dL_law_413 : decode cL_law 413 = .ok (.aload_n 2, 1) := fx_ok (d := 384) (i := 29) fD_6 eL_law_396.2.2.2.2.2.2.2.2.2.2.2.2.1
theorem dL_law_414 : decode cL_law 414 = .ok (.aload_n 0, 1) := fx_ok (d := 384) (i := 30) fD_6 eL_law_396.2.2.2.2.2.2.2.2.2.2.2.2.2.1
theorem dL_law_415 : decode cL_law 415 = .ok (.iload 4, 2) := fx_ok (d := 384) (i := 31) fD_6 eL_law_396.2.2.2.2.2.2.2.2.2.2.2.2.2.2.1
theorem dL_law_417 : decode cL_law 417 = .ok (.iconst 1, 1) := fx_ok (d := 384) (i := 33) fD_6 eL_law_396.2.2.2.2.2.2.2.2.2.2.2.2.2.2.2
theorem eL_law_418 : (fdecl fT_6 34 = some (.iadd, 1)) ∧ (fdecl fT_6 35 = some (.iaload, 1)) ∧ (fdecl fT_6 36 = some (.aload_n 0, 1)) ∧ (fdecl fT_6 37 = some (.iload 4, 2)) ∧ (fdecl fT_6 39 = some (.iconst 2, 1)) ∧ (fdecl fT_6 40 = some (.iadd, 1)) ∧ (fdecl fT_6 41 = some (.iaload, 1)) ∧ (fdecl fT_6 42 = some (.aload_n 0, 1)) ∧ (fdecl fT_6 43 = some (.iload 4, 2)) ∧ (fdecl fT_6 45 = some (.iconst 3, 1)) ∧ (fdecl fT_6 46 = some (.iadd, 1)) ∧ (fdecl fT_6 47 = some (.iaload, 1)) ∧ (fdecl fT_6 48 = some (.aload_n 0, 1)) ∧ (fdecl fT_6 49 = some (.iload 4, 2)) ∧ (fdecl fT_6 51 = some (.iconst 4, 1)) ∧ (fdecl fT_6 52 = some (.iadd, 1)) := by decide +kernel
theorem dL_law_418 : decode cL_law 418 = .ok (.iadd, 1) := fx_ok (d := 384) (i := 34) fD_6 eL_law_418.1
theorem dL_law_419 : decode cL_law 419 = .ok (.iaload, 1) := fx_ok (d := 384) (i := 35) fD_6 eL_law_418.2.1
theorem dL_law_420 : decode cL_law 420 = .ok (.aload_n 0, 1) := fx_ok (d := 384) (i := 36) fD_6 eL_law_418.2.2.1
theorem dL_law_421 : decode cL_law 421 = .ok (.iload 4, 2) := fx_ok (d := 384) (i := 37) fD_6 eL_law_418.2.2.2.1
theorem dL_law_423 : decode cL_law 423 = .ok (.iconst 2, 1) := fx_ok (d := 384) (i := 39) fD_6 eL_law_418.2.2.2.2.1
theorem dL_law_424 : decode cL_law 424 = .ok (.iadd, 1) := fx_ok (d := 384) (i := 40) fD_6 eL_law_418.2.2.2.2.2.1
theorem dL_law_425 : decode cL_law 425 = .ok (.iaload, 1) := fx_ok (d := 384) (i := 41) fD_6 eL_law_418.2.2.2.2.2.2.1
theorem dL_law_426 : decode cL_law 426 = .ok (.aload_n 0, 1) := fx_ok (d := 384) (i := 42) fD_6 eL_law_418.2.2.2.2.2.2.2.1
theorem dL_law_427 : decode cL_law 427 = .ok (.iload 4, 2) := fx_ok (d := 384) (i := 43) fD_6 eL_law_418.2.2.2.2.2.2.2.2.1
theorem dL_law_429 : decode cL_law 429 = .ok (.iconst 3, 1) := fx_ok (d := 384) (i := 45) fD_6 eL_law_418.2.2.2.2.2.2.2.2.2.1
theorem dL_law_430 : decode cL_law 430 = .ok (.iadd, 1) := fx_ok (d := 384) (i := 46) fD_6 eL_law_418.2.2.2.2.2.2.2.2.2.2.1
theorem dL_law_431 : decode cL_law 431 = .ok (.iaload, 1) := fx_ok (d := 384) (i := 47) fD_6 eL_law_418.2.2.2.2.2.2.2.2.2.2.2.1
theorem dL_law_432 : decode cL_law 432 = .ok (.aload_n 0, 1) := fx_ok (d := 384) (i := 48) fD_6 eL_law_418.2.2.2.2.2.2.2.2.2.2.2.2.1
theorem dL_law_433 : decode cL_law 433 = .ok (.iload 4, 2) := fx_ok (d := 384) (i := 49) fD_6 eL_law_418.2.2.2.2.2.2.2.2.2.2.2.2.2.1
theorem dL_law_435 : decode cL_law 435 = .ok (.iconst 4, 1) := fx_ok (d := 384) (i := 51) fD_6 eL_law_418.2.2.2.2.2.2.2.2.2.2.2.2.2.2.1
theorem dL_law_436 : decode cL_law 436 = .ok (.iadd, 1) := fx_ok (d := 384) (i := 52) fD_6 eL_law_418.2.2.2.2.2.2.2.2.2.2.2.2.2.2.2
theorem eL_law_437 : (fdecl fT_6 53 = some (.iaload, 1)) ∧ (fdecl fT_6 54 = some (.aload_n 0, 1)) ∧ (fdecl fT_6 55 = some (.iload 4, 2)) ∧ (fdecl fT_6 57 = some (.iconst 5, 1)) ∧ (fdecl fT_6 58 = some (.iadd, 1)) ∧ (fdecl fT_6 59 = some (.iaload, 1)) ∧ (fdecl fT_6 60 = some (.invokevirtual 172, 3)) ∧ (fdecl fT_6 63 = some (.istore 6, 2)) ∧ (fdecl fT_7 1 = some (.goto 1871, 3)) ∧ (fdecl fT_7 4 = some (.aload_n 1, 1)) ∧ (fdecl fT_7 5 = some (.aload_n 0, 1)) ∧ (fdecl fT_7 6 = some (.iload 4, 2)) ∧ (fdecl fT_7 8 = some (.iconst 1, 1)) ∧ (fdecl fT_7 9 = some (.iadd, 1)) ∧ (fdecl fT_7 10 = some (.iaload, 1)) ∧ (fdecl fT_7 11 = some (.aload_n 0, 1)) := by decide +kernel
theorem dL_law_437 : decode cL_law 437 = .ok (.iaload, 1) := fx_ok (d := 384) (i := 53) fD_6 eL_law_437.1
theorem dL_law_438 : decode cL_law 438 = .ok (.aload_n 0, 1) := fx_ok (d := 384) (i := 54) fD_6 eL_law_437.2.1
theorem dL_law_439 : decode cL_law 439 = .ok (.iload 4, 2) := fx_ok (d := 384) (i := 55) fD_6 eL_law_437.2.2.1
theorem dL_law_441 : decode cL_law 441 = .ok (.iconst 5, 1) := fx_ok (d := 384) (i := 57) fD_6 eL_law_437.2.2.2.1
theorem dL_law_442 : decode cL_law 442 = .ok (.iadd, 1) := fx_ok (d := 384) (i := 58) fD_6 eL_law_437.2.2.2.2.1
theorem dL_law_443 : decode cL_law 443 = .ok (.iaload, 1) := fx_ok (d := 384) (i := 59) fD_6 eL_law_437.2.2.2.2.2.1
theorem dL_law_444 : decode cL_law 444 = .ok (.invokevirtual 172, 3) := fx_ok (d := 384) (i := 60) fD_6 eL_law_437.2.2.2.2.2.2.1
theorem dL_law_447 : decode cL_law 447 = .ok (.istore 6, 2) := fx_ok (d := 384) (i := 63) fD_6 eL_law_437.2.2.2.2.2.2.2.1
theorem dL_law_449 : decode cL_law 449 = .ok (.goto 1871, 3) := fx_ok (d := 448) (i := 1) fD_7 eL_law_437.2.2.2.2.2.2.2.2.1
theorem dL_law_452 : decode cL_law 452 = .ok (.aload_n 1, 1) := fx_ok (d := 448) (i := 4) fD_7 eL_law_437.2.2.2.2.2.2.2.2.2.1
theorem dL_law_453 : decode cL_law 453 = .ok (.aload_n 0, 1) := fx_ok (d := 448) (i := 5) fD_7 eL_law_437.2.2.2.2.2.2.2.2.2.2.1
theorem dL_law_454 : decode cL_law 454 = .ok (.iload 4, 2) := fx_ok (d := 448) (i := 6) fD_7 eL_law_437.2.2.2.2.2.2.2.2.2.2.2.1
theorem dL_law_456 : decode cL_law 456 = .ok (.iconst 1, 1) := fx_ok (d := 448) (i := 8) fD_7 eL_law_437.2.2.2.2.2.2.2.2.2.2.2.2.1
theorem dL_law_457 : decode cL_law 457 = .ok (.iadd, 1) := fx_ok (d := 448) (i := 9) fD_7 eL_law_437.2.2.2.2.2.2.2.2.2.2.2.2.2.1
theorem dL_law_458 : decode cL_law 458 = .ok (.iaload, 1) := fx_ok (d := 448) (i := 10) fD_7 eL_law_437.2.2.2.2.2.2.2.2.2.2.2.2.2.2.1
theorem dL_law_459 : decode cL_law 459 = .ok (.aload_n 0, 1) := fx_ok (d := 448) (i := 11) fD_7 eL_law_437.2.2.2.2.2.2.2.2.2.2.2.2.2.2.2
theorem eL_law_460 : (fdecl fT_7 12 = some (.iload 4, 2)) ∧ (fdecl fT_7 14 = some (.iconst 2, 1)) ∧ (fdecl fT_7 15 = some (.iadd, 1)) ∧ (fdecl fT_7 16 = some (.iaload, 1)) ∧ (fdecl fT_7 17 = some (.aload_n 3, 1)) ∧ (fdecl fT_7 18 = some (.invokestatic 173, 3)) ∧ (fdecl fT_7 21 = some (.istore 5, 2)) ∧ (fdecl fT_7 23 = some (.aload_n 2, 1)) ∧ (fdecl fT_7 24 = some (.aload_n 0, 1)) ∧ (fdecl fT_7 25 = some (.iload 4, 2)) ∧ (fdecl fT_7 27 = some (.iconst 1, 1)) ∧ (fdecl fT_7 28 = some (.iadd, 1)) ∧ (fdecl fT_7 29 = some (.iaload, 1)) ∧ (fdecl fT_7 30 = some (.aload_n 0, 1)) ∧ (fdecl fT_7 31 = some (.iload 4, 2)) ∧ (fdecl fT_7 33 = some (.iconst 2, 1)) := by decide +kernel
theorem dL_law_460 : decode cL_law 460 = .ok (.iload 4, 2) := fx_ok (d := 448) (i := 12) fD_7 eL_law_460.1
theorem dL_law_462 : decode cL_law 462 = .ok (.iconst 2, 1) := fx_ok (d := 448) (i := 14) fD_7 eL_law_460.2.1
theorem dL_law_463 : decode cL_law 463 = .ok (.iadd, 1) := fx_ok (d := 448) (i := 15) fD_7 eL_law_460.2.2.1
theorem dL_law_464 : decode cL_law 464 = .ok (.iaload, 1) := fx_ok (d := 448) (i := 16) fD_7 eL_law_460.2.2.2.1
theorem dL_law_465 : decode cL_law 465 = .ok (.aload_n 3, 1) := fx_ok (d := 448) (i := 17) fD_7 eL_law_460.2.2.2.2.1
theorem dL_law_466 : decode cL_law 466 = .ok (.invokestatic 173, 3) := fx_ok (d := 448) (i := 18) fD_7 eL_law_460.2.2.2.2.2.1
theorem dL_law_469 : decode cL_law 469 = .ok (.istore 5, 2) := fx_ok (d := 448) (i := 21) fD_7 eL_law_460.2.2.2.2.2.2.1
theorem dL_law_471 : decode cL_law 471 = .ok (.aload_n 2, 1) := fx_ok (d := 448) (i := 23) fD_7 eL_law_460.2.2.2.2.2.2.2.1
theorem dL_law_472 : decode cL_law 472 = .ok (.aload_n 0, 1) := fx_ok (d := 448) (i := 24) fD_7 eL_law_460.2.2.2.2.2.2.2.2.1
theorem dL_law_473 : decode cL_law 473 = .ok (.iload 4, 2) := fx_ok (d := 448) (i := 25) fD_7 eL_law_460.2.2.2.2.2.2.2.2.2.1
theorem dL_law_475 : decode cL_law 475 = .ok (.iconst 1, 1) := fx_ok (d := 448) (i := 27) fD_7 eL_law_460.2.2.2.2.2.2.2.2.2.2.1
theorem dL_law_476 : decode cL_law 476 = .ok (.iadd, 1) := fx_ok (d := 448) (i := 28) fD_7 eL_law_460.2.2.2.2.2.2.2.2.2.2.2.1
theorem dL_law_477 : decode cL_law 477 = .ok (.iaload, 1) := fx_ok (d := 448) (i := 29) fD_7 eL_law_460.2.2.2.2.2.2.2.2.2.2.2.2.1
theorem dL_law_478 : decode cL_law 478 = .ok (.aload_n 0, 1) := fx_ok (d := 448) (i := 30) fD_7 eL_law_460.2.2.2.2.2.2.2.2.2.2.2.2.2.1
theorem dL_law_479 : decode cL_law 479 = .ok (.iload 4, 2) := fx_ok (d := 448) (i := 31) fD_7 eL_law_460.2.2.2.2.2.2.2.2.2.2.2.2.2.2.1
theorem dL_law_481 : decode cL_law 481 = .ok (.iconst 2, 1) := fx_ok (d := 448) (i := 33) fD_7 eL_law_460.2.2.2.2.2.2.2.2.2.2.2.2.2.2.2
theorem eL_law_482 : (fdecl fT_7 34 = some (.iadd, 1)) ∧ (fdecl fT_7 35 = some (.iaload, 1)) ∧ (fdecl fT_7 36 = some (.invokevirtual 175, 3)) ∧ (fdecl fT_7 39 = some (.istore 6, 2)) ∧ (fdecl fT_7 41 = some (.goto 1831, 3)) ∧ (fdecl fT_7 44 = some (.aload_n 1, 1)) ∧ (fdecl fT_7 45 = some (.aload_n 0, 1)) ∧ (fdecl fT_7 46 = some (.iload 4, 2)) ∧ (fdecl fT_7 48 = some (.iconst 1, 1)) ∧ (fdecl fT_7 49 = some (.iadd, 1)) ∧ (fdecl fT_7 50 = some (.iaload, 1)) ∧ (fdecl fT_7 51 = some (.aload_n 0, 1)) ∧ (fdecl fT_7 52 = some (.iload 4, 2)) ∧ (fdecl fT_7 54 = some (.iconst 2, 1)) ∧ (fdecl fT_7 55 = some (.iadd, 1)) ∧ (fdecl fT_7 56 = some (.iaload, 1)) := by decide +kernel
theorem dL_law_482 : decode cL_law 482 = .ok (.iadd, 1) := fx_ok (d := 448) (i := 34) fD_7 eL_law_482.1
theorem dL_law_483 : decode cL_law 483 = .ok (.iaload, 1) := fx_ok (d := 448) (i := 35) fD_7 eL_law_482.2.1
theorem dL_law_484 : decode cL_law 484 = .ok (.invokevirtual 175, 3) := fx_ok (d := 448) (i := 36) fD_7 eL_law_482.2.2.1
theorem dL_law_487 : decode cL_law 487 = .ok (.istore 6, 2) := fx_ok (d := 448) (i := 39) fD_7 eL_law_482.2.2.2.1
theorem dL_law_489 : decode cL_law 489 = .ok (.goto 1831, 3) := fx_ok (d := 448) (i := 41) fD_7 eL_law_482.2.2.2.2.1
theorem dL_law_492 : decode cL_law 492 = .ok (.aload_n 1, 1) := fx_ok (d := 448) (i := 44) fD_7 eL_law_482.2.2.2.2.2.1
theorem dL_law_493 : decode cL_law 493 = .ok (.aload_n 0, 1) := fx_ok (d := 448) (i := 45) fD_7 eL_law_482.2.2.2.2.2.2.1
theorem dL_law_494 : decode cL_law 494 = .ok (.iload 4, 2) := fx_ok (d := 448) (i := 46) fD_7 eL_law_482.2.2.2.2.2.2.2.1
theorem dL_law_496 : decode cL_law 496 = .ok (.iconst 1, 1) := fx_ok (d := 448) (i := 48) fD_7 eL_law_482.2.2.2.2.2.2.2.2.1
theorem dL_law_497 : decode cL_law 497 = .ok (.iadd, 1) := fx_ok (d := 448) (i := 49) fD_7 eL_law_482.2.2.2.2.2.2.2.2.2.1
theorem dL_law_498 : decode cL_law 498 = .ok (.iaload, 1) := fx_ok (d := 448) (i := 50) fD_7 eL_law_482.2.2.2.2.2.2.2.2.2.2.1
theorem dL_law_499 : decode cL_law 499 = .ok (.aload_n 0, 1) := fx_ok (d := 448) (i := 51) fD_7 eL_law_482.2.2.2.2.2.2.2.2.2.2.2.1
theorem dL_law_500 : decode cL_law 500 = .ok (.iload 4, 2) := fx_ok (d := 448) (i := 52) fD_7 eL_law_482.2.2.2.2.2.2.2.2.2.2.2.2.1
theorem dL_law_502 : decode cL_law 502 = .ok (.iconst 2, 1) := fx_ok (d := 448) (i := 54) fD_7 eL_law_482.2.2.2.2.2.2.2.2.2.2.2.2.2.1
theorem dL_law_503 : decode cL_law 503 = .ok (.iadd, 1) := fx_ok (d := 448) (i := 55) fD_7 eL_law_482.2.2.2.2.2.2.2.2.2.2.2.2.2.2.1
theorem dL_law_504 : decode cL_law 504 = .ok (.iaload, 1) := fx_ok (d := 448) (i := 56) fD_7 eL_law_482.2.2.2.2.2.2.2.2.2.2.2.2.2.2.2
theorem eL_law_505 : (fdecl fT_7 57 = some (.aload_n 0, 1)) ∧ (fdecl fT_7 58 = some (.iload 4, 2)) ∧ (fdecl fT_7 60 = some (.iconst 3, 1)) ∧ (fdecl fT_7 61 = some (.iadd, 1)) ∧ (fdecl fT_7 62 = some (.iaload, 1)) ∧ (fdecl fT_7 63 = some (.ifCond .eq 7, 3)) ∧ (fdecl fT_8 2 = some (.iconst 1, 1)) ∧ (fdecl fT_8 3 = some (.goto 4, 3)) ∧ (fdecl fT_8 6 = some (.iconst 0, 1)) ∧ (fdecl fT_8 7 = some (.aload_n 3, 1)) ∧ (fdecl fT_8 8 = some (.invokestatic 176, 3)) ∧ (fdecl fT_8 11 = some (.istore 5, 2)) ∧ (fdecl fT_8 13 = some (.aload_n 2, 1)) ∧ (fdecl fT_8 14 = some (.aload_n 0, 1)) ∧ (fdecl fT_8 15 = some (.iload 4, 2)) ∧ (fdecl fT_8 17 = some (.iconst 1, 1)) := by decide +kernel
theorem dL_law_505 : decode cL_law 505 = .ok (.aload_n 0, 1) := fx_ok (d := 448) (i := 57) fD_7 eL_law_505.1
theorem dL_law_506 : decode cL_law 506 = .ok (.iload 4, 2) := fx_ok (d := 448) (i := 58) fD_7 eL_law_505.2.1
theorem dL_law_508 : decode cL_law 508 = .ok (.iconst 3, 1) := fx_ok (d := 448) (i := 60) fD_7 eL_law_505.2.2.1
theorem dL_law_509 : decode cL_law 509 = .ok (.iadd, 1) := fx_ok (d := 448) (i := 61) fD_7 eL_law_505.2.2.2.1
theorem dL_law_510 : decode cL_law 510 = .ok (.iaload, 1) := fx_ok (d := 448) (i := 62) fD_7 eL_law_505.2.2.2.2.1
theorem dL_law_511 : decode cL_law 511 = .ok (.ifCond .eq 7, 3) := fx_ok (d := 448) (i := 63) fD_7 eL_law_505.2.2.2.2.2.1
theorem dL_law_514 : decode cL_law 514 = .ok (.iconst 1, 1) := fx_ok (d := 512) (i := 2) fD_8 eL_law_505.2.2.2.2.2.2.1
theorem dL_law_515 : decode cL_law 515 = .ok (.goto 4, 3) := fx_ok (d := 512) (i := 3) fD_8 eL_law_505.2.2.2.2.2.2.2.1
theorem dL_law_518 : decode cL_law 518 = .ok (.iconst 0, 1) := fx_ok (d := 512) (i := 6) fD_8 eL_law_505.2.2.2.2.2.2.2.2.1
theorem dL_law_519 : decode cL_law 519 = .ok (.aload_n 3, 1) := fx_ok (d := 512) (i := 7) fD_8 eL_law_505.2.2.2.2.2.2.2.2.2.1
theorem dL_law_520 : decode cL_law 520 = .ok (.invokestatic 176, 3) := fx_ok (d := 512) (i := 8) fD_8 eL_law_505.2.2.2.2.2.2.2.2.2.2.1
theorem dL_law_523 : decode cL_law 523 = .ok (.istore 5, 2) := fx_ok (d := 512) (i := 11) fD_8 eL_law_505.2.2.2.2.2.2.2.2.2.2.2.1
theorem dL_law_525 : decode cL_law 525 = .ok (.aload_n 2, 1) := fx_ok (d := 512) (i := 13) fD_8 eL_law_505.2.2.2.2.2.2.2.2.2.2.2.2.1
theorem dL_law_526 : decode cL_law 526 = .ok (.aload_n 0, 1) := fx_ok (d := 512) (i := 14) fD_8 eL_law_505.2.2.2.2.2.2.2.2.2.2.2.2.2.1
theorem dL_law_527 : decode cL_law 527 = .ok (.iload 4, 2) := fx_ok (d := 512) (i := 15) fD_8 eL_law_505.2.2.2.2.2.2.2.2.2.2.2.2.2.2.1
theorem dL_law_529 : decode cL_law 529 = .ok (.iconst 1, 1) := fx_ok (d := 512) (i := 17) fD_8 eL_law_505.2.2.2.2.2.2.2.2.2.2.2.2.2.2.2
theorem eL_law_530 : (fdecl fT_8 18 = some (.iadd, 1)) ∧ (fdecl fT_8 19 = some (.iaload, 1)) ∧ (fdecl fT_8 20 = some (.aload_n 0, 1)) ∧ (fdecl fT_8 21 = some (.iload 4, 2)) ∧ (fdecl fT_8 23 = some (.iconst 2, 1)) ∧ (fdecl fT_8 24 = some (.iadd, 1)) ∧ (fdecl fT_8 25 = some (.iaload, 1)) ∧ (fdecl fT_8 26 = some (.aload_n 0, 1)) ∧ (fdecl fT_8 27 = some (.iload 4, 2)) ∧ (fdecl fT_8 29 = some (.iconst 3, 1)) ∧ (fdecl fT_8 30 = some (.iadd, 1)) ∧ (fdecl fT_8 31 = some (.iaload, 1)) ∧ (fdecl fT_8 32 = some (.ifCond .eq 7, 3)) ∧ (fdecl fT_8 35 = some (.iconst 1, 1)) ∧ (fdecl fT_8 36 = some (.goto 4, 3)) ∧ (fdecl fT_8 39 = some (.iconst 0, 1)) := by decide +kernel
theorem dL_law_530 : decode cL_law 530 = .ok (.iadd, 1) := fx_ok (d := 512) (i := 18) fD_8 eL_law_530.1
theorem dL_law_531 : decode cL_law 531 = .ok (.iaload, 1) := fx_ok (d := 512) (i := 19) fD_8 eL_law_530.2.1
theorem dL_law_532 : decode cL_law 532 = .ok (.aload_n 0, 1) := fx_ok (d := 512) (i := 20) fD_8 eL_law_530.2.2.1
theorem dL_law_533 : decode cL_law 533 = .ok (.iload 4, 2) := fx_ok (d := 512) (i := 21) fD_8 eL_law_530.2.2.2.1
theorem dL_law_535 : decode cL_law 535 = .ok (.iconst 2, 1) := fx_ok (d := 512) (i := 23) fD_8 eL_law_530.2.2.2.2.1
theorem dL_law_536 : decode cL_law 536 = .ok (.iadd, 1) := fx_ok (d := 512) (i := 24) fD_8 eL_law_530.2.2.2.2.2.1
theorem dL_law_537 : decode cL_law 537 = .ok (.iaload, 1) := fx_ok (d := 512) (i := 25) fD_8 eL_law_530.2.2.2.2.2.2.1
theorem dL_law_538 : decode cL_law 538 = .ok (.aload_n 0, 1) := fx_ok (d := 512) (i := 26) fD_8 eL_law_530.2.2.2.2.2.2.2.1
theorem dL_law_539 : decode cL_law 539 = .ok (.iload 4, 2) := fx_ok (d := 512) (i := 27) fD_8 eL_law_530.2.2.2.2.2.2.2.2.1
theorem dL_law_541 : decode cL_law 541 = .ok (.iconst 3, 1) := fx_ok (d := 512) (i := 29) fD_8 eL_law_530.2.2.2.2.2.2.2.2.2.1
theorem dL_law_542 : decode cL_law 542 = .ok (.iadd, 1) := fx_ok (d := 512) (i := 30) fD_8 eL_law_530.2.2.2.2.2.2.2.2.2.2.1
theorem dL_law_543 : decode cL_law 543 = .ok (.iaload, 1) := fx_ok (d := 512) (i := 31) fD_8 eL_law_530.2.2.2.2.2.2.2.2.2.2.2.1
theorem dL_law_544 : decode cL_law 544 = .ok (.ifCond .eq 7, 3) := fx_ok (d := 512) (i := 32) fD_8 eL_law_530.2.2.2.2.2.2.2.2.2.2.2.2.1
theorem dL_law_547 : decode cL_law 547 = .ok (.iconst 1, 1) := fx_ok (d := 512) (i := 35) fD_8 eL_law_530.2.2.2.2.2.2.2.2.2.2.2.2.2.1
theorem dL_law_548 : decode cL_law 548 = .ok (.goto 4, 3) := fx_ok (d := 512) (i := 36) fD_8 eL_law_530.2.2.2.2.2.2.2.2.2.2.2.2.2.2.1
theorem dL_law_551 : decode cL_law 551 = .ok (.iconst 0, 1) := fx_ok (d := 512) (i := 39) fD_8 eL_law_530.2.2.2.2.2.2.2.2.2.2.2.2.2.2.2
theorem eL_law_552 : (fdecl fT_8 40 = some (.invokevirtual 179, 3)) ∧ (fdecl fT_8 43 = some (.istore 6, 2)) ∧ (fdecl fT_8 45 = some (.goto 1763, 3)) ∧ (fdecl fT_8 48 = some (.aload_n 1, 1)) ∧ (fdecl fT_8 49 = some (.aload_n 0, 1)) ∧ (fdecl fT_8 50 = some (.iload 4, 2)) ∧ (fdecl fT_8 52 = some (.iconst 1, 1)) ∧ (fdecl fT_8 53 = some (.iadd, 1)) ∧ (fdecl fT_8 54 = some (.iaload, 1)) ∧ (fdecl fT_8 55 = some (.aload_n 0, 1)) ∧ (fdecl fT_8 56 = some (.iload 4, 2)) ∧ (fdecl fT_8 58 = some (.iconst 2, 1)) ∧ (fdecl fT_8 59 = some (.iadd, 1)) ∧ (fdecl fT_8 60 = some (.iaload, 1)) ∧ (fdecl fT_8 61 = some (.aload_n 0, 1)) ∧ (fdecl fT_8 62 = some (.iload 4, 2)) := by decide +kernel
theorem dL_law_552 : decode cL_law 552 = .ok (.invokevirtual 179, 3) := fx_ok (d := 512) (i := 40) fD_8 eL_law_552.1
theorem dL_law_555 : decode cL_law 555 = .ok (.istore 6, 2) := fx_ok (d := 512) (i := 43) fD_8 eL_law_552.2.1
theorem dL_law_557 : decode cL_law 557 = .ok (.goto 1763, 3) := fx_ok (d := 512) (i := 45) fD_8 eL_law_552.2.2.1
theorem dL_law_560 : decode cL_law 560 = .ok (.aload_n 1, 1) := fx_ok (d := 512) (i := 48) fD_8 eL_law_552.2.2.2.1
theorem dL_law_561 : decode cL_law 561 = .ok (.aload_n 0, 1) := fx_ok (d := 512) (i := 49) fD_8 eL_law_552.2.2.2.2.1
theorem dL_law_562 : decode cL_law 562 = .ok (.iload 4, 2) := fx_ok (d := 512) (i := 50) fD_8 eL_law_552.2.2.2.2.2.1
theorem dL_law_564 : decode cL_law 564 = .ok (.iconst 1, 1) := fx_ok (d := 512) (i := 52) fD_8 eL_law_552.2.2.2.2.2.2.1
theorem dL_law_565 : decode cL_law 565 = .ok (.iadd, 1) := fx_ok (d := 512) (i := 53) fD_8 eL_law_552.2.2.2.2.2.2.2.1
theorem dL_law_566 : decode cL_law 566 = .ok (.iaload, 1) := fx_ok (d := 512) (i := 54) fD_8 eL_law_552.2.2.2.2.2.2.2.2.1
theorem dL_law_567 : decode cL_law 567 = .ok (.aload_n 0, 1) := fx_ok (d := 512) (i := 55) fD_8 eL_law_552.2.2.2.2.2.2.2.2.2.1
theorem dL_law_568 : decode cL_law 568 = .ok (.iload 4, 2) := fx_ok (d := 512) (i := 56) fD_8 eL_law_552.2.2.2.2.2.2.2.2.2.2.1
theorem dL_law_570 : decode cL_law 570 = .ok (.iconst 2, 1) := fx_ok (d := 512) (i := 58) fD_8 eL_law_552.2.2.2.2.2.2.2.2.2.2.2.1
theorem dL_law_571 : decode cL_law 571 = .ok (.iadd, 1) := fx_ok (d := 512) (i := 59) fD_8 eL_law_552.2.2.2.2.2.2.2.2.2.2.2.2.1
theorem dL_law_572 : decode cL_law 572 = .ok (.iaload, 1) := fx_ok (d := 512) (i := 60) fD_8 eL_law_552.2.2.2.2.2.2.2.2.2.2.2.2.2.1
theorem dL_law_573 : decode cL_law 573 = .ok (.aload_n 0, 1) := fx_ok (d := 512) (i := 61) fD_8 eL_law_552.2.2.2.2.2.2.2.2.2.2.2.2.2.2.1
theorem dL_law_574 : decode cL_law 574 = .ok (.iload 4, 2) := fx_ok (d := 512) (i := 62) fD_8 eL_law_552.2.2.2.2.2.2.2.2.2.2.2.2.2.2.2
theorem eL_law_576 : (fdecl fT_9 0 = some (.iconst 3, 1)) ∧ (fdecl fT_9 1 = some (.iadd, 1)) ∧ (fdecl fT_9 2 = some (.iaload, 1)) ∧ (fdecl fT_9 3 = some (.aload_n 0, 1)) ∧ (fdecl fT_9 4 = some (.iload 4, 2)) ∧ (fdecl fT_9 6 = some (.iconst 4, 1)) ∧ (fdecl fT_9 7 = some (.iadd, 1)) ∧ (fdecl fT_9 8 = some (.iaload, 1)) ∧ (fdecl fT_9 9 = some (.aload_n 3, 1)) ∧ (fdecl fT_9 10 = some (.invokestatic 180, 3)) ∧ (fdecl fT_9 13 = some (.istore 5, 2)) ∧ (fdecl fT_9 15 = some (.aload_n 2, 1)) ∧ (fdecl fT_9 16 = some (.aload_n 0, 1)) ∧ (fdecl fT_9 17 = some (.iload 4, 2)) ∧ (fdecl fT_9 19 = some (.iconst 1, 1)) ∧ (fdecl fT_9 20 = some (.iadd, 1)) := by decide +kernel
theorem dL_law_576 : decode cL_law 576 = .ok (.iconst 3, 1) := fx_ok (d := 576) (i := 0) fD_9 eL_law_576.1
theorem dL_law_577 : decode cL_law 577 = .ok (.iadd, 1) := fx_ok (d := 576) (i := 1) fD_9 eL_law_576.2.1
theorem dL_law_578 : decode cL_law 578 = .ok (.iaload, 1) := fx_ok (d := 576) (i := 2) fD_9 eL_law_576.2.2.1
theorem dL_law_579 : decode cL_law 579 = .ok (.aload_n 0, 1) := fx_ok (d := 576) (i := 3) fD_9 eL_law_576.2.2.2.1
theorem dL_law_580 : decode cL_law 580 = .ok (.iload 4, 2) := fx_ok (d := 576) (i := 4) fD_9 eL_law_576.2.2.2.2.1
theorem dL_law_582 : decode cL_law 582 = .ok (.iconst 4, 1) := fx_ok (d := 576) (i := 6) fD_9 eL_law_576.2.2.2.2.2.1
theorem dL_law_583 : decode cL_law 583 = .ok (.iadd, 1) := fx_ok (d := 576) (i := 7) fD_9 eL_law_576.2.2.2.2.2.2.1
theorem dL_law_584 : decode cL_law 584 = .ok (.iaload, 1) := fx_ok (d := 576) (i := 8) fD_9 eL_law_576.2.2.2.2.2.2.2.1
theorem dL_law_585 : decode cL_law 585 = .ok (.aload_n 3, 1) := fx_ok (d := 576) (i := 9) fD_9 eL_law_576.2.2.2.2.2.2.2.2.1
theorem dL_law_586 : decode cL_law 586 = .ok (.invokestatic 180, 3) := fx_ok (d := 576) (i := 10) fD_9 eL_law_576.2.2.2.2.2.2.2.2.2.1
theorem dL_law_589 : decode cL_law 589 = .ok (.istore 5, 2) := fx_ok (d := 576) (i := 13) fD_9 eL_law_576.2.2.2.2.2.2.2.2.2.2.1
theorem dL_law_591 : decode cL_law 591 = .ok (.aload_n 2, 1) := fx_ok (d := 576) (i := 15) fD_9 eL_law_576.2.2.2.2.2.2.2.2.2.2.2.1
theorem dL_law_592 : decode cL_law 592 = .ok (.aload_n 0, 1) := fx_ok (d := 576) (i := 16) fD_9 eL_law_576.2.2.2.2.2.2.2.2.2.2.2.2.1
theorem dL_law_593 : decode cL_law 593 = .ok (.iload 4, 2) := fx_ok (d := 576) (i := 17) fD_9 eL_law_576.2.2.2.2.2.2.2.2.2.2.2.2.2.1
theorem dL_law_595 : decode cL_law 595 = .ok (.iconst 1, 1) := fx_ok (d := 576) (i := 19) fD_9 eL_law_576.2.2.2.2.2.2.2.2.2.2.2.2.2.2.1
theorem dL_law_596 : decode cL_law 596 = .ok (.iadd, 1) := fx_ok (d := 576) (i := 20) fD_9 eL_law_576.2.2.2.2.2.2.2.2.2.2.2.2.2.2.2
theorem eL_law_597 : (fdecl fT_9 21 = some (.iaload, 1)) ∧ (fdecl fT_9 22 = some (.aload_n 0, 1)) ∧ (fdecl fT_9 23 = some (.iload 4, 2)) ∧ (fdecl fT_9 25 = some (.iconst 2, 1)) ∧ (fdecl fT_9 26 = some (.iadd, 1)) ∧ (fdecl fT_9 27 = some (.iaload, 1)) ∧ (fdecl fT_9 28 = some (.aload_n 0, 1)) ∧ (fdecl fT_9 29 = some (.iload 4, 2)) ∧ (fdecl fT_9 31 = some (.iconst 3, 1)) ∧ (fdecl fT_9 32 = some (.iadd, 1)) ∧ (fdecl fT_9 33 = some (.iaload, 1)) ∧ (fdecl fT_9 34 = some (.aload_n 0, 1)) ∧ (fdecl fT_9 35 = some (.iload 4, 2)) ∧ (fdecl fT_9 37 = some (.iconst 4, 1)) ∧ (fdecl fT_9 38 = some (.iadd, 1)) ∧ (fdecl fT_9 39 = some (.iaload, 1)) := by decide +kernel
theorem dL_law_597 : decode cL_law 597 = .ok (.iaload, 1) := fx_ok (d := 576) (i := 21) fD_9 eL_law_597.1
theorem dL_law_598 : decode cL_law 598 = .ok (.aload_n 0, 1) := fx_ok (d := 576) (i := 22) fD_9 eL_law_597.2.1
theorem dL_law_599 : decode cL_law 599 = .ok (.iload 4, 2) := fx_ok (d := 576) (i := 23) fD_9 eL_law_597.2.2.1
theorem dL_law_601 : decode cL_law 601 = .ok (.iconst 2, 1) := fx_ok (d := 576) (i := 25) fD_9 eL_law_597.2.2.2.1
theorem dL_law_602 : decode cL_law 602 = .ok (.iadd, 1) := fx_ok (d := 576) (i := 26) fD_9 eL_law_597.2.2.2.2.1
theorem dL_law_603 : decode cL_law 603 = .ok (.iaload, 1) := fx_ok (d := 576) (i := 27) fD_9 eL_law_597.2.2.2.2.2.1
theorem dL_law_604 : decode cL_law 604 = .ok (.aload_n 0, 1) := fx_ok (d := 576) (i := 28) fD_9 eL_law_597.2.2.2.2.2.2.1
theorem dL_law_605 : decode cL_law 605 = .ok (.iload 4, 2) := fx_ok (d := 576) (i := 29) fD_9 eL_law_597.2.2.2.2.2.2.2.1
theorem dL_law_607 : decode cL_law 607 = .ok (.iconst 3, 1) := fx_ok (d := 576) (i := 31) fD_9 eL_law_597.2.2.2.2.2.2.2.2.1
theorem dL_law_608 : decode cL_law 608 = .ok (.iadd, 1) := fx_ok (d := 576) (i := 32) fD_9 eL_law_597.2.2.2.2.2.2.2.2.2.1
theorem dL_law_609 : decode cL_law 609 = .ok (.iaload, 1) := fx_ok (d := 576) (i := 33) fD_9 eL_law_597.2.2.2.2.2.2.2.2.2.2.1
theorem dL_law_610 : decode cL_law 610 = .ok (.aload_n 0, 1) := fx_ok (d := 576) (i := 34) fD_9 eL_law_597.2.2.2.2.2.2.2.2.2.2.2.1
theorem dL_law_611 : decode cL_law 611 = .ok (.iload 4, 2) := fx_ok (d := 576) (i := 35) fD_9 eL_law_597.2.2.2.2.2.2.2.2.2.2.2.2.1
theorem dL_law_613 : decode cL_law 613 = .ok (.iconst 4, 1) := fx_ok (d := 576) (i := 37) fD_9 eL_law_597.2.2.2.2.2.2.2.2.2.2.2.2.2.1
theorem dL_law_614 : decode cL_law 614 = .ok (.iadd, 1) := fx_ok (d := 576) (i := 38) fD_9 eL_law_597.2.2.2.2.2.2.2.2.2.2.2.2.2.2.1
theorem dL_law_615 : decode cL_law 615 = .ok (.iaload, 1) := fx_ok (d := 576) (i := 39) fD_9 eL_law_597.2.2.2.2.2.2.2.2.2.2.2.2.2.2.2
theorem eL_law_616 : (fdecl fT_9 40 = some (.invokevirtual 183, 3)) ∧ (fdecl fT_9 43 = some (.istore 6, 2)) ∧ (fdecl fT_9 45 = some (.goto 1699, 3)) ∧ (fdecl fT_9 48 = some (.aload_n 1, 1)) ∧ (fdecl fT_9 49 = some (.aload_n 0, 1)) ∧ (fdecl fT_9 50 = some (.iload 4, 2)) ∧ (fdecl fT_9 52 = some (.iconst 1, 1)) ∧ (fdecl fT_9 53 = some (.iadd, 1)) ∧ (fdecl fT_9 54 = some (.iaload, 1)) ∧ (fdecl fT_9 55 = some (.aload_n 0, 1)) ∧ (fdecl fT_9 56 = some (.iload 4, 2)) ∧ (fdecl fT_9 58 = some (.iconst 2, 1)) ∧ (fdecl fT_9 59 = some (.iadd, 1)) ∧ (fdecl fT_9 60 = some (.iaload, 1)) ∧ (fdecl fT_9 61 = some (.aload_n 0, 1)) ∧ (fdecl fT_9 62 = some (.iload 4, 2)) := by decide +kernel
theorem dL_law_616 : decode cL_law 616 = .ok (.invokevirtual 183, 3) := fx_ok (d := 576) (i := 40) fD_9 eL_law_616.1
theorem dL_law_619 : decode cL_law 619 = .ok (.istore 6, 2) := fx_ok (d := 576) (i := 43) fD_9 eL_law_616.2.1
theorem dL_law_621 : decode cL_law 621 = .ok (.goto 1699, 3) := fx_ok (d := 576) (i := 45) fD_9 eL_law_616.2.2.1
theorem dL_law_624 : decode cL_law 624 = .ok (.aload_n 1, 1) := fx_ok (d := 576) (i := 48) fD_9 eL_law_616.2.2.2.1
theorem dL_law_625 : decode cL_law 625 = .ok (.aload_n 0, 1) := fx_ok (d := 576) (i := 49) fD_9 eL_law_616.2.2.2.2.1
theorem dL_law_626 : decode cL_law 626 = .ok (.iload 4, 2) := fx_ok (d := 576) (i := 50) fD_9 eL_law_616.2.2.2.2.2.1
theorem dL_law_628 : decode cL_law 628 = .ok (.iconst 1, 1) := fx_ok (d := 576) (i := 52) fD_9 eL_law_616.2.2.2.2.2.2.1
theorem dL_law_629 : decode cL_law 629 = .ok (.iadd, 1) := fx_ok (d := 576) (i := 53) fD_9 eL_law_616.2.2.2.2.2.2.2.1
theorem dL_law_630 : decode cL_law 630 = .ok (.iaload, 1) := fx_ok (d := 576) (i := 54) fD_9 eL_law_616.2.2.2.2.2.2.2.2.1
theorem dL_law_631 : decode cL_law 631 = .ok (.aload_n 0, 1) := fx_ok (d := 576) (i := 55) fD_9 eL_law_616.2.2.2.2.2.2.2.2.2.1
theorem dL_law_632 : decode cL_law 632 = .ok (.iload 4, 2) := fx_ok (d := 576) (i := 56) fD_9 eL_law_616.2.2.2.2.2.2.2.2.2.2.1
theorem dL_law_634 : decode cL_law 634 = .ok (.iconst 2, 1) := fx_ok (d := 576) (i := 58) fD_9 eL_law_616.2.2.2.2.2.2.2.2.2.2.2.1
theorem dL_law_635 : decode cL_law 635 = .ok (.iadd, 1) := fx_ok (d := 576) (i := 59) fD_9 eL_law_616.2.2.2.2.2.2.2.2.2.2.2.2.1
theorem dL_law_636 : decode cL_law 636 = .ok (.iaload, 1) := fx_ok (d := 576) (i := 60) fD_9 eL_law_616.2.2.2.2.2.2.2.2.2.2.2.2.2.1
theorem dL_law_637 : decode cL_law 637 = .ok (.aload_n 0, 1) := fx_ok (d := 576) (i := 61) fD_9 eL_law_616.2.2.2.2.2.2.2.2.2.2.2.2.2.2.1
theorem dL_law_638 : decode cL_law 638 = .ok (.iload 4, 2) := fx_ok (d := 576) (i := 62) fD_9 eL_law_616.2.2.2.2.2.2.2.2.2.2.2.2.2.2.2
theorem eL_law_640 : (fdecl fT_10 0 = some (.iconst 3, 1)) ∧ (fdecl fT_10 1 = some (.iadd, 1)) ∧ (fdecl fT_10 2 = some (.iaload, 1)) ∧ (fdecl fT_10 3 = some (.aload_n 0, 1)) ∧ (fdecl fT_10 4 = some (.iload 4, 2)) ∧ (fdecl fT_10 6 = some (.iconst 4, 1)) ∧ (fdecl fT_10 7 = some (.iadd, 1)) ∧ (fdecl fT_10 8 = some (.iaload, 1)) ∧ (fdecl fT_10 9 = some (.aload_n 3, 1)) ∧ (fdecl fT_10 10 = some (.invokestatic 184, 3)) ∧ (fdecl fT_10 13 = some (.istore 5, 2)) ∧ (fdecl fT_10 15 = some (.aload_n 2, 1)) ∧ (fdecl fT_10 16 = some (.aload_n 0, 1)) ∧ (fdecl fT_10 17 = some (.iload 4, 2)) ∧ (fdecl fT_10 19 = some (.iconst 1, 1)) ∧ (fdecl fT_10 20 = some (.iadd, 1)) := by decide +kernel
theorem dL_law_640 : decode cL_law 640 = .ok (.iconst 3, 1) := fx_ok (d := 640) (i := 0) fD_10 eL_law_640.1
theorem dL_law_641 : decode cL_law 641 = .ok (.iadd, 1) := fx_ok (d := 640) (i := 1) fD_10 eL_law_640.2.1
theorem dL_law_642 : decode cL_law 642 = .ok (.iaload, 1) := fx_ok (d := 640) (i := 2) fD_10 eL_law_640.2.2.1
theorem dL_law_643 : decode cL_law 643 = .ok (.aload_n 0, 1) := fx_ok (d := 640) (i := 3) fD_10 eL_law_640.2.2.2.1
theorem dL_law_644 : decode cL_law 644 = .ok (.iload 4, 2) := fx_ok (d := 640) (i := 4) fD_10 eL_law_640.2.2.2.2.1
theorem dL_law_646 : decode cL_law 646 = .ok (.iconst 4, 1) := fx_ok (d := 640) (i := 6) fD_10 eL_law_640.2.2.2.2.2.1
theorem dL_law_647 : decode cL_law 647 = .ok (.iadd, 1) := fx_ok (d := 640) (i := 7) fD_10 eL_law_640.2.2.2.2.2.2.1
theorem dL_law_648 : decode cL_law 648 = .ok (.iaload, 1) := fx_ok (d := 640) (i := 8) fD_10 eL_law_640.2.2.2.2.2.2.2.1
theorem dL_law_649 : decode cL_law 649 = .ok (.aload_n 3, 1) := fx_ok (d := 640) (i := 9) fD_10 eL_law_640.2.2.2.2.2.2.2.2.1
theorem dL_law_650 : decode cL_law 650 = .ok (.invokestatic 184, 3) := fx_ok (d := 640) (i := 10) fD_10 eL_law_640.2.2.2.2.2.2.2.2.2.1
theorem dL_law_653 : decode cL_law 653 = .ok (.istore 5, 2) := fx_ok (d := 640) (i := 13) fD_10 eL_law_640.2.2.2.2.2.2.2.2.2.2.1
theorem dL_law_655 : decode cL_law 655 = .ok (.aload_n 2, 1) := fx_ok (d := 640) (i := 15) fD_10 eL_law_640.2.2.2.2.2.2.2.2.2.2.2.1
theorem dL_law_656 : decode cL_law 656 = .ok (.aload_n 0, 1) := fx_ok (d := 640) (i := 16) fD_10 eL_law_640.2.2.2.2.2.2.2.2.2.2.2.2.1
theorem dL_law_657 : decode cL_law 657 = .ok (.iload 4, 2) := fx_ok (d := 640) (i := 17) fD_10 eL_law_640.2.2.2.2.2.2.2.2.2.2.2.2.2.1
theorem dL_law_659 : decode cL_law 659 = .ok (.iconst 1, 1) := fx_ok (d := 640) (i := 19) fD_10 eL_law_640.2.2.2.2.2.2.2.2.2.2.2.2.2.2.1
theorem dL_law_660 : decode cL_law 660 = .ok (.iadd, 1) := fx_ok (d := 640) (i := 20) fD_10 eL_law_640.2.2.2.2.2.2.2.2.2.2.2.2.2.2.2
theorem eL_law_661 : (fdecl fT_10 21 = some (.iaload, 1)) ∧ (fdecl fT_10 22 = some (.aload_n 0, 1)) ∧ (fdecl fT_10 23 = some (.iload 4, 2)) ∧ (fdecl fT_10 25 = some (.iconst 2, 1)) ∧ (fdecl fT_10 26 = some (.iadd, 1)) ∧ (fdecl fT_10 27 = some (.iaload, 1)) ∧ (fdecl fT_10 28 = some (.aload_n 0, 1)) ∧ (fdecl fT_10 29 = some (.iload 4, 2)) ∧ (fdecl fT_10 31 = some (.iconst 3, 1)) ∧ (fdecl fT_10 32 = some (.iadd, 1)) ∧ (fdecl fT_10 33 = some (.iaload, 1)) ∧ (fdecl fT_10 34 = some (.aload_n 0, 1)) ∧ (fdecl fT_10 35 = some (.iload 4, 2)) ∧ (fdecl fT_10 37 = some (.iconst 4, 1)) ∧ (fdecl fT_10 38 = some (.iadd, 1)) ∧ (fdecl fT_10 39 = some (.iaload, 1)) := by decide +kernel
theorem dL_law_661 : decode cL_law 661 = .ok (.iaload, 1) := fx_ok (d := 640) (i := 21) fD_10 eL_law_661.1
theorem dL_law_662 : decode cL_law 662 = .ok (.aload_n 0, 1) := fx_ok (d := 640) (i := 22) fD_10 eL_law_661.2.1
theorem dL_law_663 : decode cL_law 663 = .ok (.iload 4, 2) := fx_ok (d := 640) (i := 23) fD_10 eL_law_661.2.2.1
theorem dL_law_665 : decode cL_law 665 = .ok (.iconst 2, 1) := fx_ok (d := 640) (i := 25) fD_10 eL_law_661.2.2.2.1
theorem dL_law_666 : decode cL_law 666 = .ok (.iadd, 1) := fx_ok (d := 640) (i := 26) fD_10 eL_law_661.2.2.2.2.1
theorem dL_law_667 : decode cL_law 667 = .ok (.iaload, 1) := fx_ok (d := 640) (i := 27) fD_10 eL_law_661.2.2.2.2.2.1
theorem dL_law_668 : decode cL_law 668 = .ok (.aload_n 0, 1) := fx_ok (d := 640) (i := 28) fD_10 eL_law_661.2.2.2.2.2.2.1
theorem dL_law_669 : decode cL_law 669 = .ok (.iload 4, 2) := fx_ok (d := 640) (i := 29) fD_10 eL_law_661.2.2.2.2.2.2.2.1
theorem dL_law_671 : decode cL_law 671 = .ok (.iconst 3, 1) := fx_ok (d := 640) (i := 31) fD_10 eL_law_661.2.2.2.2.2.2.2.2.1
theorem dL_law_672 : decode cL_law 672 = .ok (.iadd, 1) := fx_ok (d := 640) (i := 32) fD_10 eL_law_661.2.2.2.2.2.2.2.2.2.1
theorem dL_law_673 : decode cL_law 673 = .ok (.iaload, 1) := fx_ok (d := 640) (i := 33) fD_10 eL_law_661.2.2.2.2.2.2.2.2.2.2.1
theorem dL_law_674 : decode cL_law 674 = .ok (.aload_n 0, 1) := fx_ok (d := 640) (i := 34) fD_10 eL_law_661.2.2.2.2.2.2.2.2.2.2.2.1
theorem dL_law_675 : decode cL_law 675 = .ok (.iload 4, 2) := fx_ok (d := 640) (i := 35) fD_10 eL_law_661.2.2.2.2.2.2.2.2.2.2.2.2.1
theorem dL_law_677 : decode cL_law 677 = .ok (.iconst 4, 1) := fx_ok (d := 640) (i := 37) fD_10 eL_law_661.2.2.2.2.2.2.2.2.2.2.2.2.2.1
theorem dL_law_678 : decode cL_law 678 = .ok (.iadd, 1) := fx_ok (d := 640) (i := 38) fD_10 eL_law_661.2.2.2.2.2.2.2.2.2.2.2.2.2.2.1
theorem dL_law_679 : decode cL_law 679 = .ok (.iaload, 1) := fx_ok (d := 640) (i := 39) fD_10 eL_law_661.2.2.2.2.2.2.2.2.2.2.2.2.2.2.2
theorem eL_law_680 : (fdecl fT_10 40 = some (.invokevirtual 186, 3)) ∧ (fdecl fT_10 43 = some (.istore 6, 2)) ∧ (fdecl fT_10 45 = some (.goto 1635, 3)) ∧ (fdecl fT_10 48 = some (.aload_n 1, 1)) ∧ (fdecl fT_10 49 = some (.aload_n 0, 1)) ∧ (fdecl fT_10 50 = some (.iload 4, 2)) ∧ (fdecl fT_10 52 = some (.iconst 1, 1)) ∧ (fdecl fT_10 53 = some (.iadd, 1)) ∧ (fdecl fT_10 54 = some (.iaload, 1)) ∧ (fdecl fT_10 55 = some (.aload_n 0, 1)) ∧ (fdecl fT_10 56 = some (.iload 4, 2)) ∧ (fdecl fT_10 58 = some (.iconst 2, 1)) ∧ (fdecl fT_10 59 = some (.iadd, 1)) ∧ (fdecl fT_10 60 = some (.iaload, 1)) ∧ (fdecl fT_10 61 = some (.aload_n 3, 1)) ∧ (fdecl fT_10 62 = some (.invokestatic 187, 3)) := by decide +kernel
theorem dL_law_680 : decode cL_law 680 = .ok (.invokevirtual 186, 3) := fx_ok (d := 640) (i := 40) fD_10 eL_law_680.1
theorem dL_law_683 : decode cL_law 683 = .ok (.istore 6, 2) := fx_ok (d := 640) (i := 43) fD_10 eL_law_680.2.1
theorem dL_law_685 : decode cL_law 685 = .ok (.goto 1635, 3) := fx_ok (d := 640) (i := 45) fD_10 eL_law_680.2.2.1
theorem dL_law_688 : decode cL_law 688 = .ok (.aload_n 1, 1) := fx_ok (d := 640) (i := 48) fD_10 eL_law_680.2.2.2.1
theorem dL_law_689 : decode cL_law 689 = .ok (.aload_n 0, 1) := fx_ok (d := 640) (i := 49) fD_10 eL_law_680.2.2.2.2.1
theorem dL_law_690 : decode cL_law 690 = .ok (.iload 4, 2) := fx_ok (d := 640) (i := 50) fD_10 eL_law_680.2.2.2.2.2.1
theorem dL_law_692 : decode cL_law 692 = .ok (.iconst 1, 1) := fx_ok (d := 640) (i := 52) fD_10 eL_law_680.2.2.2.2.2.2.1
theorem dL_law_693 : decode cL_law 693 = .ok (.iadd, 1) := fx_ok (d := 640) (i := 53) fD_10 eL_law_680.2.2.2.2.2.2.2.1
theorem dL_law_694 : decode cL_law 694 = .ok (.iaload, 1) := fx_ok (d := 640) (i := 54) fD_10 eL_law_680.2.2.2.2.2.2.2.2.1
theorem dL_law_695 : decode cL_law 695 = .ok (.aload_n 0, 1) := fx_ok (d := 640) (i := 55) fD_10 eL_law_680.2.2.2.2.2.2.2.2.2.1
theorem dL_law_696 : decode cL_law 696 = .ok (.iload 4, 2) := fx_ok (d := 640) (i := 56) fD_10 eL_law_680.2.2.2.2.2.2.2.2.2.2.1
theorem dL_law_698 : decode cL_law 698 = .ok (.iconst 2, 1) := fx_ok (d := 640) (i := 58) fD_10 eL_law_680.2.2.2.2.2.2.2.2.2.2.2.1
theorem dL_law_699 : decode cL_law 699 = .ok (.iadd, 1) := fx_ok (d := 640) (i := 59) fD_10 eL_law_680.2.2.2.2.2.2.2.2.2.2.2.2.1
theorem dL_law_700 : decode cL_law 700 = .ok (.iaload, 1) := fx_ok (d := 640) (i := 60) fD_10 eL_law_680.2.2.2.2.2.2.2.2.2.2.2.2.2.1
theorem dL_law_701 : decode cL_law 701 = .ok (.aload_n 3, 1) := fx_ok (d := 640) (i := 61) fD_10 eL_law_680.2.2.2.2.2.2.2.2.2.2.2.2.2.2.1
theorem dL_law_702 : decode cL_law 702 = .ok (.invokestatic 187, 3) := fx_ok (d := 640) (i := 62) fD_10 eL_law_680.2.2.2.2.2.2.2.2.2.2.2.2.2.2.2
theorem eL_law_705 : (fdecl fT_11 1 = some (.istore 5, 2)) ∧ (fdecl fT_11 3 = some (.aload_n 2, 1)) ∧ (fdecl fT_11 4 = some (.aload_n 0, 1)) ∧ (fdecl fT_11 5 = some (.iload 4, 2)) ∧ (fdecl fT_11 7 = some (.iconst 1, 1)) ∧ (fdecl fT_11 8 = some (.iadd, 1)) ∧ (fdecl fT_11 9 = some (.iaload, 1)) ∧ (fdecl fT_11 10 = some (.aload_n 0, 1)) ∧ (fdecl fT_11 11 = some (.iload 4, 2)) ∧ (fdecl fT_11 13 = some (.iconst 2, 1)) ∧ (fdecl fT_11 14 = some (.iadd, 1)) ∧ (fdecl fT_11 15 = some (.iaload, 1)) ∧ (fdecl fT_11 16 = some (.invokevirtual 189, 3)) ∧ (fdecl fT_11 19 = some (.istore 6, 2)) ∧ (fdecl fT_11 21 = some (.goto 1595, 3)) ∧ (fdecl fT_11 24 = some (.aload_n 1, 1)) := by decide +kernel
theorem dL_law_705 : decode cL_law 705 = .ok (.istore 5, 2) := fx_ok (d := 704) (i := 1) fD_11 eL_law_705.1
theorem dL_law_707 : decode cL_law 707 = .ok (.aload_n 2, 1) := fx_ok (d := 704) (i := 3) fD_11 eL_law_705.2.1
theorem dL_law_708 : decode cL_law 708 = .ok (.aload_n 0, 1) := fx_ok (d := 704) (i := 4) fD_11 eL_law_705.2.2.1
theorem dL_law_709 : decode cL_law 709 = .ok (.iload 4, 2) := fx_ok (d := 704) (i := 5) fD_11 eL_law_705.2.2.2.1
theorem dL_law_711 : decode cL_law 711 = .ok (.iconst 1, 1) := fx_ok (d := 704) (i := 7) fD_11 eL_law_705.2.2.2.2.1
theorem dL_law_712 : decode cL_law 712 = .ok (.iadd, 1) := fx_ok (d := 704) (i := 8) fD_11 eL_law_705.2.2.2.2.2.1
theorem dL_law_713 : decode cL_law 713 = .ok (.iaload, 1) := fx_ok (d := 704) (i := 9) fD_11 eL_law_705.2.2.2.2.2.2.1
theorem dL_law_714 : decode cL_law 714 = .ok (.aload_n 0, 1) := fx_ok (d := 704) (i := 10) fD_11 eL_law_705.2.2.2.2.2.2.2.1
theorem dL_law_715 : decode cL_law 715 = .ok (.iload 4, 2) := fx_ok (d := 704) (i := 11) fD_11 eL_law_705.2.2.2.2.2.2.2.2.1
theorem dL_law_717 : decode cL_law 717 = .ok (.iconst 2, 1) := fx_ok (d := 704) (i := 13) fD_11 eL_law_705.2.2.2.2.2.2.2.2.2.1
theorem dL_law_718 : decode cL_law 718 = .ok (.iadd, 1) := fx_ok (d := 704) (i := 14) fD_11 eL_law_705.2.2.2.2.2.2.2.2.2.2.1
theorem dL_law_719 : decode cL_law 719 = .ok (.iaload, 1) := fx_ok (d := 704) (i := 15) fD_11 eL_law_705.2.2.2.2.2.2.2.2.2.2.2.1
theorem dL_law_720 : decode cL_law 720 = .ok (.invokevirtual 189, 3) := fx_ok (d := 704) (i := 16) fD_11 eL_law_705.2.2.2.2.2.2.2.2.2.2.2.2.1
theorem dL_law_723 : decode cL_law 723 = .ok (.istore 6, 2) := fx_ok (d := 704) (i := 19) fD_11 eL_law_705.2.2.2.2.2.2.2.2.2.2.2.2.2.1
theorem dL_law_725 : decode cL_law 725 = .ok (.goto 1595, 3) := fx_ok (d := 704) (i := 21) fD_11 eL_law_705.2.2.2.2.2.2.2.2.2.2.2.2.2.2.1
theorem dL_law_728 : decode cL_law 728 = .ok (.aload_n 1, 1) := fx_ok (d := 704) (i := 24) fD_11 eL_law_705.2.2.2.2.2.2.2.2.2.2.2.2.2.2.2
theorem eL_law_729 : (fdecl fT_11 25 = some (.aload_n 0, 1)) ∧ (fdecl fT_11 26 = some (.iload 4, 2)) ∧ (fdecl fT_11 28 = some (.iconst 1, 1)) ∧ (fdecl fT_11 29 = some (.iadd, 1)) ∧ (fdecl fT_11 30 = some (.iaload, 1)) ∧ (fdecl fT_11 31 = some (.aload_n 0, 1)) ∧ (fdecl fT_11 32 = some (.iload 4, 2)) ∧ (fdecl fT_11 34 = some (.iconst 2, 1)) ∧ (fdecl fT_11 35 = some (.iadd, 1)) ∧ (fdecl fT_11 36 = some (.iaload, 1)) ∧ (fdecl fT_11 37 = some (.aload_n 3, 1)) ∧ (fdecl fT_11 38 = some (.invokestatic 190, 3)) ∧ (fdecl fT_11 41 = some (.istore 5, 2)) ∧ (fdecl fT_11 43 = some (.aload_n 2, 1)) ∧ (fdecl fT_11 44 = some (.aload_n 0, 1)) ∧ (fdecl fT_11 45 = some (.iload 4, 2)) := by decide +kernel
theorem dL_law_729 : decode cL_law 729 = .ok (.aload_n 0, 1) := fx_ok (d := 704) (i := 25) fD_11 eL_law_729.1
theorem dL_law_730 : decode cL_law 730 = .ok (.iload 4, 2) := fx_ok (d := 704) (i := 26) fD_11 eL_law_729.2.1
theorem dL_law_732 : decode cL_law 732 = .ok (.iconst 1, 1) := fx_ok (d := 704) (i := 28) fD_11 eL_law_729.2.2.1
theorem dL_law_733 : decode cL_law 733 = .ok (.iadd, 1) := fx_ok (d := 704) (i := 29) fD_11 eL_law_729.2.2.2.1
theorem dL_law_734 : decode cL_law 734 = .ok (.iaload, 1) := fx_ok (d := 704) (i := 30) fD_11 eL_law_729.2.2.2.2.1
theorem dL_law_735 : decode cL_law 735 = .ok (.aload_n 0, 1) := fx_ok (d := 704) (i := 31) fD_11 eL_law_729.2.2.2.2.2.1
theorem dL_law_736 : decode cL_law 736 = .ok (.iload 4, 2) := fx_ok (d := 704) (i := 32) fD_11 eL_law_729.2.2.2.2.2.2.1
theorem dL_law_738 : decode cL_law 738 = .ok (.iconst 2, 1) := fx_ok (d := 704) (i := 34) fD_11 eL_law_729.2.2.2.2.2.2.2.1
theorem dL_law_739 : decode cL_law 739 = .ok (.iadd, 1) := fx_ok (d := 704) (i := 35) fD_11 eL_law_729.2.2.2.2.2.2.2.2.1
theorem dL_law_740 : decode cL_law 740 = .ok (.iaload, 1) := fx_ok (d := 704) (i := 36) fD_11 eL_law_729.2.2.2.2.2.2.2.2.2.1
theorem dL_law_741 : decode cL_law 741 = .ok (.aload_n 3, 1) := fx_ok (d := 704) (i := 37) fD_11 eL_law_729.2.2.2.2.2.2.2.2.2.2.1
theorem dL_law_742 : decode cL_law 742 = .ok (.invokestatic 190, 3) := fx_ok (d := 704) (i := 38) fD_11 eL_law_729.2.2.2.2.2.2.2.2.2.2.2.1
theorem dL_law_745 : decode cL_law 745 = .ok (.istore 5, 2) := fx_ok (d := 704) (i := 41) fD_11 eL_law_729.2.2.2.2.2.2.2.2.2.2.2.2.1
theorem dL_law_747 : decode cL_law 747 = .ok (.aload_n 2, 1) := fx_ok (d := 704) (i := 43) fD_11 eL_law_729.2.2.2.2.2.2.2.2.2.2.2.2.2.1
theorem dL_law_748 : decode cL_law 748 = .ok (.aload_n 0, 1) := fx_ok (d := 704) (i := 44) fD_11 eL_law_729.2.2.2.2.2.2.2.2.2.2.2.2.2.2.1
theorem dL_law_749 : decode cL_law 749 = .ok (.iload 4, 2) := fx_ok (d := 704) (i := 45) fD_11 eL_law_729.2.2.2.2.2.2.2.2.2.2.2.2.2.2.2
theorem eL_law_751 : (fdecl fT_11 47 = some (.iconst 1, 1)) ∧ (fdecl fT_11 48 = some (.iadd, 1)) ∧ (fdecl fT_11 49 = some (.iaload, 1)) ∧ (fdecl fT_11 50 = some (.aload_n 0, 1)) ∧ (fdecl fT_11 51 = some (.iload 4, 2)) ∧ (fdecl fT_11 53 = some (.iconst 2, 1)) ∧ (fdecl fT_11 54 = some (.iadd, 1)) ∧ (fdecl fT_11 55 = some (.iaload, 1)) ∧ (fdecl fT_11 56 = some (.invokevirtual 192, 3)) ∧ (fdecl fT_11 59 = some (.istore 6, 2)) ∧ (fdecl fT_11 61 = some (.goto 1555, 3)) ∧ (fdecl fT_12 0 = some (.aload_n 1, 1)) ∧ (fdecl fT_12 1 = some (.aload_n 0, 1)) ∧ (fdecl fT_12 2 = some (.iload 4, 2)) ∧ (fdecl fT_12 4 = some (.iconst 1, 1)) ∧ (fdecl fT_12 5 = some (.iadd, 1)) := by decide +kernel
theorem dL_law_751 : decode cL_law 751 = .ok (.iconst 1, 1) := fx_ok (d := 704) (i := 47) fD_11 eL_law_751.1
theorem dL_law_752 : decode cL_law 752 = .ok (.iadd, 1) := fx_ok (d := 704) (i := 48) fD_11 eL_law_751.2.1
theorem dL_law_753 : decode cL_law 753 = .ok (.iaload, 1) := fx_ok (d := 704) (i := 49) fD_11 eL_law_751.2.2.1
theorem dL_law_754 : decode cL_law 754 = .ok (.aload_n 0, 1) := fx_ok (d := 704) (i := 50) fD_11 eL_law_751.2.2.2.1
theorem dL_law_755 : decode cL_law 755 = .ok (.iload 4, 2) := fx_ok (d := 704) (i := 51) fD_11 eL_law_751.2.2.2.2.1
theorem dL_law_757 : decode cL_law 757 = .ok (.iconst 2, 1) := fx_ok (d := 704) (i := 53) fD_11 eL_law_751.2.2.2.2.2.1
theorem dL_law_758 : decode cL_law 758 = .ok (.iadd, 1) := fx_ok (d := 704) (i := 54) fD_11 eL_law_751.2.2.2.2.2.2.1
theorem dL_law_759 : decode cL_law 759 = .ok (.iaload, 1) := fx_ok (d := 704) (i := 55) fD_11 eL_law_751.2.2.2.2.2.2.2.1
theorem dL_law_760 : decode cL_law 760 = .ok (.invokevirtual 192, 3) := fx_ok (d := 704) (i := 56) fD_11 eL_law_751.2.2.2.2.2.2.2.2.1
theorem dL_law_763 : decode cL_law 763 = .ok (.istore 6, 2) := fx_ok (d := 704) (i := 59) fD_11 eL_law_751.2.2.2.2.2.2.2.2.2.1
theorem dL_law_765 : decode cL_law 765 = .ok (.goto 1555, 3) := fx_ok (d := 704) (i := 61) fD_11 eL_law_751.2.2.2.2.2.2.2.2.2.2.1
theorem dL_law_768 : decode cL_law 768 = .ok (.aload_n 1, 1) := fx_ok (d := 768) (i := 0) fD_12 eL_law_751.2.2.2.2.2.2.2.2.2.2.2.1
theorem dL_law_769 : decode cL_law 769 = .ok (.aload_n 0, 1) := fx_ok (d := 768) (i := 1) fD_12 eL_law_751.2.2.2.2.2.2.2.2.2.2.2.2.1
theorem dL_law_770 : decode cL_law 770 = .ok (.iload 4, 2) := fx_ok (d := 768) (i := 2) fD_12 eL_law_751.2.2.2.2.2.2.2.2.2.2.2.2.2.1
theorem dL_law_772 : decode cL_law 772 = .ok (.iconst 1, 1) := fx_ok (d := 768) (i := 4) fD_12 eL_law_751.2.2.2.2.2.2.2.2.2.2.2.2.2.2.1
theorem dL_law_773 : decode cL_law 773 = .ok (.iadd, 1) := fx_ok (d := 768) (i := 5) fD_12 eL_law_751.2.2.2.2.2.2.2.2.2.2.2.2.2.2.2
theorem eL_law_774 : (fdecl fT_12 6 = some (.iaload, 1)) ∧ (fdecl fT_12 7 = some (.aload_n 0, 1)) ∧ (fdecl fT_12 8 = some (.iload 4, 2)) ∧ (fdecl fT_12 10 = some (.iconst 2, 1)) ∧ (fdecl fT_12 11 = some (.iadd, 1)) ∧ (fdecl fT_12 12 = some (.iaload, 1)) ∧ (fdecl fT_12 13 = some (.ifCond .eq 7, 3)) ∧ (fdecl fT_12 16 = some (.iconst 1, 1)) ∧ (fdecl fT_12 17 = some (.goto 4, 3)) ∧ (fdecl fT_12 20 = some (.iconst 0, 1)) ∧ (fdecl fT_12 21 = some (.aload_n 0, 1)) ∧ (fdecl fT_12 22 = some (.iload 4, 2)) ∧ (fdecl fT_12 24 = some (.iconst 3, 1)) ∧ (fdecl fT_12 25 = some (.iadd, 1)) ∧ (fdecl fT_12 26 = some (.iaload, 1)) ∧ (fdecl fT_12 27 = some (.aload_n 3, 1)) := by decide +kernel
theorem dL_law_774 : decode cL_law 774 = .ok (.iaload, 1) := fx_ok (d := 768) (i := 6) fD_12 eL_law_774.1
theorem dL_law_775 : decode cL_law 775 = .ok (.aload_n 0, 1) := fx_ok (d := 768) (i := 7) fD_12 eL_law_774.2.1
theorem dL_law_776 : decode cL_law 776 = .ok (.iload 4, 2) := fx_ok (d := 768) (i := 8) fD_12 eL_law_774.2.2.1
theorem dL_law_778 : decode cL_law 778 = .ok (.iconst 2, 1) := fx_ok (d := 768) (i := 10) fD_12 eL_law_774.2.2.2.1
theorem dL_law_779 : decode cL_law 779 = .ok (.iadd, 1) := fx_ok (d := 768) (i := 11) fD_12 eL_law_774.2.2.2.2.1
theorem dL_law_780 : decode cL_law 780 = .ok (.iaload, 1) := fx_ok (d := 768) (i := 12) fD_12 eL_law_774.2.2.2.2.2.1
theorem dL_law_781 : decode cL_law 781 = .ok (.ifCond .eq 7, 3) := fx_ok (d := 768) (i := 13) fD_12 eL_law_774.2.2.2.2.2.2.1
theorem dL_law_784 : decode cL_law 784 = .ok (.iconst 1, 1) := fx_ok (d := 768) (i := 16) fD_12 eL_law_774.2.2.2.2.2.2.2.1
theorem dL_law_785 : decode cL_law 785 = .ok (.goto 4, 3) := fx_ok (d := 768) (i := 17) fD_12 eL_law_774.2.2.2.2.2.2.2.2.1
theorem dL_law_788 : decode cL_law 788 = .ok (.iconst 0, 1) := fx_ok (d := 768) (i := 20) fD_12 eL_law_774.2.2.2.2.2.2.2.2.2.1
theorem dL_law_789 : decode cL_law 789 = .ok (.aload_n 0, 1) := fx_ok (d := 768) (i := 21) fD_12 eL_law_774.2.2.2.2.2.2.2.2.2.2.1
theorem dL_law_790 : decode cL_law 790 = .ok (.iload 4, 2) := fx_ok (d := 768) (i := 22) fD_12 eL_law_774.2.2.2.2.2.2.2.2.2.2.2.1
theorem dL_law_792 : decode cL_law 792 = .ok (.iconst 3, 1) := fx_ok (d := 768) (i := 24) fD_12 eL_law_774.2.2.2.2.2.2.2.2.2.2.2.2.1
theorem dL_law_793 : decode cL_law 793 = .ok (.iadd, 1) := fx_ok (d := 768) (i := 25) fD_12 eL_law_774.2.2.2.2.2.2.2.2.2.2.2.2.2.1
theorem dL_law_794 : decode cL_law 794 = .ok (.iaload, 1) := fx_ok (d := 768) (i := 26) fD_12 eL_law_774.2.2.2.2.2.2.2.2.2.2.2.2.2.2.1
theorem dL_law_795 : decode cL_law 795 = .ok (.aload_n 3, 1) := fx_ok (d := 768) (i := 27) fD_12 eL_law_774.2.2.2.2.2.2.2.2.2.2.2.2.2.2.2
theorem eL_law_796 : (fdecl fT_12 28 = some (.invokestatic 193, 3)) ∧ (fdecl fT_12 31 = some (.istore 5, 2)) ∧ (fdecl fT_12 33 = some (.aload_n 2, 1)) ∧ (fdecl fT_12 34 = some (.aload_n 0, 1)) ∧ (fdecl fT_12 35 = some (.iload 4, 2)) ∧ (fdecl fT_12 37 = some (.iconst 1, 1)) ∧ (fdecl fT_12 38 = some (.iadd, 1)) ∧ (fdecl fT_12 39 = some (.iaload, 1)) ∧ (fdecl fT_12 40 = some (.aload_n 0, 1)) ∧ (fdecl fT_12 41 = some (.iload 4, 2)) ∧ (fdecl fT_12 43 = some (.iconst 2, 1)) ∧ (fdecl fT_12 44 = some (.iadd, 1)) ∧ (fdecl fT_12 45 = some (.iaload, 1)) ∧ (fdecl fT_12 46 = some (.ifCond .eq 7, 3)) ∧ (fdecl fT_12 49 = some (.iconst 1, 1)) ∧ (fdecl fT_12 50 = some (.goto 4, 3)) := by decide +kernel
theorem dL_law_796 : decode cL_law 796 = .ok (.invokestatic 193, 3) := fx_ok (d := 768) (i := 28) fD_12 eL_law_796.1
theorem dL_law_799 : decode cL_law 799 = .ok (.istore 5, 2) := fx_ok (d := 768) (i := 31) fD_12 eL_law_796.2.1
theorem dL_law_801 : decode cL_law 801 = .ok (.aload_n 2, 1) := fx_ok (d := 768) (i := 33) fD_12 eL_law_796.2.2.1
theorem dL_law_802 : decode cL_law 802 = .ok (.aload_n 0, 1) := fx_ok (d := 768) (i := 34) fD_12 eL_law_796.2.2.2.1
theorem dL_law_803 : decode cL_law 803 = .ok (.iload 4, 2) := fx_ok (d := 768) (i := 35) fD_12 eL_law_796.2.2.2.2.1
theorem dL_law_805 : decode cL_law 805 = .ok (.iconst 1, 1) := fx_ok (d := 768) (i := 37) fD_12 eL_law_796.2.2.2.2.2.1
theorem dL_law_806 : decode cL_law 806 = .ok (.iadd, 1) := fx_ok (d := 768) (i := 38) fD_12 eL_law_796.2.2.2.2.2.2.1
theorem dL_law_807 : decode cL_law 807 = .ok (.iaload, 1) := fx_ok (d := 768) (i := 39) fD_12 eL_law_796.2.2.2.2.2.2.2.1
theorem dL_law_808 : decode cL_law 808 = .ok (.aload_n 0, 1) := fx_ok (d := 768) (i := 40) fD_12 eL_law_796.2.2.2.2.2.2.2.2.1
theorem dL_law_809 : decode cL_law 809 = .ok (.iload 4, 2) := fx_ok (d := 768) (i := 41) fD_12 eL_law_796.2.2.2.2.2.2.2.2.2.1
theorem dL_law_811 : decode cL_law 811 = .ok (.iconst 2, 1) := fx_ok (d := 768) (i := 43) fD_12 eL_law_796.2.2.2.2.2.2.2.2.2.2.1
theorem dL_law_812 : decode cL_law 812 = .ok (.iadd, 1) := fx_ok (d := 768) (i := 44) fD_12 eL_law_796.2.2.2.2.2.2.2.2.2.2.2.1
theorem dL_law_813 : decode cL_law 813 = .ok (.iaload, 1) := fx_ok (d := 768) (i := 45) fD_12 eL_law_796.2.2.2.2.2.2.2.2.2.2.2.2.1
theorem dL_law_814 : decode cL_law 814 = .ok (.ifCond .eq 7, 3) := fx_ok (d := 768) (i := 46) fD_12 eL_law_796.2.2.2.2.2.2.2.2.2.2.2.2.2.1
theorem dL_law_817 : decode cL_law 817 = .ok (.iconst 1, 1) := fx_ok (d := 768) (i := 49) fD_12 eL_law_796.2.2.2.2.2.2.2.2.2.2.2.2.2.2.1
theorem dL_law_818 : decode cL_law 818 = .ok (.goto 4, 3) := fx_ok (d := 768) (i := 50) fD_12 eL_law_796.2.2.2.2.2.2.2.2.2.2.2.2.2.2.2
theorem eL_law_821 : (fdecl fT_12 53 = some (.iconst 0, 1)) ∧ (fdecl fT_12 54 = some (.aload_n 0, 1)) ∧ (fdecl fT_12 55 = some (.iload 4, 2)) ∧ (fdecl fT_12 57 = some (.iconst 3, 1)) ∧ (fdecl fT_12 58 = some (.iadd, 1)) ∧ (fdecl fT_12 59 = some (.iaload, 1)) ∧ (fdecl fT_12 60 = some (.invokevirtual 196, 3)) ∧ (fdecl fT_12 63 = some (.istore 6, 2)) ∧ (fdecl fT_13 1 = some (.goto 1487, 3)) ∧ (fdecl fT_13 4 = some (.aload_n 1, 1)) ∧ (fdecl fT_13 5 = some (.aload_n 0, 1)) ∧ (fdecl fT_13 6 = some (.iload 4, 2)) ∧ (fdecl fT_13 8 = some (.iconst 1, 1)) ∧ (fdecl fT_13 9 = some (.iadd, 1)) ∧ (fdecl fT_13 10 = some (.iaload, 1)) ∧ (fdecl fT_13 11 = some (.aload_n 0, 1)) := by decide +kernel
theorem dL_law_821 : decode cL_law 821 = .ok (.iconst 0, 1) := fx_ok (d := 768) (i := 53) fD_12 eL_law_821.1
theorem dL_law_822 : decode cL_law 822 = .ok (.aload_n 0, 1) := fx_ok (d := 768) (i := 54) fD_12 eL_law_821.2.1
theorem dL_law_823 : decode cL_law 823 = .ok (.iload 4, 2) := fx_ok (d := 768) (i := 55) fD_12 eL_law_821.2.2.1
theorem dL_law_825 : decode cL_law 825 = .ok (.iconst 3, 1) := fx_ok (d := 768) (i := 57) fD_12 eL_law_821.2.2.2.1
theorem dL_law_826 : decode cL_law 826 = .ok (.iadd, 1) := fx_ok (d := 768) (i := 58) fD_12 eL_law_821.2.2.2.2.1
theorem dL_law_827 : decode cL_law 827 = .ok (.iaload, 1) := fx_ok (d := 768) (i := 59) fD_12 eL_law_821.2.2.2.2.2.1
theorem dL_law_828 : decode cL_law 828 = .ok (.invokevirtual 196, 3) := fx_ok (d := 768) (i := 60) fD_12 eL_law_821.2.2.2.2.2.2.1
theorem dL_law_831 : decode cL_law 831 = .ok (.istore 6, 2) := fx_ok (d := 768) (i := 63) fD_12 eL_law_821.2.2.2.2.2.2.2.1
theorem dL_law_833 : decode cL_law 833 = .ok (.goto 1487, 3) := fx_ok (d := 832) (i := 1) fD_13 eL_law_821.2.2.2.2.2.2.2.2.1
theorem dL_law_836 : decode cL_law 836 = .ok (.aload_n 1, 1) := fx_ok (d := 832) (i := 4) fD_13 eL_law_821.2.2.2.2.2.2.2.2.2.1
theorem dL_law_837 : decode cL_law 837 = .ok (.aload_n 0, 1) := fx_ok (d := 832) (i := 5) fD_13 eL_law_821.2.2.2.2.2.2.2.2.2.2.1
theorem dL_law_838 : decode cL_law 838 = .ok (.iload 4, 2) := fx_ok (d := 832) (i := 6) fD_13 eL_law_821.2.2.2.2.2.2.2.2.2.2.2.1
theorem dL_law_840 : decode cL_law 840 = .ok (.iconst 1, 1) := fx_ok (d := 832) (i := 8) fD_13 eL_law_821.2.2.2.2.2.2.2.2.2.2.2.2.1
theorem dL_law_841 : decode cL_law 841 = .ok (.iadd, 1) := fx_ok (d := 832) (i := 9) fD_13 eL_law_821.2.2.2.2.2.2.2.2.2.2.2.2.2.1
theorem dL_law_842 : decode cL_law 842 = .ok (.iaload, 1) := fx_ok (d := 832) (i := 10) fD_13 eL_law_821.2.2.2.2.2.2.2.2.2.2.2.2.2.2.1
theorem dL_law_843 : decode cL_law 843 = .ok (.aload_n 0, 1) := fx_ok (d := 832) (i := 11) fD_13 eL_law_821.2.2.2.2.2.2.2.2.2.2.2.2.2.2.2
theorem eL_law_844 : (fdecl fT_13 12 = some (.iload 4, 2)) ∧ (fdecl fT_13 14 = some (.iconst 2, 1)) ∧ (fdecl fT_13 15 = some (.iadd, 1)) ∧ (fdecl fT_13 16 = some (.iaload, 1)) ∧ (fdecl fT_13 17 = some (.aload_n 0, 1)) ∧ (fdecl fT_13 18 = some (.iload 4, 2)) ∧ (fdecl fT_13 20 = some (.iconst 3, 1)) ∧ (fdecl fT_13 21 = some (.iadd, 1)) ∧ (fdecl fT_13 22 = some (.iaload, 1)) ∧ (fdecl fT_13 23 = some (.aload_n 0, 1)) ∧ (fdecl fT_13 24 = some (.iload 4, 2)) ∧ (fdecl fT_13 26 = some (.iconst 4, 1)) ∧ (fdecl fT_13 27 = some (.iadd, 1)) ∧ (fdecl fT_13 28 = some (.iaload, 1)) ∧ (fdecl fT_13 29 = some (.ifCond .eq 7, 3)) ∧ (fdecl fT_13 32 = some (.iconst 1, 1)) := by decide +kernel
theorem dL_law_844 : decode cL_law 844 = .ok (.iload 4, 2) := fx_ok (d := 832) (i := 12) fD_13 eL_law_844.1
theorem dL_law_846 : decode cL_law 846 = .ok (.iconst 2, 1) := fx_ok (d := 832) (i := 14) fD_13 eL_law_844.2.1
theorem dL_law_847 : decode cL_law 847 = .ok (.iadd, 1) := fx_ok (d := 832) (i := 15) fD_13 eL_law_844.2.2.1
theorem dL_law_848 : decode cL_law 848 = .ok (.iaload, 1) := fx_ok (d := 832) (i := 16) fD_13 eL_law_844.2.2.2.1
theorem dL_law_849 : decode cL_law 849 = .ok (.aload_n 0, 1) := fx_ok (d := 832) (i := 17) fD_13 eL_law_844.2.2.2.2.1
theorem dL_law_850 : decode cL_law 850 = .ok (.iload 4, 2) := fx_ok (d := 832) (i := 18) fD_13 eL_law_844.2.2.2.2.2.1
theorem dL_law_852 : decode cL_law 852 = .ok (.iconst 3, 1) := fx_ok (d := 832) (i := 20) fD_13 eL_law_844.2.2.2.2.2.2.1
theorem dL_law_853 : decode cL_law 853 = .ok (.iadd, 1) := fx_ok (d := 832) (i := 21) fD_13 eL_law_844.2.2.2.2.2.2.2.1
theorem dL_law_854 : decode cL_law 854 = .ok (.iaload, 1) := fx_ok (d := 832) (i := 22) fD_13 eL_law_844.2.2.2.2.2.2.2.2.1
theorem dL_law_855 : decode cL_law 855 = .ok (.aload_n 0, 1) := fx_ok (d := 832) (i := 23) fD_13 eL_law_844.2.2.2.2.2.2.2.2.2.1
theorem dL_law_856 : decode cL_law 856 = .ok (.iload 4, 2) := fx_ok (d := 832) (i := 24) fD_13 eL_law_844.2.2.2.2.2.2.2.2.2.2.1
theorem dL_law_858 : decode cL_law 858 = .ok (.iconst 4, 1) := fx_ok (d := 832) (i := 26) fD_13 eL_law_844.2.2.2.2.2.2.2.2.2.2.2.1
theorem dL_law_859 : decode cL_law 859 = .ok (.iadd, 1) := fx_ok (d := 832) (i := 27) fD_13 eL_law_844.2.2.2.2.2.2.2.2.2.2.2.2.1
theorem dL_law_860 : decode cL_law 860 = .ok (.iaload, 1) := fx_ok (d := 832) (i := 28) fD_13 eL_law_844.2.2.2.2.2.2.2.2.2.2.2.2.2.1
theorem dL_law_861 : decode cL_law 861 = .ok (.ifCond .eq 7, 3) := fx_ok (d := 832) (i := 29) fD_13 eL_law_844.2.2.2.2.2.2.2.2.2.2.2.2.2.2.1
theorem dL_law_864 : decode cL_law 864 = .ok (.iconst 1, 1) := fx_ok (d := 832) (i := 32) fD_13 eL_law_844.2.2.2.2.2.2.2.2.2.2.2.2.2.2.2
theorem eL_law_865 : (fdecl fT_13 33 = some (.goto 4, 3)) ∧ (fdecl fT_13 36 = some (.iconst 0, 1)) ∧ (fdecl fT_13 37 = some (.aload_n 3, 1)) ∧ (fdecl fT_13 38 = some (.invokestatic 197, 3)) ∧ (fdecl fT_13 41 = some (.istore 5, 2)) ∧ (fdecl fT_13 43 = some (.aload_n 2, 1)) ∧ (fdecl fT_13 44 = some (.aload_n 0, 1)) ∧ (fdecl fT_13 45 = some (.iload 4, 2)) ∧ (fdecl fT_13 47 = some (.iconst 1, 1)) ∧ (fdecl fT_13 48 = some (.iadd, 1)) ∧ (fdecl fT_13 49 = some (.iaload, 1)) ∧ (fdecl fT_13 50 = some (.aload_n 0, 1)) ∧ (fdecl fT_13 51 = some (.iload 4, 2)) ∧ (fdecl fT_13 53 = some (.iconst 2, 1)) ∧ (fdecl fT_13 54 = some (.iadd, 1)) ∧ (fdecl fT_13 55 = some (.iaload, 1)) := by decide +kernel
theorem dL_law_865 : decode cL_law 865 = .ok (.goto 4, 3) := fx_ok (d := 832) (i := 33) fD_13 eL_law_865.1
theorem dL_law_868 : decode cL_law 868 = .ok (.iconst 0, 1) := fx_ok (d := 832) (i := 36) fD_13 eL_law_865.2.1
theorem dL_law_869 : decode cL_law 869 = .ok (.aload_n 3, 1) := fx_ok (d := 832) (i := 37) fD_13 eL_law_865.2.2.1
theorem dL_law_870 : decode cL_law 870 = .ok (.invokestatic 197, 3) := fx_ok (d := 832) (i := 38) fD_13 eL_law_865.2.2.2.1
theorem dL_law_873 : decode cL_law 873 = .ok (.istore 5, 2) := fx_ok (d := 832) (i := 41) fD_13 eL_law_865.2.2.2.2.1
theorem dL_law_875 : decode cL_law 875 = .ok (.aload_n 2, 1) := fx_ok (d := 832) (i := 43) fD_13 eL_law_865.2.2.2.2.2.1
theorem dL_law_876 : decode cL_law 876 = .ok (.aload_n 0, 1) := fx_ok (d := 832) (i := 44) fD_13 eL_law_865.2.2.2.2.2.2.1
theorem dL_law_877 : decode cL_law 877 = .ok (.iload 4, 2) := fx_ok (d := 832) (i := 45) fD_13 eL_law_865.2.2.2.2.2.2.2.1
theorem dL_law_879 : decode cL_law 879 = .ok (.iconst 1, 1) := fx_ok (d := 832) (i := 47) fD_13 eL_law_865.2.2.2.2.2.2.2.2.1
theorem dL_law_880 : decode cL_law 880 = .ok (.iadd, 1) := fx_ok (d := 832) (i := 48) fD_13 eL_law_865.2.2.2.2.2.2.2.2.2.1
theorem dL_law_881 : decode cL_law 881 = .ok (.iaload, 1) := fx_ok (d := 832) (i := 49) fD_13 eL_law_865.2.2.2.2.2.2.2.2.2.2.1
theorem dL_law_882 : decode cL_law 882 = .ok (.aload_n 0, 1) := fx_ok (d := 832) (i := 50) fD_13 eL_law_865.2.2.2.2.2.2.2.2.2.2.2.1
theorem dL_law_883 : decode cL_law 883 = .ok (.iload 4, 2) := fx_ok (d := 832) (i := 51) fD_13 eL_law_865.2.2.2.2.2.2.2.2.2.2.2.2.1
theorem dL_law_885 : decode cL_law 885 = .ok (.iconst 2, 1) := fx_ok (d := 832) (i := 53) fD_13 eL_law_865.2.2.2.2.2.2.2.2.2.2.2.2.2.1
theorem dL_law_886 : decode cL_law 886 = .ok (.iadd, 1) := fx_ok (d := 832) (i := 54) fD_13 eL_law_865.2.2.2.2.2.2.2.2.2.2.2.2.2.2.1
theorem dL_law_887 : decode cL_law 887 = .ok (.iaload, 1) := fx_ok (d := 832) (i := 55) fD_13 eL_law_865.2.2.2.2.2.2.2.2.2.2.2.2.2.2.2
theorem eL_law_888 : (fdecl fT_13 56 = some (.aload_n 0, 1)) ∧ (fdecl fT_13 57 = some (.iload 4, 2)) ∧ (fdecl fT_13 59 = some (.iconst 3, 1)) ∧ (fdecl fT_13 60 = some (.iadd, 1)) ∧ (fdecl fT_13 61 = some (.iaload, 1)) ∧ (fdecl fT_13 62 = some (.aload_n 0, 1)) ∧ (fdecl fT_13 63 = some (.iload 4, 2)) ∧ (fdecl fT_14 1 = some (.iconst 4, 1)) ∧ (fdecl fT_14 2 = some (.iadd, 1)) ∧ (fdecl fT_14 3 = some (.iaload, 1)) ∧ (fdecl fT_14 4 = some (.ifCond .eq 7, 3)) ∧ (fdecl fT_14 7 = some (.iconst 1, 1)) ∧ (fdecl fT_14 8 = some (.goto 4, 3)) ∧ (fdecl fT_14 11 = some (.iconst 0, 1)) ∧ (fdecl fT_14 12 = some (.invokevirtual 200, 3)) ∧ (fdecl fT_14 15 = some (.istore 6, 2)) := by decide +kernel
theorem dL_law_888 : decode cL_law 888 = .ok (.aload_n 0, 1) := fx_ok (d := 832) (i := 56) fD_13 eL_law_888.1
theorem dL_law_889 : decode cL_law 889 = .ok (.iload 4, 2) := fx_ok (d := 832) (i := 57) fD_13 eL_law_888.2.1
theorem dL_law_891 : decode cL_law 891 = .ok (.iconst 3, 1) := fx_ok (d := 832) (i := 59) fD_13 eL_law_888.2.2.1
theorem dL_law_892 : decode cL_law 892 = .ok (.iadd, 1) := fx_ok (d := 832) (i := 60) fD_13 eL_law_888.2.2.2.1
theorem dL_law_893 : decode cL_law 893 = .ok (.iaload, 1) := fx_ok (d := 832) (i := 61) fD_13 eL_law_888.2.2.2.2.1
theorem dL_law_894 : decode cL_law 894 = .ok (.aload_n 0, 1) := fx_ok (d := 832) (i := 62) fD_13 eL_law_888.2.2.2.2.2.1
theorem dL_law_895 : decode cL_law 895 = .ok (.iload 4, 2) := fx_ok (d := 832) (i := 63) fD_13 eL_law_888.2.2.2.2.2.2.1
theorem dL_law_897 : decode cL_law 897 = .ok (.iconst 4, 1) := fx_ok (d := 896) (i := 1) fD_14 eL_law_888.2.2.2.2.2.2.2.1
theorem dL_law_898 : decode cL_law 898 = .ok (.iadd, 1) := fx_ok (d := 896) (i := 2) fD_14 eL_law_888.2.2.2.2.2.2.2.2.1
theorem dL_law_899 : decode cL_law 899 = .ok (.iaload, 1) := fx_ok (d := 896) (i := 3) fD_14 eL_law_888.2.2.2.2.2.2.2.2.2.1
theorem dL_law_900 : decode cL_law 900 = .ok (.ifCond .eq 7, 3) := fx_ok (d := 896) (i := 4) fD_14 eL_law_888.2.2.2.2.2.2.2.2.2.2.1
theorem dL_law_903 : decode cL_law 903 = .ok (.iconst 1, 1) := fx_ok (d := 896) (i := 7) fD_14 eL_law_888.2.2.2.2.2.2.2.2.2.2.2.1
theorem dL_law_904 : decode cL_law 904 = .ok (.goto 4, 3) := fx_ok (d := 896) (i := 8) fD_14 eL_law_888.2.2.2.2.2.2.2.2.2.2.2.2.1
theorem dL_law_907 : decode cL_law 907 = .ok (.iconst 0, 1) := fx_ok (d := 896) (i := 11) fD_14 eL_law_888.2.2.2.2.2.2.2.2.2.2.2.2.2.1
theorem dL_law_908 : decode cL_law 908 = .ok (.invokevirtual 200, 3) := fx_ok (d := 896) (i := 12) fD_14 eL_law_888.2.2.2.2.2.2.2.2.2.2.2.2.2.2.1
theorem dL_law_911 : decode cL_law 911 = .ok (.istore 6, 2) := fx_ok (d := 896) (i := 15) fD_14 eL_law_888.2.2.2.2.2.2.2.2.2.2.2.2.2.2.2
theorem eL_law_913 : (fdecl fT_14 17 = some (.goto 1407, 3)) ∧ (fdecl fT_14 20 = some (.aload_n 1, 1)) ∧ (fdecl fT_14 21 = some (.aload_n 0, 1)) ∧ (fdecl fT_14 22 = some (.iload 4, 2)) ∧ (fdecl fT_14 24 = some (.iconst 1, 1)) ∧ (fdecl fT_14 25 = some (.iadd, 1)) ∧ (fdecl fT_14 26 = some (.iaload, 1)) ∧ (fdecl fT_14 27 = some (.aload_n 0, 1)) ∧ (fdecl fT_14 28 = some (.iload 4, 2)) ∧ (fdecl fT_14 30 = some (.iconst 2, 1)) ∧ (fdecl fT_14 31 = some (.iadd, 1)) ∧ (fdecl fT_14 32 = some (.iaload, 1)) ∧ (fdecl fT_14 33 = some (.ifCond .eq 7, 3)) ∧ (fdecl fT_14 36 = some (.iconst 1, 1)) ∧ (fdecl fT_14 37 = some (.goto 4, 3)) ∧ (fdecl fT_14 40 = some (.iconst 0, 1)) := by decide +kernel
theorem dL_law_913 : decode cL_law 913 = .ok (.goto 1407, 3) := fx_ok (d := 896) (i := 17) fD_14 eL_law_913.1
theorem dL_law_916 : decode cL_law 916 = .ok (.aload_n 1, 1) := fx_ok (d := 896) (i := 20) fD_14 eL_law_913.2.1
theorem dL_law_917 : decode cL_law 917 = .ok (.aload_n 0, 1) := fx_ok (d := 896) (i := 21) fD_14 eL_law_913.2.2.1
theorem dL_law_918 : decode cL_law 918 = .ok (.iload 4, 2) := fx_ok (d := 896) (i := 22) fD_14 eL_law_913.2.2.2.1
theorem dL_law_920 : decode cL_law 920 = .ok (.iconst 1, 1) := fx_ok (d := 896) (i := 24) fD_14 eL_law_913.2.2.2.2.1
theorem dL_law_921 : decode cL_law 921 = .ok (.iadd, 1) := fx_ok (d := 896) (i := 25) fD_14 eL_law_913.2.2.2.2.2.1
theorem dL_law_922 : decode cL_law 922 = .ok (.iaload, 1) := fx_ok (d := 896) (i := 26) fD_14 eL_law_913.2.2.2.2.2.2.1
theorem dL_law_923 : decode cL_law 923 = .ok (.aload_n 0, 1) := fx_ok (d := 896) (i := 27) fD_14 eL_law_913.2.2.2.2.2.2.2.1
theorem dL_law_924 : decode cL_law 924 = .ok (.iload 4, 2) := fx_ok (d := 896) (i := 28) fD_14 eL_law_913.2.2.2.2.2.2.2.2.1
theorem dL_law_926 : decode cL_law 926 = .ok (.iconst 2, 1) := fx_ok (d := 896) (i := 30) fD_14 eL_law_913.2.2.2.2.2.2.2.2.2.1
theorem dL_law_927 : decode cL_law 927 = .ok (.iadd, 1) := fx_ok (d := 896) (i := 31) fD_14 eL_law_913.2.2.2.2.2.2.2.2.2.2.1
theorem dL_law_928 : decode cL_law 928 = .ok (.iaload, 1) := fx_ok (d := 896) (i := 32) fD_14 eL_law_913.2.2.2.2.2.2.2.2.2.2.2.1
theorem dL_law_929 : decode cL_law 929 = .ok (.ifCond .eq 7, 3) := fx_ok (d := 896) (i := 33) fD_14 eL_law_913.2.2.2.2.2.2.2.2.2.2.2.2.1
theorem dL_law_932 : decode cL_law 932 = .ok (.iconst 1, 1) := fx_ok (d := 896) (i := 36) fD_14 eL_law_913.2.2.2.2.2.2.2.2.2.2.2.2.2.1
theorem dL_law_933 : decode cL_law 933 = .ok (.goto 4, 3) := fx_ok (d := 896) (i := 37) fD_14 eL_law_913.2.2.2.2.2.2.2.2.2.2.2.2.2.2.1
theorem dL_law_936 : decode cL_law 936 = .ok (.iconst 0, 1) := fx_ok (d := 896) (i := 40) fD_14 eL_law_913.2.2.2.2.2.2.2.2.2.2.2.2.2.2.2
theorem eL_law_937 : (fdecl fT_14 41 = some (.aload_n 0, 1)) ∧ (fdecl fT_14 42 = some (.iload 4, 2)) ∧ (fdecl fT_14 44 = some (.iconst 3, 1)) ∧ (fdecl fT_14 45 = some (.iadd, 1)) ∧ (fdecl fT_14 46 = some (.iaload, 1)) ∧ (fdecl fT_14 47 = some (.ifCond .eq 7, 3)) ∧ (fdecl fT_14 50 = some (.iconst 1, 1)) ∧ (fdecl fT_14 51 = some (.goto 4, 3)) ∧ (fdecl fT_14 54 = some (.iconst 0, 1)) ∧ (fdecl fT_14 55 = some (.aload_n 3, 1)) ∧ (fdecl fT_14 56 = some (.invokestatic 201, 3)) ∧ (fdecl fT_14 59 = some (.istore 5, 2)) ∧ (fdecl fT_14 61 = some (.aload_n 2, 1)) ∧ (fdecl fT_14 62 = some (.aload_n 0, 1)) ∧ (fdecl fT_14 63 = some (.iload 4, 2)) ∧ (fdecl fT_15 1 = some (.iconst 1, 1)) := by decide +kernel
theorem dL_law_937 : decode cL_law 937 = .ok (.aload_n 0, 1) := fx_ok (d := 896) (i := 41) fD_14 eL_law_937.1
theorem dL_law_938 : decode cL_law 938 = .ok (.iload 4, 2) := fx_ok (d := 896) (i := 42) fD_14 eL_law_937.2.1
theorem dL_law_940 : decode cL_law 940 = .ok (.iconst 3, 1) := fx_ok (d := 896) (i := 44) fD_14 eL_law_937.2.2.1
theorem dL_law_941 : decode cL_law 941 = .ok (.iadd, 1) := fx_ok (d := 896) (i := 45) fD_14 eL_law_937.2.2.2.1
theorem dL_law_942 : decode cL_law 942 = .ok (.iaload, 1) := fx_ok (d := 896) (i := 46) fD_14 eL_law_937.2.2.2.2.1
theorem dL_law_943 : decode cL_law 943 = .ok (.ifCond .eq 7, 3) := fx_ok (d := 896) (i := 47) fD_14 eL_law_937.2.2.2.2.2.1
theorem dL_law_946 : decode cL_law 946 = .ok (.iconst 1, 1) := fx_ok (d := 896) (i := 50) fD_14 eL_law_937.2.2.2.2.2.2.1
theorem dL_law_947 : decode cL_law 947 = .ok (.goto 4, 3) := fx_ok (d := 896) (i := 51) fD_14 eL_law_937.2.2.2.2.2.2.2.1
theorem dL_law_950 : decode cL_law 950 = .ok (.iconst 0, 1) := fx_ok (d := 896) (i := 54) fD_14 eL_law_937.2.2.2.2.2.2.2.2.1
theorem dL_law_951 : decode cL_law 951 = .ok (.aload_n 3, 1) := fx_ok (d := 896) (i := 55) fD_14 eL_law_937.2.2.2.2.2.2.2.2.2.1
theorem dL_law_952 : decode cL_law 952 = .ok (.invokestatic 201, 3) := fx_ok (d := 896) (i := 56) fD_14 eL_law_937.2.2.2.2.2.2.2.2.2.2.1
theorem dL_law_955 : decode cL_law 955 = .ok (.istore 5, 2) := fx_ok (d := 896) (i := 59) fD_14 eL_law_937.2.2.2.2.2.2.2.2.2.2.2.1
theorem dL_law_957 : decode cL_law 957 = .ok (.aload_n 2, 1) := fx_ok (d := 896) (i := 61) fD_14 eL_law_937.2.2.2.2.2.2.2.2.2.2.2.2.1
theorem dL_law_958 : decode cL_law 958 = .ok (.aload_n 0, 1) := fx_ok (d := 896) (i := 62) fD_14 eL_law_937.2.2.2.2.2.2.2.2.2.2.2.2.2.1
theorem dL_law_959 : decode cL_law 959 = .ok (.iload 4, 2) := fx_ok (d := 896) (i := 63) fD_14 eL_law_937.2.2.2.2.2.2.2.2.2.2.2.2.2.2.1
theorem dL_law_961 : decode cL_law 961 = .ok (.iconst 1, 1) := fx_ok (d := 960) (i := 1) fD_15 eL_law_937.2.2.2.2.2.2.2.2.2.2.2.2.2.2.2
theorem eL_law_962 : (fdecl fT_15 2 = some (.iadd, 1)) ∧ (fdecl fT_15 3 = some (.iaload, 1)) ∧ (fdecl fT_15 4 = some (.aload_n 0, 1)) ∧ (fdecl fT_15 5 = some (.iload 4, 2)) ∧ (fdecl fT_15 7 = some (.iconst 2, 1)) ∧ (fdecl fT_15 8 = some (.iadd, 1)) ∧ (fdecl fT_15 9 = some (.iaload, 1)) ∧ (fdecl fT_15 10 = some (.ifCond .eq 7, 3)) ∧ (fdecl fT_15 13 = some (.iconst 1, 1)) ∧ (fdecl fT_15 14 = some (.goto 4, 3)) ∧ (fdecl fT_15 17 = some (.iconst 0, 1)) ∧ (fdecl fT_15 18 = some (.aload_n 0, 1)) ∧ (fdecl fT_15 19 = some (.iload 4, 2)) ∧ (fdecl fT_15 21 = some (.iconst 3, 1)) ∧ (fdecl fT_15 22 = some (.iadd, 1)) ∧ (fdecl fT_15 23 = some (.iaload, 1)) := by decide +kernel
theorem dL_law_962 : decode cL_law 962 = .ok (.iadd, 1) := fx_ok (d := 960) (i := 2) fD_15 eL_law_962.1
theorem dL_law_963 : decode cL_law 963 = .ok (.iaload, 1) := fx_ok (d := 960) (i := 3) fD_15 eL_law_962.2.1
theorem dL_law_964 : decode cL_law 964 = .ok (.aload_n 0, 1) := fx_ok (d := 960) (i := 4) fD_15 eL_law_962.2.2.1
theorem dL_law_965 : decode cL_law 965 = .ok (.iload 4, 2) := fx_ok (d := 960) (i := 5) fD_15 eL_law_962.2.2.2.1
theorem dL_law_967 : decode cL_law 967 = .ok (.iconst 2, 1) := fx_ok (d := 960) (i := 7) fD_15 eL_law_962.2.2.2.2.1
theorem dL_law_968 : decode cL_law 968 = .ok (.iadd, 1) := fx_ok (d := 960) (i := 8) fD_15 eL_law_962.2.2.2.2.2.1
theorem dL_law_969 : decode cL_law 969 = .ok (.iaload, 1) := fx_ok (d := 960) (i := 9) fD_15 eL_law_962.2.2.2.2.2.2.1
theorem dL_law_970 : decode cL_law 970 = .ok (.ifCond .eq 7, 3) := fx_ok (d := 960) (i := 10) fD_15 eL_law_962.2.2.2.2.2.2.2.1
theorem dL_law_973 : decode cL_law 973 = .ok (.iconst 1, 1) := fx_ok (d := 960) (i := 13) fD_15 eL_law_962.2.2.2.2.2.2.2.2.1
theorem dL_law_974 : decode cL_law 974 = .ok (.goto 4, 3) := fx_ok (d := 960) (i := 14) fD_15 eL_law_962.2.2.2.2.2.2.2.2.2.1
theorem dL_law_977 : decode cL_law 977 = .ok (.iconst 0, 1) := fx_ok (d := 960) (i := 17) fD_15 eL_law_962.2.2.2.2.2.2.2.2.2.2.1
theorem dL_law_978 : decode cL_law 978 = .ok (.aload_n 0, 1) := fx_ok (d := 960) (i := 18) fD_15 eL_law_962.2.2.2.2.2.2.2.2.2.2.2.1
theorem dL_law_979 : decode cL_law 979 = .ok (.iload 4, 2) := fx_ok (d := 960) (i := 19) fD_15 eL_law_962.2.2.2.2.2.2.2.2.2.2.2.2.1
theorem dL_law_981 : decode cL_law 981 = .ok (.iconst 3, 1) := fx_ok (d := 960) (i := 21) fD_15 eL_law_962.2.2.2.2.2.2.2.2.2.2.2.2.2.1
theorem dL_law_982 : decode cL_law 982 = .ok (.iadd, 1) := fx_ok (d := 960) (i := 22) fD_15 eL_law_962.2.2.2.2.2.2.2.2.2.2.2.2.2.2.1
theorem dL_law_983 : decode cL_law 983 = .ok (.iaload, 1) := fx_ok (d := 960) (i := 23) fD_15 eL_law_962.2.2.2.2.2.2.2.2.2.2.2.2.2.2.2
theorem eL_law_984 : (fdecl fT_15 24 = some (.ifCond .eq 7, 3)) ∧ (fdecl fT_15 27 = some (.iconst 1, 1)) ∧ (fdecl fT_15 28 = some (.goto 4, 3)) ∧ (fdecl fT_15 31 = some (.iconst 0, 1)) ∧ (fdecl fT_15 32 = some (.invokevirtual 204, 3)) ∧ (fdecl fT_15 35 = some (.istore 6, 2)) ∧ (fdecl fT_15 37 = some (.goto 1323, 3)) ∧ (fdecl fT_15 40 = some (.aload_n 1, 1)) ∧ (fdecl fT_15 41 = some (.aload_n 0, 1)) ∧ (fdecl fT_15 42 = some (.iload 4, 2)) ∧ (fdecl fT_15 44 = some (.iconst 1, 1)) ∧ (fdecl fT_15 45 = some (.iadd, 1)) ∧ (fdecl fT_15 46 = some (.iaload, 1)) ∧ (fdecl fT_15 47 = some (.aload_n 0, 1)) ∧ (fdecl fT_15 48 = some (.iload 4, 2)) ∧ (fdecl fT_15 50 = some (.iconst 2, 1)) := by decide +kernel
theorem dL_law_984 : decode cL_law 984 = .ok (.ifCond .eq 7, 3) := fx_ok (d := 960) (i := 24) fD_15 eL_law_984.1
theorem dL_law_987 : decode cL_law 987 = .ok (.iconst 1, 1) := fx_ok (d := 960) (i := 27) fD_15 eL_law_984.2.1
theorem dL_law_988 : decode cL_law 988 = .ok (.goto 4, 3) := fx_ok (d := 960) (i := 28) fD_15 eL_law_984.2.2.1
theorem dL_law_991 : decode cL_law 991 = .ok (.iconst 0, 1) := fx_ok (d := 960) (i := 31) fD_15 eL_law_984.2.2.2.1
theorem dL_law_992 : decode cL_law 992 = .ok (.invokevirtual 204, 3) := fx_ok (d := 960) (i := 32) fD_15 eL_law_984.2.2.2.2.1
theorem dL_law_995 : decode cL_law 995 = .ok (.istore 6, 2) := fx_ok (d := 960) (i := 35) fD_15 eL_law_984.2.2.2.2.2.1
theorem dL_law_997 : decode cL_law 997 = .ok (.goto 1323, 3) := fx_ok (d := 960) (i := 37) fD_15 eL_law_984.2.2.2.2.2.2.1
theorem dL_law_1000 : decode cL_law 1000 = .ok (.aload_n 1, 1) := fx_ok (d := 960) (i := 40) fD_15 eL_law_984.2.2.2.2.2.2.2.1
theorem dL_law_1001 : decode cL_law 1001 = .ok (.aload_n 0, 1) := fx_ok (d := 960) (i := 41) fD_15 eL_law_984.2.2.2.2.2.2.2.2.1
theorem dL_law_1002 : decode cL_law 1002 = .ok (.iload 4, 2) := fx_ok (d := 960) (i := 42) fD_15 eL_law_984.2.2.2.2.2.2.2.2.2.1
theorem dL_law_1004 : decode cL_law 1004 = .ok (.iconst 1, 1) := fx_ok (d := 960) (i := 44) fD_15 eL_law_984.2.2.2.2.2.2.2.2.2.2.1
theorem dL_law_1005 : decode cL_law 1005 = .ok (.iadd, 1) := fx_ok (d := 960) (i := 45) fD_15 eL_law_984.2.2.2.2.2.2.2.2.2.2.2.1
theorem dL_law_1006 : decode cL_law 1006 = .ok (.iaload, 1) := fx_ok (d := 960) (i := 46) fD_15 eL_law_984.2.2.2.2.2.2.2.2.2.2.2.2.1
theorem dL_law_1007 : decode cL_law 1007 = .ok (.aload_n 0, 1) := fx_ok (d := 960) (i := 47) fD_15 eL_law_984.2.2.2.2.2.2.2.2.2.2.2.2.2.1
theorem dL_law_1008 : decode cL_law 1008 = .ok (.iload 4, 2) := fx_ok (d := 960) (i := 48) fD_15 eL_law_984.2.2.2.2.2.2.2.2.2.2.2.2.2.2.1
theorem dL_law_1010 : decode cL_law 1010 = .ok (.iconst 2, 1) := fx_ok (d := 960) (i := 50) fD_15 eL_law_984.2.2.2.2.2.2.2.2.2.2.2.2.2.2.2
theorem eL_law_1011 : (fdecl fT_15 51 = some (.iadd, 1)) ∧ (fdecl fT_15 52 = some (.iaload, 1)) ∧ (fdecl fT_15 53 = some (.aload_n 0, 1)) ∧ (fdecl fT_15 54 = some (.iload 4, 2)) ∧ (fdecl fT_15 56 = some (.iconst 3, 1)) ∧ (fdecl fT_15 57 = some (.iadd, 1)) ∧ (fdecl fT_15 58 = some (.iaload, 1)) ∧ (fdecl fT_15 59 = some (.ifCond .eq 7, 3)) ∧ (fdecl fT_15 62 = some (.iconst 1, 1)) ∧ (fdecl fT_15 63 = some (.goto 4, 3)) ∧ (fdecl fT_16 2 = some (.iconst 0, 1)) ∧ (fdecl fT_16 3 = some (.aload_n 3, 1)) ∧ (fdecl fT_16 4 = some (.invokestatic 205, 3)) ∧ (fdecl fT_16 7 = some (.istore 5, 2)) ∧ (fdecl fT_16 9 = some (.aload_n 2, 1)) ∧ (fdecl fT_16 10 = some (.aload_n 0, 1)) := by decide +kernel
theorem dL_law_1011 : decode cL_law 1011 = .ok (.iadd, 1) := fx_ok (d := 960) (i := 51) fD_15 eL_law_1011.1
theorem dL_law_1012 : decode cL_law 1012 = .ok (.iaload, 1) := fx_ok (d := 960) (i := 52) fD_15 eL_law_1011.2.1
theorem dL_law_1013 : decode cL_law 1013 = .ok (.aload_n 0, 1) := fx_ok (d := 960) (i := 53) fD_15 eL_law_1011.2.2.1
theorem dL_law_1014 : decode cL_law 1014 = .ok (.iload 4, 2) := fx_ok (d := 960) (i := 54) fD_15 eL_law_1011.2.2.2.1
theorem dL_law_1016 : decode cL_law 1016 = .ok (.iconst 3, 1) := fx_ok (d := 960) (i := 56) fD_15 eL_law_1011.2.2.2.2.1
theorem dL_law_1017 : decode cL_law 1017 = .ok (.iadd, 1) := fx_ok (d := 960) (i := 57) fD_15 eL_law_1011.2.2.2.2.2.1
theorem dL_law_1018 : decode cL_law 1018 = .ok (.iaload, 1) := fx_ok (d := 960) (i := 58) fD_15 eL_law_1011.2.2.2.2.2.2.1
theorem dL_law_1019 : decode cL_law 1019 = .ok (.ifCond .eq 7, 3) := fx_ok (d := 960) (i := 59) fD_15 eL_law_1011.2.2.2.2.2.2.2.1
theorem dL_law_1022 : decode cL_law 1022 = .ok (.iconst 1, 1) := fx_ok (d := 960) (i := 62) fD_15 eL_law_1011.2.2.2.2.2.2.2.2.1
theorem dL_law_1023 : decode cL_law 1023 = .ok (.goto 4, 3) := fx_ok (d := 960) (i := 63) fD_15 eL_law_1011.2.2.2.2.2.2.2.2.2.1
theorem dL_law_1026 : decode cL_law 1026 = .ok (.iconst 0, 1) := fx_ok (d := 1024) (i := 2) fD_16 eL_law_1011.2.2.2.2.2.2.2.2.2.2.1
theorem dL_law_1027 : decode cL_law 1027 = .ok (.aload_n 3, 1) := fx_ok (d := 1024) (i := 3) fD_16 eL_law_1011.2.2.2.2.2.2.2.2.2.2.2.1
theorem dL_law_1028 : decode cL_law 1028 = .ok (.invokestatic 205, 3) := fx_ok (d := 1024) (i := 4) fD_16 eL_law_1011.2.2.2.2.2.2.2.2.2.2.2.2.1
theorem dL_law_1031 : decode cL_law 1031 = .ok (.istore 5, 2) := fx_ok (d := 1024) (i := 7) fD_16 eL_law_1011.2.2.2.2.2.2.2.2.2.2.2.2.2.1
theorem dL_law_1033 : decode cL_law 1033 = .ok (.aload_n 2, 1) := fx_ok (d := 1024) (i := 9) fD_16 eL_law_1011.2.2.2.2.2.2.2.2.2.2.2.2.2.2.1
theorem dL_law_1034 : decode cL_law 1034 = .ok (.aload_n 0, 1) := fx_ok (d := 1024) (i := 10) fD_16 eL_law_1011.2.2.2.2.2.2.2.2.2.2.2.2.2.2.2
theorem eL_law_1035 : (fdecl fT_16 11 = some (.iload 4, 2)) ∧ (fdecl fT_16 13 = some (.iconst 1, 1)) ∧ (fdecl fT_16 14 = some (.iadd, 1)) ∧ (fdecl fT_16 15 = some (.iaload, 1)) ∧ (fdecl fT_16 16 = some (.aload_n 0, 1)) ∧ (fdecl fT_16 17 = some (.iload 4, 2)) ∧ (fdecl fT_16 19 = some (.iconst 2, 1)) ∧ (fdecl fT_16 20 = some (.iadd, 1)) ∧ (fdecl fT_16 21 = some (.iaload, 1)) ∧ (fdecl fT_16 22 = some (.aload_n 0, 1)) ∧ (fdecl fT_16 23 = some (.iload 4, 2)) ∧ (fdecl fT_16 25 = some (.iconst 3, 1)) ∧ (fdecl fT_16 26 = some (.iadd, 1)) ∧ (fdecl fT_16 27 = some (.iaload, 1)) ∧ (fdecl fT_16 28 = some (.ifCond .eq 7, 3)) ∧ (fdecl fT_16 31 = some (.iconst 1, 1)) := by decide +kernel
theorem dL_law_1035 : decode cL_law 1035 = .ok (.iload 4, 2) := fx_ok (d := 1024) (i := 11) fD_16 eL_law_1035.1
theorem dL_law_1037 : decode cL_law 1037 = .ok (.iconst 1, 1) := fx_ok (d := 1024) (i := 13) fD_16 eL_law_1035.2.1
theorem dL_law_1038 : decode cL_law 1038 = .ok (.iadd, 1) := fx_ok (d := 1024) (i := 14) fD_16 eL_law_1035.2.2.1
theorem dL_law_1039 : decode cL_law 1039 = .ok (.iaload, 1) := fx_ok (d := 1024) (i := 15) fD_16 eL_law_1035.2.2.2.1
theorem dL_law_1040 : decode cL_law 1040 = .ok (.aload_n 0, 1) := fx_ok (d := 1024) (i := 16) fD_16 eL_law_1035.2.2.2.2.1
theorem dL_law_1041 : decode cL_law 1041 = .ok (.iload 4, 2) := fx_ok (d := 1024) (i := 17) fD_16 eL_law_1035.2.2.2.2.2.1
theorem dL_law_1043 : decode cL_law 1043 = .ok (.iconst 2, 1) := fx_ok (d := 1024) (i := 19) fD_16 eL_law_1035.2.2.2.2.2.2.1
theorem dL_law_1044 : decode cL_law 1044 = .ok (.iadd, 1) := fx_ok (d := 1024) (i := 20) fD_16 eL_law_1035.2.2.2.2.2.2.2.1
theorem dL_law_1045 : decode cL_law 1045 = .ok (.iaload, 1) := fx_ok (d := 1024) (i := 21) fD_16 eL_law_1035.2.2.2.2.2.2.2.2.1
theorem dL_law_1046 : decode cL_law 1046 = .ok (.aload_n 0, 1) := fx_ok (d := 1024) (i := 22) fD_16 eL_law_1035.2.2.2.2.2.2.2.2.2.1
theorem dL_law_1047 : decode cL_law 1047 = .ok (.iload 4, 2) := fx_ok (d := 1024) (i := 23) fD_16 eL_law_1035.2.2.2.2.2.2.2.2.2.2.1
theorem dL_law_1049 : decode cL_law 1049 = .ok (.iconst 3, 1) := fx_ok (d := 1024) (i := 25) fD_16 eL_law_1035.2.2.2.2.2.2.2.2.2.2.2.1
theorem dL_law_1050 : decode cL_law 1050 = .ok (.iadd, 1) := fx_ok (d := 1024) (i := 26) fD_16 eL_law_1035.2.2.2.2.2.2.2.2.2.2.2.2.1
theorem dL_law_1051 : decode cL_law 1051 = .ok (.iaload, 1) := fx_ok (d := 1024) (i := 27) fD_16 eL_law_1035.2.2.2.2.2.2.2.2.2.2.2.2.2.1
theorem dL_law_1052 : decode cL_law 1052 = .ok (.ifCond .eq 7, 3) := fx_ok (d := 1024) (i := 28) fD_16 eL_law_1035.2.2.2.2.2.2.2.2.2.2.2.2.2.2.1
theorem dL_law_1055 : decode cL_law 1055 = .ok (.iconst 1, 1) := fx_ok (d := 1024) (i := 31) fD_16 eL_law_1035.2.2.2.2.2.2.2.2.2.2.2.2.2.2.2
theorem eL_law_1056 : (fdecl fT_16 32 = some (.goto 4, 3)) ∧ (fdecl fT_16 35 = some (.iconst 0, 1)) ∧ (fdecl fT_16 36 = some (.invokevirtual 207, 3)) ∧ (fdecl fT_16 39 = some (.istore 6, 2)) ∧ (fdecl fT_16 41 = some (.goto 1255, 3)) ∧ (fdecl fT_16 44 = some (.aload_n 1, 1)) ∧ (fdecl fT_16 45 = some (.aload_n 0, 1)) ∧ (fdecl fT_16 46 = some (.iload 4, 2)) ∧ (fdecl fT_16 48 = some (.iconst 1, 1)) ∧ (fdecl fT_16 49 = some (.iadd, 1)) ∧ (fdecl fT_16 50 = some (.iaload, 1)) ∧ (fdecl fT_16 51 = some (.aload_n 0, 1)) ∧ (fdecl fT_16 52 = some (.iload 4, 2)) ∧ (fdecl fT_16 54 = some (.iconst 2, 1)) ∧ (fdecl fT_16 55 = some (.iadd, 1)) ∧ (fdecl fT_16 56 = some (.iaload, 1)) := by decide +kernel
theorem dL_law_1056 : decode cL_law 1056 = .ok (.goto 4, 3) := fx_ok (d := 1024) (i := 32) fD_16 eL_law_1056.1
theorem dL_law_1059 : decode cL_law 1059 = .ok (.iconst 0, 1) := fx_ok (d := 1024) (i := 35) fD_16 eL_law_1056.2.1
theorem dL_law_1060 : decode cL_law 1060 = .ok (.invokevirtual 207, 3) := fx_ok (d := 1024) (i := 36) fD_16 eL_law_1056.2.2.1
theorem dL_law_1063 : decode cL_law 1063 = .ok (.istore 6, 2) := fx_ok (d := 1024) (i := 39) fD_16 eL_law_1056.2.2.2.1
theorem dL_law_1065 : decode cL_law 1065 = .ok (.goto 1255, 3) := fx_ok (d := 1024) (i := 41) fD_16 eL_law_1056.2.2.2.2.1
theorem dL_law_1068 : decode cL_law 1068 = .ok (.aload_n 1, 1) := fx_ok (d := 1024) (i := 44) fD_16 eL_law_1056.2.2.2.2.2.1
theorem dL_law_1069 : decode cL_law 1069 = .ok (.aload_n 0, 1) := fx_ok (d := 1024) (i := 45) fD_16 eL_law_1056.2.2.2.2.2.2.1
theorem dL_law_1070 : decode cL_law 1070 = .ok (.iload 4, 2) := fx_ok (d := 1024) (i := 46) fD_16 eL_law_1056.2.2.2.2.2.2.2.1
theorem dL_law_1072 : decode cL_law 1072 = .ok (.iconst 1, 1) := fx_ok (d := 1024) (i := 48) fD_16 eL_law_1056.2.2.2.2.2.2.2.2.1
theorem dL_law_1073 : decode cL_law 1073 = .ok (.iadd, 1) := fx_ok (d := 1024) (i := 49) fD_16 eL_law_1056.2.2.2.2.2.2.2.2.2.1
theorem dL_law_1074 : decode cL_law 1074 = .ok (.iaload, 1) := fx_ok (d := 1024) (i := 50) fD_16 eL_law_1056.2.2.2.2.2.2.2.2.2.2.1
theorem dL_law_1075 : decode cL_law 1075 = .ok (.aload_n 0, 1) := fx_ok (d := 1024) (i := 51) fD_16 eL_law_1056.2.2.2.2.2.2.2.2.2.2.2.1
theorem dL_law_1076 : decode cL_law 1076 = .ok (.iload 4, 2) := fx_ok (d := 1024) (i := 52) fD_16 eL_law_1056.2.2.2.2.2.2.2.2.2.2.2.2.1
theorem dL_law_1078 : decode cL_law 1078 = .ok (.iconst 2, 1) := fx_ok (d := 1024) (i := 54) fD_16 eL_law_1056.2.2.2.2.2.2.2.2.2.2.2.2.2.1
theorem dL_law_1079 : decode cL_law 1079 = .ok (.iadd, 1) := fx_ok (d := 1024) (i := 55) fD_16 eL_law_1056.2.2.2.2.2.2.2.2.2.2.2.2.2.2.1
theorem dL_law_1080 : decode cL_law 1080 = .ok (.iaload, 1) := fx_ok (d := 1024) (i := 56) fD_16 eL_law_1056.2.2.2.2.2.2.2.2.2.2.2.2.2.2.2
theorem eL_law_1081 : (fdecl fT_16 57 = some (.aload_n 3, 1)) ∧ (fdecl fT_16 58 = some (.invokestatic 208, 3)) ∧ (fdecl fT_16 61 = some (.istore 5, 2)) ∧ (fdecl fT_16 63 = some (.aload_n 2, 1)) ∧ (fdecl fT_17 0 = some (.aload_n 0, 1)) ∧ (fdecl fT_17 1 = some (.iload 4, 2)) ∧ (fdecl fT_17 3 = some (.iconst 1, 1)) ∧ (fdecl fT_17 4 = some (.iadd, 1)) ∧ (fdecl fT_17 5 = some (.iaload, 1)) ∧ (fdecl fT_17 6 = some (.aload_n 0, 1)) ∧ (fdecl fT_17 7 = some (.iload 4, 2)) ∧ (fdecl fT_17 9 = some (.iconst 2, 1)) ∧ (fdecl fT_17 10 = some (.iadd, 1)) ∧ (fdecl fT_17 11 = some (.iaload, 1)) ∧ (fdecl fT_17 12 = some (.invokevirtual 210, 3)) ∧ (fdecl fT_17 15 = some (.istore 6, 2)) := by decide +kernel
theorem dL_law_1081 : decode cL_law 1081 = .ok (.aload_n 3, 1) := fx_ok (d := 1024) (i := 57) fD_16 eL_law_1081.1
theorem dL_law_1082 : decode cL_law 1082 = .ok (.invokestatic 208, 3) := fx_ok (d := 1024) (i := 58) fD_16 eL_law_1081.2.1
theorem dL_law_1085 : decode cL_law 1085 = .ok (.istore 5, 2) := fx_ok (d := 1024) (i := 61) fD_16 eL_law_1081.2.2.1
theorem dL_law_1087 : decode cL_law 1087 = .ok (.aload_n 2, 1) := fx_ok (d := 1024) (i := 63) fD_16 eL_law_1081.2.2.2.1
theorem dL_law_1088 : decode cL_law 1088 = .ok (.aload_n 0, 1) := fx_ok (d := 1088) (i := 0) fD_17 eL_law_1081.2.2.2.2.1
theorem dL_law_1089 : decode cL_law 1089 = .ok (.iload 4, 2) := fx_ok (d := 1088) (i := 1) fD_17 eL_law_1081.2.2.2.2.2.1
theorem dL_law_1091 : decode cL_law 1091 = .ok (.iconst 1, 1) := fx_ok (d := 1088) (i := 3) fD_17 eL_law_1081.2.2.2.2.2.2.1
theorem dL_law_1092 : decode cL_law 1092 = .ok (.iadd, 1) := fx_ok (d := 1088) (i := 4) fD_17 eL_law_1081.2.2.2.2.2.2.2.1
theorem dL_law_1093 : decode cL_law 1093 = .ok (.iaload, 1) := fx_ok (d := 1088) (i := 5) fD_17 eL_law_1081.2.2.2.2.2.2.2.2.1
theorem dL_law_1094 : decode cL_law 1094 = .ok (.aload_n 0, 1) := fx_ok (d := 1088) (i := 6) fD_17 eL_law_1081.2.2.2.2.2.2.2.2.2.1
theorem dL_law_1095 : decode cL_law 1095 = .ok (.iload 4, 2) := fx_ok (d := 1088) (i := 7) fD_17 eL_law_1081.2.2.2.2.2.2.2.2.2.2.1
theorem dL_law_1097 : decode cL_law 1097 = .ok (.iconst 2, 1) := fx_ok (d := 1088) (i := 9) fD_17 eL_law_1081.2.2.2.2.2.2.2.2.2.2.2.1
theorem dL_law_1098 : decode cL_law 1098 = .ok (.iadd, 1) := fx_ok (d := 1088) (i := 10) fD_17 eL_law_1081.2.2.2.2.2.2.2.2.2.2.2.2.1
theorem dL_law_1099 : decode cL_law 1099 = .ok (.iaload, 1) := fx_ok (d := 1088) (i := 11) fD_17 eL_law_1081.2.2.2.2.2.2.2.2.2.2.2.2.2.1
theorem dL_law_1100 : decode cL_law 1100 = .ok (.invokevirtual 210, 3) := fx_ok (d := 1088) (i := 12) fD_17 eL_law_1081.2.2.2.2.2.2.2.2.2.2.2.2.2.2.1
theorem dL_law_1103 : decode cL_law 1103 = .ok (.istore 6, 2) := fx_ok (d := 1088) (i := 15) fD_17 eL_law_1081.2.2.2.2.2.2.2.2.2.2.2.2.2.2.2
theorem eL_law_1105 : (fdecl fT_17 17 = some (.goto 1215, 3)) ∧ (fdecl fT_17 20 = some (.aload_n 1, 1)) ∧ (fdecl fT_17 21 = some (.aload_n 0, 1)) ∧ (fdecl fT_17 22 = some (.iload 4, 2)) ∧ (fdecl fT_17 24 = some (.iconst 1, 1)) ∧ (fdecl fT_17 25 = some (.iadd, 1)) ∧ (fdecl fT_17 26 = some (.iaload, 1)) ∧ (fdecl fT_17 27 = some (.aload_n 3, 1)) ∧ (fdecl fT_17 28 = some (.invokestatic 211, 3)) ∧ (fdecl fT_17 31 = some (.istore 5, 2)) ∧ (fdecl fT_17 33 = some (.aload_n 2, 1)) ∧ (fdecl fT_17 34 = some (.aload_n 0, 1)) ∧ (fdecl fT_17 35 = some (.iload 4, 2)) ∧ (fdecl fT_17 37 = some (.iconst 1, 1)) ∧ (fdecl fT_17 38 = some (.iadd, 1)) ∧ (fdecl fT_17 39 = some (.iaload, 1)) := by decide +kernel
theorem dL_law_1105 : decode cL_law 1105 = .ok (.goto 1215, 3) := fx_ok (d := 1088) (i := 17) fD_17 eL_law_1105.1
theorem dL_law_1108 : decode cL_law 1108 = .ok (.aload_n 1, 1) := fx_ok (d := 1088) (i := 20) fD_17 eL_law_1105.2.1
theorem dL_law_1109 : decode cL_law 1109 = .ok (.aload_n 0, 1) := fx_ok (d := 1088) (i := 21) fD_17 eL_law_1105.2.2.1
theorem dL_law_1110 : decode cL_law 1110 = .ok (.iload 4, 2) := fx_ok (d := 1088) (i := 22) fD_17 eL_law_1105.2.2.2.1
theorem dL_law_1112 : decode cL_law 1112 = .ok (.iconst 1, 1) := fx_ok (d := 1088) (i := 24) fD_17 eL_law_1105.2.2.2.2.1
theorem dL_law_1113 : decode cL_law 1113 = .ok (.iadd, 1) := fx_ok (d := 1088) (i := 25) fD_17 eL_law_1105.2.2.2.2.2.1
theorem dL_law_1114 : decode cL_law 1114 = .ok (.iaload, 1) := fx_ok (d := 1088) (i := 26) fD_17 eL_law_1105.2.2.2.2.2.2.1
theorem dL_law_1115 : decode cL_law 1115 = .ok (.aload_n 3, 1) := fx_ok (d := 1088) (i := 27) fD_17 eL_law_1105.2.2.2.2.2.2.2.1
theorem dL_law_1116 : decode cL_law 1116 = .ok (.invokestatic 211, 3) := fx_ok (d := 1088) (i := 28) fD_17 eL_law_1105.2.2.2.2.2.2.2.2.1
theorem dL_law_1119 : decode cL_law 1119 = .ok (.istore 5, 2) := fx_ok (d := 1088) (i := 31) fD_17 eL_law_1105.2.2.2.2.2.2.2.2.2.1
theorem dL_law_1121 : decode cL_law 1121 = .ok (.aload_n 2, 1) := fx_ok (d := 1088) (i := 33) fD_17 eL_law_1105.2.2.2.2.2.2.2.2.2.2.1
theorem dL_law_1122 : decode cL_law 1122 = .ok (.aload_n 0, 1) := fx_ok (d := 1088) (i := 34) fD_17 eL_law_1105.2.2.2.2.2.2.2.2.2.2.2.1
theorem dL_law_1123 : decode cL_law 1123 = .ok (.iload 4, 2) := fx_ok (d := 1088) (i := 35) fD_17 eL_law_1105.2.2.2.2.2.2.2.2.2.2.2.2.1
theorem dL_law_1125 : decode cL_law 1125 = .ok (.iconst 1, 1) := fx_ok (d := 1088) (i := 37) fD_17 eL_law_1105.2.2.2.2.2.2.2.2.2.2.2.2.2.1
theorem dL_law_1126 : decode cL_law 1126 = .ok (.iadd, 1) := fx_ok (d := 1088) (i := 38) fD_17 eL_law_1105.2.2.2.2.2.2.2.2.2.2.2.2.2.2.1
theorem dL_law_1127 : decode cL_law 1127 = .ok (.iaload, 1) := fx_ok (d := 1088) (i := 39) fD_17 eL_law_1105.2.2.2.2.2.2.2.2.2.2.2.2.2.2.2
theorem eL_law_1128 : (fdecl fT_17 40 = some (.invokevirtual 214, 3)) ∧ (fdecl fT_17 43 = some (.astore 6, 2)) ∧ (fdecl fT_17 45 = some (.goto 1187, 3)) ∧ (fdecl fT_17 48 = some (.aload_n 1, 1)) ∧ (fdecl fT_17 49 = some (.aload_n 0, 1)) ∧ (fdecl fT_17 50 = some (.iload 4, 2)) ∧ (fdecl fT_17 52 = some (.iconst 1, 1)) ∧ (fdecl fT_17 53 = some (.iadd, 1)) ∧ (fdecl fT_17 54 = some (.iaload, 1)) ∧ (fdecl fT_17 55 = some (.aload_n 0, 1)) ∧ (fdecl fT_17 56 = some (.iload 4, 2)) ∧ (fdecl fT_17 58 = some (.iconst 2, 1)) ∧ (fdecl fT_17 59 = some (.iadd, 1)) ∧ (fdecl fT_17 60 = some (.iaload, 1)) ∧ (fdecl fT_17 61 = some (.aload_n 3, 1)) ∧ (fdecl fT_17 62 = some (.invokestatic 215, 3)) := by decide +kernel
theorem dL_law_1128 : decode cL_law 1128 = .ok (.invokevirtual 214, 3) := fx_ok (d := 1088) (i := 40) fD_17 eL_law_1128.1
theorem dL_law_1131 : decode cL_law 1131 = .ok (.astore 6, 2) := fx_ok (d := 1088) (i := 43) fD_17 eL_law_1128.2.1
theorem dL_law_1133 : decode cL_law 1133 = .ok (.goto 1187, 3) := fx_ok (d := 1088) (i := 45) fD_17 eL_law_1128.2.2.1
theorem dL_law_1136 : decode cL_law 1136 = .ok (.aload_n 1, 1) := fx_ok (d := 1088) (i := 48) fD_17 eL_law_1128.2.2.2.1
theorem dL_law_1137 : decode cL_law 1137 = .ok (.aload_n 0, 1) := fx_ok (d := 1088) (i := 49) fD_17 eL_law_1128.2.2.2.2.1
theorem dL_law_1138 : decode cL_law 1138 = .ok (.iload 4, 2) := fx_ok (d := 1088) (i := 50) fD_17 eL_law_1128.2.2.2.2.2.1
theorem dL_law_1140 : decode cL_law 1140 = .ok (.iconst 1, 1) := fx_ok (d := 1088) (i := 52) fD_17 eL_law_1128.2.2.2.2.2.2.1
theorem dL_law_1141 : decode cL_law 1141 = .ok (.iadd, 1) := fx_ok (d := 1088) (i := 53) fD_17 eL_law_1128.2.2.2.2.2.2.2.1
theorem dL_law_1142 : decode cL_law 1142 = .ok (.iaload, 1) := fx_ok (d := 1088) (i := 54) fD_17 eL_law_1128.2.2.2.2.2.2.2.2.1
theorem dL_law_1143 : decode cL_law 1143 = .ok (.aload_n 0, 1) := fx_ok (d := 1088) (i := 55) fD_17 eL_law_1128.2.2.2.2.2.2.2.2.2.1
theorem dL_law_1144 : decode cL_law 1144 = .ok (.iload 4, 2) := fx_ok (d := 1088) (i := 56) fD_17 eL_law_1128.2.2.2.2.2.2.2.2.2.2.1
theorem dL_law_1146 : decode cL_law 1146 = .ok (.iconst 2, 1) := fx_ok (d := 1088) (i := 58) fD_17 eL_law_1128.2.2.2.2.2.2.2.2.2.2.2.1
theorem dL_law_1147 : decode cL_law 1147 = .ok (.iadd, 1) := fx_ok (d := 1088) (i := 59) fD_17 eL_law_1128.2.2.2.2.2.2.2.2.2.2.2.2.1
theorem dL_law_1148 : decode cL_law 1148 = .ok (.iaload, 1) := fx_ok (d := 1088) (i := 60) fD_17 eL_law_1128.2.2.2.2.2.2.2.2.2.2.2.2.2.1
theorem dL_law_1149 : decode cL_law 1149 = .ok (.aload_n 3, 1) := fx_ok (d := 1088) (i := 61) fD_17 eL_law_1128.2.2.2.2.2.2.2.2.2.2.2.2.2.2.1
theorem dL_law_1150 : decode cL_law 1150 = .ok (.invokestatic 215, 3) := fx_ok (d := 1088) (i := 62) fD_17 eL_law_1128.2.2.2.2.2.2.2.2.2.2.2.2.2.2.2
theorem eL_law_1153 : (fdecl fT_18 1 = some (.istore 5, 2)) ∧ (fdecl fT_18 3 = some (.aload_n 2, 1)) ∧ (fdecl fT_18 4 = some (.aload_n 0, 1)) ∧ (fdecl fT_18 5 = some (.iload 4, 2)) ∧ (fdecl fT_18 7 = some (.iconst 1, 1)) ∧ (fdecl fT_18 8 = some (.iadd, 1)) ∧ (fdecl fT_18 9 = some (.iaload, 1)) ∧ (fdecl fT_18 10 = some (.aload_n 0, 1)) ∧ (fdecl fT_18 11 = some (.iload 4, 2)) ∧ (fdecl fT_18 13 = some (.iconst 2, 1)) ∧ (fdecl fT_18 14 = some (.iadd, 1)) ∧ (fdecl fT_18 15 = some (.iaload, 1)) ∧ (fdecl fT_18 16 = some (.invokevirtual 217, 3)) ∧ (fdecl fT_18 19 = some (.istore 6, 2)) ∧ (fdecl fT_18 21 = some (.goto 1147, 3)) ∧ (fdecl fT_18 24 = some (.aload_n 1, 1)) := by decide +kernel
theorem dL_law_1153 : decode cL_law 1153 = .ok (.istore 5, 2) := fx_ok (d := 1152) (i := 1) fD_18 eL_law_1153.1
theorem dL_law_1155 : decode cL_law 1155 = .ok (.aload_n 2, 1) := fx_ok (d := 1152) (i := 3) fD_18 eL_law_1153.2.1
theorem dL_law_1156 : decode cL_law 1156 = .ok (.aload_n 0, 1) := fx_ok (d := 1152) (i := 4) fD_18 eL_law_1153.2.2.1
theorem dL_law_1157 : decode cL_law 1157 = .ok (.iload 4, 2) := fx_ok (d := 1152) (i := 5) fD_18 eL_law_1153.2.2.2.1
theorem dL_law_1159 : decode cL_law 1159 = .ok (.iconst 1, 1) := fx_ok (d := 1152) (i := 7) fD_18 eL_law_1153.2.2.2.2.1
theorem dL_law_1160 : decode cL_law 1160 = .ok (.iadd, 1) := fx_ok (d := 1152) (i := 8) fD_18 eL_law_1153.2.2.2.2.2.1
theorem dL_law_1161 : decode cL_law 1161 = .ok (.iaload, 1) := fx_ok (d := 1152) (i := 9) fD_18 eL_law_1153.2.2.2.2.2.2.1
theorem dL_law_1162 : decode cL_law 1162 = .ok (.aload_n 0, 1) := fx_ok (d := 1152) (i := 10) fD_18 eL_law_1153.2.2.2.2.2.2.2.1
theorem dL_law_1163 : decode cL_law 1163 = .ok (.iload 4, 2) := fx_ok (d := 1152) (i := 11) fD_18 eL_law_1153.2.2.2.2.2.2.2.2.1
theorem dL_law_1165 : decode cL_law 1165 = .ok (.iconst 2, 1) := fx_ok (d := 1152) (i := 13) fD_18 eL_law_1153.2.2.2.2.2.2.2.2.2.1
theorem dL_law_1166 : decode cL_law 1166 = .ok (.iadd, 1) := fx_ok (d := 1152) (i := 14) fD_18 eL_law_1153.2.2.2.2.2.2.2.2.2.2.1
theorem dL_law_1167 : decode cL_law 1167 = .ok (.iaload, 1) := fx_ok (d := 1152) (i := 15) fD_18 eL_law_1153.2.2.2.2.2.2.2.2.2.2.2.1
theorem dL_law_1168 : decode cL_law 1168 = .ok (.invokevirtual 217, 3) := fx_ok (d := 1152) (i := 16) fD_18 eL_law_1153.2.2.2.2.2.2.2.2.2.2.2.2.1
theorem dL_law_1171 : decode cL_law 1171 = .ok (.istore 6, 2) := fx_ok (d := 1152) (i := 19) fD_18 eL_law_1153.2.2.2.2.2.2.2.2.2.2.2.2.2.1
theorem dL_law_1173 : decode cL_law 1173 = .ok (.goto 1147, 3) := fx_ok (d := 1152) (i := 21) fD_18 eL_law_1153.2.2.2.2.2.2.2.2.2.2.2.2.2.2.1
theorem dL_law_1176 : decode cL_law 1176 = .ok (.aload_n 1, 1) := fx_ok (d := 1152) (i := 24) fD_18 eL_law_1153.2.2.2.2.2.2.2.2.2.2.2.2.2.2.2
theorem eL_law_1177 : (fdecl fT_18 25 = some (.aload_n 0, 1)) ∧ (fdecl fT_18 26 = some (.iload 4, 2)) ∧ (fdecl fT_18 28 = some (.iconst 1, 1)) ∧ (fdecl fT_18 29 = some (.iadd, 1)) ∧ (fdecl fT_18 30 = some (.iaload, 1)) ∧ (fdecl fT_18 31 = some (.aload_n 0, 1)) ∧ (fdecl fT_18 32 = some (.iload 4, 2)) ∧ (fdecl fT_18 34 = some (.iconst 2, 1)) ∧ (fdecl fT_18 35 = some (.iadd, 1)) ∧ (fdecl fT_18 36 = some (.iaload, 1)) ∧ (fdecl fT_18 37 = some (.aload_n 0, 1)) ∧ (fdecl fT_18 38 = some (.iload 4, 2)) ∧ (fdecl fT_18 40 = some (.iconst 3, 1)) ∧ (fdecl fT_18 41 = some (.iadd, 1)) ∧ (fdecl fT_18 42 = some (.iaload, 1)) ∧ (fdecl fT_18 43 = some (.aload_n 0, 1)) := by decide +kernel
theorem dL_law_1177 : decode cL_law 1177 = .ok (.aload_n 0, 1) := fx_ok (d := 1152) (i := 25) fD_18 eL_law_1177.1
theorem dL_law_1178 : decode cL_law 1178 = .ok (.iload 4, 2) := fx_ok (d := 1152) (i := 26) fD_18 eL_law_1177.2.1
theorem dL_law_1180 : decode cL_law 1180 = .ok (.iconst 1, 1) := fx_ok (d := 1152) (i := 28) fD_18 eL_law_1177.2.2.1
theorem dL_law_1181 : decode cL_law 1181 = .ok (.iadd, 1) := fx_ok (d := 1152) (i := 29) fD_18 eL_law_1177.2.2.2.1
theorem dL_law_1182 : decode cL_law 1182 = .ok (.iaload, 1) := fx_ok (d := 1152) (i := 30) fD_18 eL_law_1177.2.2.2.2.1
theorem dL_law_1183 : decode cL_law 1183 = .ok (.aload_n 0, 1) := fx_ok (d := 1152) (i := 31) fD_18 eL_law_1177.2.2.2.2.2.1
theorem dL_law_1184 : decode cL_law 1184 = .ok (.iload 4, 2) := fx_ok (d := 1152) (i := 32) fD_18 eL_law_1177.2.2.2.2.2.2.1
theorem dL_law_1186 : decode cL_law 1186 = .ok (.iconst 2, 1) := fx_ok (d := 1152) (i := 34) fD_18 eL_law_1177.2.2.2.2.2.2.2.1
theorem dL_law_1187 : decode cL_law 1187 = .ok (.iadd, 1) := fx_ok (d := 1152) (i := 35) fD_18 eL_law_1177.2.2.2.2.2.2.2.2.1
theorem dL_law_1188 : decode cL_law 1188 = .ok (.iaload, 1) := fx_ok (d := 1152) (i := 36) fD_18 eL_law_1177.2.2.2.2.2.2.2.2.2.1
theorem dL_law_1189 : decode cL_law 1189 = .ok (.aload_n 0, 1) := fx_ok (d := 1152) (i := 37) fD_18 eL_law_1177.2.2.2.2.2.2.2.2.2.2.1
theorem dL_law_1190 : decode cL_law 1190 = .ok (.iload 4, 2) := fx_ok (d := 1152) (i := 38) fD_18 eL_law_1177.2.2.2.2.2.2.2.2.2.2.2.1
theorem dL_law_1192 : decode cL_law 1192 = .ok (.iconst 3, 1) := fx_ok (d := 1152) (i := 40) fD_18 eL_law_1177.2.2.2.2.2.2.2.2.2.2.2.2.1
theorem dL_law_1193 : decode cL_law 1193 = .ok (.iadd, 1) := fx_ok (d := 1152) (i := 41) fD_18 eL_law_1177.2.2.2.2.2.2.2.2.2.2.2.2.2.1
theorem dL_law_1194 : decode cL_law 1194 = .ok (.iaload, 1) := fx_ok (d := 1152) (i := 42) fD_18 eL_law_1177.2.2.2.2.2.2.2.2.2.2.2.2.2.2.1
theorem dL_law_1195 : decode cL_law 1195 = .ok (.aload_n 0, 1) := fx_ok (d := 1152) (i := 43) fD_18 eL_law_1177.2.2.2.2.2.2.2.2.2.2.2.2.2.2.2
theorem eL_law_1196 : (fdecl fT_18 44 = some (.iload 4, 2)) ∧ (fdecl fT_18 46 = some (.iconst 4, 1)) ∧ (fdecl fT_18 47 = some (.iadd, 1)) ∧ (fdecl fT_18 48 = some (.iaload, 1)) ∧ (fdecl fT_18 49 = some (.aload_n 0, 1)) ∧ (fdecl fT_18 50 = some (.iload 4, 2)) ∧ (fdecl fT_18 52 = some (.iconst 5, 1)) ∧ (fdecl fT_18 53 = some (.iadd, 1)) ∧ (fdecl fT_18 54 = some (.iaload, 1)) ∧ (fdecl fT_18 55 = some (.aload_n 0, 1)) ∧ (fdecl fT_18 56 = some (.iload 4, 2)) ∧ (fdecl fT_18 60 = some (.iadd, 1)) ∧ (fdecl fT_18 61 = some (.iaload, 1)) ∧ (fdecl fT_18 62 = some (.aload_n 3, 1)) ∧ (fdecl fT_18 63 = some (.invokestatic 218, 3)) ∧ (fdecl fT_19 2 = some (.istore 5, 2)) := by decide +kernel
theorem dL_law_1196 : decode cL_law 1196 = .ok (.iload 4, 2) := fx_ok (d := 1152) (i := 44) fD_18 eL_law_1196.1
theorem dL_law_1198 : decode cL_law 1198 = .ok (.iconst 4, 1) := fx_ok (d := 1152) (i := 46) fD_18 eL_law_1196.2.1
theorem dL_law_1199 : decode cL_law 1199 = .ok (.iadd, 1) := fx_ok (d := 1152) (i := 47) fD_18 eL_law_1196.2.2.1
theorem dL_law_1200 : decode cL_law 1200 = .ok (.iaload, 1) := fx_ok (d := 1152) (i := 48) fD_18 eL_law_1196.2.2.2.1
theorem dL_law_1201 : decode cL_law 1201 = .ok (.aload_n 0, 1) := fx_ok (d := 1152) (i := 49) fD_18 eL_law_1196.2.2.2.2.1
theorem dL_law_1202 : decode cL_law 1202 = .ok (.iload 4, 2) := fx_ok (d := 1152) (i := 50) fD_18 eL_law_1196.2.2.2.2.2.1
theorem dL_law_1204 : decode cL_law 1204 = .ok (.iconst 5, 1) := fx_ok (d := 1152) (i := 52) fD_18 eL_law_1196.2.2.2.2.2.2.1
theorem dL_law_1205 : decode cL_law 1205 = .ok (.iadd, 1) := fx_ok (d := 1152) (i := 53) fD_18 eL_law_1196.2.2.2.2.2.2.2.1
theorem dL_law_1206 : decode cL_law 1206 = .ok (.iaload, 1) := fx_ok (d := 1152) (i := 54) fD_18 eL_law_1196.2.2.2.2.2.2.2.2.1
theorem dL_law_1207 : decode cL_law 1207 = .ok (.aload_n 0, 1) := fx_ok (d := 1152) (i := 55) fD_18 eL_law_1196.2.2.2.2.2.2.2.2.2.1
theorem dL_law_1208 : decode cL_law 1208 = .ok (.iload 4, 2) := fx_ok (d := 1152) (i := 56) fD_18 eL_law_1196.2.2.2.2.2.2.2.2.2.2.1
theorem dL_law_1212 : decode cL_law 1212 = .ok (.iadd, 1) := fx_ok (d := 1152) (i := 60) fD_18 eL_law_1196.2.2.2.2.2.2.2.2.2.2.2.1
theorem dL_law_1213 : decode cL_law 1213 = .ok (.iaload, 1) := fx_ok (d := 1152) (i := 61) fD_18 eL_law_1196.2.2.2.2.2.2.2.2.2.2.2.2.1
theorem dL_law_1214 : decode cL_law 1214 = .ok (.aload_n 3, 1) := fx_ok (d := 1152) (i := 62) fD_18 eL_law_1196.2.2.2.2.2.2.2.2.2.2.2.2.2.1
theorem dL_law_1215 : decode cL_law 1215 = .ok (.invokestatic 218, 3) := fx_ok (d := 1152) (i := 63) fD_18 eL_law_1196.2.2.2.2.2.2.2.2.2.2.2.2.2.2.1
theorem dL_law_1218 : decode cL_law 1218 = .ok (.istore 5, 2) := fx_ok (d := 1216) (i := 2) fD_19 eL_law_1196.2.2.2.2.2.2.2.2.2.2.2.2.2.2.2
theorem eL_law_1220 : (fdecl fT_19 4 = some (.aload_n 2, 1)) ∧ (fdecl fT_19 5 = some (.aload_n 0, 1)) ∧ (fdecl fT_19 6 = some (.iload 4, 2)) ∧ (fdecl fT_19 8 = some (.iconst 1, 1)) ∧ (fdecl fT_19 9 = some (.iadd, 1)) ∧ (fdecl fT_19 10 = some (.iaload, 1)) ∧ (fdecl fT_19 11 = some (.aload_n 0, 1)) ∧ (fdecl fT_19 12 = some (.iload 4, 2)) ∧ (fdecl fT_19 14 = some (.iconst 2, 1)) ∧ (fdecl fT_19 15 = some (.iadd, 1)) ∧ (fdecl fT_19 16 = some (.iaload, 1)) ∧ (fdecl fT_19 17 = some (.aload_n 0, 1)) ∧ (fdecl fT_19 18 = some (.iload 4, 2)) ∧ (fdecl fT_19 20 = some (.iconst 3, 1)) ∧ (fdecl fT_19 21 = some (.iadd, 1)) ∧ (fdecl fT_19 22 = some (.iaload, 1)) := by decide +kernel
theorem dL_law_1220 : decode cL_law 1220 = .ok (.aload_n 2, 1) := fx_ok (d := 1216) (i := 4) fD_19 eL_law_1220.1
theorem dL_law_1221 : decode cL_law 1221 = .ok (.aload_n 0, 1) := fx_ok (d := 1216) (i := 5) fD_19 eL_law_1220.2.1
theorem dL_law_1222 : decode cL_law 1222 = .ok (.iload 4, 2) := fx_ok (d := 1216) (i := 6) fD_19 eL_law_1220.2.2.1
theorem dL_law_1224 : decode cL_law 1224 = .ok (.iconst 1, 1) := fx_ok (d := 1216) (i := 8) fD_19 eL_law_1220.2.2.2.1
theorem dL_law_1225 : decode cL_law 1225 = .ok (.iadd, 1) := fx_ok (d := 1216) (i := 9) fD_19 eL_law_1220.2.2.2.2.1
theorem dL_law_1226 : decode cL_law 1226 = .ok (.iaload, 1) := fx_ok (d := 1216) (i := 10) fD_19 eL_law_1220.2.2.2.2.2.1
theorem dL_law_1227 : decode cL_law 1227 = .ok (.aload_n 0, 1) := fx_ok (d := 1216) (i := 11) fD_19 eL_law_1220.2.2.2.2.2.2.1
theorem dL_law_1228 : decode cL_law 1228 = .ok (.iload 4, 2) := fx_ok (d := 1216) (i := 12) fD_19 eL_law_1220.2.2.2.2.2.2.2.1
theorem dL_law_1230 : decode cL_law 1230 = .ok (.iconst 2, 1) := fx_ok (d := 1216) (i := 14) fD_19 eL_law_1220.2.2.2.2.2.2.2.2.1
theorem dL_law_1231 : decode cL_law 1231 = .ok (.iadd, 1) := fx_ok (d := 1216) (i := 15) fD_19 eL_law_1220.2.2.2.2.2.2.2.2.2.1
theorem dL_law_1232 : decode cL_law 1232 = .ok (.iaload, 1) := fx_ok (d := 1216) (i := 16) fD_19 eL_law_1220.2.2.2.2.2.2.2.2.2.2.1
theorem dL_law_1233 : decode cL_law 1233 = .ok (.aload_n 0, 1) := fx_ok (d := 1216) (i := 17) fD_19 eL_law_1220.2.2.2.2.2.2.2.2.2.2.2.1
theorem dL_law_1234 : decode cL_law 1234 = .ok (.iload 4, 2) := fx_ok (d := 1216) (i := 18) fD_19 eL_law_1220.2.2.2.2.2.2.2.2.2.2.2.2.1
theorem dL_law_1236 : decode cL_law 1236 = .ok (.iconst 3, 1) := fx_ok (d := 1216) (i := 20) fD_19 eL_law_1220.2.2.2.2.2.2.2.2.2.2.2.2.2.1
theorem dL_law_1237 : decode cL_law 1237 = .ok (.iadd, 1) := fx_ok (d := 1216) (i := 21) fD_19 eL_law_1220.2.2.2.2.2.2.2.2.2.2.2.2.2.2.1
theorem dL_law_1238 : decode cL_law 1238 = .ok (.iaload, 1) := fx_ok (d := 1216) (i := 22) fD_19 eL_law_1220.2.2.2.2.2.2.2.2.2.2.2.2.2.2.2
theorem eL_law_1239 : (fdecl fT_19 23 = some (.aload_n 0, 1)) ∧ (fdecl fT_19 24 = some (.iload 4, 2)) ∧ (fdecl fT_19 26 = some (.iconst 4, 1)) ∧ (fdecl fT_19 27 = some (.iadd, 1)) ∧ (fdecl fT_19 28 = some (.iaload, 1)) ∧ (fdecl fT_19 29 = some (.aload_n 0, 1)) ∧ (fdecl fT_19 30 = some (.iload 4, 2)) ∧ (fdecl fT_19 32 = some (.iconst 5, 1)) ∧ (fdecl fT_19 33 = some (.iadd, 1)) ∧ (fdecl fT_19 34 = some (.iaload, 1)) ∧ (fdecl fT_19 35 = some (.aload_n 0, 1)) ∧ (fdecl fT_19 36 = some (.iload 4, 2)) ∧ (fdecl fT_19 40 = some (.iadd, 1)) ∧ (fdecl fT_19 41 = some (.iaload, 1)) ∧ (fdecl fT_19 42 = some (.invokevirtual 221, 3)) ∧ (fdecl fT_19 45 = some (.istore 6, 2)) := by decide +kernel
theorem dL_law_1239 : decode cL_law 1239 = .ok (.aload_n 0, 1) := fx_ok (d := 1216) (i := 23) fD_19 eL_law_1239.1
theorem dL_law_1240 : decode cL_law 1240 = .ok (.iload 4, 2) := fx_ok (d := 1216) (i := 24) fD_19 eL_law_1239.2.1
theorem dL_law_1242 : decode cL_law 1242 = .ok (.iconst 4, 1) := fx_ok (d := 1216) (i := 26) fD_19 eL_law_1239.2.2.1
theorem dL_law_1243 : decode cL_law 1243 = .ok (.iadd, 1) := fx_ok (d := 1216) (i := 27) fD_19 eL_law_1239.2.2.2.1
theorem dL_law_1244 : decode cL_law 1244 = .ok (.iaload, 1) := fx_ok (d := 1216) (i := 28) fD_19 eL_law_1239.2.2.2.2.1
theorem dL_law_1245 : decode cL_law 1245 = .ok (.aload_n 0, 1) := fx_ok (d := 1216) (i := 29) fD_19 eL_law_1239.2.2.2.2.2.1
theorem dL_law_1246 : decode cL_law 1246 = .ok (.iload 4, 2) := fx_ok (d := 1216) (i := 30) fD_19 eL_law_1239.2.2.2.2.2.2.1
theorem dL_law_1248 : decode cL_law 1248 = .ok (.iconst 5, 1) := fx_ok (d := 1216) (i := 32) fD_19 eL_law_1239.2.2.2.2.2.2.2.1
theorem dL_law_1249 : decode cL_law 1249 = .ok (.iadd, 1) := fx_ok (d := 1216) (i := 33) fD_19 eL_law_1239.2.2.2.2.2.2.2.2.1
theorem dL_law_1250 : decode cL_law 1250 = .ok (.iaload, 1) := fx_ok (d := 1216) (i := 34) fD_19 eL_law_1239.2.2.2.2.2.2.2.2.2.1
theorem dL_law_1251 : decode cL_law 1251 = .ok (.aload_n 0, 1) := fx_ok (d := 1216) (i := 35) fD_19 eL_law_1239.2.2.2.2.2.2.2.2.2.2.1
theorem dL_law_1252 : decode cL_law 1252 = .ok (.iload 4, 2) := fx_ok (d := 1216) (i := 36) fD_19 eL_law_1239.2.2.2.2.2.2.2.2.2.2.2.1
theorem dL_law_1256 : decode cL_law 1256 = .ok (.iadd, 1) := fx_ok (d := 1216) (i := 40) fD_19 eL_law_1239.2.2.2.2.2.2.2.2.2.2.2.2.1
theorem dL_law_1257 : decode cL_law 1257 = .ok (.iaload, 1) := fx_ok (d := 1216) (i := 41) fD_19 eL_law_1239.2.2.2.2.2.2.2.2.2.2.2.2.2.1
theorem dL_law_1258 : decode cL_law 1258 = .ok (.invokevirtual 221, 3) := fx_ok (d := 1216) (i := 42) fD_19 eL_law_1239.2.2.2.2.2.2.2.2.2.2.2.2.2.2.1
theorem dL_law_1261 : decode cL_law 1261 = .ok (.istore 6, 2) := fx_ok (d := 1216) (i := 45) fD_19 eL_law_1239.2.2.2.2.2.2.2.2.2.2.2.2.2.2.2
theorem eL_law_1263 : (fdecl fT_19 47 = some (.goto 1057, 3)) ∧ (fdecl fT_19 50 = some (.aload_n 1, 1)) ∧ (fdecl fT_19 51 = some (.aload_n 0, 1)) ∧ (fdecl fT_19 52 = some (.iload 4, 2)) ∧ (fdecl fT_19 54 = some (.iconst 1, 1)) ∧ (fdecl fT_19 55 = some (.iadd, 1)) ∧ (fdecl fT_19 56 = some (.iaload, 1)) ∧ (fdecl fT_19 57 = some (.aload_n 0, 1)) ∧ (fdecl fT_19 58 = some (.iload 4, 2)) ∧ (fdecl fT_19 60 = some (.iconst 2, 1)) ∧ (fdecl fT_19 61 = some (.iadd, 1)) ∧ (fdecl fT_19 62 = some (.iaload, 1)) ∧ (fdecl fT_19 63 = some (.aload_n 0, 1)) ∧ (fdecl fT_20 0 = some (.iload 4, 2)) ∧ (fdecl fT_20 2 = some (.iconst 3, 1)) ∧ (fdecl fT_20 3 = some (.iadd, 1)) := by decide +kernel
theorem dL_law_1263 : decode cL_law 1263 = .ok (.goto 1057, 3) := fx_ok (d := 1216) (i := 47) fD_19 eL_law_1263.1
theorem dL_law_1266 : decode cL_law 1266 = .ok (.aload_n 1, 1) := fx_ok (d := 1216) (i := 50) fD_19 eL_law_1263.2.1
theorem dL_law_1267 : decode cL_law 1267 = .ok (.aload_n 0, 1) := fx_ok (d := 1216) (i := 51) fD_19 eL_law_1263.2.2.1
theorem dL_law_1268 : decode cL_law 1268 = .ok (.iload 4, 2) := fx_ok (d := 1216) (i := 52) fD_19 eL_law_1263.2.2.2.1
theorem dL_law_1270 : decode cL_law 1270 = .ok (.iconst 1, 1) := fx_ok (d := 1216) (i := 54) fD_19 eL_law_1263.2.2.2.2.1
theorem dL_law_1271 : decode cL_law 1271 = .ok (.iadd, 1) := fx_ok (d := 1216) (i := 55) fD_19 eL_law_1263.2.2.2.2.2.1
theorem dL_law_1272 : decode cL_law 1272 = .ok (.iaload, 1) := fx_ok (d := 1216) (i := 56) fD_19 eL_law_1263.2.2.2.2.2.2.1
theorem dL_law_1273 : decode cL_law 1273 = .ok (.aload_n 0, 1) := fx_ok (d := 1216) (i := 57) fD_19 eL_law_1263.2.2.2.2.2.2.2.1
theorem dL_law_1274 : decode cL_law 1274 = .ok (.iload 4, 2) := fx_ok (d := 1216) (i := 58) fD_19 eL_law_1263.2.2.2.2.2.2.2.2.1
theorem dL_law_1276 : decode cL_law 1276 = .ok (.iconst 2, 1) := fx_ok (d := 1216) (i := 60) fD_19 eL_law_1263.2.2.2.2.2.2.2.2.2.1
theorem dL_law_1277 : decode cL_law 1277 = .ok (.iadd, 1) := fx_ok (d := 1216) (i := 61) fD_19 eL_law_1263.2.2.2.2.2.2.2.2.2.2.1
theorem dL_law_1278 : decode cL_law 1278 = .ok (.iaload, 1) := fx_ok (d := 1216) (i := 62) fD_19 eL_law_1263.2.2.2.2.2.2.2.2.2.2.2.1
theorem dL_law_1279 : decode cL_law 1279 = .ok (.aload_n 0, 1) := fx_ok (d := 1216) (i := 63) fD_19 eL_law_1263.2.2.2.2.2.2.2.2.2.2.2.2.1
theorem dL_law_1280 : decode cL_law 1280 = .ok (.iload 4, 2) := fx_ok (d := 1280) (i := 0) fD_20 eL_law_1263.2.2.2.2.2.2.2.2.2.2.2.2.2.1
theorem dL_law_1282 : decode cL_law 1282 = .ok (.iconst 3, 1) := fx_ok (d := 1280) (i := 2) fD_20 eL_law_1263.2.2.2.2.2.2.2.2.2.2.2.2.2.2.1
theorem dL_law_1283 : decode cL_law 1283 = .ok (.iadd, 1) := fx_ok (d := 1280) (i := 3) fD_20 eL_law_1263.2.2.2.2.2.2.2.2.2.2.2.2.2.2.2
theorem eL_law_1284 : (fdecl fT_20 4 = some (.iaload, 1)) ∧ (fdecl fT_20 5 = some (.aload_n 0, 1)) ∧ (fdecl fT_20 6 = some (.iload 4, 2)) ∧ (fdecl fT_20 8 = some (.iconst 4, 1)) ∧ (fdecl fT_20 9 = some (.iadd, 1)) ∧ (fdecl fT_20 10 = some (.iaload, 1)) ∧ (fdecl fT_20 11 = some (.aload_n 3, 1)) ∧ (fdecl fT_20 12 = some (.invokestatic 222, 3)) ∧ (fdecl fT_20 15 = some (.istore 5, 2)) ∧ (fdecl fT_20 17 = some (.aload_n 2, 1)) ∧ (fdecl fT_20 18 = some (.aload_n 0, 1)) ∧ (fdecl fT_20 19 = some (.iload 4, 2)) ∧ (fdecl fT_20 21 = some (.iconst 1, 1)) ∧ (fdecl fT_20 22 = some (.iadd, 1)) ∧ (fdecl fT_20 23 = some (.iaload, 1)) ∧ (fdecl fT_20 24 = some (.aload_n 0, 1)) := by decide +kernel
theorem dL_law_1284 : decode cL_law 1284 = .ok (.iaload, 1) := fx_ok (d := 1280) (i := 4) fD_20 eL_law_1284.1
theorem dL_law_1285 : decode cL_law 1285 = .ok (.aload_n 0, 1) := fx_ok (d := 1280) (i := 5) fD_20 eL_law_1284.2.1
theorem dL_law_1286 : decode cL_law 1286 = .ok (.iload 4, 2) := fx_ok (d := 1280) (i := 6) fD_20 eL_law_1284.2.2.1
theorem dL_law_1288 : decode cL_law 1288 = .ok (.iconst 4, 1) := fx_ok (d := 1280) (i := 8) fD_20 eL_law_1284.2.2.2.1
theorem dL_law_1289 : decode cL_law 1289 = .ok (.iadd, 1) := fx_ok (d := 1280) (i := 9) fD_20 eL_law_1284.2.2.2.2.1
theorem dL_law_1290 : decode cL_law 1290 = .ok (.iaload, 1) := fx_ok (d := 1280) (i := 10) fD_20 eL_law_1284.2.2.2.2.2.1
theorem dL_law_1291 : decode cL_law 1291 = .ok (.aload_n 3, 1) := fx_ok (d := 1280) (i := 11) fD_20 eL_law_1284.2.2.2.2.2.2.1
theorem dL_law_1292 : decode cL_law 1292 = .ok (.invokestatic 222, 3) := fx_ok (d := 1280) (i := 12) fD_20 eL_law_1284.2.2.2.2.2.2.2.1
theorem dL_law_1295 : decode cL_law 1295 = .ok (.istore 5, 2) := fx_ok (d := 1280) (i := 15) fD_20 eL_law_1284.2.2.2.2.2.2.2.2.1
theorem dL_law_1297 : decode cL_law 1297 = .ok (.aload_n 2, 1) := fx_ok (d := 1280) (i := 17) fD_20 eL_law_1284.2.2.2.2.2.2.2.2.2.1
theorem dL_law_1298 : decode cL_law 1298 = .ok (.aload_n 0, 1) := fx_ok (d := 1280) (i := 18) fD_20 eL_law_1284.2.2.2.2.2.2.2.2.2.2.1
theorem dL_law_1299 : decode cL_law 1299 = .ok (.iload 4, 2) := fx_ok (d := 1280) (i := 19) fD_20 eL_law_1284.2.2.2.2.2.2.2.2.2.2.2.1
theorem dL_law_1301 : decode cL_law 1301 = .ok (.iconst 1, 1) := fx_ok (d := 1280) (i := 21) fD_20 eL_law_1284.2.2.2.2.2.2.2.2.2.2.2.2.1
theorem dL_law_1302 : decode cL_law 1302 = .ok (.iadd, 1) := fx_ok (d := 1280) (i := 22) fD_20 eL_law_1284.2.2.2.2.2.2.2.2.2.2.2.2.2.1
theorem dL_law_1303 : decode cL_law 1303 = .ok (.iaload, 1) := fx_ok (d := 1280) (i := 23) fD_20 eL_law_1284.2.2.2.2.2.2.2.2.2.2.2.2.2.2.1
theorem dL_law_1304 : decode cL_law 1304 = .ok (.aload_n 0, 1) := fx_ok (d := 1280) (i := 24) fD_20 eL_law_1284.2.2.2.2.2.2.2.2.2.2.2.2.2.2.2
theorem eL_law_1305 : (fdecl fT_20 25 = some (.iload 4, 2)) ∧ (fdecl fT_20 27 = some (.iconst 2, 1)) ∧ (fdecl fT_20 28 = some (.iadd, 1)) ∧ (fdecl fT_20 29 = some (.iaload, 1)) ∧ (fdecl fT_20 30 = some (.aload_n 0, 1)) ∧ (fdecl fT_20 31 = some (.iload 4, 2)) ∧ (fdecl fT_20 33 = some (.iconst 3, 1)) ∧ (fdecl fT_20 34 = some (.iadd, 1)) ∧ (fdecl fT_20 35 = some (.iaload, 1)) ∧ (fdecl fT_20 36 = some (.aload_n 0, 1)) ∧ (fdecl fT_20 37 = some (.iload 4, 2)) ∧ (fdecl fT_20 39 = some (.iconst 4, 1)) ∧ (fdecl fT_20 40 = some (.iadd, 1)) ∧ (fdecl fT_20 41 = some (.iaload, 1)) ∧ (fdecl fT_20 42 = some (.invokevirtual 224, 3)) ∧ (fdecl fT_20 45 = some (.istore 6, 2)) := by decide +kernel
theorem dL_law_1305 : decode cL_law 1305 = .ok (.iload 4, 2) := fx_ok (d := 1280) (i := 25) fD_20 eL_law_1305.1
theorem dL_law_1307 : decode cL_law 1307 = .ok (.iconst 2, 1) := fx_ok (d := 1280) (i := 27) fD_20 eL_law_1305.2.1
theorem dL_law_1308 : decode cL_law 1308 = .ok (.iadd, 1) := fx_ok (d := 1280) (i := 28) fD_20 eL_law_1305.2.2.1
theorem dL_law_1309 : decode cL_law 1309 = .ok (.iaload, 1) := fx_ok (d := 1280) (i := 29) fD_20 eL_law_1305.2.2.2.1
theorem dL_law_1310 : decode cL_law 1310 = .ok (.aload_n 0, 1) := fx_ok (d := 1280) (i := 30) fD_20 eL_law_1305.2.2.2.2.1
theorem dL_law_1311 : decode cL_law 1311 = .ok (.iload 4, 2) := fx_ok (d := 1280) (i := 31) fD_20 eL_law_1305.2.2.2.2.2.1
theorem dL_law_1313 : decode cL_law 1313 = .ok (.iconst 3, 1) := fx_ok (d := 1280) (i := 33) fD_20 eL_law_1305.2.2.2.2.2.2.1
theorem dL_law_1314 : decode cL_law 1314 = .ok (.iadd, 1) := fx_ok (d := 1280) (i := 34) fD_20 eL_law_1305.2.2.2.2.2.2.2.1
theorem dL_law_1315 : decode cL_law 1315 = .ok (.iaload, 1) := fx_ok (d := 1280) (i := 35) fD_20 eL_law_1305.2.2.2.2.2.2.2.2.1
theorem dL_law_1316 : decode cL_law 1316 = .ok (.aload_n 0, 1) := fx_ok (d := 1280) (i := 36) fD_20 eL_law_1305.2.2.2.2.2.2.2.2.2.1
theorem dL_law_1317 : decode cL_law 1317 = .ok (.iload 4, 2) := fx_ok (d := 1280) (i := 37) fD_20 eL_law_1305.2.2.2.2.2.2.2.2.2.2.1
theorem dL_law_1319 : decode cL_law 1319 = .ok (.iconst 4, 1) := fx_ok (d := 1280) (i := 39) fD_20 eL_law_1305.2.2.2.2.2.2.2.2.2.2.2.1
theorem dL_law_1320 : decode cL_law 1320 = .ok (.iadd, 1) := fx_ok (d := 1280) (i := 40) fD_20 eL_law_1305.2.2.2.2.2.2.2.2.2.2.2.2.1
theorem dL_law_1321 : decode cL_law 1321 = .ok (.iaload, 1) := fx_ok (d := 1280) (i := 41) fD_20 eL_law_1305.2.2.2.2.2.2.2.2.2.2.2.2.2.1
theorem dL_law_1322 : decode cL_law 1322 = .ok (.invokevirtual 224, 3) := fx_ok (d := 1280) (i := 42) fD_20 eL_law_1305.2.2.2.2.2.2.2.2.2.2.2.2.2.2.1
theorem dL_law_1325 : decode cL_law 1325 = .ok (.istore 6, 2) := fx_ok (d := 1280) (i := 45) fD_20 eL_law_1305.2.2.2.2.2.2.2.2.2.2.2.2.2.2.2
theorem eL_law_1327 : (fdecl fT_20 47 = some (.goto 993, 3)) ∧ (fdecl fT_20 50 = some (.aload_n 1, 1)) ∧ (fdecl fT_20 51 = some (.aload_n 0, 1)) ∧ (fdecl fT_20 52 = some (.iload 4, 2)) ∧ (fdecl fT_20 54 = some (.iconst 1, 1)) ∧ (fdecl fT_20 55 = some (.iadd, 1)) ∧ (fdecl fT_20 56 = some (.iaload, 1)) ∧ (fdecl fT_20 57 = some (.aload_n 0, 1)) ∧ (fdecl fT_20 58 = some (.iload 4, 2)) ∧ (fdecl fT_20 60 = some (.iconst 2, 1)) ∧ (fdecl fT_20 61 = some (.iadd, 1)) ∧ (fdecl fT_20 62 = some (.iaload, 1)) ∧ (fdecl fT_20 63 = some (.aload_n 0, 1)) ∧ (fdecl fT_21 0 = some (.iload 4, 2)) ∧ (fdecl fT_21 2 = some (.iconst 3, 1)) ∧ (fdecl fT_21 3 = some (.iadd, 1)) := by decide +kernel
theorem dL_law_1327 : decode cL_law 1327 = .ok (.goto 993, 3) := fx_ok (d := 1280) (i := 47) fD_20 eL_law_1327.1
theorem dL_law_1330 : decode cL_law 1330 = .ok (.aload_n 1, 1) := fx_ok (d := 1280) (i := 50) fD_20 eL_law_1327.2.1
theorem dL_law_1331 : decode cL_law 1331 = .ok (.aload_n 0, 1) := fx_ok (d := 1280) (i := 51) fD_20 eL_law_1327.2.2.1
theorem dL_law_1332 : decode cL_law 1332 = .ok (.iload 4, 2) := fx_ok (d := 1280) (i := 52) fD_20 eL_law_1327.2.2.2.1
theorem dL_law_1334 : decode cL_law 1334 = .ok (.iconst 1, 1) := fx_ok (d := 1280) (i := 54) fD_20 eL_law_1327.2.2.2.2.1
theorem dL_law_1335 : decode cL_law 1335 = .ok (.iadd, 1) := fx_ok (d := 1280) (i := 55) fD_20 eL_law_1327.2.2.2.2.2.1
theorem dL_law_1336 : decode cL_law 1336 = .ok (.iaload, 1) := fx_ok (d := 1280) (i := 56) fD_20 eL_law_1327.2.2.2.2.2.2.1
theorem dL_law_1337 : decode cL_law 1337 = .ok (.aload_n 0, 1) := fx_ok (d := 1280) (i := 57) fD_20 eL_law_1327.2.2.2.2.2.2.2.1
theorem dL_law_1338 : decode cL_law 1338 = .ok (.iload 4, 2) := fx_ok (d := 1280) (i := 58) fD_20 eL_law_1327.2.2.2.2.2.2.2.2.1
theorem dL_law_1340 : decode cL_law 1340 = .ok (.iconst 2, 1) := fx_ok (d := 1280) (i := 60) fD_20 eL_law_1327.2.2.2.2.2.2.2.2.2.1
theorem dL_law_1341 : decode cL_law 1341 = .ok (.iadd, 1) := fx_ok (d := 1280) (i := 61) fD_20 eL_law_1327.2.2.2.2.2.2.2.2.2.2.1
theorem dL_law_1342 : decode cL_law 1342 = .ok (.iaload, 1) := fx_ok (d := 1280) (i := 62) fD_20 eL_law_1327.2.2.2.2.2.2.2.2.2.2.2.1
theorem dL_law_1343 : decode cL_law 1343 = .ok (.aload_n 0, 1) := fx_ok (d := 1280) (i := 63) fD_20 eL_law_1327.2.2.2.2.2.2.2.2.2.2.2.2.1
theorem dL_law_1344 : decode cL_law 1344 = .ok (.iload 4, 2) := fx_ok (d := 1344) (i := 0) fD_21 eL_law_1327.2.2.2.2.2.2.2.2.2.2.2.2.2.1
theorem dL_law_1346 : decode cL_law 1346 = .ok (.iconst 3, 1) := fx_ok (d := 1344) (i := 2) fD_21 eL_law_1327.2.2.2.2.2.2.2.2.2.2.2.2.2.2.1
theorem dL_law_1347 : decode cL_law 1347 = .ok (.iadd, 1) := fx_ok (d := 1344) (i := 3) fD_21 eL_law_1327.2.2.2.2.2.2.2.2.2.2.2.2.2.2.2
theorem eL_law_1348 : (fdecl fT_21 4 = some (.iaload, 1)) ∧ (fdecl fT_21 5 = some (.aload_n 3, 1)) ∧ (fdecl fT_21 6 = some (.invokestatic 225, 3)) ∧ (fdecl fT_21 9 = some (.istore 5, 2)) ∧ (fdecl fT_21 11 = some (.aload_n 2, 1)) ∧ (fdecl fT_21 12 = some (.aload_n 0, 1)) ∧ (fdecl fT_21 13 = some (.iload 4, 2)) ∧ (fdecl fT_21 15 = some (.iconst 1, 1)) ∧ (fdecl fT_21 16 = some (.iadd, 1)) ∧ (fdecl fT_21 17 = some (.iaload, 1)) ∧ (fdecl fT_21 18 = some (.aload_n 0, 1)) ∧ (fdecl fT_21 19 = some (.iload 4, 2)) ∧ (fdecl fT_21 21 = some (.iconst 2, 1)) ∧ (fdecl fT_21 22 = some (.iadd, 1)) ∧ (fdecl fT_21 23 = some (.iaload, 1)) ∧ (fdecl fT_21 24 = some (.aload_n 0, 1)) := by decide +kernel
theorem dL_law_1348 : decode cL_law 1348 = .ok (.iaload, 1) := fx_ok (d := 1344) (i := 4) fD_21 eL_law_1348.1
theorem dL_law_1349 : decode cL_law 1349 = .ok (.aload_n 3, 1) := fx_ok (d := 1344) (i := 5) fD_21 eL_law_1348.2.1
theorem dL_law_1350 : decode cL_law 1350 = .ok (.invokestatic 225, 3) := fx_ok (d := 1344) (i := 6) fD_21 eL_law_1348.2.2.1
theorem dL_law_1353 : decode cL_law 1353 = .ok (.istore 5, 2) := fx_ok (d := 1344) (i := 9) fD_21 eL_law_1348.2.2.2.1
theorem dL_law_1355 : decode cL_law 1355 = .ok (.aload_n 2, 1) := fx_ok (d := 1344) (i := 11) fD_21 eL_law_1348.2.2.2.2.1
theorem dL_law_1356 : decode cL_law 1356 = .ok (.aload_n 0, 1) := fx_ok (d := 1344) (i := 12) fD_21 eL_law_1348.2.2.2.2.2.1
theorem dL_law_1357 : decode cL_law 1357 = .ok (.iload 4, 2) := fx_ok (d := 1344) (i := 13) fD_21 eL_law_1348.2.2.2.2.2.2.1
theorem dL_law_1359 : decode cL_law 1359 = .ok (.iconst 1, 1) := fx_ok (d := 1344) (i := 15) fD_21 eL_law_1348.2.2.2.2.2.2.2.1
theorem dL_law_1360 : decode cL_law 1360 = .ok (.iadd, 1) := fx_ok (d := 1344) (i := 16) fD_21 eL_law_1348.2.2.2.2.2.2.2.2.1
theorem dL_law_1361 : decode cL_law 1361 = .ok (.iaload, 1) := fx_ok (d := 1344) (i := 17) fD_21 eL_law_1348.2.2.2.2.2.2.2.2.2.1
theorem dL_law_1362 : decode cL_law 1362 = .ok (.aload_n 0, 1) := fx_ok (d := 1344) (i := 18) fD_21 eL_law_1348.2.2.2.2.2.2.2.2.2.2.1
theorem dL_law_1363 : decode cL_law 1363 = .ok (.iload 4, 2) := fx_ok (d := 1344) (i := 19) fD_21 eL_law_1348.2.2.2.2.2.2.2.2.2.2.2.1
theorem dL_law_1365 : decode cL_law 1365 = .ok (.iconst 2, 1) := fx_ok (d := 1344) (i := 21) fD_21 eL_law_1348.2.2.2.2.2.2.2.2.2.2.2.2.1
theorem dL_law_1366 : decode cL_law 1366 = .ok (.iadd, 1) := fx_ok (d := 1344) (i := 22) fD_21 eL_law_1348.2.2.2.2.2.2.2.2.2.2.2.2.2.1
theorem dL_law_1367 : decode cL_law 1367 = .ok (.iaload, 1) := fx_ok (d := 1344) (i := 23) fD_21 eL_law_1348.2.2.2.2.2.2.2.2.2.2.2.2.2.2.1
theorem dL_law_1368 : decode cL_law 1368 = .ok (.aload_n 0, 1) := fx_ok (d := 1344) (i := 24) fD_21 eL_law_1348.2.2.2.2.2.2.2.2.2.2.2.2.2.2.2
theorem eL_law_1369 : (fdecl fT_21 25 = some (.iload 4, 2)) ∧ (fdecl fT_21 27 = some (.iconst 3, 1)) ∧ (fdecl fT_21 28 = some (.iadd, 1)) ∧ (fdecl fT_21 29 = some (.iaload, 1)) ∧ (fdecl fT_21 30 = some (.invokevirtual 227, 3)) ∧ (fdecl fT_21 33 = some (.istore 6, 2)) ∧ (fdecl fT_21 35 = some (.goto 941, 3)) ∧ (fdecl fT_21 38 = some (.aload_n 1, 1)) ∧ (fdecl fT_21 39 = some (.aload_n 0, 1)) ∧ (fdecl fT_21 40 = some (.iload 4, 2)) ∧ (fdecl fT_21 42 = some (.iconst 1, 1)) ∧ (fdecl fT_21 43 = some (.iadd, 1)) ∧ (fdecl fT_21 44 = some (.iaload, 1)) ∧ (fdecl fT_21 45 = some (.aload_n 0, 1)) ∧ (fdecl fT_21 46 = some (.iload 4, 2)) ∧ (fdecl fT_21 48 = some (.iconst 2, 1)) := by decide +kernel
theorem dL_law_1369 : decode cL_law 1369 = .ok (.iload 4, 2) := fx_ok (d := 1344) (i := 25) fD_21 eL_law_1369.1
theorem dL_law_1371 : decode cL_law 1371 = .ok (.iconst 3, 1) := fx_ok (d := 1344) (i := 27) fD_21 eL_law_1369.2.1
theorem dL_law_1372 : decode cL_law 1372 = .ok (.iadd, 1) := fx_ok (d := 1344) (i := 28) fD_21 eL_law_1369.2.2.1
theorem dL_law_1373 : decode cL_law 1373 = .ok (.iaload, 1) := fx_ok (d := 1344) (i := 29) fD_21 eL_law_1369.2.2.2.1
theorem dL_law_1374 : decode cL_law 1374 = .ok (.invokevirtual 227, 3) := fx_ok (d := 1344) (i := 30) fD_21 eL_law_1369.2.2.2.2.1
theorem dL_law_1377 : decode cL_law 1377 = .ok (.istore 6, 2) := fx_ok (d := 1344) (i := 33) fD_21 eL_law_1369.2.2.2.2.2.1
theorem dL_law_1379 : decode cL_law 1379 = .ok (.goto 941, 3) := fx_ok (d := 1344) (i := 35) fD_21 eL_law_1369.2.2.2.2.2.2.1
theorem dL_law_1382 : decode cL_law 1382 = .ok (.aload_n 1, 1) := fx_ok (d := 1344) (i := 38) fD_21 eL_law_1369.2.2.2.2.2.2.2.1
theorem dL_law_1383 : decode cL_law 1383 = .ok (.aload_n 0, 1) := fx_ok (d := 1344) (i := 39) fD_21 eL_law_1369.2.2.2.2.2.2.2.2.1
theorem dL_law_1384 : decode cL_law 1384 = .ok (.iload 4, 2) := fx_ok (d := 1344) (i := 40) fD_21 eL_law_1369.2.2.2.2.2.2.2.2.2.1
theorem dL_law_1386 : decode cL_law 1386 = .ok (.iconst 1, 1) := fx_ok (d := 1344) (i := 42) fD_21 eL_law_1369.2.2.2.2.2.2.2.2.2.2.1
theorem dL_law_1387 : decode cL_law 1387 = .ok (.iadd, 1) := fx_ok (d := 1344) (i := 43) fD_21 eL_law_1369.2.2.2.2.2.2.2.2.2.2.2.1
theorem dL_law_1388 : decode cL_law 1388 = .ok (.iaload, 1) := fx_ok (d := 1344) (i := 44) fD_21 eL_law_1369.2.2.2.2.2.2.2.2.2.2.2.2.1
theorem dL_law_1389 : decode cL_law 1389 = .ok (.aload_n 0, 1) := fx_ok (d := 1344) (i := 45) fD_21 eL_law_1369.2.2.2.2.2.2.2.2.2.2.2.2.2.1
theorem dL_law_1390 : decode cL_law 1390 = .ok (.iload 4, 2) := fx_ok (d := 1344) (i := 46) fD_21 eL_law_1369.2.2.2.2.2.2.2.2.2.2.2.2.2.2.1
theorem dL_law_1392 : decode cL_law 1392 = .ok (.iconst 2, 1) := fx_ok (d := 1344) (i := 48) fD_21 eL_law_1369.2.2.2.2.2.2.2.2.2.2.2.2.2.2.2
theorem eL_law_1393 : (fdecl fT_21 49 = some (.iadd, 1)) ∧ (fdecl fT_21 50 = some (.iaload, 1)) ∧ (fdecl fT_21 51 = some (.aload_n 0, 1)) ∧ (fdecl fT_21 52 = some (.iload 4, 2)) ∧ (fdecl fT_21 54 = some (.iconst 3, 1)) ∧ (fdecl fT_21 55 = some (.iadd, 1)) ∧ (fdecl fT_21 56 = some (.iaload, 1)) ∧ (fdecl fT_21 57 = some (.aload_n 3, 1)) ∧ (fdecl fT_21 58 = some (.invokestatic 228, 3)) ∧ (fdecl fT_21 61 = some (.istore 5, 2)) ∧ (fdecl fT_21 63 = some (.aload_n 2, 1)) ∧ (fdecl fT_22 0 = some (.aload_n 0, 1)) ∧ (fdecl fT_22 1 = some (.iload 4, 2)) ∧ (fdecl fT_22 3 = some (.iconst 1, 1)) ∧ (fdecl fT_22 4 = some (.iadd, 1)) ∧ (fdecl fT_22 5 = some (.iaload, 1)) := by decide +kernel
theorem dL_law_1393 : decode cL_law 1393 = .ok (.iadd, 1) := fx_ok (d := 1344) (i := 49) fD_21 eL_law_1393.1
theorem dL_law_1394 : decode cL_law 1394 = .ok (.iaload, 1) := fx_ok (d := 1344) (i := 50) fD_21 eL_law_1393.2.1
theorem dL_law_1395 : decode cL_law 1395 = .ok (.aload_n 0, 1) := fx_ok (d := 1344) (i := 51) fD_21 eL_law_1393.2.2.1
theorem dL_law_1396 : decode cL_law 1396 = .ok (.iload 4, 2) := fx_ok (d := 1344) (i := 52) fD_21 eL_law_1393.2.2.2.1
theorem dL_law_1398 : decode cL_law 1398 = .ok (.iconst 3, 1) := fx_ok (d := 1344) (i := 54) fD_21 eL_law_1393.2.2.2.2.1
theorem dL_law_1399 : decode cL_law 1399 = .ok (.iadd, 1) := fx_ok (d := 1344) (i := 55) fD_21 eL_law_1393.2.2.2.2.2.1
theorem dL_law_1400 : decode cL_law 1400 = .ok (.iaload, 1) := fx_ok (d := 1344) (i := 56) fD_21 eL_law_1393.2.2.2.2.2.2.1
theorem dL_law_1401 : decode cL_law 1401 = .ok (.aload_n 3, 1) := fx_ok (d := 1344) (i := 57) fD_21 eL_law_1393.2.2.2.2.2.2.2.1
theorem dL_law_1402 : decode cL_law 1402 = .ok (.invokestatic 228, 3) := fx_ok (d := 1344) (i := 58) fD_21 eL_law_1393.2.2.2.2.2.2.2.2.1
theorem dL_law_1405 : decode cL_law 1405 = .ok (.istore 5, 2) := fx_ok (d := 1344) (i := 61) fD_21 eL_law_1393.2.2.2.2.2.2.2.2.2.1
theorem dL_law_1407 : decode cL_law 1407 = .ok (.aload_n 2, 1) := fx_ok (d := 1344) (i := 63) fD_21 eL_law_1393.2.2.2.2.2.2.2.2.2.2.1
theorem dL_law_1408 : decode cL_law 1408 = .ok (.aload_n 0, 1) := fx_ok (d := 1408) (i := 0) fD_22 eL_law_1393.2.2.2.2.2.2.2.2.2.2.2.1
theorem dL_law_1409 : decode cL_law 1409 = .ok (.iload 4, 2) := fx_ok (d := 1408) (i := 1) fD_22 eL_law_1393.2.2.2.2.2.2.2.2.2.2.2.2.1
theorem dL_law_1411 : decode cL_law 1411 = .ok (.iconst 1, 1) := fx_ok (d := 1408) (i := 3) fD_22 eL_law_1393.2.2.2.2.2.2.2.2.2.2.2.2.2.1
theorem dL_law_1412 : decode cL_law 1412 = .ok (.iadd, 1) := fx_ok (d := 1408) (i := 4) fD_22 eL_law_1393.2.2.2.2.2.2.2.2.2.2.2.2.2.2.1
theorem dL_law_1413 : decode cL_law 1413 = .ok (.iaload, 1) := fx_ok (d := 1408) (i := 5) fD_22 eL_law_1393.2.2.2.2.2.2.2.2.2.2.2.2.2.2.2
theorem eL_law_1414 : (fdecl fT_22 6 = some (.aload_n 0, 1)) ∧ (fdecl fT_22 7 = some (.iload 4, 2)) ∧ (fdecl fT_22 9 = some (.iconst 2, 1)) ∧ (fdecl fT_22 10 = some (.iadd, 1)) ∧ (fdecl fT_22 11 = some (.iaload, 1)) ∧ (fdecl fT_22 12 = some (.aload_n 0, 1)) ∧ (fdecl fT_22 13 = some (.iload 4, 2)) ∧ (fdecl fT_22 15 = some (.iconst 3, 1)) ∧ (fdecl fT_22 16 = some (.iadd, 1)) ∧ (fdecl fT_22 17 = some (.iaload, 1)) ∧ (fdecl fT_22 18 = some (.invokevirtual 230, 3)) ∧ (fdecl fT_22 21 = some (.istore 6, 2)) ∧ (fdecl fT_22 23 = some (.goto 889, 3)) ∧ (fdecl fT_22 26 = some (.aload_n 1, 1)) ∧ (fdecl fT_22 27 = some (.aload_n 0, 1)) ∧ (fdecl fT_22 28 = some (.iload 4, 2)) := by decide +kernel
theorem dL_law_1414 : decode cL_law 1414 = .ok (.aload_n 0, 1) := fx_ok (d := 1408) (i := 6) fD_22 eL_law_1414.1
theorem dL_law_1415 : decode cL_law 1415 = .ok (.iload 4, 2) := fx_ok (d := 1408) (i := 7) fD_22 eL_law_1414.2.1
theorem dL_law_1417 : decode cL_law 1417 = .ok (.iconst 2, 1) := fx_ok (d := 1408) (i := 9) fD_22 eL_law_1414.2.2.1
theorem dL_law_1418 : decode cL_law 1418 = .ok (.iadd, 1) := fx_ok (d := 1408) (i := 10) fD_22 eL_law_1414.2.2.2.1
theorem dL_law_1419 : decode cL_law 1419 = .ok (.iaload, 1) := fx_ok (d := 1408) (i := 11) fD_22 eL_law_1414.2.2.2.2.1
theorem dL_law_1420 : decode cL_law 1420 = .ok (.aload_n 0, 1) := fx_ok (d := 1408) (i := 12) fD_22 eL_law_1414.2.2.2.2.2.1
theorem dL_law_1421 : decode cL_law 1421 = .ok (.iload 4, 2) := fx_ok (d := 1408) (i := 13) fD_22 eL_law_1414.2.2.2.2.2.2.1
theorem dL_law_1423 : decode cL_law 1423 = .ok (.iconst 3, 1) := fx_ok (d := 1408) (i := 15) fD_22 eL_law_1414.2.2.2.2.2.2.2.1
theorem dL_law_1424 : decode cL_law 1424 = .ok (.iadd, 1) := fx_ok (d := 1408) (i := 16) fD_22 eL_law_1414.2.2.2.2.2.2.2.2.1
theorem dL_law_1425 : decode cL_law 1425 = .ok (.iaload, 1) := fx_ok (d := 1408) (i := 17) fD_22 eL_law_1414.2.2.2.2.2.2.2.2.2.1
theorem dL_law_1426 : decode cL_law 1426 = .ok (.invokevirtual 230, 3) := fx_ok (d := 1408) (i := 18) fD_22 eL_law_1414.2.2.2.2.2.2.2.2.2.2.1
theorem dL_law_1429 : decode cL_law 1429 = .ok (.istore 6, 2) := fx_ok (d := 1408) (i := 21) fD_22 eL_law_1414.2.2.2.2.2.2.2.2.2.2.2.1
theorem dL_law_1431 : decode cL_law 1431 = .ok (.goto 889, 3) := fx_ok (d := 1408) (i := 23) fD_22 eL_law_1414.2.2.2.2.2.2.2.2.2.2.2.2.1
theorem dL_law_1434 : decode cL_law 1434 = .ok (.aload_n 1, 1) := fx_ok (d := 1408) (i := 26) fD_22 eL_law_1414.2.2.2.2.2.2.2.2.2.2.2.2.2.1
theorem dL_law_1435 : decode cL_law 1435 = .ok (.aload_n 0, 1) := fx_ok (d := 1408) (i := 27) fD_22 eL_law_1414.2.2.2.2.2.2.2.2.2.2.2.2.2.2.1
theorem dL_law_1436 : decode cL_law 1436 = .ok (.iload 4, 2) := fx_ok (d := 1408) (i := 28) fD_22 eL_law_1414.2.2.2.2.2.2.2.2.2.2.2.2.2.2.2
theorem eL_law_1438 : (fdecl fT_22 30 = some (.iconst 1, 1)) ∧ (fdecl fT_22 31 = some (.iadd, 1)) ∧ (fdecl fT_22 32 = some (.iaload, 1)) ∧ (fdecl fT_22 33 = some (.aload_n 0, 1)) ∧ (fdecl fT_22 34 = some (.iload 4, 2)) ∧ (fdecl fT_22 36 = some (.iconst 2, 1)) ∧ (fdecl fT_22 37 = some (.iadd, 1)) ∧ (fdecl fT_22 38 = some (.iaload, 1)) ∧ (fdecl fT_22 39 = some (.aload_n 3, 1)) ∧ (fdecl fT_22 40 = some (.invokestatic 231, 3)) ∧ (fdecl fT_22 43 = some (.istore 5, 2)) ∧ (fdecl fT_22 45 = some (.aload_n 2, 1)) ∧ (fdecl fT_22 46 = some (.aload_n 0, 1)) ∧ (fdecl fT_22 47 = some (.iload 4, 2)) ∧ (fdecl fT_22 49 = some (.iconst 1, 1)) ∧ (fdecl fT_22 50 = some (.iadd, 1)) := by decide +kernel
theorem dL_law_1438 : decode cL_law 1438 = .ok (.iconst 1, 1) := fx_ok (d := 1408) (i := 30) fD_22 eL_law_1438.1
theorem dL_law_1439 : decode cL_law 1439 = .ok (.iadd, 1) := fx_ok (d := 1408) (i := 31) fD_22 eL_law_1438.2.1
theorem dL_law_1440 : decode cL_law 1440 = .ok (.iaload, 1) := fx_ok (d := 1408) (i := 32) fD_22 eL_law_1438.2.2.1
theorem dL_law_1441 : decode cL_law 1441 = .ok (.aload_n 0, 1) := fx_ok (d := 1408) (i := 33) fD_22 eL_law_1438.2.2.2.1
theorem dL_law_1442 : decode cL_law 1442 = .ok (.iload 4, 2) := fx_ok (d := 1408) (i := 34) fD_22 eL_law_1438.2.2.2.2.1
theorem dL_law_1444 : decode cL_law 1444 = .ok (.iconst 2, 1) := fx_ok (d := 1408) (i := 36) fD_22 eL_law_1438.2.2.2.2.2.1
theorem dL_law_1445 : decode cL_law 1445 = .ok (.iadd, 1) := fx_ok (d := 1408) (i := 37) fD_22 eL_law_1438.2.2.2.2.2.2.1
theorem dL_law_1446 : decode cL_law 1446 = .ok (.iaload, 1) := fx_ok (d := 1408) (i := 38) fD_22 eL_law_1438.2.2.2.2.2.2.2.1
theorem dL_law_1447 : decode cL_law 1447 = .ok (.aload_n 3, 1) := fx_ok (d := 1408) (i := 39) fD_22 eL_law_1438.2.2.2.2.2.2.2.2.1
theorem dL_law_1448 : decode cL_law 1448 = .ok (.invokestatic 231, 3) := fx_ok (d := 1408) (i := 40) fD_22 eL_law_1438.2.2.2.2.2.2.2.2.2.1
theorem dL_law_1451 : decode cL_law 1451 = .ok (.istore 5, 2) := fx_ok (d := 1408) (i := 43) fD_22 eL_law_1438.2.2.2.2.2.2.2.2.2.2.1
theorem dL_law_1453 : decode cL_law 1453 = .ok (.aload_n 2, 1) := fx_ok (d := 1408) (i := 45) fD_22 eL_law_1438.2.2.2.2.2.2.2.2.2.2.2.1
theorem dL_law_1454 : decode cL_law 1454 = .ok (.aload_n 0, 1) := fx_ok (d := 1408) (i := 46) fD_22 eL_law_1438.2.2.2.2.2.2.2.2.2.2.2.2.1
theorem dL_law_1455 : decode cL_law 1455 = .ok (.iload 4, 2) := fx_ok (d := 1408) (i := 47) fD_22 eL_law_1438.2.2.2.2.2.2.2.2.2.2.2.2.2.1
theorem dL_law_1457 : decode cL_law 1457 = .ok (.iconst 1, 1) := fx_ok (d := 1408) (i := 49) fD_22 eL_law_1438.2.2.2.2.2.2.2.2.2.2.2.2.2.2.1
theorem dL_law_1458 : decode cL_law 1458 = .ok (.iadd, 1) := fx_ok (d := 1408) (i := 50) fD_22 eL_law_1438.2.2.2.2.2.2.2.2.2.2.2.2.2.2.2
theorem eL_law_1459 : (fdecl fT_22 51 = some (.iaload, 1)) ∧ (fdecl fT_22 52 = some (.aload_n 0, 1)) ∧ (fdecl fT_22 53 = some (.iload 4, 2)) ∧ (fdecl fT_22 55 = some (.iconst 2, 1)) ∧ (fdecl fT_22 56 = some (.iadd, 1)) ∧ (fdecl fT_22 57 = some (.iaload, 1)) ∧ (fdecl fT_22 58 = some (.invokevirtual 233, 3)) ∧ (fdecl fT_22 61 = some (.istore 6, 2)) ∧ (fdecl fT_22 63 = some (.goto 849, 3)) ∧ (fdecl fT_23 2 = some (.aload_n 1, 1)) ∧ (fdecl fT_23 3 = some (.aload_n 0, 1)) ∧ (fdecl fT_23 4 = some (.iload 4, 2)) ∧ (fdecl fT_23 6 = some (.iconst 1, 1)) ∧ (fdecl fT_23 7 = some (.iadd, 1)) ∧ (fdecl fT_23 8 = some (.iaload, 1)) ∧ (fdecl fT_23 9 = some (.aload_n 0, 1)) := by decide +kernel
theorem dL_law_1459 : decode cL_law 1459 = .ok (.iaload, 1) := fx_ok (d := 1408) (i := 51) fD_22 eL_law_1459.1
theorem dL_law_1460 : decode cL_law 1460 = .ok (.aload_n 0, 1) := fx_ok (d := 1408) (i := 52) fD_22 eL_law_1459.2.1
theorem dL_law_1461 : decode cL_law 1461 = .ok (.iload 4, 2) := fx_ok (d := 1408) (i := 53) fD_22 eL_law_1459.2.2.1
theorem dL_law_1463 : decode cL_law 1463 = .ok (.iconst 2, 1) := fx_ok (d := 1408) (i := 55) fD_22 eL_law_1459.2.2.2.1
theorem dL_law_1464 : decode cL_law 1464 = .ok (.iadd, 1) := fx_ok (d := 1408) (i := 56) fD_22 eL_law_1459.2.2.2.2.1
theorem dL_law_1465 : decode cL_law 1465 = .ok (.iaload, 1) := fx_ok (d := 1408) (i := 57) fD_22 eL_law_1459.2.2.2.2.2.1
theorem dL_law_1466 : decode cL_law 1466 = .ok (.invokevirtual 233, 3) := fx_ok (d := 1408) (i := 58) fD_22 eL_law_1459.2.2.2.2.2.2.1
theorem dL_law_1469 : decode cL_law 1469 = .ok (.istore 6, 2) := fx_ok (d := 1408) (i := 61) fD_22 eL_law_1459.2.2.2.2.2.2.2.1
theorem dL_law_1471 : decode cL_law 1471 = .ok (.goto 849, 3) := fx_ok (d := 1408) (i := 63) fD_22 eL_law_1459.2.2.2.2.2.2.2.2.1
theorem dL_law_1474 : decode cL_law 1474 = .ok (.aload_n 1, 1) := fx_ok (d := 1472) (i := 2) fD_23 eL_law_1459.2.2.2.2.2.2.2.2.2.1
theorem dL_law_1475 : decode cL_law 1475 = .ok (.aload_n 0, 1) := fx_ok (d := 1472) (i := 3) fD_23 eL_law_1459.2.2.2.2.2.2.2.2.2.2.1
theorem dL_law_1476 : decode cL_law 1476 = .ok (.iload 4, 2) := fx_ok (d := 1472) (i := 4) fD_23 eL_law_1459.2.2.2.2.2.2.2.2.2.2.2.1
theorem dL_law_1478 : decode cL_law 1478 = .ok (.iconst 1, 1) := fx_ok (d := 1472) (i := 6) fD_23 eL_law_1459.2.2.2.2.2.2.2.2.2.2.2.2.1
theorem dL_law_1479 : decode cL_law 1479 = .ok (.iadd, 1) := fx_ok (d := 1472) (i := 7) fD_23 eL_law_1459.2.2.2.2.2.2.2.2.2.2.2.2.2.1
theorem dL_law_1480 : decode cL_law 1480 = .ok (.iaload, 1) := fx_ok (d := 1472) (i := 8) fD_23 eL_law_1459.2.2.2.2.2.2.2.2.2.2.2.2.2.2.1
theorem dL_law_1481 : decode cL_law 1481 = .ok (.aload_n 0, 1) := fx_ok (d := 1472) (i := 9) fD_23 eL_law_1459.2.2.2.2.2.2.2.2.2.2.2.2.2.2.2
theorem eL_law_1482 : (fdecl fT_23 10 = some (.iload 4, 2)) ∧ (fdecl fT_23 12 = some (.iconst 2, 1)) ∧ (fdecl fT_23 13 = some (.iadd, 1)) ∧ (fdecl fT_23 14 = some (.iaload, 1)) ∧ (fdecl fT_23 15 = some (.aload_n 3, 1)) ∧ (fdecl fT_23 16 = some (.invokestatic 234, 3)) ∧ (fdecl fT_23 19 = some (.istore 5, 2)) ∧ (fdecl fT_23 21 = some (.aload_n 2, 1)) ∧ (fdecl fT_23 22 = some (.aload_n 0, 1)) ∧ (fdecl fT_23 23 = some (.iload 4, 2)) ∧ (fdecl fT_23 25 = some (.iconst 1, 1)) ∧ (fdecl fT_23 26 = some (.iadd, 1)) ∧ (fdecl fT_23 27 = some (.iaload, 1)) ∧ (fdecl fT_23 28 = some (.aload_n 0, 1)) ∧ (fdecl fT_23 29 = some (.iload 4, 2)) ∧ (fdecl fT_23 31 = some (.iconst 2, 1)) := by decide +kernel
theorem dL_law_1482 : decode cL_law 1482 = .ok (.iload 4, 2) := fx_ok (d := 1472) (i := 10) fD_23 eL_law_1482.1
theorem dL_law_1484 : decode cL_law 1484 = .ok (.iconst 2, 1) := fx_ok (d := 1472) (i := 12) fD_23 eL_law_1482.2.1
theorem dL_law_1485 : decode cL_law 1485 = .ok (.iadd, 1) := fx_ok (d := 1472) (i := 13) fD_23 eL_law_1482.2.2.1
theorem dL_law_1486 : decode cL_law 1486 = .ok (.iaload, 1) := fx_ok (d := 1472) (i := 14) fD_23 eL_law_1482.2.2.2.1
theorem dL_law_1487 : decode cL_law 1487 = .ok (.aload_n 3, 1) := fx_ok (d := 1472) (i := 15) fD_23 eL_law_1482.2.2.2.2.1
theorem dL_law_1488 : decode cL_law 1488 = .ok (.invokestatic 234, 3) := fx_ok (d := 1472) (i := 16) fD_23 eL_law_1482.2.2.2.2.2.1
theorem dL_law_1491 : decode cL_law 1491 = .ok (.istore 5, 2) := fx_ok (d := 1472) (i := 19) fD_23 eL_law_1482.2.2.2.2.2.2.1
theorem dL_law_1493 : decode cL_law 1493 = .ok (.aload_n 2, 1) := fx_ok (d := 1472) (i := 21) fD_23 eL_law_1482.2.2.2.2.2.2.2.1
theorem dL_law_1494 : decode cL_law 1494 = .ok (.aload_n 0, 1) := fx_ok (d := 1472) (i := 22) fD_23 eL_law_1482.2.2.2.2.2.2.2.2.1
theorem dL_law_1495 : decode cL_law 1495 = .ok (.iload 4, 2) := fx_ok (d := 1472) (i := 23) fD_23 eL_law_1482.2.2.2.2.2.2.2.2.2.1
theorem dL_law_1497 : decode cL_law 1497 = .ok (.iconst 1, 1) := fx_ok (d := 1472) (i := 25) fD_23 eL_law_1482.2.2.2.2.2.2.2.2.2.2.1
theorem dL_law_1498 : decode cL_law 1498 = .ok (.iadd, 1) := fx_ok (d := 1472) (i := 26) fD_23 eL_law_1482.2.2.2.2.2.2.2.2.2.2.2.1
theorem dL_law_1499 : decode cL_law 1499 = .ok (.iaload, 1) := fx_ok (d := 1472) (i := 27) fD_23 eL_law_1482.2.2.2.2.2.2.2.2.2.2.2.2.1
theorem dL_law_1500 : decode cL_law 1500 = .ok (.aload_n 0, 1) := fx_ok (d := 1472) (i := 28) fD_23 eL_law_1482.2.2.2.2.2.2.2.2.2.2.2.2.2.1
theorem dL_law_1501 : decode cL_law 1501 = .ok (.iload 4, 2) := fx_ok (d := 1472) (i := 29) fD_23 eL_law_1482.2.2.2.2.2.2.2.2.2.2.2.2.2.2.1
theorem dL_law_1503 : decode cL_law 1503 = .ok (.iconst 2, 1) := fx_ok (d := 1472) (i := 31) fD_23 eL_law_1482.2.2.2.2.2.2.2.2.2.2.2.2.2.2.2
theorem eL_law_1504 : (fdecl fT_23 32 = some (.iadd, 1)) ∧ (fdecl fT_23 33 = some (.iaload, 1)) ∧ (fdecl fT_23 34 = some (.invokevirtual 236, 3)) ∧ (fdecl fT_23 37 = some (.istore 6, 2)) ∧ (fdecl fT_23 39 = some (.goto 809, 3)) ∧ (fdecl fT_23 42 = some (.aload_n 1, 1)) ∧ (fdecl fT_23 43 = some (.aload_n 0, 1)) ∧ (fdecl fT_23 44 = some (.iload 4, 2)) ∧ (fdecl fT_23 46 = some (.iconst 1, 1)) ∧ (fdecl fT_23 47 = some (.iadd, 1)) ∧ (fdecl fT_23 48 = some (.iaload, 1)) ∧ (fdecl fT_23 49 = some (.aload_n 0, 1)) ∧ (fdecl fT_23 50 = some (.iload 4, 2)) ∧ (fdecl fT_23 52 = some (.iconst 2, 1)) ∧ (fdecl fT_23 53 = some (.iadd, 1)) ∧ (fdecl fT_23 54 = some (.iaload, 1)) := by decide +kernel
theorem dL_law_1504 : decode cL_law 1504 = .ok (.iadd, 1) := fx_ok (d := 1472) (i := 32) fD_23 eL_law_1504.1
theorem dL_law_1505 : decode cL_law 1505 = .ok (.iaload, 1) := fx_ok (d := 1472) (i := 33) fD_23 eL_law_1504.2.1
theorem dL_law_1506 : decode cL_law 1506 = .ok (.invokevirtual 236, 3) := fx_ok (d := 1472) (i := 34) fD_23 eL_law_1504.2.2.1
theorem dL_law_1509 : decode cL_law 1509 = .ok (.istore 6, 2) := fx_ok (d := 1472) (i := 37) fD_23 eL_law_1504.2.2.2.1
theorem dL_law_1511 : decode cL_law 1511 = .ok (.goto 809, 3) := fx_ok (d := 1472) (i := 39) fD_23 eL_law_1504.2.2.2.2.1
theorem dL_law_1514 : decode cL_law 1514 = .ok (.aload_n 1, 1) := fx_ok (d := 1472) (i := 42) fD_23 eL_law_1504.2.2.2.2.2.1
theorem dL_law_1515 : decode cL_law 1515 = .ok (.aload_n 0, 1) := fx_ok (d := 1472) (i := 43) fD_23 eL_law_1504.2.2.2.2.2.2.1
theorem dL_law_1516 : decode cL_law 1516 = .ok (.iload 4, 2) := fx_ok (d := 1472) (i := 44) fD_23 eL_law_1504.2.2.2.2.2.2.2.1
theorem dL_law_1518 : decode cL_law 1518 = .ok (.iconst 1, 1) := fx_ok (d := 1472) (i := 46) fD_23 eL_law_1504.2.2.2.2.2.2.2.2.1
theorem dL_law_1519 : decode cL_law 1519 = .ok (.iadd, 1) := fx_ok (d := 1472) (i := 47) fD_23 eL_law_1504.2.2.2.2.2.2.2.2.2.1
theorem dL_law_1520 : decode cL_law 1520 = .ok (.iaload, 1) := fx_ok (d := 1472) (i := 48) fD_23 eL_law_1504.2.2.2.2.2.2.2.2.2.2.1
theorem dL_law_1521 : decode cL_law 1521 = .ok (.aload_n 0, 1) := fx_ok (d := 1472) (i := 49) fD_23 eL_law_1504.2.2.2.2.2.2.2.2.2.2.2.1
theorem dL_law_1522 : decode cL_law 1522 = .ok (.iload 4, 2) := fx_ok (d := 1472) (i := 50) fD_23 eL_law_1504.2.2.2.2.2.2.2.2.2.2.2.2.1
theorem dL_law_1524 : decode cL_law 1524 = .ok (.iconst 2, 1) := fx_ok (d := 1472) (i := 52) fD_23 eL_law_1504.2.2.2.2.2.2.2.2.2.2.2.2.2.1
theorem dL_law_1525 : decode cL_law 1525 = .ok (.iadd, 1) := fx_ok (d := 1472) (i := 53) fD_23 eL_law_1504.2.2.2.2.2.2.2.2.2.2.2.2.2.2.1
theorem dL_law_1526 : decode cL_law 1526 = .ok (.iaload, 1) := fx_ok (d := 1472) (i := 54) fD_23 eL_law_1504.2.2.2.2.2.2.2.2.2.2.2.2.2.2.2
theorem eL_law_1527 : (fdecl fT_23 55 = some (.aload_n 0, 1)) ∧ (fdecl fT_23 56 = some (.iload 4, 2)) ∧ (fdecl fT_23 58 = some (.iconst 3, 1)) ∧ (fdecl fT_23 59 = some (.iadd, 1)) ∧ (fdecl fT_23 60 = some (.iaload, 1)) ∧ (fdecl fT_23 61 = some (.aload_n 3, 1)) ∧ (fdecl fT_23 62 = some (.invokestatic 237, 3)) ∧ (fdecl fT_24 1 = some (.istore 5, 2)) ∧ (fdecl fT_24 3 = some (.aload_n 2, 1)) ∧ (fdecl fT_24 4 = some (.aload_n 0, 1)) ∧ (fdecl fT_24 5 = some (.iload 4, 2)) ∧ (fdecl fT_24 7 = some (.iconst 1, 1)) ∧ (fdecl fT_24 8 = some (.iadd, 1)) ∧ (fdecl fT_24 9 = some (.iaload, 1)) ∧ (fdecl fT_24 10 = some (.aload_n 0, 1)) ∧ (fdecl fT_24 11 = some (.iload 4, 2)) := by decide +kernel
theorem dL_law_1527 : decode cL_law 1527 = .ok (.aload_n 0, 1) := fx_ok (d := 1472) (i := 55) fD_23 eL_law_1527.1
theorem dL_law_1528 : decode cL_law 1528 = .ok (.iload 4, 2) := fx_ok (d := 1472) (i := 56) fD_23 eL_law_1527.2.1
theorem dL_law_1530 : decode cL_law 1530 = .ok (.iconst 3, 1) := fx_ok (d := 1472) (i := 58) fD_23 eL_law_1527.2.2.1
theorem dL_law_1531 : decode cL_law 1531 = .ok (.iadd, 1) := fx_ok (d := 1472) (i := 59) fD_23 eL_law_1527.2.2.2.1
theorem dL_law_1532 : decode cL_law 1532 = .ok (.iaload, 1) := fx_ok (d := 1472) (i := 60) fD_23 eL_law_1527.2.2.2.2.1
theorem dL_law_1533 : decode cL_law 1533 = .ok (.aload_n 3, 1) := fx_ok (d := 1472) (i := 61) fD_23 eL_law_1527.2.2.2.2.2.1
theorem dL_law_1534 : decode cL_law 1534 = .ok (.invokestatic 237, 3) := fx_ok (d := 1472) (i := 62) fD_23 eL_law_1527.2.2.2.2.2.2.1
theorem dL_law_1537 : decode cL_law 1537 = .ok (.istore 5, 2) := fx_ok (d := 1536) (i := 1) fD_24 eL_law_1527.2.2.2.2.2.2.2.1
theorem dL_law_1539 : decode cL_law 1539 = .ok (.aload_n 2, 1) := fx_ok (d := 1536) (i := 3) fD_24 eL_law_1527.2.2.2.2.2.2.2.2.1
theorem dL_law_1540 : decode cL_law 1540 = .ok (.aload_n 0, 1) := fx_ok (d := 1536) (i := 4) fD_24 eL_law_1527.2.2.2.2.2.2.2.2.2.1
theorem dL_law_1541 : decode cL_law 1541 = .ok (.iload 4, 2) := fx_ok (d := 1536) (i := 5) fD_24 eL_law_1527.2.2.2.2.2.2.2.2.2.2.1
theorem dL_law_1543 : decode cL_law 1543 = .ok (.iconst 1, 1) := fx_ok (d := 1536) (i := 7) fD_24 eL_law_1527.2.2.2.2.2.2.2.2.2.2.2.1
theorem dL_law_1544 : decode cL_law 1544 = .ok (.iadd, 1) := fx_ok (d := 1536) (i := 8) fD_24 eL_law_1527.2.2.2.2.2.2.2.2.2.2.2.2.1
theorem dL_law_1545 : decode cL_law 1545 = .ok (.iaload, 1) := fx_ok (d := 1536) (i := 9) fD_24 eL_law_1527.2.2.2.2.2.2.2.2.2.2.2.2.2.1
theorem dL_law_1546 : decode cL_law 1546 = .ok (.aload_n 0, 1) := fx_ok (d := 1536) (i := 10) fD_24 eL_law_1527.2.2.2.2.2.2.2.2.2.2.2.2.2.2.1
theorem dL_law_1547 : decode cL_law 1547 = .ok (.iload 4, 2) := fx_ok (d := 1536) (i := 11) fD_24 eL_law_1527.2.2.2.2.2.2.2.2.2.2.2.2.2.2.2
theorem eL_law_1549 : (fdecl fT_24 13 = some (.iconst 2, 1)) ∧ (fdecl fT_24 14 = some (.iadd, 1)) ∧ (fdecl fT_24 15 = some (.iaload, 1)) ∧ (fdecl fT_24 16 = some (.aload_n 0, 1)) ∧ (fdecl fT_24 17 = some (.iload 4, 2)) ∧ (fdecl fT_24 19 = some (.iconst 3, 1)) ∧ (fdecl fT_24 20 = some (.iadd, 1)) ∧ (fdecl fT_24 21 = some (.iaload, 1)) ∧ (fdecl fT_24 22 = some (.invokevirtual 239, 3)) ∧ (fdecl fT_24 25 = some (.istore 6, 2)) ∧ (fdecl fT_24 27 = some (.goto 757, 3)) ∧ (fdecl fT_24 30 = some (.aload_n 1, 1)) ∧ (fdecl fT_24 31 = some (.aload_n 0, 1)) ∧ (fdecl fT_24 32 = some (.iload 4, 2)) ∧ (fdecl fT_24 34 = some (.iconst 1, 1)) ∧ (fdecl fT_24 35 = some (.iadd, 1)) := by decide +kernel
theorem dL_law_1549 : decode cL_law 1549 = .ok (.iconst 2, 1) := fx_ok (d := 1536) (i := 13) fD_24 eL_law_1549.1
theorem dL_law_1550 : decode cL_law 1550 = .ok (.iadd, 1) := fx_ok (d := 1536) (i := 14) fD_24 eL_law_1549.2.1
theorem dL_law_1551 : decode cL_law 1551 = .ok (.iaload, 1) := fx_ok (d := 1536) (i := 15) fD_24 eL_law_1549.2.2.1
theorem dL_law_1552 : decode cL_law 1552 = .ok (.aload_n 0, 1) := fx_ok (d := 1536) (i := 16) fD_24 eL_law_1549.2.2.2.1
theorem dL_law_1553 : decode cL_law 1553 = .ok (.iload 4, 2) := fx_ok (d := 1536) (i := 17) fD_24 eL_law_1549.2.2.2.2.1
theorem dL_law_1555 : decode cL_law 1555 = .ok (.iconst 3, 1) := fx_ok (d := 1536) (i := 19) fD_24 eL_law_1549.2.2.2.2.2.1
theorem dL_law_1556 : decode cL_law 1556 = .ok (.iadd, 1) := fx_ok (d := 1536) (i := 20) fD_24 eL_law_1549.2.2.2.2.2.2.1
theorem dL_law_1557 : decode cL_law 1557 = .ok (.iaload, 1) := fx_ok (d := 1536) (i := 21) fD_24 eL_law_1549.2.2.2.2.2.2.2.1
theorem dL_law_1558 : decode cL_law 1558 = .ok (.invokevirtual 239, 3) := fx_ok (d := 1536) (i := 22) fD_24 eL_law_1549.2.2.2.2.2.2.2.2.1
theorem dL_law_1561 : decode cL_law 1561 = .ok (.istore 6, 2) := fx_ok (d := 1536) (i := 25) fD_24 eL_law_1549.2.2.2.2.2.2.2.2.2.1
theorem dL_law_1563 : decode cL_law 1563 = .ok (.goto 757, 3) := fx_ok (d := 1536) (i := 27) fD_24 eL_law_1549.2.2.2.2.2.2.2.2.2.2.1
theorem dL_law_1566 : decode cL_law 1566 = .ok (.aload_n 1, 1) := fx_ok (d := 1536) (i := 30) fD_24 eL_law_1549.2.2.2.2.2.2.2.2.2.2.2.1
theorem dL_law_1567 : decode cL_law 1567 = .ok (.aload_n 0, 1) := fx_ok (d := 1536) (i := 31) fD_24 eL_law_1549.2.2.2.2.2.2.2.2.2.2.2.2.1
theorem dL_law_1568 : decode cL_law 1568 = .ok (.iload 4, 2) := fx_ok (d := 1536) (i := 32) fD_24 eL_law_1549.2.2.2.2.2.2.2.2.2.2.2.2.2.1
theorem dL_law_1570 : decode cL_law 1570 = .ok (.iconst 1, 1) := fx_ok (d := 1536) (i := 34) fD_24 eL_law_1549.2.2.2.2.2.2.2.2.2.2.2.2.2.2.1
theorem dL_law_1571 : decode cL_law 1571 = .ok (.iadd, 1) := fx_ok (d := 1536) (i := 35) fD_24 eL_law_1549.2.2.2.2.2.2.2.2.2.2.2.2.2.2.2
theorem eL_law_1572 : (fdecl fT_24 36 = some (.iaload, 1)) ∧ (fdecl fT_24 37 = some (.aload_n 0, 1)) ∧ (fdecl fT_24 38 = some (.iload 4, 2)) ∧ (fdecl fT_24 40 = some (.iconst 2, 1)) ∧ (fdecl fT_24 41 = some (.iadd, 1)) ∧ (fdecl fT_24 42 = some (.iaload, 1)) ∧ (fdecl fT_24 43 = some (.aload_n 3, 1)) ∧ (fdecl fT_24 44 = some (.invokestatic 240, 3)) ∧ (fdecl fT_24 47 = some (.istore 5, 2)) ∧ (fdecl fT_24 49 = some (.aload_n 2, 1)) ∧ (fdecl fT_24 50 = some (.aload_n 0, 1)) ∧ (fdecl fT_24 51 = some (.iload 4, 2)) ∧ (fdecl fT_24 53 = some (.iconst 1, 1)) ∧ (fdecl fT_24 54 = some (.iadd, 1)) ∧ (fdecl fT_24 55 = some (.iaload, 1)) ∧ (fdecl fT_24 56 = some (.aload_n 0, 1)) := by decide +kernel
theorem dL_law_1572 : decode cL_law 1572 = .ok (.iaload, 1) := fx_ok (d := 1536) (i := 36) fD_24 eL_law_1572.1
theorem dL_law_1573 : decode cL_law 1573 = .ok (.aload_n 0, 1) := fx_ok (d := 1536) (i := 37) fD_24 eL_law_1572.2.1
theorem dL_law_1574 : decode cL_law 1574 = .ok (.iload 4, 2) := fx_ok (d := 1536) (i := 38) fD_24 eL_law_1572.2.2.1
theorem dL_law_1576 : decode cL_law 1576 = .ok (.iconst 2, 1) := fx_ok (d := 1536) (i := 40) fD_24 eL_law_1572.2.2.2.1
theorem dL_law_1577 : decode cL_law 1577 = .ok (.iadd, 1) := fx_ok (d := 1536) (i := 41) fD_24 eL_law_1572.2.2.2.2.1
theorem dL_law_1578 : decode cL_law 1578 = .ok (.iaload, 1) := fx_ok (d := 1536) (i := 42) fD_24 eL_law_1572.2.2.2.2.2.1
theorem dL_law_1579 : decode cL_law 1579 = .ok (.aload_n 3, 1) := fx_ok (d := 1536) (i := 43) fD_24 eL_law_1572.2.2.2.2.2.2.1
theorem dL_law_1580 : decode cL_law 1580 = .ok (.invokestatic 240, 3) := fx_ok (d := 1536) (i := 44) fD_24 eL_law_1572.2.2.2.2.2.2.2.1
theorem dL_law_1583 : decode cL_law 1583 = .ok (.istore 5, 2) := fx_ok (d := 1536) (i := 47) fD_24 eL_law_1572.2.2.2.2.2.2.2.2.1
theorem dL_law_1585 : decode cL_law 1585 = .ok (.aload_n 2, 1) := fx_ok (d := 1536) (i := 49) fD_24 eL_law_1572.2.2.2.2.2.2.2.2.2.1
theorem dL_law_1586 : decode cL_law 1586 = .ok (.aload_n 0, 1) := fx_ok (d := 1536) (i := 50) fD_24 eL_law_1572.2.2.2.2.2.2.2.2.2.2.1
theorem dL_law_1587 : decode cL_law 1587 = .ok (.iload 4, 2) := fx_ok (d := 1536) (i := 51) fD_24 eL_law_1572.2.2.2.2.2.2.2.2.2.2.2.1
theorem dL_law_1589 : decode cL_law 1589 = .ok (.iconst 1, 1) := fx_ok (d := 1536) (i := 53) fD_24 eL_law_1572.2.2.2.2.2.2.2.2.2.2.2.2.1
theorem dL_law_1590 : decode cL_law 1590 = .ok (.iadd, 1) := fx_ok (d := 1536) (i := 54) fD_24 eL_law_1572.2.2.2.2.2.2.2.2.2.2.2.2.2.1
theorem dL_law_1591 : decode cL_law 1591 = .ok (.iaload, 1) := fx_ok (d := 1536) (i := 55) fD_24 eL_law_1572.2.2.2.2.2.2.2.2.2.2.2.2.2.2.1
theorem dL_law_1592 : decode cL_law 1592 = .ok (.aload_n 0, 1) := fx_ok (d := 1536) (i := 56) fD_24 eL_law_1572.2.2.2.2.2.2.2.2.2.2.2.2.2.2.2
theorem eL_law_1593 : (fdecl fT_24 57 = some (.iload 4, 2)) ∧ (fdecl fT_24 59 = some (.iconst 2, 1)) ∧ (fdecl fT_24 60 = some (.iadd, 1)) ∧ (fdecl fT_24 61 = some (.iaload, 1)) ∧ (fdecl fT_24 62 = some (.invokevirtual 242, 3)) ∧ (fdecl fT_25 1 = some (.istore 6, 2)) ∧ (fdecl fT_25 3 = some (.goto 717, 3)) ∧ (fdecl fT_25 6 = some (.aload_n 1, 1)) ∧ (fdecl fT_25 7 = some (.aload_n 0, 1)) ∧ (fdecl fT_25 8 = some (.iload 4, 2)) ∧ (fdecl fT_25 10 = some (.iconst 1, 1)) ∧ (fdecl fT_25 11 = some (.iadd, 1)) ∧ (fdecl fT_25 12 = some (.iaload, 1)) ∧ (fdecl fT_25 13 = some (.aload_n 3, 1)) ∧ (fdecl fT_25 14 = some (.invokestatic 243, 3)) ∧ (fdecl fT_25 17 = some (.istore 5, 2)) := by decide +kernel
theorem dL_law_1593 : decode cL_law 1593 = .ok (.iload 4, 2) := fx_ok (d := 1536) (i := 57) fD_24 eL_law_1593.1
theorem dL_law_1595 : decode cL_law 1595 = .ok (.iconst 2, 1) := fx_ok (d := 1536) (i := 59) fD_24 eL_law_1593.2.1
theorem dL_law_1596 : decode cL_law 1596 = .ok (.iadd, 1) := fx_ok (d := 1536) (i := 60) fD_24 eL_law_1593.2.2.1
theorem dL_law_1597 : decode cL_law 1597 = .ok (.iaload, 1) := fx_ok (d := 1536) (i := 61) fD_24 eL_law_1593.2.2.2.1
theorem dL_law_1598 : decode cL_law 1598 = .ok (.invokevirtual 242, 3) := fx_ok (d := 1536) (i := 62) fD_24 eL_law_1593.2.2.2.2.1
theorem dL_law_1601 : decode cL_law 1601 = .ok (.istore 6, 2) := fx_ok (d := 1600) (i := 1) fD_25 eL_law_1593.2.2.2.2.2.1
theorem dL_law_1603 : decode cL_law 1603 = .ok (.goto 717, 3) := fx_ok (d := 1600) (i := 3) fD_25 eL_law_1593.2.2.2.2.2.2.1
theorem dL_law_1606 : decode cL_law 1606 = .ok (.aload_n 1, 1) := fx_ok (d := 1600) (i := 6) fD_25 eL_law_1593.2.2.2.2.2.2.2.1
theorem dL_law_1607 : decode cL_law 1607 = .ok (.aload_n 0, 1) := fx_ok (d := 1600) (i := 7) fD_25 eL_law_1593.2.2.2.2.2.2.2.2.1
theorem dL_law_1608 : decode cL_law 1608 = .ok (.iload 4, 2) := fx_ok (d := 1600) (i := 8) fD_25 eL_law_1593.2.2.2.2.2.2.2.2.2.1
theorem dL_law_1610 : decode cL_law 1610 = .ok (.iconst 1, 1) := fx_ok (d := 1600) (i := 10) fD_25 eL_law_1593.2.2.2.2.2.2.2.2.2.2.1
theorem dL_law_1611 : decode cL_law 1611 = .ok (.iadd, 1) := fx_ok (d := 1600) (i := 11) fD_25 eL_law_1593.2.2.2.2.2.2.2.2.2.2.2.1
theorem dL_law_1612 : decode cL_law 1612 = .ok (.iaload, 1) := fx_ok (d := 1600) (i := 12) fD_25 eL_law_1593.2.2.2.2.2.2.2.2.2.2.2.2.1
theorem dL_law_1613 : decode cL_law 1613 = .ok (.aload_n 3, 1) := fx_ok (d := 1600) (i := 13) fD_25 eL_law_1593.2.2.2.2.2.2.2.2.2.2.2.2.2.1
theorem dL_law_1614 : decode cL_law 1614 = .ok (.invokestatic 243, 3) := fx_ok (d := 1600) (i := 14) fD_25 eL_law_1593.2.2.2.2.2.2.2.2.2.2.2.2.2.2.1
theorem dL_law_1617 : decode cL_law 1617 = .ok (.istore 5, 2) := fx_ok (d := 1600) (i := 17) fD_25 eL_law_1593.2.2.2.2.2.2.2.2.2.2.2.2.2.2.2
theorem eL_law_1619 : (fdecl fT_25 19 = some (.aload_n 2, 1)) ∧ (fdecl fT_25 20 = some (.aload_n 0, 1)) ∧ (fdecl fT_25 21 = some (.iload 4, 2)) ∧ (fdecl fT_25 23 = some (.iconst 1, 1)) ∧ (fdecl fT_25 24 = some (.iadd, 1)) ∧ (fdecl fT_25 25 = some (.iaload, 1)) ∧ (fdecl fT_25 26 = some (.invokevirtual 245, 3)) ∧ (fdecl fT_25 29 = some (.istore 6, 2)) ∧ (fdecl fT_25 31 = some (.goto 689, 3)) ∧ (fdecl fT_25 34 = some (.aload_n 1, 1)) ∧ (fdecl fT_25 35 = some (.invokevirtual 246, 3)) ∧ (fdecl fT_25 38 = some (.pop, 1)) ∧ (fdecl fT_25 39 = some (.aload_n 2, 1)) ∧ (fdecl fT_25 40 = some (.invokevirtual 250, 3)) ∧ (fdecl fT_25 43 = some (.pop, 1)) ∧ (fdecl fT_25 44 = some (.goto 676, 3)) := by decide +kernel
theorem dL_law_1619 : decode cL_law 1619 = .ok (.aload_n 2, 1) := fx_ok (d := 1600) (i := 19) fD_25 eL_law_1619.1
theorem dL_law_1620 : decode cL_law 1620 = .ok (.aload_n 0, 1) := fx_ok (d := 1600) (i := 20) fD_25 eL_law_1619.2.1
theorem dL_law_1621 : decode cL_law 1621 = .ok (.iload 4, 2) := fx_ok (d := 1600) (i := 21) fD_25 eL_law_1619.2.2.1
theorem dL_law_1623 : decode cL_law 1623 = .ok (.iconst 1, 1) := fx_ok (d := 1600) (i := 23) fD_25 eL_law_1619.2.2.2.1
theorem dL_law_1624 : decode cL_law 1624 = .ok (.iadd, 1) := fx_ok (d := 1600) (i := 24) fD_25 eL_law_1619.2.2.2.2.1
theorem dL_law_1625 : decode cL_law 1625 = .ok (.iaload, 1) := fx_ok (d := 1600) (i := 25) fD_25 eL_law_1619.2.2.2.2.2.1
theorem dL_law_1626 : decode cL_law 1626 = .ok (.invokevirtual 245, 3) := fx_ok (d := 1600) (i := 26) fD_25 eL_law_1619.2.2.2.2.2.2.1
theorem dL_law_1629 : decode cL_law 1629 = .ok (.istore 6, 2) := fx_ok (d := 1600) (i := 29) fD_25 eL_law_1619.2.2.2.2.2.2.2.1
theorem dL_law_1631 : decode cL_law 1631 = .ok (.goto 689, 3) := fx_ok (d := 1600) (i := 31) fD_25 eL_law_1619.2.2.2.2.2.2.2.2.1
theorem dL_law_1634 : decode cL_law 1634 = .ok (.aload_n 1, 1) := fx_ok (d := 1600) (i := 34) fD_25 eL_law_1619.2.2.2.2.2.2.2.2.2.1
theorem dL_law_1635 : decode cL_law 1635 = .ok (.invokevirtual 246, 3) := fx_ok (d := 1600) (i := 35) fD_25 eL_law_1619.2.2.2.2.2.2.2.2.2.2.1
theorem dL_law_1638 : decode cL_law 1638 = .ok (.pop, 1) := fx_ok (d := 1600) (i := 38) fD_25 eL_law_1619.2.2.2.2.2.2.2.2.2.2.2.1
theorem dL_law_1639 : decode cL_law 1639 = .ok (.aload_n 2, 1) := fx_ok (d := 1600) (i := 39) fD_25 eL_law_1619.2.2.2.2.2.2.2.2.2.2.2.2.1
theorem dL_law_1640 : decode cL_law 1640 = .ok (.invokevirtual 250, 3) := fx_ok (d := 1600) (i := 40) fD_25 eL_law_1619.2.2.2.2.2.2.2.2.2.2.2.2.2.1
theorem dL_law_1643 : decode cL_law 1643 = .ok (.pop, 1) := fx_ok (d := 1600) (i := 43) fD_25 eL_law_1619.2.2.2.2.2.2.2.2.2.2.2.2.2.2.1
theorem dL_law_1644 : decode cL_law 1644 = .ok (.goto 676, 3) := fx_ok (d := 1600) (i := 44) fD_25 eL_law_1619.2.2.2.2.2.2.2.2.2.2.2.2.2.2.2
theorem eL_law_1647 : (fdecl fT_25 47 = some (.aload_n 1, 1)) ∧ (fdecl fT_25 48 = some (.aload_n 0, 1)) ∧ (fdecl fT_25 49 = some (.iload 4, 2)) ∧ (fdecl fT_25 51 = some (.iconst 1, 1)) ∧ (fdecl fT_25 52 = some (.iadd, 1)) ∧ (fdecl fT_25 53 = some (.iaload, 1)) ∧ (fdecl fT_25 54 = some (.aload_n 3, 1)) ∧ (fdecl fT_25 55 = some (.invokestatic 251, 3)) ∧ (fdecl fT_25 58 = some (.istore 5, 2)) ∧ (fdecl fT_25 60 = some (.aload_n 2, 1)) ∧ (fdecl fT_25 61 = some (.aload_n 0, 1)) ∧ (fdecl fT_25 62 = some (.iload 4, 2)) ∧ (fdecl fT_26 0 = some (.iconst 1, 1)) ∧ (fdecl fT_26 1 = some (.iadd, 1)) ∧ (fdecl fT_26 2 = some (.iaload, 1)) ∧ (fdecl fT_26 3 = some (.invokevirtual 253, 3)) := by decide +kernel
theorem dL_law_1647 : decode cL_law 1647 = .ok (.aload_n 1, 1) := fx_ok (d := 1600) (i := 47) fD_25 eL_law_1647.1
theorem dL_law_1648 : decode cL_law 1648 = .ok (.aload_n 0, 1) := fx_ok (d := 1600) (i := 48) fD_25 eL_law_1647.2.1
theorem dL_law_1649 : decode cL_law 1649 = .ok (.iload 4, 2) := fx_ok (d := 1600) (i := 49) fD_25 eL_law_1647.2.2.1
theorem dL_law_1651 : decode cL_law 1651 = .ok (.iconst 1, 1) := fx_ok (d := 1600) (i := 51) fD_25 eL_law_1647.2.2.2.1
theorem dL_law_1652 : decode cL_law 1652 = .ok (.iadd, 1) := fx_ok (d := 1600) (i := 52) fD_25 eL_law_1647.2.2.2.2.1
theorem dL_law_1653 : decode cL_law 1653 = .ok (.iaload, 1) := fx_ok (d := 1600) (i := 53) fD_25 eL_law_1647.2.2.2.2.2.1
theorem dL_law_1654 : decode cL_law 1654 = .ok (.aload_n 3, 1) := fx_ok (d := 1600) (i := 54) fD_25 eL_law_1647.2.2.2.2.2.2.1
theorem dL_law_1655 : decode cL_law 1655 = .ok (.invokestatic 251, 3) := fx_ok (d := 1600) (i := 55) fD_25 eL_law_1647.2.2.2.2.2.2.2.1
theorem dL_law_1658 : decode cL_law 1658 = .ok (.istore 5, 2) := fx_ok (d := 1600) (i := 58) fD_25 eL_law_1647.2.2.2.2.2.2.2.2.1
theorem dL_law_1660 : decode cL_law 1660 = .ok (.aload_n 2, 1) := fx_ok (d := 1600) (i := 60) fD_25 eL_law_1647.2.2.2.2.2.2.2.2.2.1
theorem dL_law_1661 : decode cL_law 1661 = .ok (.aload_n 0, 1) := fx_ok (d := 1600) (i := 61) fD_25 eL_law_1647.2.2.2.2.2.2.2.2.2.2.1
theorem dL_law_1662 : decode cL_law 1662 = .ok (.iload 4, 2) := fx_ok (d := 1600) (i := 62) fD_25 eL_law_1647.2.2.2.2.2.2.2.2.2.2.2.1
theorem dL_law_1664 : decode cL_law 1664 = .ok (.iconst 1, 1) := fx_ok (d := 1664) (i := 0) fD_26 eL_law_1647.2.2.2.2.2.2.2.2.2.2.2.2.1
theorem dL_law_1665 : decode cL_law 1665 = .ok (.iadd, 1) := fx_ok (d := 1664) (i := 1) fD_26 eL_law_1647.2.2.2.2.2.2.2.2.2.2.2.2.2.1
theorem dL_law_1666 : decode cL_law 1666 = .ok (.iaload, 1) := fx_ok (d := 1664) (i := 2) fD_26 eL_law_1647.2.2.2.2.2.2.2.2.2.2.2.2.2.2.1
theorem dL_law_1667 : decode cL_law 1667 = .ok (.invokevirtual 253, 3) := fx_ok (d := 1664) (i := 3) fD_26 eL_law_1647.2.2.2.2.2.2.2.2.2.2.2.2.2.2.2
theorem eL_law_1670 : (fdecl fT_26 6 = some (.istore 6, 2)) ∧ (fdecl fT_26 8 = some (.aload_n 2, 1)) ∧ (fdecl fT_26 9 = some (.invokevirtual 254, 3)) ∧ (fdecl fT_26 12 = some (.iload 5, 2)) ∧ (fdecl fT_26 14 = some (.if_icmp .eq 5, 3)) ∧ (fdecl fT_26 17 = some (.iconst 0, 1)) ∧ (fdecl fT_26 18 = some (.ireturn, 1)) ∧ (fdecl fT_26 19 = some (.iload 5, 2)) ∧ (fdecl fT_26 21 = some (.ifCond .ne 16, 3)) ∧ (fdecl fT_26 24 = some (.aload_n 3, 1)) ∧ (fdecl fT_26 25 = some (.getfield 13, 3)) ∧ (fdecl fT_26 28 = some (.iload 6, 2)) ∧ (fdecl fT_26 30 = some (.i2l, 1)) ∧ (fdecl fT_26 31 = some (.lcmp, 1)) ∧ (fdecl fT_26 32 = some (.ifCond .eq 5, 3)) ∧ (fdecl fT_26 35 = some (.iconst 0, 1)) := by decide +kernel
theorem dL_law_1670 : decode cL_law 1670 = .ok (.istore 6, 2) := fx_ok (d := 1664) (i := 6) fD_26 eL_law_1670.1
theorem dL_law_1672 : decode cL_law 1672 = .ok (.aload_n 2, 1) := fx_ok (d := 1664) (i := 8) fD_26 eL_law_1670.2.1
theorem dL_law_1673 : decode cL_law 1673 = .ok (.invokevirtual 254, 3) := fx_ok (d := 1664) (i := 9) fD_26 eL_law_1670.2.2.1
theorem dL_law_1676 : decode cL_law 1676 = .ok (.iload 5, 2) := fx_ok (d := 1664) (i := 12) fD_26 eL_law_1670.2.2.2.1
theorem dL_law_1678 : decode cL_law 1678 = .ok (.if_icmp .eq 5, 3) := fx_ok (d := 1664) (i := 14) fD_26 eL_law_1670.2.2.2.2.1
theorem dL_law_1681 : decode cL_law 1681 = .ok (.iconst 0, 1) := fx_ok (d := 1664) (i := 17) fD_26 eL_law_1670.2.2.2.2.2.1
theorem dL_law_1682 : decode cL_law 1682 = .ok (.ireturn, 1) := fx_ok (d := 1664) (i := 18) fD_26 eL_law_1670.2.2.2.2.2.2.1
theorem dL_law_1683 : decode cL_law 1683 = .ok (.iload 5, 2) := fx_ok (d := 1664) (i := 19) fD_26 eL_law_1670.2.2.2.2.2.2.2.1
theorem dL_law_1685 : decode cL_law 1685 = .ok (.ifCond .ne 16, 3) := fx_ok (d := 1664) (i := 21) fD_26 eL_law_1670.2.2.2.2.2.2.2.2.1
theorem dL_law_1688 : decode cL_law 1688 = .ok (.aload_n 3, 1) := fx_ok (d := 1664) (i := 24) fD_26 eL_law_1670.2.2.2.2.2.2.2.2.2.1
theorem dL_law_1689 : decode cL_law 1689 = .ok (.getfield 13, 3) := fx_ok (d := 1664) (i := 25) fD_26 eL_law_1670.2.2.2.2.2.2.2.2.2.2.1
theorem dL_law_1692 : decode cL_law 1692 = .ok (.iload 6, 2) := fx_ok (d := 1664) (i := 28) fD_26 eL_law_1670.2.2.2.2.2.2.2.2.2.2.2.1
theorem dL_law_1694 : decode cL_law 1694 = .ok (.i2l, 1) := fx_ok (d := 1664) (i := 30) fD_26 eL_law_1670.2.2.2.2.2.2.2.2.2.2.2.2.1
theorem dL_law_1695 : decode cL_law 1695 = .ok (.lcmp, 1) := fx_ok (d := 1664) (i := 31) fD_26 eL_law_1670.2.2.2.2.2.2.2.2.2.2.2.2.2.1
theorem dL_law_1696 : decode cL_law 1696 = .ok (.ifCond .eq 5, 3) := fx_ok (d := 1664) (i := 32) fD_26 eL_law_1670.2.2.2.2.2.2.2.2.2.2.2.2.2.2.1
theorem dL_law_1699 : decode cL_law 1699 = .ok (.iconst 0, 1) := fx_ok (d := 1664) (i := 35) fD_26 eL_law_1670.2.2.2.2.2.2.2.2.2.2.2.2.2.2.2
theorem eL_law_1700 : (fdecl fT_26 36 = some (.ireturn, 1)) ∧ (fdecl fT_26 37 = some (.goto 619, 3)) ∧ (fdecl fT_26 40 = some (.aload_n 1, 1)) ∧ (fdecl fT_26 41 = some (.invokevirtual 257, 3)) ∧ (fdecl fT_26 44 = some (.pop, 1)) ∧ (fdecl fT_26 45 = some (.aload_n 2, 1)) ∧ (fdecl fT_26 46 = some (.invokevirtual 260, 3)) ∧ (fdecl fT_26 49 = some (.pop, 1)) ∧ (fdecl fT_26 50 = some (.goto 606, 3)) ∧ (fdecl fT_26 53 = some (.aload_n 1, 1)) ∧ (fdecl fT_26 54 = some (.aload_n 0, 1)) ∧ (fdecl fT_26 55 = some (.iload 4, 2)) ∧ (fdecl fT_26 57 = some (.iconst 1, 1)) ∧ (fdecl fT_26 58 = some (.iadd, 1)) ∧ (fdecl fT_26 59 = some (.iaload, 1)) ∧ (fdecl fT_26 60 = some (.aload_n 0, 1)) := by decide +kernel
theorem dL_law_1700 : decode cL_law 1700 = .ok (.ireturn, 1) := fx_ok (d := 1664) (i := 36) fD_26 eL_law_1700.1
theorem dL_law_1701 : decode cL_law 1701 = .ok (.goto 619, 3) := fx_ok (d := 1664) (i := 37) fD_26 eL_law_1700.2.1
theorem dL_law_1704 : decode cL_law 1704 = .ok (.aload_n 1, 1) := fx_ok (d := 1664) (i := 40) fD_26 eL_law_1700.2.2.1
theorem dL_law_1705 : decode cL_law 1705 = .ok (.invokevirtual 257, 3) := fx_ok (d := 1664) (i := 41) fD_26 eL_law_1700.2.2.2.1
theorem dL_law_1708 : decode cL_law 1708 = .ok (.pop, 1) := fx_ok (d := 1664) (i := 44) fD_26 eL_law_1700.2.2.2.2.1
theorem dL_law_1709 : decode cL_law 1709 = .ok (.aload_n 2, 1) := fx_ok (d := 1664) (i := 45) fD_26 eL_law_1700.2.2.2.2.2.1
theorem dL_law_1710 : decode cL_law 1710 = .ok (.invokevirtual 260, 3) := fx_ok (d := 1664) (i := 46) fD_26 eL_law_1700.2.2.2.2.2.2.1
theorem dL_law_1713 : decode cL_law 1713 = .ok (.pop, 1) := fx_ok (d := 1664) (i := 49) fD_26 eL_law_1700.2.2.2.2.2.2.2.1
theorem dL_law_1714 : decode cL_law 1714 = .ok (.goto 606, 3) := fx_ok (d := 1664) (i := 50) fD_26 eL_law_1700.2.2.2.2.2.2.2.2.1
theorem dL_law_1717 : decode cL_law 1717 = .ok (.aload_n 1, 1) := fx_ok (d := 1664) (i := 53) fD_26 eL_law_1700.2.2.2.2.2.2.2.2.2.1
theorem dL_law_1718 : decode cL_law 1718 = .ok (.aload_n 0, 1) := fx_ok (d := 1664) (i := 54) fD_26 eL_law_1700.2.2.2.2.2.2.2.2.2.2.1
theorem dL_law_1719 : decode cL_law 1719 = .ok (.iload 4, 2) := fx_ok (d := 1664) (i := 55) fD_26 eL_law_1700.2.2.2.2.2.2.2.2.2.2.2.1
theorem dL_law_1721 : decode cL_law 1721 = .ok (.iconst 1, 1) := fx_ok (d := 1664) (i := 57) fD_26 eL_law_1700.2.2.2.2.2.2.2.2.2.2.2.2.1
theorem dL_law_1722 : decode cL_law 1722 = .ok (.iadd, 1) := fx_ok (d := 1664) (i := 58) fD_26 eL_law_1700.2.2.2.2.2.2.2.2.2.2.2.2.2.1
theorem dL_law_1723 : decode cL_law 1723 = .ok (.iaload, 1) := fx_ok (d := 1664) (i := 59) fD_26 eL_law_1700.2.2.2.2.2.2.2.2.2.2.2.2.2.2.1
theorem dL_law_1724 : decode cL_law 1724 = .ok (.aload_n 0, 1) := fx_ok (d := 1664) (i := 60) fD_26 eL_law_1700.2.2.2.2.2.2.2.2.2.2.2.2.2.2.2
theorem eL_law_1725 : (fdecl fT_26 61 = some (.iload 4, 2)) ∧ (fdecl fT_26 63 = some (.iconst 2, 1)) ∧ (fdecl fT_27 0 = some (.iadd, 1)) ∧ (fdecl fT_27 1 = some (.iaload, 1)) ∧ (fdecl fT_27 2 = some (.aload_n 3, 1)) ∧ (fdecl fT_27 3 = some (.invokestatic 261, 3)) ∧ (fdecl fT_27 6 = some (.istore 5, 2)) ∧ (fdecl fT_27 8 = some (.aload_n 2, 1)) ∧ (fdecl fT_27 9 = some (.aload_n 0, 1)) ∧ (fdecl fT_27 10 = some (.iload 4, 2)) ∧ (fdecl fT_27 12 = some (.iconst 1, 1)) ∧ (fdecl fT_27 13 = some (.iadd, 1)) ∧ (fdecl fT_27 14 = some (.iaload, 1)) ∧ (fdecl fT_27 15 = some (.aload_n 0, 1)) ∧ (fdecl fT_27 16 = some (.iload 4, 2)) ∧ (fdecl fT_27 18 = some (.iconst 2, 1)) := by decide +kernel
theorem dL_law_1725 : decode cL_law 1725 = .ok (.iload 4, 2) := fx_ok (d := 1664) (i := 61) fD_26 eL_law_1725.1
theorem dL_law_1727 : decode cL_law 1727 = .ok (.iconst 2, 1) := fx_ok (d := 1664) (i := 63) fD_26 eL_law_1725.2.1
theorem dL_law_1728 : decode cL_law 1728 = .ok (.iadd, 1) := fx_ok (d := 1728) (i := 0) fD_27 eL_law_1725.2.2.1
theorem dL_law_1729 : decode cL_law 1729 = .ok (.iaload, 1) := fx_ok (d := 1728) (i := 1) fD_27 eL_law_1725.2.2.2.1
theorem dL_law_1730 : decode cL_law 1730 = .ok (.aload_n 3, 1) := fx_ok (d := 1728) (i := 2) fD_27 eL_law_1725.2.2.2.2.1
theorem dL_law_1731 : decode cL_law 1731 = .ok (.invokestatic 261, 3) := fx_ok (d := 1728) (i := 3) fD_27 eL_law_1725.2.2.2.2.2.1
theorem dL_law_1734 : decode cL_law 1734 = .ok (.istore 5, 2) := fx_ok (d := 1728) (i := 6) fD_27 eL_law_1725.2.2.2.2.2.2.1
theorem dL_law_1736 : decode cL_law 1736 = .ok (.aload_n 2, 1) := fx_ok (d := 1728) (i := 8) fD_27 eL_law_1725.2.2.2.2.2.2.2.1
theorem dL_law_1737 : decode cL_law 1737 = .ok (.aload_n 0, 1) := fx_ok (d := 1728) (i := 9) fD_27 eL_law_1725.2.2.2.2.2.2.2.2.1
theorem dL_law_1738 : decode cL_law 1738 = .ok (.iload 4, 2) := fx_ok (d := 1728) (i := 10) fD_27 eL_law_1725.2.2.2.2.2.2.2.2.2.1
theorem dL_law_1740 : decode cL_law 1740 = .ok (.iconst 1, 1) := fx_ok (d := 1728) (i := 12) fD_27 eL_law_1725.2.2.2.2.2.2.2.2.2.2.1
theorem dL_law_1741 : decode cL_law 1741 = .ok (.iadd, 1) := fx_ok (d := 1728) (i := 13) fD_27 eL_law_1725.2.2.2.2.2.2.2.2.2.2.2.1
theorem dL_law_1742 : decode cL_law 1742 = .ok (.iaload, 1) := fx_ok (d := 1728) (i := 14) fD_27 eL_law_1725.2.2.2.2.2.2.2.2.2.2.2.2.1
theorem dL_law_1743 : decode cL_law 1743 = .ok (.aload_n 0, 1) := fx_ok (d := 1728) (i := 15) fD_27 eL_law_1725.2.2.2.2.2.2.2.2.2.2.2.2.2.1
theorem dL_law_1744 : decode cL_law 1744 = .ok (.iload 4, 2) := fx_ok (d := 1728) (i := 16) fD_27 eL_law_1725.2.2.2.2.2.2.2.2.2.2.2.2.2.2.1
theorem dL_law_1746 : decode cL_law 1746 = .ok (.iconst 2, 1) := fx_ok (d := 1728) (i := 18) fD_27 eL_law_1725.2.2.2.2.2.2.2.2.2.2.2.2.2.2.2
theorem eL_law_1747 : (fdecl fT_27 19 = some (.iadd, 1)) ∧ (fdecl fT_27 20 = some (.iaload, 1)) ∧ (fdecl fT_27 21 = some (.invokevirtual 263, 3)) ∧ (fdecl fT_27 24 = some (.istore 6, 2)) ∧ (fdecl fT_27 26 = some (.goto 566, 3)) ∧ (fdecl fT_27 29 = some (.aload_n 1, 1)) ∧ (fdecl fT_27 30 = some (.aload_n 0, 1)) ∧ (fdecl fT_27 31 = some (.iload 4, 2)) ∧ (fdecl fT_27 33 = some (.iconst 1, 1)) ∧ (fdecl fT_27 34 = some (.iadd, 1)) ∧ (fdecl fT_27 35 = some (.iaload, 1)) ∧ (fdecl fT_27 36 = some (.aload_n 0, 1)) ∧ (fdecl fT_27 37 = some (.iload 4, 2)) ∧ (fdecl fT_27 39 = some (.iconst 2, 1)) ∧ (fdecl fT_27 40 = some (.iadd, 1)) ∧ (fdecl fT_27 41 = some (.iaload, 1)) := by decide +kernel
theorem dL_law_1747 : decode cL_law 1747 = .ok (.iadd, 1) := fx_ok (d := 1728) (i := 19) fD_27 eL_law_1747.1
theorem dL_law_1748 : decode cL_law 1748 = .ok (.iaload, 1) := fx_ok (d := 1728) (i := 20) fD_27 eL_law_1747.2.1
theorem dL_law_1749 : decode cL_law 1749 = .ok (.invokevirtual 263, 3) := fx_ok (d := 1728) (i := 21) fD_27 eL_law_1747.2.2.1
theorem dL_law_1752 : decode cL_law 1752 = .ok (.istore 6, 2) := fx_ok (d := 1728) (i := 24) fD_27 eL_law_1747.2.2.2.1
theorem dL_law_1754 : decode cL_law 1754 = .ok (.goto 566, 3) := fx_ok (d := 1728) (i := 26) fD_27 eL_law_1747.2.2.2.2.1
theorem dL_law_1757 : decode cL_law 1757 = .ok (.aload_n 1, 1) := fx_ok (d := 1728) (i := 29) fD_27 eL_law_1747.2.2.2.2.2.1
theorem dL_law_1758 : decode cL_law 1758 = .ok (.aload_n 0, 1) := fx_ok (d := 1728) (i := 30) fD_27 eL_law_1747.2.2.2.2.2.2.1
theorem dL_law_1759 : decode cL_law 1759 = .ok (.iload 4, 2) := fx_ok (d := 1728) (i := 31) fD_27 eL_law_1747.2.2.2.2.2.2.2.1
theorem dL_law_1761 : decode cL_law 1761 = .ok (.iconst 1, 1) := fx_ok (d := 1728) (i := 33) fD_27 eL_law_1747.2.2.2.2.2.2.2.2.1
theorem dL_law_1762 : decode cL_law 1762 = .ok (.iadd, 1) := fx_ok (d := 1728) (i := 34) fD_27 eL_law_1747.2.2.2.2.2.2.2.2.2.1
theorem dL_law_1763 : decode cL_law 1763 = .ok (.iaload, 1) := fx_ok (d := 1728) (i := 35) fD_27 eL_law_1747.2.2.2.2.2.2.2.2.2.2.1
theorem dL_law_1764 : decode cL_law 1764 = .ok (.aload_n 0, 1) := fx_ok (d := 1728) (i := 36) fD_27 eL_law_1747.2.2.2.2.2.2.2.2.2.2.2.1
theorem dL_law_1765 : decode cL_law 1765 = .ok (.iload 4, 2) := fx_ok (d := 1728) (i := 37) fD_27 eL_law_1747.2.2.2.2.2.2.2.2.2.2.2.2.1
theorem dL_law_1767 : decode cL_law 1767 = .ok (.iconst 2, 1) := fx_ok (d := 1728) (i := 39) fD_27 eL_law_1747.2.2.2.2.2.2.2.2.2.2.2.2.2.1
theorem dL_law_1768 : decode cL_law 1768 = .ok (.iadd, 1) := fx_ok (d := 1728) (i := 40) fD_27 eL_law_1747.2.2.2.2.2.2.2.2.2.2.2.2.2.2.1
theorem dL_law_1769 : decode cL_law 1769 = .ok (.iaload, 1) := fx_ok (d := 1728) (i := 41) fD_27 eL_law_1747.2.2.2.2.2.2.2.2.2.2.2.2.2.2.2
theorem eL_law_1770 : (fdecl fT_27 42 = some (.aload_n 0, 1)) ∧ (fdecl fT_27 43 = some (.iload 4, 2)) ∧ (fdecl fT_27 45 = some (.iconst 3, 1)) ∧ (fdecl fT_27 46 = some (.iadd, 1)) ∧ (fdecl fT_27 47 = some (.iaload, 1)) ∧ (fdecl fT_27 48 = some (.aload_n 3, 1)) ∧ (fdecl fT_27 49 = some (.invokestatic 264, 3)) ∧ (fdecl fT_27 52 = some (.istore 5, 2)) ∧ (fdecl fT_27 54 = some (.aload_n 2, 1)) ∧ (fdecl fT_27 55 = some (.aload_n 0, 1)) ∧ (fdecl fT_27 56 = some (.iload 4, 2)) ∧ (fdecl fT_27 58 = some (.iconst 1, 1)) ∧ (fdecl fT_27 59 = some (.iadd, 1)) ∧ (fdecl fT_27 60 = some (.iaload, 1)) ∧ (fdecl fT_27 61 = some (.aload_n 0, 1)) ∧ (fdecl fT_27 62 = some (.iload 4, 2)) := by decide +kernel
theorem dL_law_1770 : decode cL_law 1770 = .ok (.aload_n 0, 1) := fx_ok (d := 1728) (i := 42) fD_27 eL_law_1770.1
theorem dL_law_1771 : decode cL_law 1771 = .ok (.iload 4, 2) := fx_ok (d := 1728) (i := 43) fD_27 eL_law_1770.2.1
theorem dL_law_1773 : decode cL_law 1773 = .ok (.iconst 3, 1) := fx_ok (d := 1728) (i := 45) fD_27 eL_law_1770.2.2.1
theorem dL_law_1774 : decode cL_law 1774 = .ok (.iadd, 1) := fx_ok (d := 1728) (i := 46) fD_27 eL_law_1770.2.2.2.1
theorem dL_law_1775 : decode cL_law 1775 = .ok (.iaload, 1) := fx_ok (d := 1728) (i := 47) fD_27 eL_law_1770.2.2.2.2.1
theorem dL_law_1776 : decode cL_law 1776 = .ok (.aload_n 3, 1) := fx_ok (d := 1728) (i := 48) fD_27 eL_law_1770.2.2.2.2.2.1
theorem dL_law_1777 : decode cL_law 1777 = .ok (.invokestatic 264, 3) := fx_ok (d := 1728) (i := 49) fD_27 eL_law_1770.2.2.2.2.2.2.1
theorem dL_law_1780 : decode cL_law 1780 = .ok (.istore 5, 2) := fx_ok (d := 1728) (i := 52) fD_27 eL_law_1770.2.2.2.2.2.2.2.1
theorem dL_law_1782 : decode cL_law 1782 = .ok (.aload_n 2, 1) := fx_ok (d := 1728) (i := 54) fD_27 eL_law_1770.2.2.2.2.2.2.2.2.1
theorem dL_law_1783 : decode cL_law 1783 = .ok (.aload_n 0, 1) := fx_ok (d := 1728) (i := 55) fD_27 eL_law_1770.2.2.2.2.2.2.2.2.2.1
theorem dL_law_1784 : decode cL_law 1784 = .ok (.iload 4, 2) := fx_ok (d := 1728) (i := 56) fD_27 eL_law_1770.2.2.2.2.2.2.2.2.2.2.1
theorem dL_law_1786 : decode cL_law 1786 = .ok (.iconst 1, 1) := fx_ok (d := 1728) (i := 58) fD_27 eL_law_1770.2.2.2.2.2.2.2.2.2.2.2.1
theorem dL_law_1787 : decode cL_law 1787 = .ok (.iadd, 1) := fx_ok (d := 1728) (i := 59) fD_27 eL_law_1770.2.2.2.2.2.2.2.2.2.2.2.2.1
theorem dL_law_1788 : decode cL_law 1788 = .ok (.iaload, 1) := fx_ok (d := 1728) (i := 60) fD_27 eL_law_1770.2.2.2.2.2.2.2.2.2.2.2.2.2.1
theorem dL_law_1789 : decode cL_law 1789 = .ok (.aload_n 0, 1) := fx_ok (d := 1728) (i := 61) fD_27 eL_law_1770.2.2.2.2.2.2.2.2.2.2.2.2.2.2.1
theorem dL_law_1790 : decode cL_law 1790 = .ok (.iload 4, 2) := fx_ok (d := 1728) (i := 62) fD_27 eL_law_1770.2.2.2.2.2.2.2.2.2.2.2.2.2.2.2
theorem eL_law_1792 : (fdecl fT_28 0 = some (.iconst 2, 1)) ∧ (fdecl fT_28 1 = some (.iadd, 1)) ∧ (fdecl fT_28 2 = some (.iaload, 1)) ∧ (fdecl fT_28 3 = some (.aload_n 0, 1)) ∧ (fdecl fT_28 4 = some (.iload 4, 2)) ∧ (fdecl fT_28 6 = some (.iconst 3, 1)) ∧ (fdecl fT_28 7 = some (.iadd, 1)) ∧ (fdecl fT_28 8 = some (.iaload, 1)) ∧ (fdecl fT_28 9 = some (.invokevirtual 266, 3)) ∧ (fdecl fT_28 12 = some (.istore 6, 2)) ∧ (fdecl fT_28 14 = some (.goto 514, 3)) ∧ (fdecl fT_28 17 = some (.aload_n 1, 1)) ∧ (fdecl fT_28 18 = some (.aload_n 0, 1)) ∧ (fdecl fT_28 19 = some (.iload 4, 2)) ∧ (fdecl fT_28 21 = some (.iconst 1, 1)) ∧ (fdecl fT_28 22 = some (.iadd, 1)) := by decide +kernel
theorem dL_law_1792 : decode cL_law 1792 = .ok (.iconst 2, 1) := fx_ok (d := 1792) (i := 0) fD_28 eL_law_1792.1
theorem dL_law_1793 : decode cL_law 1793 = .ok (.iadd, 1) := fx_ok (d := 1792) (i := 1) fD_28 eL_law_1792.2.1
theorem dL_law_1794 : decode cL_law 1794 = .ok (.iaload, 1) := fx_ok (d := 1792) (i := 2) fD_28 eL_law_1792.2.2.1
theorem dL_law_1795 : decode cL_law 1795 = .ok (.aload_n 0, 1) := fx_ok (d := 1792) (i := 3) fD_28 eL_law_1792.2.2.2.1
theorem dL_law_1796 : decode cL_law 1796 = .ok (.iload 4, 2) := fx_ok (d := 1792) (i := 4) fD_28 eL_law_1792.2.2.2.2.1
theorem dL_law_1798 : decode cL_law 1798 = .ok (.iconst 3, 1) := fx_ok (d := 1792) (i := 6) fD_28 eL_law_1792.2.2.2.2.2.1
theorem dL_law_1799 : decode cL_law 1799 = .ok (.iadd, 1) := fx_ok (d := 1792) (i := 7) fD_28 eL_law_1792.2.2.2.2.2.2.1
theorem dL_law_1800 : decode cL_law 1800 = .ok (.iaload, 1) := fx_ok (d := 1792) (i := 8) fD_28 eL_law_1792.2.2.2.2.2.2.2.1
theorem dL_law_1801 : decode cL_law 1801 = .ok (.invokevirtual 266, 3) := fx_ok (d := 1792) (i := 9) fD_28 eL_law_1792.2.2.2.2.2.2.2.2.1
theorem dL_law_1804 : decode cL_law 1804 = .ok (.istore 6, 2) := fx_ok (d := 1792) (i := 12) fD_28 eL_law_1792.2.2.2.2.2.2.2.2.2.1
theorem dL_law_1806 : decode cL_law 1806 = .ok (.goto 514, 3) := fx_ok (d := 1792) (i := 14) fD_28 eL_law_1792.2.2.2.2.2.2.2.2.2.2.1
theorem dL_law_1809 : decode cL_law 1809 = .ok (.aload_n 1, 1) := fx_ok (d := 1792) (i := 17) fD_28 eL_law_1792.2.2.2.2.2.2.2.2.2.2.2.1
theorem dL_law_1810 : decode cL_law 1810 = .ok (.aload_n 0, 1) := fx_ok (d := 1792) (i := 18) fD_28 eL_law_1792.2.2.2.2.2.2.2.2.2.2.2.2.1
theorem dL_law_1811 : decode cL_law 1811 = .ok (.iload 4, 2) := fx_ok (d := 1792) (i := 19) fD_28 eL_law_1792.2.2.2.2.2.2.2.2.2.2.2.2.2.1
theorem dL_law_1813 : decode cL_law 1813 = .ok (.iconst 1, 1) := fx_ok (d := 1792) (i := 21) fD_28 eL_law_1792.2.2.2.2.2.2.2.2.2.2.2.2.2.2.1
theorem dL_law_1814 : decode cL_law 1814 = .ok (.iadd, 1) := fx_ok (d := 1792) (i := 22) fD_28 eL_law_1792.2.2.2.2.2.2.2.2.2.2.2.2.2.2.2
theorem eL_law_1815 : (fdecl fT_28 23 = some (.iaload, 1)) ∧ (fdecl fT_28 24 = some (.aload_n 0, 1)) ∧ (fdecl fT_28 25 = some (.iload 4, 2)) ∧ (fdecl fT_28 27 = some (.iconst 2, 1)) ∧ (fdecl fT_28 28 = some (.iadd, 1)) ∧ (fdecl fT_28 29 = some (.iaload, 1)) ∧ (fdecl fT_28 30 = some (.aload_n 3, 1)) ∧ (fdecl fT_28 31 = some (.invokestatic 267, 3)) ∧ (fdecl fT_28 34 = some (.istore 5, 2)) ∧ (fdecl fT_28 36 = some (.aload_n 2, 1)) ∧ (fdecl fT_28 37 = some (.aload_n 0, 1)) ∧ (fdecl fT_28 38 = some (.iload 4, 2)) ∧ (fdecl fT_28 40 = some (.iconst 1, 1)) ∧ (fdecl fT_28 41 = some (.iadd, 1)) ∧ (fdecl fT_28 42 = some (.iaload, 1)) ∧ (fdecl fT_28 43 = some (.aload_n 0, 1)) := by decide +kernel
theorem dL_law_1815 : decode cL_law 1815 = .ok (.iaload, 1) := fx_ok (d := 1792) (i := 23) fD_28 eL_law_1815.1
theorem dL_law_1816 : decode cL_law 1816 = .ok (.aload_n 0, 1) := fx_ok (d := 1792) (i := 24) fD_28 eL_law_1815.2.1
theorem dL_law_1817 : decode cL_law 1817 = .ok (.iload 4, 2) := fx_ok (d := 1792) (i := 25) fD_28 eL_law_1815.2.2.1
theorem dL_law_1819 : decode cL_law 1819 = .ok (.iconst 2, 1) := fx_ok (d := 1792) (i := 27) fD_28 eL_law_1815.2.2.2.1
theorem dL_law_1820 : decode cL_law 1820 = .ok (.iadd, 1) := fx_ok (d := 1792) (i := 28) fD_28 eL_law_1815.2.2.2.2.1
theorem dL_law_1821 : decode cL_law 1821 = .ok (.iaload, 1) := fx_ok (d := 1792) (i := 29) fD_28 eL_law_1815.2.2.2.2.2.1
theorem dL_law_1822 : decode cL_law 1822 = .ok (.aload_n 3, 1) := fx_ok (d := 1792) (i := 30) fD_28 eL_law_1815.2.2.2.2.2.2.1
theorem dL_law_1823 : decode cL_law 1823 = .ok (.invokestatic 267, 3) := fx_ok (d := 1792) (i := 31) fD_28 eL_law_1815.2.2.2.2.2.2.2.1
theorem dL_law_1826 : decode cL_law 1826 = .ok (.istore 5, 2) := fx_ok (d := 1792) (i := 34) fD_28 eL_law_1815.2.2.2.2.2.2.2.2.1
theorem dL_law_1828 : decode cL_law 1828 = .ok (.aload_n 2, 1) := fx_ok (d := 1792) (i := 36) fD_28 eL_law_1815.2.2.2.2.2.2.2.2.2.1
theorem dL_law_1829 : decode cL_law 1829 = .ok (.aload_n 0, 1) := fx_ok (d := 1792) (i := 37) fD_28 eL_law_1815.2.2.2.2.2.2.2.2.2.2.1
theorem dL_law_1830 : decode cL_law 1830 = .ok (.iload 4, 2) := fx_ok (d := 1792) (i := 38) fD_28 eL_law_1815.2.2.2.2.2.2.2.2.2.2.2.1
theorem dL_law_1832 : decode cL_law 1832 = .ok (.iconst 1, 1) := fx_ok (d := 1792) (i := 40) fD_28 eL_law_1815.2.2.2.2.2.2.2.2.2.2.2.2.1
theorem dL_law_1833 : decode cL_law 1833 = .ok (.iadd, 1) := fx_ok (d := 1792) (i := 41) fD_28 eL_law_1815.2.2.2.2.2.2.2.2.2.2.2.2.2.1
theorem dL_law_1834 : decode cL_law 1834 = .ok (.iaload, 1) := fx_ok (d := 1792) (i := 42) fD_28 eL_law_1815.2.2.2.2.2.2.2.2.2.2.2.2.2.2.1
theorem dL_law_1835 : decode cL_law 1835 = .ok (.aload_n 0, 1) := fx_ok (d := 1792) (i := 43) fD_28 eL_law_1815.2.2.2.2.2.2.2.2.2.2.2.2.2.2.2
theorem eL_law_1836 : (fdecl fT_28 44 = some (.iload 4, 2)) ∧ (fdecl fT_28 46 = some (.iconst 2, 1)) ∧ (fdecl fT_28 47 = some (.iadd, 1)) ∧ (fdecl fT_28 48 = some (.iaload, 1)) ∧ (fdecl fT_28 49 = some (.invokevirtual 269, 3)) ∧ (fdecl fT_28 52 = some (.istore 6, 2)) ∧ (fdecl fT_28 54 = some (.goto 474, 3)) ∧ (fdecl fT_28 57 = some (.aload_n 1, 1)) ∧ (fdecl fT_28 58 = some (.aload_n 0, 1)) ∧ (fdecl fT_28 59 = some (.iload 4, 2)) ∧ (fdecl fT_28 61 = some (.iconst 1, 1)) ∧ (fdecl fT_28 62 = some (.iadd, 1)) ∧ (fdecl fT_28 63 = some (.iaload, 1)) ∧ (fdecl fT_29 0 = some (.aload_n 0, 1)) ∧ (fdecl fT_29 1 = some (.iload 4, 2)) ∧ (fdecl fT_29 3 = some (.iconst 2, 1)) := by decide +kernel
theorem dL_law_1836 : decode cL_law 1836 = .ok (.iload 4, 2) := fx_ok (d := 1792) (i := 44) fD_28 eL_law_1836.1
theorem dL_law_1838 : decode cL_law 1838 = .ok (.iconst 2, 1) := fx_ok (d := 1792) (i := 46) fD_28 eL_law_1836.2.1
theorem dL_law_1839 : decode cL_law 1839 = .ok (.iadd, 1) := fx_ok (d := 1792) (i := 47) fD_28 eL_law_1836.2.2.1
theorem dL_law_1840 : decode cL_law 1840 = .ok (.iaload, 1) := fx_ok (d := 1792) (i := 48) fD_28 eL_law_1836.2.2.2.1
theorem dL_law_1841 : decode cL_law 1841 = .ok (.invokevirtual 269, 3) := fx_ok (d := 1792) (i := 49) fD_28 eL_law_1836.2.2.2.2.1
theorem dL_law_1844 : decode cL_law 1844 = .ok (.istore 6, 2) := fx_ok (d := 1792) (i := 52) fD_28 eL_law_1836.2.2.2.2.2.1
theorem dL_law_1846 : decode cL_law 1846 = .ok (.goto 474, 3) := fx_ok (d := 1792) (i := 54) fD_28 eL_law_1836.2.2.2.2.2.2.1
theorem dL_law_1849 : decode cL_law 1849 = .ok (.aload_n 1, 1) := fx_ok (d := 1792) (i := 57) fD_28 eL_law_1836.2.2.2.2.2.2.2.1
theorem dL_law_1850 : decode cL_law 1850 = .ok (.aload_n 0, 1) := fx_ok (d := 1792) (i := 58) fD_28 eL_law_1836.2.2.2.2.2.2.2.2.1
theorem dL_law_1851 : decode cL_law 1851 = .ok (.iload 4, 2) := fx_ok (d := 1792) (i := 59) fD_28 eL_law_1836.2.2.2.2.2.2.2.2.2.1
theorem dL_law_1853 : decode cL_law 1853 = .ok (.iconst 1, 1) := fx_ok (d := 1792) (i := 61) fD_28 eL_law_1836.2.2.2.2.2.2.2.2.2.2.1
theorem dL_law_1854 : decode cL_law 1854 = .ok (.iadd, 1) := fx_ok (d := 1792) (i := 62) fD_28 eL_law_1836.2.2.2.2.2.2.2.2.2.2.2.1
theorem dL_law_1855 : decode cL_law 1855 = .ok (.iaload, 1) := fx_ok (d := 1792) (i := 63) fD_28 eL_law_1836.2.2.2.2.2.2.2.2.2.2.2.2.1
theorem dL_law_1856 : decode cL_law 1856 = .ok (.aload_n 0, 1) := fx_ok (d := 1856) (i := 0) fD_29 eL_law_1836.2.2.2.2.2.2.2.2.2.2.2.2.2.1
theorem dL_law_1857 : decode cL_law 1857 = .ok (.iload 4, 2) := fx_ok (d := 1856) (i := 1) fD_29 eL_law_1836.2.2.2.2.2.2.2.2.2.2.2.2.2.2.1
theorem dL_law_1859 : decode cL_law 1859 = .ok (.iconst 2, 1) := fx_ok (d := 1856) (i := 3) fD_29 eL_law_1836.2.2.2.2.2.2.2.2.2.2.2.2.2.2.2
theorem eL_law_1860 : (fdecl fT_29 4 = some (.iadd, 1)) ∧ (fdecl fT_29 5 = some (.iaload, 1)) ∧ (fdecl fT_29 6 = some (.aload_n 0, 1)) ∧ (fdecl fT_29 7 = some (.iload 4, 2)) ∧ (fdecl fT_29 9 = some (.iconst 3, 1)) ∧ (fdecl fT_29 10 = some (.iadd, 1)) ∧ (fdecl fT_29 11 = some (.iaload, 1)) ∧ (fdecl fT_29 12 = some (.aload_n 0, 1)) ∧ (fdecl fT_29 13 = some (.iload 4, 2)) ∧ (fdecl fT_29 15 = some (.iconst 4, 1)) ∧ (fdecl fT_29 16 = some (.iadd, 1)) ∧ (fdecl fT_29 17 = some (.iaload, 1)) ∧ (fdecl fT_29 18 = some (.aload_n 0, 1)) ∧ (fdecl fT_29 19 = some (.iload 4, 2)) ∧ (fdecl fT_29 21 = some (.iconst 5, 1)) ∧ (fdecl fT_29 22 = some (.iadd, 1)) := by decide +kernel
theorem dL_law_1860 : decode cL_law 1860 = .ok (.iadd, 1) := fx_ok (d := 1856) (i := 4) fD_29 eL_law_1860.1
theorem dL_law_1861 : decode cL_law 1861 = .ok (.iaload, 1) := fx_ok (d := 1856) (i := 5) fD_29 eL_law_1860.2.1
theorem dL_law_1862 : decode cL_law 1862 = .ok (.aload_n 0, 1) := fx_ok (d := 1856) (i := 6) fD_29 eL_law_1860.2.2.1
theorem dL_law_1863 : decode cL_law 1863 = .ok (.iload 4, 2) := fx_ok (d := 1856) (i := 7) fD_29 eL_law_1860.2.2.2.1
theorem dL_law_1865 : decode cL_law 1865 = .ok (.iconst 3, 1) := fx_ok (d := 1856) (i := 9) fD_29 eL_law_1860.2.2.2.2.1
theorem dL_law_1866 : decode cL_law 1866 = .ok (.iadd, 1) := fx_ok (d := 1856) (i := 10) fD_29 eL_law_1860.2.2.2.2.2.1
theorem dL_law_1867 : decode cL_law 1867 = .ok (.iaload, 1) := fx_ok (d := 1856) (i := 11) fD_29 eL_law_1860.2.2.2.2.2.2.1
theorem dL_law_1868 : decode cL_law 1868 = .ok (.aload_n 0, 1) := fx_ok (d := 1856) (i := 12) fD_29 eL_law_1860.2.2.2.2.2.2.2.1
theorem dL_law_1869 : decode cL_law 1869 = .ok (.iload 4, 2) := fx_ok (d := 1856) (i := 13) fD_29 eL_law_1860.2.2.2.2.2.2.2.2.1
theorem dL_law_1871 : decode cL_law 1871 = .ok (.iconst 4, 1) := fx_ok (d := 1856) (i := 15) fD_29 eL_law_1860.2.2.2.2.2.2.2.2.2.1
theorem dL_law_1872 : decode cL_law 1872 = .ok (.iadd, 1) := fx_ok (d := 1856) (i := 16) fD_29 eL_law_1860.2.2.2.2.2.2.2.2.2.2.1
theorem dL_law_1873 : decode cL_law 1873 = .ok (.iaload, 1) := fx_ok (d := 1856) (i := 17) fD_29 eL_law_1860.2.2.2.2.2.2.2.2.2.2.2.1
theorem dL_law_1874 : decode cL_law 1874 = .ok (.aload_n 0, 1) := fx_ok (d := 1856) (i := 18) fD_29 eL_law_1860.2.2.2.2.2.2.2.2.2.2.2.2.1
theorem dL_law_1875 : decode cL_law 1875 = .ok (.iload 4, 2) := fx_ok (d := 1856) (i := 19) fD_29 eL_law_1860.2.2.2.2.2.2.2.2.2.2.2.2.2.1
theorem dL_law_1877 : decode cL_law 1877 = .ok (.iconst 5, 1) := fx_ok (d := 1856) (i := 21) fD_29 eL_law_1860.2.2.2.2.2.2.2.2.2.2.2.2.2.2.1
theorem dL_law_1878 : decode cL_law 1878 = .ok (.iadd, 1) := fx_ok (d := 1856) (i := 22) fD_29 eL_law_1860.2.2.2.2.2.2.2.2.2.2.2.2.2.2.2
theorem eL_law_1879 : (fdecl fT_29 23 = some (.iaload, 1)) ∧ (fdecl fT_29 24 = some (.ifCond .eq 7, 3)) ∧ (fdecl fT_29 27 = some (.iconst 1, 1)) ∧ (fdecl fT_29 28 = some (.goto 4, 3)) ∧ (fdecl fT_29 31 = some (.iconst 0, 1)) ∧ (fdecl fT_29 32 = some (.aload_n 3, 1)) ∧ (fdecl fT_29 33 = some (.invokestatic 270, 3)) ∧ (fdecl fT_29 36 = some (.istore 5, 2)) ∧ (fdecl fT_29 38 = some (.aload_n 2, 1)) ∧ (fdecl fT_29 39 = some (.aload_n 0, 1)) ∧ (fdecl fT_29 40 = some (.iload 4, 2)) ∧ (fdecl fT_29 42 = some (.iconst 1, 1)) ∧ (fdecl fT_29 43 = some (.iadd, 1)) ∧ (fdecl fT_29 44 = some (.iaload, 1)) ∧ (fdecl fT_29 45 = some (.aload_n 0, 1)) ∧ (fdecl fT_29 46 = some (.iload 4, 2)) := by decide +kernel
theorem dL_law_1879 : decode cL_law 1879 = .ok (.iaload, 1) := fx_ok (d := 1856) (i := 23) fD_29 eL_law_1879.1
theorem dL_law_1880 : decode cL_law 1880 = .ok (.ifCond .eq 7, 3) := fx_ok (d := 1856) (i := 24) fD_29 eL_law_1879.2.1
theorem dL_law_1883 : decode cL_law 1883 = .ok (.iconst 1, 1) := fx_ok (d := 1856) (i := 27) fD_29 eL_law_1879.2.2.1
theorem dL_law_1884 : decode cL_law 1884 = .ok (.goto 4, 3) := fx_ok (d := 1856) (i := 28) fD_29 eL_law_1879.2.2.2.1
theorem dL_law_1887 : decode cL_law 1887 = .ok (.iconst 0, 1) := fx_ok (d := 1856) (i := 31) fD_29 eL_law_1879.2.2.2.2.1
theorem dL_law_1888 : decode cL_law 1888 = .ok (.aload_n 3, 1) := fx_ok (d := 1856) (i := 32) fD_29 eL_law_1879.2.2.2.2.2.1
theorem dL_law_1889 : decode cL_law 1889 = .ok (.invokestatic 270, 3) := fx_ok (d := 1856) (i := 33) fD_29 eL_law_1879.2.2.2.2.2.2.1
theorem dL_law_1892 : decode cL_law 1892 = .ok (.istore 5, 2) := fx_ok (d := 1856) (i := 36) fD_29 eL_law_1879.2.2.2.2.2.2.2.1
theorem dL_law_1894 : decode cL_law 1894 = .ok (.aload_n 2, 1) := fx_ok (d := 1856) (i := 38) fD_29 eL_law_1879.2.2.2.2.2.2.2.2.1
theorem dL_law_1895 : decode cL_law 1895 = .ok (.aload_n 0, 1) := fx_ok (d := 1856) (i := 39) fD_29 eL_law_1879.2.2.2.2.2.2.2.2.2.1
theorem dL_law_1896 : decode cL_law 1896 = .ok (.iload 4, 2) := fx_ok (d := 1856) (i := 40) fD_29 eL_law_1879.2.2.2.2.2.2.2.2.2.2.1
theorem dL_law_1898 : decode cL_law 1898 = .ok (.iconst 1, 1) := fx_ok (d := 1856) (i := 42) fD_29 eL_law_1879.2.2.2.2.2.2.2.2.2.2.2.1
theorem dL_law_1899 : decode cL_law 1899 = .ok (.iadd, 1) := fx_ok (d := 1856) (i := 43) fD_29 eL_law_1879.2.2.2.2.2.2.2.2.2.2.2.2.1
theorem dL_law_1900 : decode cL_law 1900 = .ok (.iaload, 1) := fx_ok (d := 1856) (i := 44) fD_29 eL_law_1879.2.2.2.2.2.2.2.2.2.2.2.2.2.1
theorem dL_law_1901 : decode cL_law 1901 = .ok (.aload_n 0, 1) := fx_ok (d := 1856) (i := 45) fD_29 eL_law_1879.2.2.2.2.2.2.2.2.2.2.2.2.2.2.1
theorem dL_law_1902 : decode cL_law 1902 = .ok (.iload 4, 2) := fx_ok (d := 1856) (i := 46) fD_29 eL_law_1879.2.2.2.2.2.2.2.2.2.2.2.2.2.2.2
theorem eL_law_1904 : (fdecl fT_29 48 = some (.iconst 2, 1)) ∧ (fdecl fT_29 49 = some (.iadd, 1)) ∧ (fdecl fT_29 50 = some (.iaload, 1)) ∧ (fdecl fT_29 51 = some (.aload_n 0, 1)) ∧ (fdecl fT_29 52 = some (.iload 4, 2)) ∧ (fdecl fT_29 54 = some (.iconst 3, 1)) ∧ (fdecl fT_29 55 = some (.iadd, 1)) ∧ (fdecl fT_29 56 = some (.iaload, 1)) ∧ (fdecl fT_29 57 = some (.aload_n 0, 1)) ∧ (fdecl fT_29 58 = some (.iload 4, 2)) ∧ (fdecl fT_29 60 = some (.iconst 4, 1)) ∧ (fdecl fT_29 61 = some (.iadd, 1)) ∧ (fdecl fT_29 62 = some (.iaload, 1)) ∧ (fdecl fT_29 63 = some (.aload_n 0, 1)) ∧ (fdecl fT_30 0 = some (.iload 4, 2)) ∧ (fdecl fT_30 2 = some (.iconst 5, 1)) := by decide +kernel
theorem dL_law_1904 : decode cL_law 1904 = .ok (.iconst 2, 1) := fx_ok (d := 1856) (i := 48) fD_29 eL_law_1904.1
theorem dL_law_1905 : decode cL_law 1905 = .ok (.iadd, 1) := fx_ok (d := 1856) (i := 49) fD_29 eL_law_1904.2.1
theorem dL_law_1906 : decode cL_law 1906 = .ok (.iaload, 1) := fx_ok (d := 1856) (i := 50) fD_29 eL_law_1904.2.2.1
theorem dL_law_1907 : decode cL_law 1907 = .ok (.aload_n 0, 1) := fx_ok (d := 1856) (i := 51) fD_29 eL_law_1904.2.2.2.1
theorem dL_law_1908 : decode cL_law 1908 = .ok (.iload 4, 2) := fx_ok (d := 1856) (i := 52) fD_29 eL_law_1904.2.2.2.2.1
theorem dL_law_1910 : decode cL_law 1910 = .ok (.iconst 3, 1) := fx_ok (d := 1856) (i := 54) fD_29 eL_law_1904.2.2.2.2.2.1
theorem dL_law_1911 : decode cL_law 1911 = .ok (.iadd, 1) := fx_ok (d := 1856) (i := 55) fD_29 eL_law_1904.2.2.2.2.2.2.1
theorem dL_law_1912 : decode cL_law 1912 = .ok (.iaload, 1) := fx_ok (d := 1856) (i := 56) fD_29 eL_law_1904.2.2.2.2.2.2.2.1
theorem dL_law_1913 : decode cL_law 1913 = .ok (.aload_n 0, 1) := fx_ok (d := 1856) (i := 57) fD_29 eL_law_1904.2.2.2.2.2.2.2.2.1
theorem dL_law_1914 : decode cL_law 1914 = .ok (.iload 4, 2) := fx_ok (d := 1856) (i := 58) fD_29 eL_law_1904.2.2.2.2.2.2.2.2.2.1
theorem dL_law_1916 : decode cL_law 1916 = .ok (.iconst 4, 1) := fx_ok (d := 1856) (i := 60) fD_29 eL_law_1904.2.2.2.2.2.2.2.2.2.2.1
theorem dL_law_1917 : decode cL_law 1917 = .ok (.iadd, 1) := fx_ok (d := 1856) (i := 61) fD_29 eL_law_1904.2.2.2.2.2.2.2.2.2.2.2.1
theorem dL_law_1918 : decode cL_law 1918 = .ok (.iaload, 1) := fx_ok (d := 1856) (i := 62) fD_29 eL_law_1904.2.2.2.2.2.2.2.2.2.2.2.2.1
theorem dL_law_1919 : decode cL_law 1919 = .ok (.aload_n 0, 1) := fx_ok (d := 1856) (i := 63) fD_29 eL_law_1904.2.2.2.2.2.2.2.2.2.2.2.2.2.1
theorem dL_law_1920 : decode cL_law 1920 = .ok (.iload 4, 2) := fx_ok (d := 1920) (i := 0) fD_30 eL_law_1904.2.2.2.2.2.2.2.2.2.2.2.2.2.2.1
theorem dL_law_1922 : decode cL_law 1922 = .ok (.iconst 5, 1) := fx_ok (d := 1920) (i := 2) fD_30 eL_law_1904.2.2.2.2.2.2.2.2.2.2.2.2.2.2.2
theorem eL_law_1923 : (fdecl fT_30 3 = some (.iadd, 1)) ∧ (fdecl fT_30 4 = some (.iaload, 1)) ∧ (fdecl fT_30 5 = some (.ifCond .eq 7, 3)) ∧ (fdecl fT_30 8 = some (.iconst 1, 1)) ∧ (fdecl fT_30 9 = some (.goto 4, 3)) ∧ (fdecl fT_30 12 = some (.iconst 0, 1)) ∧ (fdecl fT_30 13 = some (.invokevirtual 273, 3)) ∧ (fdecl fT_30 16 = some (.istore 6, 2)) ∧ (fdecl fT_30 18 = some (.goto 382, 3)) ∧ (fdecl fT_30 21 = some (.aload_n 1, 1)) ∧ (fdecl fT_30 22 = some (.aload_n 0, 1)) ∧ (fdecl fT_30 23 = some (.iload 4, 2)) ∧ (fdecl fT_30 25 = some (.iconst 1, 1)) ∧ (fdecl fT_30 26 = some (.iadd, 1)) ∧ (fdecl fT_30 27 = some (.iaload, 1)) ∧ (fdecl fT_30 28 = some (.aload_n 0, 1)) := by decide +kernel
theorem dL_law_1923 : decode cL_law 1923 = .ok (.iadd, 1) := fx_ok (d := 1920) (i := 3) fD_30 eL_law_1923.1
theorem dL_law_1924 : decode cL_law 1924 = .ok (.iaload, 1) := fx_ok (d := 1920) (i := 4) fD_30 eL_law_1923.2.1
theorem dL_law_1925 : decode cL_law 1925 = .ok (.ifCond .eq 7, 3) := fx_ok (d := 1920) (i := 5) fD_30 eL_law_1923.2.2.1
theorem dL_law_1928 : decode cL_law 1928 = .ok (.iconst 1, 1) := fx_ok (d := 1920) (i := 8) fD_30 eL_law_1923.2.2.2.1
theorem dL_law_1929 : decode cL_law 1929 = .ok (.goto 4, 3) := fx_ok (d := 1920) (i := 9) fD_30 eL_law_1923.2.2.2.2.1
theorem dL_law_1932 : decode cL_law 1932 = .ok (.iconst 0, 1) := fx_ok (d := 1920) (i := 12) fD_30 eL_law_1923.2.2.2.2.2.1
theorem dL_law_1933 : decode cL_law 1933 = .ok (.invokevirtual 273, 3) := fx_ok (d := 1920) (i := 13) fD_30 eL_law_1923.2.2.2.2.2.2.1
theorem dL_law_1936 : decode cL_law 1936 = .ok (.istore 6, 2) := fx_ok (d := 1920) (i := 16) fD_30 eL_law_1923.2.2.2.2.2.2.2.1
theorem dL_law_1938 : decode cL_law 1938 = .ok (.goto 382, 3) := fx_ok (d := 1920) (i := 18) fD_30 eL_law_1923.2.2.2.2.2.2.2.2.1
theorem dL_law_1941 : decode cL_law 1941 = .ok (.aload_n 1, 1) := fx_ok (d := 1920) (i := 21) fD_30 eL_law_1923.2.2.2.2.2.2.2.2.2.1
theorem dL_law_1942 : decode cL_law 1942 = .ok (.aload_n 0, 1) := fx_ok (d := 1920) (i := 22) fD_30 eL_law_1923.2.2.2.2.2.2.2.2.2.2.1
theorem dL_law_1943 : decode cL_law 1943 = .ok (.iload 4, 2) := fx_ok (d := 1920) (i := 23) fD_30 eL_law_1923.2.2.2.2.2.2.2.2.2.2.2.1
theorem dL_law_1945 : decode cL_law 1945 = .ok (.iconst 1, 1) := fx_ok (d := 1920) (i := 25) fD_30 eL_law_1923.2.2.2.2.2.2.2.2.2.2.2.2.1
theorem dL_law_1946 : decode cL_law 1946 = .ok (.iadd, 1) := fx_ok (d := 1920) (i := 26) fD_30 eL_law_1923.2.2.2.2.2.2.2.2.2.2.2.2.2.1
theorem dL_law_1947 : decode cL_law 1947 = .ok (.iaload, 1) := fx_ok (d := 1920) (i := 27) fD_30 eL_law_1923.2.2.2.2.2.2.2.2.2.2.2.2.2.2.1
theorem dL_law_1948 : decode cL_law 1948 = .ok (.aload_n 0, 1) := fx_ok (d := 1920) (i := 28) fD_30 eL_law_1923.2.2.2.2.2.2.2.2.2.2.2.2.2.2.2
theorem eL_law_1949 : (fdecl fT_30 29 = some (.iload 4, 2)) ∧ (fdecl fT_30 31 = some (.iconst 2, 1)) ∧ (fdecl fT_30 32 = some (.iadd, 1)) ∧ (fdecl fT_30 33 = some (.iaload, 1)) ∧ (fdecl fT_30 34 = some (.aload_n 0, 1)) ∧ (fdecl fT_30 35 = some (.iload 4, 2)) ∧ (fdecl fT_30 37 = some (.iconst 3, 1)) ∧ (fdecl fT_30 38 = some (.iadd, 1)) ∧ (fdecl fT_30 39 = some (.iaload, 1)) ∧ (fdecl fT_30 40 = some (.aload_n 3, 1)) ∧ (fdecl fT_30 41 = some (.invokestatic 274, 3)) ∧ (fdecl fT_30 44 = some (.istore 5, 2)) ∧ (fdecl fT_30 46 = some (.aload_n 2, 1)) ∧ (fdecl fT_30 47 = some (.aload_n 0, 1)) ∧ (fdecl fT_30 48 = some (.iload 4, 2)) ∧ (fdecl fT_30 50 = some (.iconst 1, 1)) := by decide +kernel
theorem dL_law_1949 : decode cL_law 1949 = .ok (.iload 4, 2) := fx_ok (d := 1920) (i := 29) fD_30 eL_law_1949.1
theorem dL_law_1951 : decode cL_law 1951 = .ok (.iconst 2, 1) := fx_ok (d := 1920) (i := 31) fD_30 eL_law_1949.2.1
theorem dL_law_1952 : decode cL_law 1952 = .ok (.iadd, 1) := fx_ok (d := 1920) (i := 32) fD_30 eL_law_1949.2.2.1
theorem dL_law_1953 : decode cL_law 1953 = .ok (.iaload, 1) := fx_ok (d := 1920) (i := 33) fD_30 eL_law_1949.2.2.2.1
theorem dL_law_1954 : decode cL_law 1954 = .ok (.aload_n 0, 1) := fx_ok (d := 1920) (i := 34) fD_30 eL_law_1949.2.2.2.2.1
theorem dL_law_1955 : decode cL_law 1955 = .ok (.iload 4, 2) := fx_ok (d := 1920) (i := 35) fD_30 eL_law_1949.2.2.2.2.2.1
theorem dL_law_1957 : decode cL_law 1957 = .ok (.iconst 3, 1) := fx_ok (d := 1920) (i := 37) fD_30 eL_law_1949.2.2.2.2.2.2.1
theorem dL_law_1958 : decode cL_law 1958 = .ok (.iadd, 1) := fx_ok (d := 1920) (i := 38) fD_30 eL_law_1949.2.2.2.2.2.2.2.1
theorem dL_law_1959 : decode cL_law 1959 = .ok (.iaload, 1) := fx_ok (d := 1920) (i := 39) fD_30 eL_law_1949.2.2.2.2.2.2.2.2.1
theorem dL_law_1960 : decode cL_law 1960 = .ok (.aload_n 3, 1) := fx_ok (d := 1920) (i := 40) fD_30 eL_law_1949.2.2.2.2.2.2.2.2.2.1
theorem dL_law_1961 : decode cL_law 1961 = .ok (.invokestatic 274, 3) := fx_ok (d := 1920) (i := 41) fD_30 eL_law_1949.2.2.2.2.2.2.2.2.2.2.1
theorem dL_law_1964 : decode cL_law 1964 = .ok (.istore 5, 2) := fx_ok (d := 1920) (i := 44) fD_30 eL_law_1949.2.2.2.2.2.2.2.2.2.2.2.1
theorem dL_law_1966 : decode cL_law 1966 = .ok (.aload_n 2, 1) := fx_ok (d := 1920) (i := 46) fD_30 eL_law_1949.2.2.2.2.2.2.2.2.2.2.2.2.1
theorem dL_law_1967 : decode cL_law 1967 = .ok (.aload_n 0, 1) := fx_ok (d := 1920) (i := 47) fD_30 eL_law_1949.2.2.2.2.2.2.2.2.2.2.2.2.2.1
theorem dL_law_1968 : decode cL_law 1968 = .ok (.iload 4, 2) := fx_ok (d := 1920) (i := 48) fD_30 eL_law_1949.2.2.2.2.2.2.2.2.2.2.2.2.2.2.1
theorem dL_law_1970 : decode cL_law 1970 = .ok (.iconst 1, 1) := fx_ok (d := 1920) (i := 50) fD_30 eL_law_1949.2.2.2.2.2.2.2.2.2.2.2.2.2.2.2
theorem eL_law_1971 : (fdecl fT_30 51 = some (.iadd, 1)) ∧ (fdecl fT_30 52 = some (.iaload, 1)) ∧ (fdecl fT_30 53 = some (.aload_n 0, 1)) ∧ (fdecl fT_30 54 = some (.iload 4, 2)) ∧ (fdecl fT_30 56 = some (.iconst 2, 1)) ∧ (fdecl fT_30 57 = some (.iadd, 1)) ∧ (fdecl fT_30 58 = some (.iaload, 1)) ∧ (fdecl fT_30 59 = some (.aload_n 0, 1)) ∧ (fdecl fT_30 60 = some (.iload 4, 2)) ∧ (fdecl fT_30 62 = some (.iconst 3, 1)) ∧ (fdecl fT_30 63 = some (.iadd, 1)) ∧ (fdecl fT_31 0 = some (.iaload, 1)) ∧ (fdecl fT_31 1 = some (.invokevirtual 276, 3)) ∧ (fdecl fT_31 4 = some (.istore 6, 2)) ∧ (fdecl fT_31 6 = some (.goto 330, 3)) ∧ (fdecl fT_31 9 = some (.aload_n 1, 1)) := by decide +kernel
theorem dL_law_1971 : decode cL_law 1971 = .ok (.iadd, 1) := fx_ok (d := 1920) (i := 51) fD_30 eL_law_1971.1
theorem dL_law_1972 : decode cL_law 1972 = .ok (.iaload, 1) := fx_ok (d := 1920) (i := 52) fD_30 eL_law_1971.2.1
theorem dL_law_1973 : decode cL_law 1973 = .ok (.aload_n 0, 1) := fx_ok (d := 1920) (i := 53) fD_30 eL_law_1971.2.2.1
theorem dL_law_1974 : decode cL_law 1974 = .ok (.iload 4, 2) := fx_ok (d := 1920) (i := 54) fD_30 eL_law_1971.2.2.2.1
theorem dL_law_1976 : decode cL_law 1976 = .ok (.iconst 2, 1) := fx_ok (d := 1920) (i := 56) fD_30 eL_law_1971.2.2.2.2.1
theorem dL_law_1977 : decode cL_law 1977 = .ok (.iadd, 1) := fx_ok (d := 1920) (i := 57) fD_30 eL_law_1971.2.2.2.2.2.1
theorem dL_law_1978 : decode cL_law 1978 = .ok (.iaload, 1) := fx_ok (d := 1920) (i := 58) fD_30 eL_law_1971.2.2.2.2.2.2.1
theorem dL_law_1979 : decode cL_law 1979 = .ok (.aload_n 0, 1) := fx_ok (d := 1920) (i := 59) fD_30 eL_law_1971.2.2.2.2.2.2.2.1
theorem dL_law_1980 : decode cL_law 1980 = .ok (.iload 4, 2) := fx_ok (d := 1920) (i := 60) fD_30 eL_law_1971.2.2.2.2.2.2.2.2.1
theorem dL_law_1982 : decode cL_law 1982 = .ok (.iconst 3, 1) := fx_ok (d := 1920) (i := 62) fD_30 eL_law_1971.2.2.2.2.2.2.2.2.2.1
theorem dL_law_1983 : decode cL_law 1983 = .ok (.iadd, 1) := fx_ok (d := 1920) (i := 63) fD_30 eL_law_1971.2.2.2.2.2.2.2.2.2.2.1
theorem dL_law_1984 : decode cL_law 1984 = .ok (.iaload, 1) := fx_ok (d := 1984) (i := 0) fD_31 eL_law_1971.2.2.2.2.2.2.2.2.2.2.2.1
theorem dL_law_1985 : decode cL_law 1985 = .ok (.invokevirtual 276, 3) := fx_ok (d := 1984) (i := 1) fD_31 eL_law_1971.2.2.2.2.2.2.2.2.2.2.2.2.1
theorem dL_law_1988 : decode cL_law 1988 = .ok (.istore 6, 2) := fx_ok (d := 1984) (i := 4) fD_31 eL_law_1971.2.2.2.2.2.2.2.2.2.2.2.2.2.1
theorem dL_law_1990 : decode cL_law 1990 = .ok (.goto 330, 3) := fx_ok (d := 1984) (i := 6) fD_31 eL_law_1971.2.2.2.2.2.2.2.2.2.2.2.2.2.2.1
theorem dL_law_1993 : decode cL_law 1993 = .ok (.aload_n 1, 1) := fx_ok (d := 1984) (i := 9) fD_31 eL_law_1971.2.2.2.2.2.2.2.2.2.2.2.2.2.2.2
theorem eL_law_1994 : (fdecl fT_31 10 = some (.aload_n 0, 1)) ∧ (fdecl fT_31 11 = some (.iload 4, 2)) ∧ (fdecl fT_31 13 = some (.iconst 1, 1)) ∧ (fdecl fT_31 14 = some (.iadd, 1)) ∧ (fdecl fT_31 15 = some (.iaload, 1)) ∧ (fdecl fT_31 16 = some (.aload_n 0, 1)) ∧ (fdecl fT_31 17 = some (.iload 4, 2)) ∧ (fdecl fT_31 19 = some (.iconst 2, 1)) ∧ (fdecl fT_31 20 = some (.iadd, 1)) ∧ (fdecl fT_31 21 = some (.iaload, 1)) ∧ (fdecl fT_31 22 = some (.aload_n 3, 1)) ∧ (fdecl fT_31 23 = some (.invokestatic 277, 3)) ∧ (fdecl fT_31 26 = some (.istore 5, 2)) ∧ (fdecl fT_31 28 = some (.aload_n 2, 1)) ∧ (fdecl fT_31 29 = some (.aload_n 0, 1)) ∧ (fdecl fT_31 30 = some (.iload 4, 2)) := by decide +kernel
theorem dL_law_1994 : decode cL_law 1994 = .ok (.aload_n 0, 1) := fx_ok (d := 1984) (i := 10) fD_31 eL_law_1994.1
theorem dL_law_1995 : decode cL_law 1995 = .ok (.iload 4, 2) := fx_ok (d := 1984) (i := 11) fD_31 eL_law_1994.2.1
theorem dL_law_1997 : decode cL_law 1997 = .ok (.iconst 1, 1) := fx_ok (d := 1984) (i := 13) fD_31 eL_law_1994.2.2.1
theorem dL_law_1998 : decode cL_law 1998 = .ok (.iadd, 1) := fx_ok (d := 1984) (i := 14) fD_31 eL_law_1994.2.2.2.1
theorem dL_law_1999 : decode cL_law 1999 = .ok (.iaload, 1) := fx_ok (d := 1984) (i := 15) fD_31 eL_law_1994.2.2.2.2.1
theorem dL_law_2000 : decode cL_law 2000 = .ok (.aload_n 0, 1) := fx_ok (d := 1984) (i := 16) fD_31 eL_law_1994.2.2.2.2.2.1
theorem dL_law_2001 : decode cL_law 2001 = .ok (.iload 4, 2) := fx_ok (d := 1984) (i := 17) fD_31 eL_law_1994.2.2.2.2.2.2.1
theorem dL_law_2003 : decode cL_law 2003 = .ok (.iconst 2, 1) := fx_ok (d := 1984) (i := 19) fD_31 eL_law_1994.2.2.2.2.2.2.2.1
theorem dL_law_2004 : decode cL_law 2004 = .ok (.iadd, 1) := fx_ok (d := 1984) (i := 20) fD_31 eL_law_1994.2.2.2.2.2.2.2.2.1
theorem dL_law_2005 : decode cL_law 2005 = .ok (.iaload, 1) := fx_ok (d := 1984) (i := 21) fD_31 eL_law_1994.2.2.2.2.2.2.2.2.2.1
theorem dL_law_2006 : decode cL_law 2006 = .ok (.aload_n 3, 1) := fx_ok (d := 1984) (i := 22) fD_31 eL_law_1994.2.2.2.2.2.2.2.2.2.2.1
theorem dL_law_2007 : decode cL_law 2007 = .ok (.invokestatic 277, 3) := fx_ok (d := 1984) (i := 23) fD_31 eL_law_1994.2.2.2.2.2.2.2.2.2.2.2.1
theorem dL_law_2010 : decode cL_law 2010 = .ok (.istore 5, 2) := fx_ok (d := 1984) (i := 26) fD_31 eL_law_1994.2.2.2.2.2.2.2.2.2.2.2.2.1
theorem dL_law_2012 : decode cL_law 2012 = .ok (.aload_n 2, 1) := fx_ok (d := 1984) (i := 28) fD_31 eL_law_1994.2.2.2.2.2.2.2.2.2.2.2.2.2.1
theorem dL_law_2013 : decode cL_law 2013 = .ok (.aload_n 0, 1) := fx_ok (d := 1984) (i := 29) fD_31 eL_law_1994.2.2.2.2.2.2.2.2.2.2.2.2.2.2.1
theorem dL_law_2014 : decode cL_law 2014 = .ok (.iload 4, 2) := fx_ok (d := 1984) (i := 30) fD_31 eL_law_1994.2.2.2.2.2.2.2.2.2.2.2.2.2.2.2
theorem eL_law_2016 : (fdecl fT_31 32 = some (.iconst 1, 1)) ∧ (fdecl fT_31 33 = some (.iadd, 1)) ∧ (fdecl fT_31 34 = some (.iaload, 1)) ∧ (fdecl fT_31 35 = some (.aload_n 0, 1)) ∧ (fdecl fT_31 36 = some (.iload 4, 2)) ∧ (fdecl fT_31 38 = some (.iconst 2, 1)) ∧ (fdecl fT_31 39 = some (.iadd, 1)) ∧ (fdecl fT_31 40 = some (.iaload, 1)) ∧ (fdecl fT_31 41 = some (.invokevirtual 279, 3)) ∧ (fdecl fT_31 44 = some (.istore 6, 2)) ∧ (fdecl fT_31 46 = some (.goto 290, 3)) ∧ (fdecl fT_31 49 = some (.aload_n 1, 1)) ∧ (fdecl fT_31 50 = some (.aload_n 0, 1)) ∧ (fdecl fT_31 51 = some (.iload 4, 2)) ∧ (fdecl fT_31 53 = some (.iconst 1, 1)) ∧ (fdecl fT_31 54 = some (.iadd, 1)) := by decide +kernel
theorem dL_law_2016 : decode cL_law 2016 = .ok (.iconst 1, 1) := fx_ok (d := 1984) (i := 32) fD_31 eL_law_2016.1
theorem dL_law_2017 : decode cL_law 2017 = .ok (.iadd, 1) := fx_ok (d := 1984) (i := 33) fD_31 eL_law_2016.2.1
theorem dL_law_2018 : decode cL_law 2018 = .ok (.iaload, 1) := fx_ok (d := 1984) (i := 34) fD_31 eL_law_2016.2.2.1
theorem dL_law_2019 : decode cL_law 2019 = .ok (.aload_n 0, 1) := fx_ok (d := 1984) (i := 35) fD_31 eL_law_2016.2.2.2.1
theorem dL_law_2020 : decode cL_law 2020 = .ok (.iload 4, 2) := fx_ok (d := 1984) (i := 36) fD_31 eL_law_2016.2.2.2.2.1
theorem dL_law_2022 : decode cL_law 2022 = .ok (.iconst 2, 1) := fx_ok (d := 1984) (i := 38) fD_31 eL_law_2016.2.2.2.2.2.1
theorem dL_law_2023 : decode cL_law 2023 = .ok (.iadd, 1) := fx_ok (d := 1984) (i := 39) fD_31 eL_law_2016.2.2.2.2.2.2.1
theorem dL_law_2024 : decode cL_law 2024 = .ok (.iaload, 1) := fx_ok (d := 1984) (i := 40) fD_31 eL_law_2016.2.2.2.2.2.2.2.1
theorem dL_law_2025 : decode cL_law 2025 = .ok (.invokevirtual 279, 3) := fx_ok (d := 1984) (i := 41) fD_31 eL_law_2016.2.2.2.2.2.2.2.2.1
theorem dL_law_2028 : decode cL_law 2028 = .ok (.istore 6, 2) := fx_ok (d := 1984) (i := 44) fD_31 eL_law_2016.2.2.2.2.2.2.2.2.2.1
theorem dL_law_2030 : decode cL_law 2030 = .ok (.goto 290, 3) := fx_ok (d := 1984) (i := 46) fD_31 eL_law_2016.2.2.2.2.2.2.2.2.2.2.1
theorem dL_law_2033 : decode cL_law 2033 = .ok (.aload_n 1, 1) := fx_ok (d := 1984) (i := 49) fD_31 eL_law_2016.2.2.2.2.2.2.2.2.2.2.2.1
theorem dL_law_2034 : decode cL_law 2034 = .ok (.aload_n 0, 1) := fx_ok (d := 1984) (i := 50) fD_31 eL_law_2016.2.2.2.2.2.2.2.2.2.2.2.2.1
theorem dL_law_2035 : decode cL_law 2035 = .ok (.iload 4, 2) := fx_ok (d := 1984) (i := 51) fD_31 eL_law_2016.2.2.2.2.2.2.2.2.2.2.2.2.2.1
theorem dL_law_2037 : decode cL_law 2037 = .ok (.iconst 1, 1) := fx_ok (d := 1984) (i := 53) fD_31 eL_law_2016.2.2.2.2.2.2.2.2.2.2.2.2.2.2.1
theorem dL_law_2038 : decode cL_law 2038 = .ok (.iadd, 1) := fx_ok (d := 1984) (i := 54) fD_31 eL_law_2016.2.2.2.2.2.2.2.2.2.2.2.2.2.2.2
theorem eL_law_2039 : (fdecl fT_31 55 = some (.iaload, 1)) ∧ (fdecl fT_31 56 = some (.aload_n 0, 1)) ∧ (fdecl fT_31 57 = some (.iload 4, 2)) ∧ (fdecl fT_31 59 = some (.iconst 2, 1)) ∧ (fdecl fT_31 60 = some (.iadd, 1)) ∧ (fdecl fT_31 61 = some (.iaload, 1)) ∧ (fdecl fT_31 62 = some (.aload_n 0, 1)) ∧ (fdecl fT_31 63 = some (.iload 4, 2)) ∧ (fdecl fT_32 1 = some (.iconst 3, 1)) ∧ (fdecl fT_32 2 = some (.iadd, 1)) ∧ (fdecl fT_32 3 = some (.iaload, 1)) ∧ (fdecl fT_32 4 = some (.aload_n 0, 1)) ∧ (fdecl fT_32 5 = some (.iload 4, 2)) ∧ (fdecl fT_32 7 = some (.iconst 4, 1)) ∧ (fdecl fT_32 8 = some (.iadd, 1)) ∧ (fdecl fT_32 9 = some (.iaload, 1)) := by decide +kernel
theorem dL_law_2039 : decode cL_law 2039 = .ok (.iaload, 1) := fx_ok (d := 1984) (i := 55) fD_31 eL_law_2039.1
theorem dL_law_2040 : decode cL_law 2040 = .ok (.aload_n 0, 1) := fx_ok (d := 1984) (i := 56) fD_31 eL_law_2039.2.1
theorem dL_law_2041 : decode cL_law 2041 = .ok (.iload 4, 2) := fx_ok (d := 1984) (i := 57) fD_31 eL_law_2039.2.2.1
theorem dL_law_2043 : decode cL_law 2043 = .ok (.iconst 2, 1) := fx_ok (d := 1984) (i := 59) fD_31 eL_law_2039.2.2.2.1
theorem dL_law_2044 : decode cL_law 2044 = .ok (.iadd, 1) := fx_ok (d := 1984) (i := 60) fD_31 eL_law_2039.2.2.2.2.1
theorem dL_law_2045 : decode cL_law 2045 = .ok (.iaload, 1) := fx_ok (d := 1984) (i := 61) fD_31 eL_law_2039.2.2.2.2.2.1
theorem dL_law_2046 : decode cL_law 2046 = .ok (.aload_n 0, 1) := fx_ok (d := 1984) (i := 62) fD_31 eL_law_2039.2.2.2.2.2.2.1
theorem dL_law_2047 : decode cL_law 2047 = .ok (.iload 4, 2) := fx_ok (d := 1984) (i := 63) fD_31 eL_law_2039.2.2.2.2.2.2.2.1
theorem dL_law_2049 : decode cL_law 2049 = .ok (.iconst 3, 1) := fx_ok (d := 2048) (i := 1) fD_32 eL_law_2039.2.2.2.2.2.2.2.2.1
theorem dL_law_2050 : decode cL_law 2050 = .ok (.iadd, 1) := fx_ok (d := 2048) (i := 2) fD_32 eL_law_2039.2.2.2.2.2.2.2.2.2.1
theorem dL_law_2051 : decode cL_law 2051 = .ok (.iaload, 1) := fx_ok (d := 2048) (i := 3) fD_32 eL_law_2039.2.2.2.2.2.2.2.2.2.2.1
theorem dL_law_2052 : decode cL_law 2052 = .ok (.aload_n 0, 1) := fx_ok (d := 2048) (i := 4) fD_32 eL_law_2039.2.2.2.2.2.2.2.2.2.2.2.1
theorem dL_law_2053 : decode cL_law 2053 = .ok (.iload 4, 2) := fx_ok (d := 2048) (i := 5) fD_32 eL_law_2039.2.2.2.2.2.2.2.2.2.2.2.2.1
theorem dL_law_2055 : decode cL_law 2055 = .ok (.iconst 4, 1) := fx_ok (d := 2048) (i := 7) fD_32 eL_law_2039.2.2.2.2.2.2.2.2.2.2.2.2.2.1
theorem dL_law_2056 : decode cL_law 2056 = .ok (.iadd, 1) := fx_ok (d := 2048) (i := 8) fD_32 eL_law_2039.2.2.2.2.2.2.2.2.2.2.2.2.2.2.1
theorem dL_law_2057 : decode cL_law 2057 = .ok (.iaload, 1) := fx_ok (d := 2048) (i := 9) fD_32 eL_law_2039.2.2.2.2.2.2.2.2.2.2.2.2.2.2.2
theorem eL_law_2058 : (fdecl fT_32 10 = some (.aload_n 0, 1)) ∧ (fdecl fT_32 11 = some (.iload 4, 2)) ∧ (fdecl fT_32 13 = some (.iconst 5, 1)) ∧ (fdecl fT_32 14 = some (.iadd, 1)) ∧ (fdecl fT_32 15 = some (.iaload, 1)) ∧ (fdecl fT_32 16 = some (.aload_n 3, 1)) ∧ (fdecl fT_32 17 = some (.invokestatic 280, 3)) ∧ (fdecl fT_32 20 = some (.istore 5, 2)) ∧ (fdecl fT_32 22 = some (.aload_n 2, 1)) ∧ (fdecl fT_32 23 = some (.aload_n 0, 1)) ∧ (fdecl fT_32 24 = some (.iload 4, 2)) ∧ (fdecl fT_32 26 = some (.iconst 1, 1)) ∧ (fdecl fT_32 27 = some (.iadd, 1)) ∧ (fdecl fT_32 28 = some (.iaload, 1)) ∧ (fdecl fT_32 29 = some (.aload_n 0, 1)) ∧ (fdecl fT_32 30 = some (.iload 4, 2)) := by decide +kernel
theorem dL_law_2058 : decode cL_law 2058 = .ok (.aload_n 0, 1) := fx_ok (d := 2048) (i := 10) fD_32 eL_law_2058.1
theorem dL_law_2059 : decode cL_law 2059 = .ok (.iload 4, 2) := fx_ok (d := 2048) (i := 11) fD_32 eL_law_2058.2.1
theorem dL_law_2061 : decode cL_law 2061 = .ok (.iconst 5, 1) := fx_ok (d := 2048) (i := 13) fD_32 eL_law_2058.2.2.1
theorem dL_law_2062 : decode cL_law 2062 = .ok (.iadd, 1) := fx_ok (d := 2048) (i := 14) fD_32 eL_law_2058.2.2.2.1
theorem dL_law_2063 : decode cL_law 2063 = .ok (.iaload, 1) := fx_ok (d := 2048) (i := 15) fD_32 eL_law_2058.2.2.2.2.1
theorem dL_law_2064 : decode cL_law 2064 = .ok (.aload_n 3, 1) := fx_ok (d := 2048) (i := 16) fD_32 eL_law_2058.2.2.2.2.2.1
theorem dL_law_2065 : decode cL_law 2065 = .ok (.invokestatic 280, 3) := fx_ok (d := 2048) (i := 17) fD_32 eL_law_2058.2.2.2.2.2.2.1
theorem dL_law_2068 : decode cL_law 2068 = .ok (.istore 5, 2) := fx_ok (d := 2048) (i := 20) fD_32 eL_law_2058.2.2.2.2.2.2.2.1
theorem dL_law_2070 : decode cL_law 2070 = .ok (.aload_n 2, 1) := fx_ok (d := 2048) (i := 22) fD_32 eL_law_2058.2.2.2.2.2.2.2.2.1
theorem dL_law_2071 : decode cL_law 2071 = .ok (.aload_n 0, 1) := fx_ok (d := 2048) (i := 23) fD_32 eL_law_2058.2.2.2.2.2.2.2.2.2.1
theorem dL_law_2072 : decode cL_law 2072 = .ok (.iload 4, 2) := fx_ok (d := 2048) (i := 24) fD_32 eL_law_2058.2.2.2.2.2.2.2.2.2.2.1
theorem dL_law_2074 : decode cL_law 2074 = .ok (.iconst 1, 1) := fx_ok (d := 2048) (i := 26) fD_32 eL_law_2058.2.2.2.2.2.2.2.2.2.2.2.1
theorem dL_law_2075 : decode cL_law 2075 = .ok (.iadd, 1) := fx_ok (d := 2048) (i := 27) fD_32 eL_law_2058.2.2.2.2.2.2.2.2.2.2.2.2.1
theorem dL_law_2076 : decode cL_law 2076 = .ok (.iaload, 1) := fx_ok (d := 2048) (i := 28) fD_32 eL_law_2058.2.2.2.2.2.2.2.2.2.2.2.2.2.1
theorem dL_law_2077 : decode cL_law 2077 = .ok (.aload_n 0, 1) := fx_ok (d := 2048) (i := 29) fD_32 eL_law_2058.2.2.2.2.2.2.2.2.2.2.2.2.2.2.1
theorem dL_law_2078 : decode cL_law 2078 = .ok (.iload 4, 2) := fx_ok (d := 2048) (i := 30) fD_32 eL_law_2058.2.2.2.2.2.2.2.2.2.2.2.2.2.2.2
theorem eL_law_2080 : (fdecl fT_32 32 = some (.iconst 2, 1)) ∧ (fdecl fT_32 33 = some (.iadd, 1)) ∧ (fdecl fT_32 34 = some (.iaload, 1)) ∧ (fdecl fT_32 35 = some (.aload_n 0, 1)) ∧ (fdecl fT_32 36 = some (.iload 4, 2)) ∧ (fdecl fT_32 38 = some (.iconst 3, 1)) ∧ (fdecl fT_32 39 = some (.iadd, 1)) ∧ (fdecl fT_32 40 = some (.iaload, 1)) ∧ (fdecl fT_32 41 = some (.aload_n 0, 1)) ∧ (fdecl fT_32 42 = some (.iload 4, 2)) ∧ (fdecl fT_32 44 = some (.iconst 4, 1)) ∧ (fdecl fT_32 45 = some (.iadd, 1)) ∧ (fdecl fT_32 46 = some (.iaload, 1)) ∧ (fdecl fT_32 47 = some (.aload_n 0, 1)) ∧ (fdecl fT_32 48 = some (.iload 4, 2)) ∧ (fdecl fT_32 50 = some (.iconst 5, 1)) := by decide +kernel
theorem dL_law_2080 : decode cL_law 2080 = .ok (.iconst 2, 1) := fx_ok (d := 2048) (i := 32) fD_32 eL_law_2080.1
theorem dL_law_2081 : decode cL_law 2081 = .ok (.iadd, 1) := fx_ok (d := 2048) (i := 33) fD_32 eL_law_2080.2.1
theorem dL_law_2082 : decode cL_law 2082 = .ok (.iaload, 1) := fx_ok (d := 2048) (i := 34) fD_32 eL_law_2080.2.2.1
theorem dL_law_2083 : decode cL_law 2083 = .ok (.aload_n 0, 1) := fx_ok (d := 2048) (i := 35) fD_32 eL_law_2080.2.2.2.1
theorem dL_law_2084 : decode cL_law 2084 = .ok (.iload 4, 2) := fx_ok (d := 2048) (i := 36) fD_32 eL_law_2080.2.2.2.2.1
theorem dL_law_2086 : decode cL_law 2086 = .ok (.iconst 3, 1) := fx_ok (d := 2048) (i := 38) fD_32 eL_law_2080.2.2.2.2.2.1
theorem dL_law_2087 : decode cL_law 2087 = .ok (.iadd, 1) := fx_ok (d := 2048) (i := 39) fD_32 eL_law_2080.2.2.2.2.2.2.1
theorem dL_law_2088 : decode cL_law 2088 = .ok (.iaload, 1) := fx_ok (d := 2048) (i := 40) fD_32 eL_law_2080.2.2.2.2.2.2.2.1
theorem dL_law_2089 : decode cL_law 2089 = .ok (.aload_n 0, 1) := fx_ok (d := 2048) (i := 41) fD_32 eL_law_2080.2.2.2.2.2.2.2.2.1
theorem dL_law_2090 : decode cL_law 2090 = .ok (.iload 4, 2) := fx_ok (d := 2048) (i := 42) fD_32 eL_law_2080.2.2.2.2.2.2.2.2.2.1
theorem dL_law_2092 : decode cL_law 2092 = .ok (.iconst 4, 1) := fx_ok (d := 2048) (i := 44) fD_32 eL_law_2080.2.2.2.2.2.2.2.2.2.2.1
theorem dL_law_2093 : decode cL_law 2093 = .ok (.iadd, 1) := fx_ok (d := 2048) (i := 45) fD_32 eL_law_2080.2.2.2.2.2.2.2.2.2.2.2.1
theorem dL_law_2094 : decode cL_law 2094 = .ok (.iaload, 1) := fx_ok (d := 2048) (i := 46) fD_32 eL_law_2080.2.2.2.2.2.2.2.2.2.2.2.2.1
theorem dL_law_2095 : decode cL_law 2095 = .ok (.aload_n 0, 1) := fx_ok (d := 2048) (i := 47) fD_32 eL_law_2080.2.2.2.2.2.2.2.2.2.2.2.2.2.1
theorem dL_law_2096 : decode cL_law 2096 = .ok (.iload 4, 2) := fx_ok (d := 2048) (i := 48) fD_32 eL_law_2080.2.2.2.2.2.2.2.2.2.2.2.2.2.2.1
theorem dL_law_2098 : decode cL_law 2098 = .ok (.iconst 5, 1) := fx_ok (d := 2048) (i := 50) fD_32 eL_law_2080.2.2.2.2.2.2.2.2.2.2.2.2.2.2.2
theorem eL_law_2099 : (fdecl fT_32 51 = some (.iadd, 1)) ∧ (fdecl fT_32 52 = some (.iaload, 1)) ∧ (fdecl fT_32 53 = some (.invokevirtual 282, 3)) ∧ (fdecl fT_32 56 = some (.istore 6, 2)) ∧ (fdecl fT_32 58 = some (.goto 214, 3)) ∧ (fdecl fT_32 61 = some (.aload_n 1, 1)) ∧ (fdecl fT_32 62 = some (.aload_n 0, 1)) ∧ (fdecl fT_32 63 = some (.iload 4, 2)) ∧ (fdecl fT_33 1 = some (.iconst 1, 1)) ∧ (fdecl fT_33 2 = some (.iadd, 1)) ∧ (fdecl fT_33 3 = some (.iaload, 1)) ∧ (fdecl fT_33 4 = some (.aload_n 0, 1)) ∧ (fdecl fT_33 5 = some (.iload 4, 2)) ∧ (fdecl fT_33 7 = some (.iconst 2, 1)) ∧ (fdecl fT_33 8 = some (.iadd, 1)) ∧ (fdecl fT_33 9 = some (.iaload, 1)) := by decide +kernel
theorem dL_law_2099 : decode cL_law 2099 = .ok (.iadd, 1) := fx_ok (d := 2048) (i := 51) fD_32 eL_law_2099.1
theorem dL_law_2100 : decode cL_law 2100 = .ok (.iaload, 1) := fx_ok (d := 2048) (i := 52) fD_32 eL_law_2099.2.1
theorem dL_law_2101 : decode cL_law 2101 = .ok (.invokevirtual 282, 3) := fx_ok (d := 2048) (i := 53) fD_32 eL_law_2099.2.2.1
theorem dL_law_2104 : decode cL_law 2104 = .ok (.istore 6, 2) := fx_ok (d := 2048) (i := 56) fD_32 eL_law_2099.2.2.2.1
theorem dL_law_2106 : decode cL_law 2106 = .ok (.goto 214, 3) := fx_ok (d := 2048) (i := 58) fD_32 eL_law_2099.2.2.2.2.1
theorem dL_law_2109 : decode cL_law 2109 = .ok (.aload_n 1, 1) := fx_ok (d := 2048) (i := 61) fD_32 eL_law_2099.2.2.2.2.2.1
theorem dL_law_2110 : decode cL_law 2110 = .ok (.aload_n 0, 1) := fx_ok (d := 2048) (i := 62) fD_32 eL_law_2099.2.2.2.2.2.2.1
theorem dL_law_2111 : decode cL_law 2111 = .ok (.iload 4, 2) := fx_ok (d := 2048) (i := 63) fD_32 eL_law_2099.2.2.2.2.2.2.2.1
theorem dL_law_2113 : decode cL_law 2113 = .ok (.iconst 1, 1) := fx_ok (d := 2112) (i := 1) fD_33 eL_law_2099.2.2.2.2.2.2.2.2.1
theorem dL_law_2114 : decode cL_law 2114 = .ok (.iadd, 1) := fx_ok (d := 2112) (i := 2) fD_33 eL_law_2099.2.2.2.2.2.2.2.2.2.1
theorem dL_law_2115 : decode cL_law 2115 = .ok (.iaload, 1) := fx_ok (d := 2112) (i := 3) fD_33 eL_law_2099.2.2.2.2.2.2.2.2.2.2.1
theorem dL_law_2116 : decode cL_law 2116 = .ok (.aload_n 0, 1) := fx_ok (d := 2112) (i := 4) fD_33 eL_law_2099.2.2.2.2.2.2.2.2.2.2.2.1
theorem dL_law_2117 : decode cL_law 2117 = .ok (.iload 4, 2) := fx_ok (d := 2112) (i := 5) fD_33 eL_law_2099.2.2.2.2.2.2.2.2.2.2.2.2.1
theorem dL_law_2119 : decode cL_law 2119 = .ok (.iconst 2, 1) := fx_ok (d := 2112) (i := 7) fD_33 eL_law_2099.2.2.2.2.2.2.2.2.2.2.2.2.2.1
theorem dL_law_2120 : decode cL_law 2120 = .ok (.iadd, 1) := fx_ok (d := 2112) (i := 8) fD_33 eL_law_2099.2.2.2.2.2.2.2.2.2.2.2.2.2.2.1
theorem dL_law_2121 : decode cL_law 2121 = .ok (.iaload, 1) := fx_ok (d := 2112) (i := 9) fD_33 eL_law_2099.2.2.2.2.2.2.2.2.2.2.2.2.2.2.2
theorem eL_law_2122 : (fdecl fT_33 10 = some (.aload_n 0, 1)) ∧ (fdecl fT_33 11 = some (.iload 4, 2)) ∧ (fdecl fT_33 13 = some (.iconst 3, 1)) ∧ (fdecl fT_33 14 = some (.iadd, 1)) ∧ (fdecl fT_33 15 = some (.iaload, 1)) ∧ (fdecl fT_33 16 = some (.aload_n 3, 1)) ∧ (fdecl fT_33 17 = some (.invokestatic 283, 3)) ∧ (fdecl fT_33 20 = some (.istore 5, 2)) ∧ (fdecl fT_33 22 = some (.aload_n 2, 1)) ∧ (fdecl fT_33 23 = some (.aload_n 0, 1)) ∧ (fdecl fT_33 24 = some (.iload 4, 2)) ∧ (fdecl fT_33 26 = some (.iconst 1, 1)) ∧ (fdecl fT_33 27 = some (.iadd, 1)) ∧ (fdecl fT_33 28 = some (.iaload, 1)) ∧ (fdecl fT_33 29 = some (.aload_n 0, 1)) ∧ (fdecl fT_33 30 = some (.iload 4, 2)) := by decide +kernel
theorem dL_law_2122 : decode cL_law 2122 = .ok (.aload_n 0, 1) := fx_ok (d := 2112) (i := 10) fD_33 eL_law_2122.1
theorem dL_law_2123 : decode cL_law 2123 = .ok (.iload 4, 2) := fx_ok (d := 2112) (i := 11) fD_33 eL_law_2122.2.1
theorem dL_law_2125 : decode cL_law 2125 = .ok (.iconst 3, 1) := fx_ok (d := 2112) (i := 13) fD_33 eL_law_2122.2.2.1
theorem dL_law_2126 : decode cL_law 2126 = .ok (.iadd, 1) := fx_ok (d := 2112) (i := 14) fD_33 eL_law_2122.2.2.2.1
theorem dL_law_2127 : decode cL_law 2127 = .ok (.iaload, 1) := fx_ok (d := 2112) (i := 15) fD_33 eL_law_2122.2.2.2.2.1
theorem dL_law_2128 : decode cL_law 2128 = .ok (.aload_n 3, 1) := fx_ok (d := 2112) (i := 16) fD_33 eL_law_2122.2.2.2.2.2.1
theorem dL_law_2129 : decode cL_law 2129 = .ok (.invokestatic 283, 3) := fx_ok (d := 2112) (i := 17) fD_33 eL_law_2122.2.2.2.2.2.2.1
theorem dL_law_2132 : decode cL_law 2132 = .ok (.istore 5, 2) := fx_ok (d := 2112) (i := 20) fD_33 eL_law_2122.2.2.2.2.2.2.2.1
theorem dL_law_2134 : decode cL_law 2134 = .ok (.aload_n 2, 1) := fx_ok (d := 2112) (i := 22) fD_33 eL_law_2122.2.2.2.2.2.2.2.2.1
theorem dL_law_2135 : decode cL_law 2135 = .ok (.aload_n 0, 1) := fx_ok (d := 2112) (i := 23) fD_33 eL_law_2122.2.2.2.2.2.2.2.2.2.1
theorem dL_law_2136 : decode cL_law 2136 = .ok (.iload 4, 2) := fx_ok (d := 2112) (i := 24) fD_33 eL_law_2122.2.2.2.2.2.2.2.2.2.2.1
theorem dL_law_2138 : decode cL_law 2138 = .ok (.iconst 1, 1) := fx_ok (d := 2112) (i := 26) fD_33 eL_law_2122.2.2.2.2.2.2.2.2.2.2.2.1
theorem dL_law_2139 : decode cL_law 2139 = .ok (.iadd, 1) := fx_ok (d := 2112) (i := 27) fD_33 eL_law_2122.2.2.2.2.2.2.2.2.2.2.2.2.1
theorem dL_law_2140 : decode cL_law 2140 = .ok (.iaload, 1) := fx_ok (d := 2112) (i := 28) fD_33 eL_law_2122.2.2.2.2.2.2.2.2.2.2.2.2.2.1
theorem dL_law_2141 : decode cL_law 2141 = .ok (.aload_n 0, 1) := fx_ok (d := 2112) (i := 29) fD_33 eL_law_2122.2.2.2.2.2.2.2.2.2.2.2.2.2.2.1
theorem dL_law_2142 : decode cL_law 2142 = .ok (.iload 4, 2) := fx_ok (d := 2112) (i := 30) fD_33 eL_law_2122.2.2.2.2.2.2.2.2.2.2.2.2.2.2.2
theorem eL_law_2144 : (fdecl fT_33 32 = some (.iconst 2, 1)) ∧ (fdecl fT_33 33 = some (.iadd, 1)) ∧ (fdecl fT_33 34 = some (.iaload, 1)) ∧ (fdecl fT_33 35 = some (.aload_n 0, 1)) ∧ (fdecl fT_33 36 = some (.iload 4, 2)) ∧ (fdecl fT_33 38 = some (.iconst 3, 1)) ∧ (fdecl fT_33 39 = some (.iadd, 1)) ∧ (fdecl fT_33 40 = some (.iaload, 1)) ∧ (fdecl fT_33 41 = some (.invokevirtual 285, 3)) ∧ (fdecl fT_33 44 = some (.istore 6, 2)) ∧ (fdecl fT_33 46 = some (.goto 162, 3)) ∧ (fdecl fT_33 49 = some (.aload_n 1, 1)) ∧ (fdecl fT_33 50 = some (.aload_n 0, 1)) ∧ (fdecl fT_33 51 = some (.iload 4, 2)) ∧ (fdecl fT_33 53 = some (.iconst 1, 1)) ∧ (fdecl fT_33 54 = some (.iadd, 1)) := by decide +kernel
theorem dL_law_2144 : decode cL_law 2144 = .ok (.iconst 2, 1) := fx_ok (d := 2112) (i := 32) fD_33 eL_law_2144.1
theorem dL_law_2145 : decode cL_law 2145 = .ok (.iadd, 1) := fx_ok (d := 2112) (i := 33) fD_33 eL_law_2144.2.1
theorem dL_law_2146 : decode cL_law 2146 = .ok (.iaload, 1) := fx_ok (d := 2112) (i := 34) fD_33 eL_law_2144.2.2.1
theorem dL_law_2147 : decode cL_law 2147 = .ok (.aload_n 0, 1) := fx_ok (d := 2112) (i := 35) fD_33 eL_law_2144.2.2.2.1
theorem dL_law_2148 : decode cL_law 2148 = .ok (.iload 4, 2) := fx_ok (d := 2112) (i := 36) fD_33 eL_law_2144.2.2.2.2.1
theorem dL_law_2150 : decode cL_law 2150 = .ok (.iconst 3, 1) := fx_ok (d := 2112) (i := 38) fD_33 eL_law_2144.2.2.2.2.2.1
theorem dL_law_2151 : decode cL_law 2151 = .ok (.iadd, 1) := fx_ok (d := 2112) (i := 39) fD_33 eL_law_2144.2.2.2.2.2.2.1
theorem dL_law_2152 : decode cL_law 2152 = .ok (.iaload, 1) := fx_ok (d := 2112) (i := 40) fD_33 eL_law_2144.2.2.2.2.2.2.2.1
theorem dL_law_2153 : decode cL_law 2153 = .ok (.invokevirtual 285, 3) := fx_ok (d := 2112) (i := 41) fD_33 eL_law_2144.2.2.2.2.2.2.2.2.1
theorem dL_law_2156 : decode cL_law 2156 = .ok (.istore 6, 2) := fx_ok (d := 2112) (i := 44) fD_33 eL_law_2144.2.2.2.2.2.2.2.2.2.1
theorem dL_law_2158 : decode cL_law 2158 = .ok (.goto 162, 3) := fx_ok (d := 2112) (i := 46) fD_33 eL_law_2144.2.2.2.2.2.2.2.2.2.2.1
theorem dL_law_2161 : decode cL_law 2161 = .ok (.aload_n 1, 1) := fx_ok (d := 2112) (i := 49) fD_33 eL_law_2144.2.2.2.2.2.2.2.2.2.2.2.1
theorem dL_law_2162 : decode cL_law 2162 = .ok (.aload_n 0, 1) := fx_ok (d := 2112) (i := 50) fD_33 eL_law_2144.2.2.2.2.2.2.2.2.2.2.2.2.1
theorem dL_law_2163 : decode cL_law 2163 = .ok (.iload 4, 2) := fx_ok (d := 2112) (i := 51) fD_33 eL_law_2144.2.2.2.2.2.2.2.2.2.2.2.2.2.1
theorem dL_law_2165 : decode cL_law 2165 = .ok (.iconst 1, 1) := fx_ok (d := 2112) (i := 53) fD_33 eL_law_2144.2.2.2.2.2.2.2.2.2.2.2.2.2.2.1
theorem dL_law_2166 : decode cL_law 2166 = .ok (.iadd, 1) := fx_ok (d := 2112) (i := 54) fD_33 eL_law_2144.2.2.2.2.2.2.2.2.2.2.2.2.2.2.2
theorem eL_law_2167 : (fdecl fT_33 55 = some (.iaload, 1)) ∧ (fdecl fT_33 56 = some (.aload_n 0, 1)) ∧ (fdecl fT_33 57 = some (.iload 4, 2)) ∧ (fdecl fT_33 59 = some (.iconst 2, 1)) ∧ (fdecl fT_33 60 = some (.iadd, 1)) ∧ (fdecl fT_33 61 = some (.iaload, 1)) ∧ (fdecl fT_33 62 = some (.aload_n 3, 1)) ∧ (fdecl fT_33 63 = some (.invokestatic 286, 3)) ∧ (fdecl fT_34 2 = some (.istore 5, 2)) ∧ (fdecl fT_34 4 = some (.aload_n 2, 1)) ∧ (fdecl fT_34 5 = some (.aload_n 0, 1)) ∧ (fdecl fT_34 6 = some (.iload 4, 2)) ∧ (fdecl fT_34 8 = some (.iconst 1, 1)) ∧ (fdecl fT_34 9 = some (.iadd, 1)) ∧ (fdecl fT_34 10 = some (.iaload, 1)) ∧ (fdecl fT_34 11 = some (.aload_n 0, 1)) := by decide +kernel
theorem dL_law_2167 : decode cL_law 2167 = .ok (.iaload, 1) := fx_ok (d := 2112) (i := 55) fD_33 eL_law_2167.1
theorem dL_law_2168 : decode cL_law 2168 = .ok (.aload_n 0, 1) := fx_ok (d := 2112) (i := 56) fD_33 eL_law_2167.2.1
theorem dL_law_2169 : decode cL_law 2169 = .ok (.iload 4, 2) := fx_ok (d := 2112) (i := 57) fD_33 eL_law_2167.2.2.1
theorem dL_law_2171 : decode cL_law 2171 = .ok (.iconst 2, 1) := fx_ok (d := 2112) (i := 59) fD_33 eL_law_2167.2.2.2.1
theorem dL_law_2172 : decode cL_law 2172 = .ok (.iadd, 1) := fx_ok (d := 2112) (i := 60) fD_33 eL_law_2167.2.2.2.2.1
theorem dL_law_2173 : decode cL_law 2173 = .ok (.iaload, 1) := fx_ok (d := 2112) (i := 61) fD_33 eL_law_2167.2.2.2.2.2.1
theorem dL_law_2174 : decode cL_law 2174 = .ok (.aload_n 3, 1) := fx_ok (d := 2112) (i := 62) fD_33 eL_law_2167.2.2.2.2.2.2.1
theorem dL_law_2175 : decode cL_law 2175 = .ok (.invokestatic 286, 3) := fx_ok (d := 2112) (i := 63) fD_33 eL_law_2167.2.2.2.2.2.2.2.1
theorem dL_law_2178 : decode cL_law 2178 = .ok (.istore 5, 2) := fx_ok (d := 2176) (i := 2) fD_34 eL_law_2167.2.2.2.2.2.2.2.2.1
theorem dL_law_2180 : decode cL_law 2180 = .ok (.aload_n 2, 1) := fx_ok (d := 2176) (i := 4) fD_34 eL_law_2167.2.2.2.2.2.2.2.2.2.1
theorem dL_law_2181 : decode cL_law 2181 = .ok (.aload_n 0, 1) := fx_ok (d := 2176) (i := 5) fD_34 eL_law_2167.2.2.2.2.2.2.2.2.2.2.1
theorem dL_law_2182 : decode cL_law 2182 = .ok (.iload 4, 2) := fx_ok (d := 2176) (i := 6) fD_34 eL_law_2167.2.2.2.2.2.2.2.2.2.2.2.1
theorem dL_law_2184 : decode cL_law 2184 = .ok (.iconst 1, 1) := fx_ok (d := 2176) (i := 8) fD_34 eL_law_2167.2.2.2.2.2.2.2.2.2.2.2.2.1
theorem dL_law_2185 : decode cL_law 2185 = .ok (.iadd, 1) := fx_ok (d := 2176) (i := 9) fD_34 eL_law_2167.2.2.2.2.2.2.2.2.2.2.2.2.2.1
theorem dL_law_2186 : decode cL_law 2186 = .ok (.iaload, 1) := fx_ok (d := 2176) (i := 10) fD_34 eL_law_2167.2.2.2.2.2.2.2.2.2.2.2.2.2.2.1
theorem dL_law_2187 : decode cL_law 2187 = .ok (.aload_n 0, 1) := fx_ok (d := 2176) (i := 11) fD_34 eL_law_2167.2.2.2.2.2.2.2.2.2.2.2.2.2.2.2
theorem eL_law_2188 : (fdecl fT_34 12 = some (.iload 4, 2)) ∧ (fdecl fT_34 14 = some (.iconst 2, 1)) ∧ (fdecl fT_34 15 = some (.iadd, 1)) ∧ (fdecl fT_34 16 = some (.iaload, 1)) ∧ (fdecl fT_34 17 = some (.invokevirtual 288, 3)) ∧ (fdecl fT_34 20 = some (.istore 6, 2)) ∧ (fdecl fT_34 22 = some (.goto 122, 3)) ∧ (fdecl fT_34 25 = some (.aload_n 1, 1)) ∧ (fdecl fT_34 26 = some (.aload_n 0, 1)) ∧ (fdecl fT_34 27 = some (.iload 4, 2)) ∧ (fdecl fT_34 29 = some (.iconst 1, 1)) ∧ (fdecl fT_34 30 = some (.iadd, 1)) ∧ (fdecl fT_34 31 = some (.iaload, 1)) ∧ (fdecl fT_34 32 = some (.aload_n 0, 1)) ∧ (fdecl fT_34 33 = some (.iload 4, 2)) ∧ (fdecl fT_34 35 = some (.iconst 2, 1)) := by decide +kernel
theorem dL_law_2188 : decode cL_law 2188 = .ok (.iload 4, 2) := fx_ok (d := 2176) (i := 12) fD_34 eL_law_2188.1
theorem dL_law_2190 : decode cL_law 2190 = .ok (.iconst 2, 1) := fx_ok (d := 2176) (i := 14) fD_34 eL_law_2188.2.1
theorem dL_law_2191 : decode cL_law 2191 = .ok (.iadd, 1) := fx_ok (d := 2176) (i := 15) fD_34 eL_law_2188.2.2.1
theorem dL_law_2192 : decode cL_law 2192 = .ok (.iaload, 1) := fx_ok (d := 2176) (i := 16) fD_34 eL_law_2188.2.2.2.1
theorem dL_law_2193 : decode cL_law 2193 = .ok (.invokevirtual 288, 3) := fx_ok (d := 2176) (i := 17) fD_34 eL_law_2188.2.2.2.2.1
theorem dL_law_2196 : decode cL_law 2196 = .ok (.istore 6, 2) := fx_ok (d := 2176) (i := 20) fD_34 eL_law_2188.2.2.2.2.2.1
theorem dL_law_2198 : decode cL_law 2198 = .ok (.goto 122, 3) := fx_ok (d := 2176) (i := 22) fD_34 eL_law_2188.2.2.2.2.2.2.1
theorem dL_law_2201 : decode cL_law 2201 = .ok (.aload_n 1, 1) := fx_ok (d := 2176) (i := 25) fD_34 eL_law_2188.2.2.2.2.2.2.2.1
theorem dL_law_2202 : decode cL_law 2202 = .ok (.aload_n 0, 1) := fx_ok (d := 2176) (i := 26) fD_34 eL_law_2188.2.2.2.2.2.2.2.2.1
theorem dL_law_2203 : decode cL_law 2203 = .ok (.iload 4, 2) := fx_ok (d := 2176) (i := 27) fD_34 eL_law_2188.2.2.2.2.2.2.2.2.2.1
theorem dL_law_2205 : decode cL_law 2205 = .ok (.iconst 1, 1) := fx_ok (d := 2176) (i := 29) fD_34 eL_law_2188.2.2.2.2.2.2.2.2.2.2.1
theorem dL_law_2206 : decode cL_law 2206 = .ok (.iadd, 1) := fx_ok (d := 2176) (i := 30) fD_34 eL_law_2188.2.2.2.2.2.2.2.2.2.2.2.1
theorem dL_law_2207 : decode cL_law 2207 = .ok (.iaload, 1) := fx_ok (d := 2176) (i := 31) fD_34 eL_law_2188.2.2.2.2.2.2.2.2.2.2.2.2.1
theorem dL_law_2208 : decode cL_law 2208 = .ok (.aload_n 0, 1) := fx_ok (d := 2176) (i := 32) fD_34 eL_law_2188.2.2.2.2.2.2.2.2.2.2.2.2.2.1
theorem dL_law_2209 : decode cL_law 2209 = .ok (.iload 4, 2) := fx_ok (d := 2176) (i := 33) fD_34 eL_law_2188.2.2.2.2.2.2.2.2.2.2.2.2.2.2.1
theorem dL_law_2211 : decode cL_law 2211 = .ok (.iconst 2, 1) := fx_ok (d := 2176) (i := 35) fD_34 eL_law_2188.2.2.2.2.2.2.2.2.2.2.2.2.2.2.2
theorem eL_law_2212 : (fdecl fT_34 36 = some (.iadd, 1)) ∧ (fdecl fT_34 37 = some (.iaload, 1)) ∧ (fdecl fT_34 38 = some (.aload_n 0, 1)) ∧ (fdecl fT_34 39 = some (.iload 4, 2)) ∧ (fdecl fT_34 41 = some (.iconst 3, 1)) ∧ (fdecl fT_34 42 = some (.iadd, 1)) ∧ (fdecl fT_34 43 = some (.iaload, 1)) ∧ (fdecl fT_34 44 = some (.aload_n 3, 1)) ∧ (fdecl fT_34 45 = some (.invokestatic 289, 3)) ∧ (fdecl fT_34 48 = some (.istore 5, 2)) ∧ (fdecl fT_34 50 = some (.aload_n 2, 1)) ∧ (fdecl fT_34 51 = some (.aload_n 0, 1)) ∧ (fdecl fT_34 52 = some (.iload 4, 2)) ∧ (fdecl fT_34 54 = some (.iconst 1, 1)) ∧ (fdecl fT_34 55 = some (.iadd, 1)) ∧ (fdecl fT_34 56 = some (.iaload, 1)) := by decide +kernel
theorem dL_law_2212 : decode cL_law 2212 = .ok (.iadd, 1) := fx_ok (d := 2176) (i := 36) fD_34 eL_law_2212.1
theorem dL_law_2213 : decode cL_law 2213 = .ok (.iaload, 1) := fx_ok (d := 2176) (i := 37) fD_34 eL_law_2212.2.1
theorem dL_law_2214 : decode cL_law 2214 = .ok (.aload_n 0, 1) := fx_ok (d := 2176) (i := 38) fD_34 eL_law_2212.2.2.1
theorem dL_law_2215 : decode cL_law 2215 = .ok (.iload 4, 2) := fx_ok (d := 2176) (i := 39) fD_34 eL_law_2212.2.2.2.1
theorem dL_law_2217 : decode cL_law 2217 = .ok (.iconst 3, 1) := fx_ok (d := 2176) (i := 41) fD_34 eL_law_2212.2.2.2.2.1
theorem dL_law_2218 : decode cL_law 2218 = .ok (.iadd, 1) := fx_ok (d := 2176) (i := 42) fD_34 eL_law_2212.2.2.2.2.2.1
theorem dL_law_2219 : decode cL_law 2219 = .ok (.iaload, 1) := fx_ok (d := 2176) (i := 43) fD_34 eL_law_2212.2.2.2.2.2.2.1
theorem dL_law_2220 : decode cL_law 2220 = .ok (.aload_n 3, 1) := fx_ok (d := 2176) (i := 44) fD_34 eL_law_2212.2.2.2.2.2.2.2.1
theorem dL_law_2221 : decode cL_law 2221 = .ok (.invokestatic 289, 3) := fx_ok (d := 2176) (i := 45) fD_34 eL_law_2212.2.2.2.2.2.2.2.2.1
theorem dL_law_2224 : decode cL_law 2224 = .ok (.istore 5, 2) := fx_ok (d := 2176) (i := 48) fD_34 eL_law_2212.2.2.2.2.2.2.2.2.2.1
theorem dL_law_2226 : decode cL_law 2226 = .ok (.aload_n 2, 1) := fx_ok (d := 2176) (i := 50) fD_34 eL_law_2212.2.2.2.2.2.2.2.2.2.2.1
theorem dL_law_2227 : decode cL_law 2227 = .ok (.aload_n 0, 1) := fx_ok (d := 2176) (i := 51) fD_34 eL_law_2212.2.2.2.2.2.2.2.2.2.2.2.1
theorem dL_law_2228 : decode cL_law 2228 = .ok (.iload 4, 2) := fx_ok (d := 2176) (i := 52) fD_34 eL_law_2212.2.2.2.2.2.2.2.2.2.2.2.2.1
theorem dL_law_2230 : decode cL_law 2230 = .ok (.iconst 1, 1) := fx_ok (d := 2176) (i := 54) fD_34 eL_law_2212.2.2.2.2.2.2.2.2.2.2.2.2.2.1
theorem dL_law_2231 : decode cL_law 2231 = .ok (.iadd, 1) := fx_ok (d := 2176) (i := 55) fD_34 eL_law_2212.2.2.2.2.2.2.2.2.2.2.2.2.2.2.1
theorem dL_law_2232 : decode cL_law 2232 = .ok (.iaload, 1) := fx_ok (d := 2176) (i := 56) fD_34 eL_law_2212.2.2.2.2.2.2.2.2.2.2.2.2.2.2.2
theorem eL_law_2233 : (fdecl fT_34 57 = some (.aload_n 0, 1)) ∧ (fdecl fT_34 58 = some (.iload 4, 2)) ∧ (fdecl fT_34 60 = some (.iconst 2, 1)) ∧ (fdecl fT_34 61 = some (.iadd, 1)) ∧ (fdecl fT_34 62 = some (.iaload, 1)) ∧ (fdecl fT_34 63 = some (.aload_n 0, 1)) ∧ (fdecl fT_35 0 = some (.iload 4, 2)) ∧ (fdecl fT_35 2 = some (.iconst 3, 1)) ∧ (fdecl fT_35 3 = some (.iadd, 1)) ∧ (fdecl fT_35 4 = some (.iaload, 1)) ∧ (fdecl fT_35 5 = some (.invokevirtual 291, 3)) ∧ (fdecl fT_35 8 = some (.istore 6, 2)) ∧ (fdecl fT_35 10 = some (.goto 70, 3)) ∧ (fdecl fT_35 13 = some (.aload_n 1, 1)) ∧ (fdecl fT_35 14 = some (.aload_n 0, 1)) ∧ (fdecl fT_35 15 = some (.iload 4, 2)) := by decide +kernel
theorem dL_law_2233 : decode cL_law 2233 = .ok (.aload_n 0, 1) := fx_ok (d := 2176) (i := 57) fD_34 eL_law_2233.1
theorem dL_law_2234 : decode cL_law 2234 = .ok (.iload 4, 2) := fx_ok (d := 2176) (i := 58) fD_34 eL_law_2233.2.1
theorem dL_law_2236 : decode cL_law 2236 = .ok (.iconst 2, 1) := fx_ok (d := 2176) (i := 60) fD_34 eL_law_2233.2.2.1
theorem dL_law_2237 : decode cL_law 2237 = .ok (.iadd, 1) := fx_ok (d := 2176) (i := 61) fD_34 eL_law_2233.2.2.2.1
theorem dL_law_2238 : decode cL_law 2238 = .ok (.iaload, 1) := fx_ok (d := 2176) (i := 62) fD_34 eL_law_2233.2.2.2.2.1
theorem dL_law_2239 : decode cL_law 2239 = .ok (.aload_n 0, 1) := fx_ok (d := 2176) (i := 63) fD_34 eL_law_2233.2.2.2.2.2.1
theorem dL_law_2240 : decode cL_law 2240 = .ok (.iload 4, 2) := fx_ok (d := 2240) (i := 0) fD_35 eL_law_2233.2.2.2.2.2.2.1
theorem dL_law_2242 : decode cL_law 2242 = .ok (.iconst 3, 1) := fx_ok (d := 2240) (i := 2) fD_35 eL_law_2233.2.2.2.2.2.2.2.1
theorem dL_law_2243 : decode cL_law 2243 = .ok (.iadd, 1) := fx_ok (d := 2240) (i := 3) fD_35 eL_law_2233.2.2.2.2.2.2.2.2.1
theorem dL_law_2244 : decode cL_law 2244 = .ok (.iaload, 1) := fx_ok (d := 2240) (i := 4) fD_35 eL_law_2233.2.2.2.2.2.2.2.2.2.1
theorem dL_law_2245 : decode cL_law 2245 = .ok (.invokevirtual 291, 3) := fx_ok (d := 2240) (i := 5) fD_35 eL_law_2233.2.2.2.2.2.2.2.2.2.2.1
theorem dL_law_2248 : decode cL_law 2248 = .ok (.istore 6, 2) := fx_ok (d := 2240) (i := 8) fD_35 eL_law_2233.2.2.2.2.2.2.2.2.2.2.2.1
theorem dL_law_2250 : decode cL_law 2250 = .ok (.goto 70, 3) := fx_ok (d := 2240) (i := 10) fD_35 eL_law_2233.2.2.2.2.2.2.2.2.2.2.2.2.1
theorem dL_law_2253 : decode cL_law 2253 = .ok (.aload_n 1, 1) := fx_ok (d := 2240) (i := 13) fD_35 eL_law_2233.2.2.2.2.2.2.2.2.2.2.2.2.2.1
theorem dL_law_2254 : decode cL_law 2254 = .ok (.aload_n 0, 1) := fx_ok (d := 2240) (i := 14) fD_35 eL_law_2233.2.2.2.2.2.2.2.2.2.2.2.2.2.2.1
theorem dL_law_2255 : decode cL_law 2255 = .ok (.iload 4, 2) := fx_ok (d := 2240) (i := 15) fD_35 eL_law_2233.2.2.2.2.2.2.2.2.2.2.2.2.2.2.2
theorem eL_law_2257 : (fdecl fT_35 17 = some (.iconst 1, 1)) ∧ (fdecl fT_35 18 = some (.iadd, 1)) ∧ (fdecl fT_35 19 = some (.iaload, 1)) ∧ (fdecl fT_35 20 = some (.aload_n 3, 1)) ∧ (fdecl fT_35 21 = some (.invokestatic 292, 3)) ∧ (fdecl fT_35 24 = some (.istore 5, 2)) ∧ (fdecl fT_35 26 = some (.aload_n 2, 1)) ∧ (fdecl fT_35 27 = some (.aload_n 0, 1)) ∧ (fdecl fT_35 28 = some (.iload 4, 2)) ∧ (fdecl fT_35 30 = some (.iconst 1, 1)) ∧ (fdecl fT_35 31 = some (.iadd, 1)) ∧ (fdecl fT_35 32 = some (.iaload, 1)) ∧ (fdecl fT_35 33 = some (.invokevirtual 294, 3)) ∧ (fdecl fT_35 36 = some (.istore 6, 2)) ∧ (fdecl fT_35 38 = some (.goto 42, 3)) ∧ (fdecl fT_35 41 = some (.aload_n 1, 1)) := by decide +kernel
theorem dL_law_2257 : decode cL_law 2257 = .ok (.iconst 1, 1) := fx_ok (d := 2240) (i := 17) fD_35 eL_law_2257.1
theorem dL_law_2258 : decode cL_law 2258 = .ok (.iadd, 1) := fx_ok (d := 2240) (i := 18) fD_35 eL_law_2257.2.1
theorem dL_law_2259 : decode cL_law 2259 = .ok (.iaload, 1) := fx_ok (d := 2240) (i := 19) fD_35 eL_law_2257.2.2.1
theorem dL_law_2260 : decode cL_law 2260 = .ok (.aload_n 3, 1) := fx_ok (d := 2240) (i := 20) fD_35 eL_law_2257.2.2.2.1
theorem dL_law_2261 : decode cL_law 2261 = .ok (.invokestatic 292, 3) := fx_ok (d := 2240) (i := 21) fD_35 eL_law_2257.2.2.2.2.1
theorem dL_law_2264 : decode cL_law 2264 = .ok (.istore 5, 2) := fx_ok (d := 2240) (i := 24) fD_35 eL_law_2257.2.2.2.2.2.1
theorem dL_law_2266 : decode cL_law 2266 = .ok (.aload_n 2, 1) := fx_ok (d := 2240) (i := 26) fD_35 eL_law_2257.2.2.2.2.2.2.1
theorem dL_law_2267 : decode cL_law 2267 = .ok (.aload_n 0, 1) := fx_ok (d := 2240) (i := 27) fD_35 eL_law_2257.2.2.2.2.2.2.2.1
theorem dL_law_2268 : decode cL_law 2268 = .ok (.iload 4, 2) := fx_ok (d := 2240) (i := 28) fD_35 eL_law_2257.2.2.2.2.2.2.2.2.1
theorem dL_law_2270 : decode cL_law 2270 = .ok (.iconst 1, 1) := fx_ok (d := 2240) (i := 30) fD_35 eL_law_2257.2.2.2.2.2.2.2.2.2.1
theorem dL_law_2271 : decode cL_law 2271 = .ok (.iadd, 1) := fx_ok (d := 2240) (i := 31) fD_35 eL_law_2257.2.2.2.2.2.2.2.2.2.2.1
theorem dL_law_2272 : decode cL_law 2272 = .ok (.iaload, 1) := fx_ok (d := 2240) (i := 32) fD_35 eL_law_2257.2.2.2.2.2.2.2.2.2.2.2.1
theorem dL_law_2273 : decode cL_law 2273 = .ok (.invokevirtual 294, 3) := fx_ok (d := 2240) (i := 33) fD_35 eL_law_2257.2.2.2.2.2.2.2.2.2.2.2.2.1
theorem dL_law_2276 : decode cL_law 2276 = .ok (.istore 6, 2) := fx_ok (d := 2240) (i := 36) fD_35 eL_law_2257.2.2.2.2.2.2.2.2.2.2.2.2.2.1
theorem dL_law_2278 : decode cL_law 2278 = .ok (.goto 42, 3) := fx_ok (d := 2240) (i := 38) fD_35 eL_law_2257.2.2.2.2.2.2.2.2.2.2.2.2.2.2.1
theorem dL_law_2281 : decode cL_law 2281 = .ok (.aload_n 1, 1) := fx_ok (d := 2240) (i := 41) fD_35 eL_law_2257.2.2.2.2.2.2.2.2.2.2.2.2.2.2.2
theorem eL_law_2282 : (fdecl fT_35 42 = some (.invokevirtual 295, 3)) ∧ (fdecl fT_35 45 = some (.pop, 1)) ∧ (fdecl fT_35 46 = some (.aload_n 2, 1)) ∧ (fdecl fT_35 47 = some (.invokevirtual 298, 3)) ∧ (fdecl fT_35 50 = some (.pop, 1)) ∧ (fdecl fT_35 51 = some (.goto 29, 3)) ∧ (fdecl fT_35 54 = some (.aload_n 1, 1)) ∧ (fdecl fT_35 55 = some (.invokevirtual 299, 3)) ∧ (fdecl fT_35 58 = some (.pop, 1)) ∧ (fdecl fT_35 59 = some (.aload_n 2, 1)) ∧ (fdecl fT_35 60 = some (.invokevirtual 303, 3)) ∧ (fdecl fT_35 63 = some (.pop, 1)) ∧ (fdecl fT_36 0 = some (.goto 16, 3)) ∧ (fdecl fT_36 3 = some (.aload_n 1, 1)) ∧ (fdecl fT_36 4 = some (.invokevirtual 304, 3)) ∧ (fdecl fT_36 7 = some (.pop2, 1)) := by decide +kernel
theorem dL_law_2282 : decode cL_law 2282 = .ok (.invokevirtual 295, 3) := fx_ok (d := 2240) (i := 42) fD_35 eL_law_2282.1
theorem dL_law_2285 : decode cL_law 2285 = .ok (.pop, 1) := fx_ok (d := 2240) (i := 45) fD_35 eL_law_2282.2.1
theorem dL_law_2286 : decode cL_law 2286 = .ok (.aload_n 2, 1) := fx_ok (d := 2240) (i := 46) fD_35 eL_law_2282.2.2.1
theorem dL_law_2287 : decode cL_law 2287 = .ok (.invokevirtual 298, 3) := fx_ok (d := 2240) (i := 47) fD_35 eL_law_2282.2.2.2.1
theorem dL_law_2290 : decode cL_law 2290 = .ok (.pop, 1) := fx_ok (d := 2240) (i := 50) fD_35 eL_law_2282.2.2.2.2.1
theorem dL_law_2291 : decode cL_law 2291 = .ok (.goto 29, 3) := fx_ok (d := 2240) (i := 51) fD_35 eL_law_2282.2.2.2.2.2.1
theorem dL_law_2294 : decode cL_law 2294 = .ok (.aload_n 1, 1) := fx_ok (d := 2240) (i := 54) fD_35 eL_law_2282.2.2.2.2.2.2.1
theorem dL_law_2295 : decode cL_law 2295 = .ok (.invokevirtual 299, 3) := fx_ok (d := 2240) (i := 55) fD_35 eL_law_2282.2.2.2.2.2.2.2.1
theorem dL_law_2298 : decode cL_law 2298 = .ok (.pop, 1) := fx_ok (d := 2240) (i := 58) fD_35 eL_law_2282.2.2.2.2.2.2.2.2.1
theorem dL_law_2299 : decode cL_law 2299 = .ok (.aload_n 2, 1) := fx_ok (d := 2240) (i := 59) fD_35 eL_law_2282.2.2.2.2.2.2.2.2.2.1
theorem dL_law_2300 : decode cL_law 2300 = .ok (.invokevirtual 303, 3) := fx_ok (d := 2240) (i := 60) fD_35 eL_law_2282.2.2.2.2.2.2.2.2.2.2.1
theorem dL_law_2303 : decode cL_law 2303 = .ok (.pop, 1) := fx_ok (d := 2240) (i := 63) fD_35 eL_law_2282.2.2.2.2.2.2.2.2.2.2.2.1
theorem dL_law_2304 : decode cL_law 2304 = .ok (.goto 16, 3) := fx_ok (d := 2304) (i := 0) fD_36 eL_law_2282.2.2.2.2.2.2.2.2.2.2.2.2.1
theorem dL_law_2307 : decode cL_law 2307 = .ok (.aload_n 1, 1) := fx_ok (d := 2304) (i := 3) fD_36 eL_law_2282.2.2.2.2.2.2.2.2.2.2.2.2.2.1
theorem dL_law_2308 : decode cL_law 2308 = .ok (.invokevirtual 304, 3) := fx_ok (d := 2304) (i := 4) fD_36 eL_law_2282.2.2.2.2.2.2.2.2.2.2.2.2.2.2.1
theorem dL_law_2311 : decode cL_law 2311 = .ok (.pop2, 1) := fx_ok (d := 2304) (i := 7) fD_36 eL_law_2282.2.2.2.2.2.2.2.2.2.2.2.2.2.2.2
theorem eL_law_2312 : (fdecl fT_36 8 = some (.aload_n 2, 1)) ∧ (fdecl fT_36 9 = some (.invokevirtual 308, 3)) ∧ (fdecl fT_36 12 = some (.pop2, 1)) ∧ (fdecl fT_36 13 = some (.goto 3, 3)) ∧ (fdecl fT_36 19 = some (.goto (-2296), 3)) := by decide +kernel
theorem dL_law_2312 : decode cL_law 2312 = .ok (.aload_n 2, 1) := fx_ok (d := 2304) (i := 8) fD_36 eL_law_2312.1
theorem dL_law_2313 : decode cL_law 2313 = .ok (.invokevirtual 308, 3) := fx_ok (d := 2304) (i := 9) fD_36 eL_law_2312.2.1
theorem dL_law_2316 : decode cL_law 2316 = .ok (.pop2, 1) := fx_ok (d := 2304) (i := 12) fD_36 eL_law_2312.2.2.1
theorem dL_law_2317 : decode cL_law 2317 = .ok (.goto 3, 3) := fx_ok (d := 2304) (i := 13) fD_36 eL_law_2312.2.2.2.1
theorem dL_law_2323 : decode cL_law 2323 = .ok (.goto (-2296), 3) := fx_ok (d := 2304) (i := 19) fD_36 eL_law_2312.2.2.2.2
theorem dL_law_31 : decode cL_law 31 = .ok (.bipush 7, 2) := by decide +kernel
theorem dL_law_41 : decode cL_law 41 = .ok (.bipush 63, 2) := by decide +kernel
theorem dL_law_44 : decode cL_law 44 = .ok (.tableswitch 2276 0 42 #[188, 228, 280, 332, 408, 448, 516, 580, 644, 684, 724, 792, 872, 956, 1024, 1064, 1092, 1132, 1222, 1286, 1338, 1390, 1430, 1470, 1522, 1562, 1590, 1603, 1660, 1673, 1713, 1765, 1805, 1897, 1949, 1989, 2065, 2117, 2157, 2209, 2237, 2250, 2263], 188) := by decide +kernel
theorem dL_law_1210 : decode cL_law 1210 = .ok (.bipush 6, 2) := by decide +kernel
theorem dL_law_1254 : decode cL_law 1254 = .ok (.bipush 6, 2) := by decide +kernel
theorem dL_law_2320 : decode cL_law 2320 = .ok (.iinc 4 7, 3) := by decide +kernel
theorem dL_law_2326 : decode cL_law 2326 = .ok (.iconst 1, 1) := by decide +kernel
theorem dL_law_2327 : decode cL_law 2327 = .ok (.ireturn, 1) := by decide +kernel
