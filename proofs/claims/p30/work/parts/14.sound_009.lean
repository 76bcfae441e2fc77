set_option maxHeartbeats 800000 in
set_option maxRecDepth 100000 in
theorem c_X3_digestView (l : Launch) (D : va_G) (y : Nat → ClassId) (L : List Nat) (F : Nat → va_E) (O : Nat → Prop) (G : CG) (σ : CS) (v : Int) (s0 : Int64) (hC : CP y L F O G σ) (hv : 0 ≤ v ∧ v < 2) (hi : zvw σ v < zn σ) (hvl : -900 ≤ zvl σ v ∧ zvl σ v ≤ 900) (hvh : -900 ≤ zvh σ v ∧ zvh σ v ≤ 900) : Met l yX3_digestView (.code yX3_digestView cX3_digestView 6 (some .long) :: Tt) ({ frames := 3, cells := 0, slots := 0, locals := 67 }) (PcR D y L F [.long (s0), .ref ((gva G v))]) (cSl (fun r => r = dgV σ v s0)) 0 0 (fun _ => False) := by
  refine q_ofR (lv := [(0, .long (s0)), (2, .ref ((gva G v)))]) (by decide) (Nat.le_of_ble_eq_true rfl) rfl (fun p e s m below meth c C0 hret hlk hP ls hl => ?_)
  have hx := C0.1.1
  have hb := C0.1.2.1
  have hts := C0.1.2.2.2.2
  refine lv_aload_n hx hb dX3_digestView_0 rfl (lv_at hl 1 rfl) ?_
  refine q_get C0 iX1 hP (CP_v hC hv).1 (CP_v hC hv).2 rfl 0 (by decide) flX3_178 rfl rfl dX3_digestView_1 ?_
  refine lv_astore_n (lv' := [(3, .ref ((grh G (zvw σ v)))), (0, .long (s0)), (2, .ref ((gva G v)))]) hx hb dX3_digestView_4 rfl hl (by decide) rfl (fun ls hl => ?_)
  refine lv_lload_n hx hb dX3_digestView_5 rfl (lv_at hl 1 rfl) ?_
  refine lv_aload_n hx hb dX3_digestView_6 rfl (lv_at hl 0 rfl) ?_
  refine lv_aload_n hx hb dX3_digestView_7 rfl (lv_at hl 2 rfl) ?_
  refine q_get C0 iX1 hP (CP_v hC hv).1 (CP_v hC hv).2 rfl 1 (by decide) flX3_182 rfl rfl dX3_digestView_8 ?_
  refine lv_aload_n hx hb dX3_digestView_11 rfl (lv_at hl 2 rfl) ?_
  refine q_get C0 iX1 hP (CP_v hC hv).1 (CP_v hC hv).2 rfl 2 (by decide) flX3_185 rfl rfl dX3_digestView_12 ?_
  refine q_vS C0 lX3_188 (c_X0_countOfPart l D y L F (grh G (zvw σ v)) (grw G (zvw σ v)) (zod σ (zvw σ v)) ((zst σ (zvw σ v)).1) ((zst σ (zvw σ v)).2.1) ((zst σ (zvw σ v)).2.2) (zvl σ v) (zvh σ v) (CP_r hC hi) (by omega) (by omega)) ⟨rfl, rfl⟩ rfl hP (CP_r hC hi).1 (CP_r hC hi).2.1 rfl rfl rfl hl rfl (Nat.le_of_ble_eq_true rfl) dX3_digestView_15 ⟨Nat.zero_le _, Nat.zero_le _⟩ (fun r1 e_r1 => ?_)
  subst e_r1
  refine q_sSl C0 lX3_261 (c_X3_mixed l D y L F s0 (cntP ((zst σ (zvw σ v)).2.2) (zvl σ v) (zvh σ v))) ⟨rfl, rfl⟩ rfl hP rfl hl rfl (Nat.le_of_ble_eq_true rfl) dX3_digestView_18 ⟨Nat.zero_le _, Nat.zero_le _⟩ (fun r2 e_r2 => ?_)
  subst e_r2
  refine lv_lstore (lv' := [(4, .long ((mxd s0 (cntP ((zst σ (zvw σ v)).2.2) (zvl σ v) (zvh σ v))))), (3, .ref ((grh G (zvw σ v)))), (0, .long (s0)), (2, .ref ((gva G v)))]) hx hb dX3_digestView_21 hl (by decide) rfl (fun ls hl => ?_)
  refine lv_lload hx hb dX3_digestView_23 (lv_at hl 0 rfl) ?_
  refine lv_aload_n hx hb dX3_digestView_25 rfl (lv_at hl 1 rfl) ?_
  refine lv_aload_n hx hb dX3_digestView_26 rfl (lv_at hl 1 rfl) ?_
  refine lv_aload_n hx hb dX3_digestView_27 rfl (lv_at hl 3 rfl) ?_
  refine q_get C0 iX1 hP (CP_v hC hv).1 (CP_v hC hv).2 rfl 1 (by decide) flX3_182 rfl rfl dX3_digestView_28 ?_
  refine lv_aload_n hx hb dX3_digestView_31 rfl (lv_at hl 3 rfl) ?_
  refine q_get C0 iX1 hP (CP_v hC hv).1 (CP_v hC hv).2 rfl 2 (by decide) flX3_185 rfl rfl dX3_digestView_32 ?_
  refine q_iconst hx hb dX3_digestView_35 ?_
  refine q_vS C0 lX3_135 (c_X0_endOfPart l D y L F (grh G (zvw σ v)) (grw G (zvw σ v)) (zod σ (zvw σ v)) ((zst σ (zvw σ v)).1) ((zst σ (zvw σ v)).2.1) ((zst σ (zvw σ v)).2.2) (zvl σ v) (zvh σ v) 0 (CP_r hC hi) (by omega) (by omega) (by omega)) ⟨rfl, rfl⟩ rfl hP (CP_r hC hi).1 (CP_r hC hi).2.1 rfl rfl rfl hl rfl (Nat.le_of_ble_eq_true rfl) dX3_digestView_36 ⟨Nat.zero_le _, Nat.zero_le _⟩ (fun r3 e_r3 => ?_)
  subst e_r3
  have b_4 := endP_r ((zst σ (zvw σ v)).2.2) (zvl σ v) (zvh σ v) 0
  refine q_vS C0 lX3_132 (c_X0_keyOf l D y L F (grh G (zvw σ v)) (grw G (zvw σ v)) (zod σ (zvw σ v)) ((zst σ (zvw σ v)).1) ((zst σ (zvw σ v)).2.1) ((zst σ (zvw σ v)).2.2) (endP ((zst σ (zvw σ v)).2.2) (zvl σ v) (zvh σ v) 0) (CP_r hC hi) (by omega)) ⟨rfl, rfl⟩ rfl hP (CP_r hC hi).1 (CP_r hC hi).2.1 rfl rfl rfl hl rfl (Nat.le_of_ble_eq_true rfl) dX3_digestView_39 ⟨Nat.zero_le _, Nat.zero_le _⟩ (fun r5 e_r5 => ?_)
  subst e_r5
  have b_6 := @keyR_b (zod σ (zvw σ v)) (endP ((zst σ (zvw σ v)).2.2) (zvl σ v) (zvh σ v) 0) (by omega)
  refine q_sSl C0 lX3_261 (c_X3_mixed l D y L F (mxd s0 (cntP ((zst σ (zvw σ v)).2.2) (zvl σ v) (zvh σ v))) (keyR (zod σ (zvw σ v)) (endP ((zst σ (zvw σ v)).2.2) (zvl σ v) (zvh σ v) 0))) ⟨rfl, rfl⟩ rfl hP rfl hl rfl (Nat.le_of_ble_eq_true rfl) dX3_digestView_42 ⟨Nat.zero_le _, Nat.zero_le _⟩ (fun r7 e_r7 => ?_)
  subst e_r7
  refine lv_lstore (lv' := [(4, .long ((mxd (mxd s0 (cntP ((zst σ (zvw σ v)).2.2) (zvl σ v) (zvh σ v))) (keyR (zod σ (zvw σ v)) (endP ((zst σ (zvw σ v)).2.2) (zvl σ v) (zvh σ v) 0))))), (3, .ref ((grh G (zvw σ v)))), (0, .long (s0)), (2, .ref ((gva G v)))]) hx hb dX3_digestView_45 hl (by decide) rfl (fun ls hl => ?_)
  refine lv_lload hx hb dX3_digestView_47 (lv_at hl 0 rfl) ?_
  refine lv_aload_n hx hb dX3_digestView_49 rfl (lv_at hl 1 rfl) ?_
  refine lv_aload_n hx hb dX3_digestView_50 rfl (lv_at hl 1 rfl) ?_
  refine lv_aload_n hx hb dX3_digestView_51 rfl (lv_at hl 3 rfl) ?_
  refine q_get C0 iX1 hP (CP_v hC hv).1 (CP_v hC hv).2 rfl 1 (by decide) flX3_182 rfl rfl dX3_digestView_52 ?_
  refine lv_aload_n hx hb dX3_digestView_55 rfl (lv_at hl 3 rfl) ?_
  refine q_get C0 iX1 hP (CP_v hC hv).1 (CP_v hC hv).2 rfl 2 (by decide) flX3_185 rfl rfl dX3_digestView_56 ?_
  refine q_iconst hx hb dX3_digestView_59 ?_
  refine q_vS C0 lX3_135 (c_X0_endOfPart l D y L F (grh G (zvw σ v)) (grw G (zvw σ v)) (zod σ (zvw σ v)) ((zst σ (zvw σ v)).1) ((zst σ (zvw σ v)).2.1) ((zst σ (zvw σ v)).2.2) (zvl σ v) (zvh σ v) 1 (CP_r hC hi) (by omega) (by omega) (by omega)) ⟨rfl, rfl⟩ rfl hP (CP_r hC hi).1 (CP_r hC hi).2.1 rfl rfl rfl hl rfl (Nat.le_of_ble_eq_true rfl) dX3_digestView_60 ⟨Nat.zero_le _, Nat.zero_le _⟩ (fun r8 e_r8 => ?_)
  subst e_r8
  have b_9 := endP_r ((zst σ (zvw σ v)).2.2) (zvl σ v) (zvh σ v) 1
  refine q_vS C0 lX3_132 (c_X0_keyOf l D y L F (grh G (zvw σ v)) (grw G (zvw σ v)) (zod σ (zvw σ v)) ((zst σ (zvw σ v)).1) ((zst σ (zvw σ v)).2.1) ((zst σ (zvw σ v)).2.2) (endP ((zst σ (zvw σ v)).2.2) (zvl σ v) (zvh σ v) 1) (CP_r hC hi) (by omega)) ⟨rfl, rfl⟩ rfl hP (CP_r hC hi).1 (CP_r hC hi).2.1 rfl rfl rfl hl rfl (Nat.le_of_ble_eq_true rfl) dX3_digestView_63 ⟨Nat.zero_le _, Nat.zero_le _⟩ (fun r10 e_r10 => ?_)
  subst e_r10
  have b_11 := @keyR_b (zod σ (zvw σ v)) (endP ((zst σ (zvw σ v)).2.2) (zvl σ v) (zvh σ v) 1) (by omega)
  refine q_sSl C0 lX3_261 (c_X3_mixed l D y L F (mxd (mxd s0 (cntP ((zst σ (zvw σ v)).2.2) (zvl σ v) (zvh σ v))) (keyR (zod σ (zvw σ v)) (endP ((zst σ (zvw σ v)).2.2) (zvl σ v) (zvh σ v) 0))) (keyR (zod σ (zvw σ v)) (endP ((zst σ (zvw σ v)).2.2) (zvl σ v) (zvh σ v) 1))) ⟨rfl, rfl⟩ rfl hP rfl hl rfl (Nat.le_of_ble_eq_true rfl) dX3_digestView_66 ⟨Nat.zero_le _, Nat.zero_le _⟩ (fun r12 e_r12 => ?_)
  subst e_r12
  refine lv_lstore (lv' := [(4, .long ((mxd (mxd (mxd s0 (cntP ((zst σ (zvw σ v)).2.2) (zvl σ v) (zvh σ v))) (keyR (zod σ (zvw σ v)) (endP ((zst σ (zvw σ v)).2.2) (zvl σ v) (zvh σ v) 0))) (keyR (zod σ (zvw σ v)) (endP ((zst σ (zvw σ v)).2.2) (zvl σ v) (zvh σ v) 1))))), (3, .ref ((grh G (zvw σ v)))), (0, .long (s0)), (2, .ref ((gva G v)))]) hx hb dX3_digestView_69 hl (by decide) rfl (fun ls hl => ?_)
  refine lv_lload hx hb dX3_digestView_71 (lv_at hl 0 rfl) ?_
  refine lv_aload_n hx hb dX3_digestView_73 rfl (lv_at hl 1 rfl) ?_
  refine lv_aload_n hx hb dX3_digestView_74 rfl (lv_at hl 3 rfl) ?_
  refine q_get C0 iX1 hP (CP_v hC hv).1 (CP_v hC hv).2 rfl 1 (by decide) flX3_182 rfl rfl dX3_digestView_75 ?_
  refine lv_aload_n hx hb dX3_digestView_78 rfl (lv_at hl 3 rfl) ?_
  refine q_get C0 iX1 hP (CP_v hC hv).1 (CP_v hC hv).2 rfl 2 (by decide) flX3_185 rfl rfl dX3_digestView_79 ?_
  refine q_vS C0 lX3_194 (c_X0_worthsOfPart l D y L F (grh G (zvw σ v)) (grw G (zvw σ v)) (zod σ (zvw σ v)) ((zst σ (zvw σ v)).1) ((zst σ (zvw σ v)).2.1) ((zst σ (zvw σ v)).2.2) (zvl σ v) (zvh σ v) (CP_r hC hi) (by omega) (by omega)) ⟨rfl, rfl⟩ rfl hP (CP_r hC hi).1 (CP_r hC hi).2.1 rfl rfl rfl hl rfl (Nat.le_of_ble_eq_true rfl) dX3_digestView_82 ⟨Nat.zero_le _, Nat.zero_le _⟩ (fun r13 e_r13 => ?_)
  subst e_r13
  refine q_sSl C0 lX3_261 (c_X3_mixed l D y L F (mxd (mxd (mxd s0 (cntP ((zst σ (zvw σ v)).2.2) (zvl σ v) (zvh σ v))) (keyR (zod σ (zvw σ v)) (endP ((zst σ (zvw σ v)).2.2) (zvl σ v) (zvh σ v) 0))) (keyR (zod σ (zvw σ v)) (endP ((zst σ (zvw σ v)).2.2) (zvl σ v) (zvh σ v) 1))) (worP ((zst σ (zvw σ v)).2.2) (zvl σ v) (zvh σ v))) ⟨rfl, rfl⟩ rfl hP rfl hl rfl (Nat.le_of_ble_eq_true rfl) dX3_digestView_85 ⟨Nat.zero_le _, Nat.zero_le _⟩ (fun r14 e_r14 => ?_)
  subst e_r14
  exact q_lretS C0 hret hlk dX3_digestView_88 (rfl)
