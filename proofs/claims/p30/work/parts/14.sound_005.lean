set_option maxHeartbeats 800000 in
set_option maxRecDepth 100000 in
theorem c_X3_isViewSound (l : Launch) (D : va_G) (y : Nat → ClassId) (L : List Nat) (F : Nat → va_E) (O : Nat → Prop) (G : CG) (σ : CS) (v : Int) (hC : CP y L F O G σ) (hv : 0 ≤ v ∧ v < 2) (hi : zvw σ v < zn σ) (hvl : -900 ≤ zvl σ v ∧ zvl σ v ≤ 900) (hvh : -900 ≤ zvh σ v ∧ zvh σ v ≤ 900) (hk : -1000000 ≤ (zst σ (zvw σ v)).1 ∧ (zst σ (zvw σ v)).1 ≤ 1000000) : Met l yX3_isViewSound (.code yX3_isViewSound cX3_isViewSound 2 (some .boolean) :: Tt) ({ frames := 4, cells := 0, slots := 0, locals := 95 }) (PcR D y L F [.ref ((gva G v))]) (cS (fun r => r = vS σ v)) 0 0 (fun _ => False) := by
  have cb_ := cntP_b (zst σ (zvw σ v)).2.2 (lo := zvl σ v) (hi := zvh σ v) (by omega) (by omega)
  refine q_ofR (lv := [(0, .ref ((gva G v)))]) (by decide) (Nat.le_of_ble_eq_true rfl) rfl (fun p e s m below meth c C0 hret hlk hP ls hl => ?_)
  have hx := C0.1.1
  have hb := C0.1.2.1
  have hts := C0.1.2.2.2.2
  refine lv_aload_n hx hb dX3_isViewSound_0 rfl (lv_at hl 0 rfl) ?_
  refine q_get C0 iX1 hP (CP_v hC hv).1 (CP_v hC hv).2 rfl 0 (by decide) flX3_178 rfl rfl dX3_isViewSound_1 ?_
  refine lv_aload_n hx hb dX3_isViewSound_4 rfl (lv_at hl 0 rfl) ?_
  refine q_get C0 iX1 hP (CP_v hC hv).1 (CP_v hC hv).2 rfl 1 (by decide) flX3_182 rfl rfl dX3_isViewSound_5 ?_
  refine lv_aload_n hx hb dX3_isViewSound_8 rfl (lv_at hl 0 rfl) ?_
  refine q_get C0 iX1 hP (CP_v hC hv).1 (CP_v hC hv).2 rfl 2 (by decide) flX3_185 rfl rfl dX3_isViewSound_9 ?_
  refine q_vS C0 lX3_188 (c_X0_countOfPart l D y L F (grh G (zvw σ v)) (grw G (zvw σ v)) (zod σ (zvw σ v)) ((zst σ (zvw σ v)).1) ((zst σ (zvw σ v)).2.1) ((zst σ (zvw σ v)).2.2) (zvl σ v) (zvh σ v) (CP_r hC hi) (by omega) (by omega)) ⟨rfl, rfl⟩ rfl hP (CP_r hC hi).1 (CP_r hC hi).2.1 rfl rfl rfl hl rfl (Nat.le_of_ble_eq_true rfl) dX3_isViewSound_12 ⟨Nat.zero_le _, Nat.zero_le _⟩ (fun r1 e_r1 => ?_)
  subst e_r1
  refine lv_istore_n (lv' := [(1, .int (iI ((cntP ((zst σ (zvw σ v)).2.2) (zvl σ v) (zvh σ v))))), (0, .ref ((gva G v)))]) hx hb dX3_isViewSound_15 rfl hl (by decide) rfl (fun ls hl => ?_)
  refine lv_iload_n hx hb dX3_isViewSound_16 rfl (lv_at hl 0 rfl) ?_
  refine lv_aload_n hx hb dX3_isViewSound_17 rfl (lv_at hl 1 rfl) ?_
  refine q_get C0 iX1 hP (CP_v hC hv).1 (CP_v hC hv).2 rfl 0 (by decide) flX3_178 rfl rfl dX3_isViewSound_18 ?_
  refine q_get C0 iX0 hP (CP_r hC hi).1 (CP_r hC hi).2.1 rfl 2 (by decide) flX3_49 rfl rfl dX3_isViewSound_21 ?_
  refine q_icmp_gt hx hb dX3_isViewSound_24 (tgt := 50) (by decide) (by omega) (by omega) (fun c2 => ?_) (fun c2 => ?_)
  · refine q_iconst hx hb dX3_isViewSound_50 ?_
    exact q_iretS C0 hret hlk dX3_isViewSound_51 (by decide) (by unfold vS; (repeat' split) <;> first | rfl | omega | (exfalso; omega))
  · refine lv_aload_n hx hb dX3_isViewSound_27 rfl (lv_at hl 1 rfl) ?_
    refine q_get C0 iX1 hP (CP_v hC hv).1 (CP_v hC hv).2 rfl 0 (by decide) flX3_178 rfl rfl dX3_isViewSound_28 ?_
    refine lv_aload_n hx hb dX3_isViewSound_31 rfl (lv_at hl 1 rfl) ?_
    refine q_get C0 iX1 hP (CP_v hC hv).1 (CP_v hC hv).2 rfl 1 (by decide) flX3_182 rfl rfl dX3_isViewSound_32 ?_
    refine lv_aload_n hx hb dX3_isViewSound_35 rfl (lv_at hl 1 rfl) ?_
    refine q_get C0 iX1 hP (CP_v hC hv).1 (CP_v hC hv).2 rfl 2 (by decide) flX3_185 rfl rfl dX3_isViewSound_36 ?_
    refine lv_iload_n hx hb dX3_isViewSound_39 rfl (lv_at hl 0 rfl) ?_
    refine q_sS C0 lX3_306 (c_X3_isToldInOrder l D y L F (grh G (zvw σ v)) (grw G (zvw σ v)) (zod σ (zvw σ v)) ((zst σ (zvw σ v)).1) ((zst σ (zvw σ v)).2.1) ((zst σ (zvw σ v)).2.2) (zvl σ v) (zvh σ v) (cntP ((zst σ (zvw σ v)).2.2) (zvl σ v) (zvh σ v)) (CP_r hC hi) (by omega) (by omega) (by omega)) ⟨rfl, rfl⟩ rfl hP rfl hl rfl (Nat.le_of_ble_eq_true rfl) dX3_isViewSound_40 ⟨Nat.zero_le _, Nat.zero_le _⟩ (fun r3 e_r3 => ?_)
    subst e_r3
    have b_4 := inOrd_b (zod σ (zvw σ v)) ((zst σ (zvw σ v)).2.2) (zvl σ v) (zvh σ v) (cntP ((zst σ (zvw σ v)).2.2) (zvl σ v) (zvh σ v))
    refine q_if_eq hx hb dX3_isViewSound_43 (tgt := 50) (by decide) (by omega) (fun c5 => ?_) (fun c5 => ?_)
    · refine q_iconst hx hb dX3_isViewSound_50 ?_
      exact q_iretS C0 hret hlk dX3_isViewSound_51 (by decide) (by unfold vS; (repeat' split) <;> first | rfl | omega | (exfalso; omega))
    · refine q_iconst hx hb dX3_isViewSound_46 ?_
      refine lv_goto (tgt := 51) hx hb dX3_isViewSound_47 (by decide) ?_
      exact q_iretS C0 hret hlk dX3_isViewSound_51 (by decide) (by unfold vS; (repeat' split) <;> first | rfl | omega | (exfalso; omega))
