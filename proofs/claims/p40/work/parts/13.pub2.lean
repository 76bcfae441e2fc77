set_option maxHeartbeats 800000 in
set_option maxRecDepth 100000 in
theorem c_X3_end (l : Launch) (hfl : l.stackTraces = false) (D : va_G) (y : Nat → ClassId) (L : List Nat) (F : Nat → va_E) (sz : Nat) (O : Nat → Prop) (G : CG) (σ : CS) (xb : Int) (xw : Int) (xv : Int) (hC : CP y L F O G σ) (hW : CW σ) (h_xb : -2147483648 ≤ xb ∧ xb ≤ 2147483647) (h_xw : 0 ≤ xw ∧ xw ≤ 1) (h_xv : 0 ≤ xv ∧ xv ≤ 1) : vx_Met l yX3_end (.code yX3_end cX3_end 6 (some .int) :: Tt) ({ frames := 7, cells := 8, slots := 60, locals := 103 }) (PcX D y L F sz [.ref ((gbg G)), .int (iI xb), .int (iI xw), .int (iI xv)]) (cMi D (AL L sz) (fun r L1 F1 => ((0 ≤ xb ∧ xb ≤ 3)) ∧ (True) ∧ r = kR_end σ xb xw xv ∧ ∃ O1 G1, CP y L1 F1 O1 G1 (kS_end σ xb xw xv) ∧ gbg G1 = gbg G ∧ Ext O O1 L L1 F F1)) (XC (pX ((0 ≤ xb ∧ xb ≤ 3)) (True))) 8 60 (AL L sz) := by
  have hO : OE O F F := fun _ _ => rfl
  have hw4 := hW.2.2.2.2.2.1
  have hw5 := hW.2.2.2.2.2.2.1
  have hw6 := hW.2.2.2.2.2.2.2.2.2.2
  refine q_ofX (lv := [(0, .ref ((gbg G))), (1, .int (iI xb)), (2, .int (iI xw)), (3, .int (iI xv))]) (by decide) (Nat.le_of_ble_eq_true rfl) rfl (fun p e s m below meth c C0 hret hlk hout hsz hA hP hD hS hX ls hl => ?_)
  subst hsz
  have hx := C0.1.1
  have hb := C0.1.2.1
  have hts := C0.1.2.2.2.2
  refine lv_aload_n hx hb dX3_end_0 rfl (lv_at hl 0 rfl) ?_
  refine lv_iload_n hx hb dX3_end_1 rfl (lv_at hl 1 rfl) ?_
  refine q_vXa C0 lX3_37 (c_X3_bookAt l hfl D y L F _ O G σ xb hC (by omega)) ⟨rfl, rfl⟩ rfl hP hD hX hout hlk hC.1.1 hC.1.2 rfl rfl rfl hl rfl (Nat.le_of_ble_eq_true rfl) dX3_end_2 ⟨Nat.le_of_ble_eq_true rfl, Nat.le_of_ble_eq_true rfl⟩ ⟨Nat.le_of_ble_eq_true rfl, Nat.le_of_ble_eq_true rfl⟩ (fun E h => Or.inl ⟨h.1, fun q => h.2 (by omega)⟩) (fun r1 e_r1 => ?_)
  refine W.widen (k := 1) (n := 6) (Nat.le_of_ble_eq_true rfl) (Nat.le_of_ble_eq_true rfl) ?_
  obtain ⟨hb_r1, e_r1⟩ := e_r1
  subst e_r1
  refine lv_astore (lv' := [(4, .ref ((grh G (zbk σ xb)))), (0, .ref ((gbg G))), (1, .int (iI xb)), (2, .int (iI xw)), (3, .int (iI xv))]) hx hb dX3_end_5 hl (by decide) rfl (fun ls hl => ?_)
  refine lv_aload hx hb dX3_end_7 (lv_at hl 0 rfl) ?_
  refine q_iconst hx hb dX3_end_9 ?_
  refine q_bipush hx hb dX3_end_10 (by decide) ?_
  refine lv_iload_n hx hb dX3_end_12 rfl (lv_at hl 3 rfl) ?_
  refine q_vS C0 lX3_135 (c_X0_endOfPart l D y L F (grh G (zbk σ xb)) (grw G (zbk σ xb)) (zod σ (zbk σ xb)) ((zst σ (zbk σ xb)).1) ((zst σ (zbk σ xb)).2.1) ((zst σ (zbk σ xb)).2.2) 0 99 xw (CP_r hC (hW.1 xb)) (by omega) (by omega) (by omega)) ⟨rfl, rfl⟩ rfl hP (CP_r hC (hW.1 xb)).1 (CP_r hC (hW.1 xb)).2.1 rfl rfl rfl hl rfl (Nat.le_of_ble_eq_true rfl) dX3_end_13 ⟨Nat.le_of_ble_eq_true rfl, Nat.le_of_ble_eq_true rfl⟩ (fun r2 e_r2 => ?_)
  subst e_r2
  have b_3 := endP_r ((zst σ (zbk σ xb)).2.2) 0 99 xw
  refine lv_istore (lv' := [(5, .int (iI ((endP ((zst σ (zbk σ xb)).2.2) 0 99 xw)))), (4, .ref ((grh G (zbk σ xb)))), (0, .ref ((gbg G))), (1, .int (iI xb)), (2, .int (iI xw)), (3, .int (iI xv))]) hx hb dX3_end_16 hl (by decide) rfl (fun ls hl => ?_)
  refine lv_iload_n hx hb dX3_end_18 rfl (lv_at hl 5 rfl) ?_
  refine q_if_eq hx hb dX3_end_19 (tgt := 30) (by decide) (by omega) (fun c4 => ?_) (fun c4 => ?_)
  · refine lv_aload_n hx hb dX3_end_30 rfl (lv_at hl 2 rfl) ?_
    refine lv_aload hx hb dX3_end_31 (lv_at hl 1 rfl) ?_
    refine lv_iload hx hb dX3_end_33 (lv_at hl 0 rfl) ?_
    refine q_vMi C0 lX3_139 (c_X3_keyOrRefuse l D y L F _ O G σ (zbk σ xb) (endP ((zst σ (zbk σ xb)).2.2) 0 99 xw) hC (hW.1 xb) (by omega)) ⟨rfl, rfl⟩ rfl hP hD hS hA hC.1.1 hC.1.2 rfl rfl rfl hl rfl (Nat.le_of_ble_eq_true rfl) dX3_end_35 ⟨Nat.le_of_ble_eq_true rfl, Nat.le_of_ble_eq_true rfl⟩ (fun r5 H locs L6 F6 hP hD hS hz6 hp6 => ?_)
    obtain ⟨eL, hC, er, hO1⟩ := hp6
    subst eL
    subst er
    have hO := hO.tr hO1
    refine W.widen (k := 8) (n := 60) (Nat.le_of_ble_eq_true rfl) (Nat.le_of_ble_eq_true rfl) ?_
    exact vx_ret (q_retMi C0 hret rfl hlk dX3_end_38 hP hD hS (⟨by first | trivial | omega, by first | trivial | omega, (by unfold kR_end; (repeat' split) <;> first | rfl | (exfalso; omega)), O, G, CP_eq hC (by unfold kS_end; (repeat' split) <;> first | rfl | (exfalso; omega)), rfl, Ext0 hO⟩))
  · refine lv_aload hx hb dX3_end_22 (lv_at hl 1 rfl) ?_
    refine lv_iload hx hb dX3_end_24 (lv_at hl 0 rfl) ?_
    refine q_vS C0 lX3_129 (c_X0_pairAt l D y L F (grh G (zbk σ xb)) (grw G (zbk σ xb)) (zod σ (zbk σ xb)) ((zst σ (zbk σ xb)).1) ((zst σ (zbk σ xb)).2.1) ((zst σ (zbk σ xb)).2.2) (endP ((zst σ (zbk σ xb)).2.2) 0 99 xw) (CP_r hC (hW.1 xb)) (by omega)) ⟨rfl, rfl⟩ rfl hP (CP_r hC (hW.1 xb)).1 (CP_r hC (hW.1 xb)).2.1 rfl rfl rfl hl rfl (Nat.le_of_ble_eq_true rfl) dX3_end_26 ⟨Nat.le_of_ble_eq_true rfl, Nat.le_of_ble_eq_true rfl⟩ (fun r7 e_r7 => ?_)
    subst e_r7
    refine W.widen (k := 8) (n := 60) (Nat.le_of_ble_eq_true rfl) (Nat.le_of_ble_eq_true rfl) ?_
    exact vx_ret (q_retMi C0 hret rfl hlk dX3_end_29 hP hD hS (⟨by first | trivial | omega, by first | trivial | omega, (by unfold kR_end; (repeat' split) <;> first | rfl | (exfalso; omega)), O, G, CP_eq hC (by unfold kS_end; (repeat' split) <;> first | rfl | (exfalso; omega)), rfl, Ext0 hO⟩))
set_option maxHeartbeats 800000 in
set_option maxRecDepth 100000 in
theorem c_X3_keyAt (l : Launch) (hfl : l.stackTraces = false) (D : va_G) (y : Nat → ClassId) (L : List Nat) (F : Nat → va_E) (sz : Nat) (O : Nat → Prop) (G : CG) (σ : CS) (xb : Int) (xn : Int) (xw : Int) (hC : CP y L F O G σ) (hW : CW σ) (h_xb : -2147483648 ≤ xb ∧ xb ≤ 2147483647) (h_xn : -2147483648 ≤ xn ∧ xn ≤ 2147483647) (h_xw : 0 ≤ xw ∧ xw ≤ 1) : vx_Met l yX3_keyAt (.code yX3_keyAt cX3_keyAt 6 (some .int) :: Tt) ({ frames := 7, cells := 8, slots := 60, locals := 103 }) (PcX D y L F sz [.ref ((gbg G)), .int (iI xb), .int (iI xn), .int (iI xw)]) (cMi D (AL L sz) (fun r L1 F1 => ((0 ≤ xb ∧ xb ≤ 3)) ∧ ((0 ≤ xn ∧ xn ≤ 99)) ∧ r = kR_keyAt σ xb xn xw ∧ ∃ O1 G1, CP y L1 F1 O1 G1 (kS_keyAt σ xb xn xw) ∧ gbg G1 = gbg G ∧ Ext O O1 L L1 F F1)) (XC (pX ((0 ≤ xb ∧ xb ≤ 3)) ((0 ≤ xn ∧ xn ≤ 99)))) 8 60 (AL L sz) := by
  have kb_ := (hW.2.2.2.2.2.2.2.2.2.1 _ (hW.1 xb)).1
  have hO : OE O F F := fun _ _ => rfl
  have hw4 := hW.2.2.2.2.2.1
  have hw5 := hW.2.2.2.2.2.2.1
  have hw6 := hW.2.2.2.2.2.2.2.2.2.2
  refine q_ofX (lv := [(0, .ref ((gbg G))), (1, .int (iI xb)), (2, .int (iI xn)), (3, .int (iI xw))]) (by decide) (Nat.le_of_ble_eq_true rfl) rfl (fun p e s m below meth c C0 hret hlk hout hsz hA hP hD hS hX ls hl => ?_)
  subst hsz
  have hx := C0.1.1
  have hb := C0.1.2.1
  have hts := C0.1.2.2.2.2
  refine lv_aload_n hx hb dX3_keyAt_0 rfl (lv_at hl 0 rfl) ?_
  refine lv_iload_n hx hb dX3_keyAt_1 rfl (lv_at hl 1 rfl) ?_
  refine q_vXa C0 lX3_37 (c_X3_bookAt l hfl D y L F _ O G σ xb hC (by omega)) ⟨rfl, rfl⟩ rfl hP hD hX hout hlk hC.1.1 hC.1.2 rfl rfl rfl hl rfl (Nat.le_of_ble_eq_true rfl) dX3_keyAt_2 ⟨Nat.le_of_ble_eq_true rfl, Nat.le_of_ble_eq_true rfl⟩ ⟨Nat.le_of_ble_eq_true rfl, Nat.le_of_ble_eq_true rfl⟩ (fun E h => Or.inl ⟨h.1, fun q => h.2 (by omega)⟩) (fun r1 e_r1 => ?_)
  refine W.widen (k := 1) (n := 6) (Nat.le_of_ble_eq_true rfl) (Nat.le_of_ble_eq_true rfl) ?_
  obtain ⟨hb_r1, e_r1⟩ := e_r1
  subst e_r1
  refine lv_astore (lv' := [(4, .ref ((grh G (zbk σ xb)))), (0, .ref ((gbg G))), (1, .int (iI xb)), (2, .int (iI xn)), (3, .int (iI xw))]) hx hb dX3_keyAt_5 hl (by decide) rfl (fun ls hl => ?_)
  refine lv_iload_n hx hb dX3_keyAt_7 rfl (lv_at hl 3 rfl) ?_
  refine q_bipush hx hb dX3_keyAt_8 (by decide) ?_
  refine q_sXv C0 lX3_41 (c_X3_checkUpTo l hfl D y L F _ xn 99 (by omega) (by omega)) ⟨rfl, rfl⟩ rfl hP hD hX hout hlk rfl hl rfl (Nat.le_of_ble_eq_true rfl) dX3_keyAt_10 ⟨Nat.le_of_ble_eq_true rfl, Nat.le_of_ble_eq_true rfl⟩ ⟨Nat.le_of_ble_eq_true rfl, Nat.le_of_ble_eq_true rfl⟩ (fun E h => Or.inr ⟨h.1, by first | trivial | omega, fun q => h.2 (by omega)⟩) (fun _ e_r2 => ?_)
  refine W.widen (k := 2) (n := 12) (Nat.le_of_ble_eq_true rfl) (Nat.le_of_ble_eq_true rfl) ?_
  refine lv_iload_n hx hb dX3_keyAt_13 rfl (lv_at hl 4 rfl) ?_
  refine q_if_eq hx hb dX3_keyAt_14 (tgt := 29) (by decide) (by omega) (fun c3 => ?_) (fun c3 => ?_)
  · refine lv_iload_n hx hb dX3_keyAt_29 rfl (lv_at hl 3 rfl) ?_
    refine lv_istore (lv' := [(5, .int (iI xn)), (4, .ref ((grh G (zbk σ xb)))), (0, .ref ((gbg G))), (1, .int (iI xb)), (2, .int (iI xn)), (3, .int (iI xw))]) hx hb dX3_keyAt_30 hl (by decide) rfl (fun ls hl => ?_)
    refine lv_aload hx hb dX3_keyAt_32 (lv_at hl 1 rfl) ?_
    refine lv_aload hx hb dX3_keyAt_34 (lv_at hl 1 rfl) ?_
    refine lv_iload hx hb dX3_keyAt_36 (lv_at hl 0 rfl) ?_
    refine q_vS C0 lX3_142 (c_X0_rankBehind l D y L F (grh G (zbk σ xb)) (grw G (zbk σ xb)) (zod σ (zbk σ xb)) ((zst σ (zbk σ xb)).1) ((zst σ (zbk σ xb)).2.1) ((zst σ (zbk σ xb)).2.2) xn (CP_r hC (hW.1 xb)) (by omega)) ⟨rfl, rfl⟩ rfl hP (CP_r hC (hW.1 xb)).1 (CP_r hC (hW.1 xb)).2.1 rfl rfl rfl hl rfl (Nat.le_of_ble_eq_true rfl) dX3_keyAt_38 ⟨Nat.le_of_ble_eq_true rfl, Nat.le_of_ble_eq_true rfl⟩ (fun r4 e_r4 => ?_)
    subst e_r4
    have b_5 := rbP_r ((zst σ (zbk σ xb)).2.2) xn 0
    refine q_vS C0 lX3_132 (c_X0_keyOf l D y L F (grh G (zbk σ xb)) (grw G (zbk σ xb)) (zod σ (zbk σ xb)) ((zst σ (zbk σ xb)).1) ((zst σ (zbk σ xb)).2.1) ((zst σ (zbk σ xb)).2.2) (rbP ((zst σ (zbk σ xb)).2.2) xn 0) (CP_r hC (hW.1 xb)) (by omega)) ⟨rfl, rfl⟩ rfl hP (CP_r hC (hW.1 xb)).1 (CP_r hC (hW.1 xb)).2.1 rfl rfl rfl hl rfl (Nat.le_of_ble_eq_true rfl) dX3_keyAt_41 ⟨Nat.le_of_ble_eq_true rfl, Nat.le_of_ble_eq_true rfl⟩ (fun r6 e_r6 => ?_)
    subst e_r6
    have b_7 := @keyR_b (zod σ (zbk σ xb)) (rbP ((zst σ (zbk σ xb)).2.2) xn 0) (by omega)
    refine W.widen (k := 8) (n := 60) (Nat.le_of_ble_eq_true rfl) (Nat.le_of_ble_eq_true rfl) ?_
    exact vx_ret (q_retMi C0 hret rfl hlk dX3_keyAt_44 hP hD hS (⟨by first | trivial | omega, by first | trivial | omega, (by unfold kR_keyAt; (repeat' split) <;> first | rfl | (exfalso; omega)), O, G, CP_eq hC (by unfold kS_keyAt; (repeat' split) <;> first | rfl | (exfalso; omega)), rfl, Ext0 hO⟩))
  · refine lv_aload hx hb dX3_keyAt_17 (lv_at hl 0 rfl) ?_
    refine q_get C0 iX0 hP (CP_r hC (hW.1 xb)).1 (CP_r hC (hW.1 xb)).2.1 rfl 2 (by decide) flX3_49 rfl rfl dX3_keyAt_19 ?_
    refine q_iconst hx hb dX3_keyAt_22 ?_
    refine q_isub hx hb dX3_keyAt_23 ?_
    refine lv_iload_n hx hb dX3_keyAt_24 rfl (lv_at hl 3 rfl) ?_
    refine q_isub hx hb dX3_keyAt_25 ?_
    refine lv_goto (tgt := 30) hx hb dX3_keyAt_26 (by decide) ?_
    refine lv_istore (lv' := [(5, .int (iI ((((zst σ (zbk σ xb)).1 - 1) - xn)))), (4, .ref ((grh G (zbk σ xb)))), (0, .ref ((gbg G))), (1, .int (iI xb)), (2, .int (iI xn)), (3, .int (iI xw))]) hx hb dX3_keyAt_30 hl (by decide) rfl (fun ls hl => ?_)
    refine lv_aload hx hb dX3_keyAt_32 (lv_at hl 1 rfl) ?_
    refine lv_aload hx hb dX3_keyAt_34 (lv_at hl 1 rfl) ?_
    refine lv_iload hx hb dX3_keyAt_36 (lv_at hl 0 rfl) ?_
    refine q_vS C0 lX3_142 (c_X0_rankBehind l D y L F (grh G (zbk σ xb)) (grw G (zbk σ xb)) (zod σ (zbk σ xb)) ((zst σ (zbk σ xb)).1) ((zst σ (zbk σ xb)).2.1) ((zst σ (zbk σ xb)).2.2) (((zst σ (zbk σ xb)).1 - 1) - xn) (CP_r hC (hW.1 xb)) (by omega)) ⟨rfl, rfl⟩ rfl hP (CP_r hC (hW.1 xb)).1 (CP_r hC (hW.1 xb)).2.1 rfl rfl rfl hl rfl (Nat.le_of_ble_eq_true rfl) dX3_keyAt_38 ⟨Nat.le_of_ble_eq_true rfl, Nat.le_of_ble_eq_true rfl⟩ (fun r8 e_r8 => ?_)
    subst e_r8
    have b_9 := rbP_r ((zst σ (zbk σ xb)).2.2) (((zst σ (zbk σ xb)).1 - 1) - xn) 0
    refine q_vS C0 lX3_132 (c_X0_keyOf l D y L F (grh G (zbk σ xb)) (grw G (zbk σ xb)) (zod σ (zbk σ xb)) ((zst σ (zbk σ xb)).1) ((zst σ (zbk σ xb)).2.1) ((zst σ (zbk σ xb)).2.2) (rbP ((zst σ (zbk σ xb)).2.2) (((zst σ (zbk σ xb)).1 - 1) - xn) 0) (CP_r hC (hW.1 xb)) (by omega)) ⟨rfl, rfl⟩ rfl hP (CP_r hC (hW.1 xb)).1 (CP_r hC (hW.1 xb)).2.1 rfl rfl rfl hl rfl (Nat.le_of_ble_eq_true rfl) dX3_keyAt_41 ⟨Nat.le_of_ble_eq_true rfl, Nat.le_of_ble_eq_true rfl⟩ (fun r10 e_r10 => ?_)
    subst e_r10
    have b_11 := @keyR_b (zod σ (zbk σ xb)) (rbP ((zst σ (zbk σ xb)).2.2) (((zst σ (zbk σ xb)).1 - 1) - xn) 0) (by omega)
    refine W.widen (k := 8) (n := 60) (Nat.le_of_ble_eq_true rfl) (Nat.le_of_ble_eq_true rfl) ?_
    exact vx_ret (q_retMi C0 hret rfl hlk dX3_keyAt_44 hP hD hS (⟨by first | trivial | omega, by first | trivial | omega, (by unfold kR_keyAt; (repeat' split) <;> first | rfl | (exfalso; omega)), O, G, CP_eq hC (by unfold kS_keyAt; (repeat' split) <;> first | rfl | (exfalso; omega)), rfl, Ext0 hO⟩))
set_option maxHeartbeats 800000 in
set_option maxRecDepth 100000 in
theorem c_X3_tellBook (l : Launch) (hfl : l.stackTraces = false) (D : va_G) (y : Nat → ClassId) (L : List Nat) (F : Nat → va_E) (sz : Nat) (O : Nat → Prop) (G : CG) (σ : CS) (xb : Int) (xt : Int) (hC : CP y L F O G σ) (hW : CW σ) (h_xb : -2147483648 ≤ xb ∧ xb ≤ 2147483647) (h_xt : -2147483648 ≤ xt ∧ xt ≤ 2147483647) : vx_Met l yX3_tellBook (.code yX3_tellBook cX3_tellBook 4 (some .int) :: Tt) ({ frames := 7, cells := 8, slots := 60, locals := 103 }) (PcX D y L F sz [.ref ((gbg G)), .int (iI xb), .int (iI xt)]) (cMi D (AL L sz) (fun r L1 F1 => ((0 ≤ xb ∧ xb ≤ 3)) ∧ ((0 ≤ xt ∧ xt ≤ 3)) ∧ r = kR_tellBook σ xb xt ∧ ∃ O1 G1, CP y L1 F1 O1 G1 (kS_tellBook σ xb xt) ∧ gbg G1 = gbg G ∧ Ext O O1 L L1 F F1)) (XC (pX ((0 ≤ xb ∧ xb ≤ 3)) ((0 ≤ xt ∧ xt ≤ 3)))) 8 60 (AL L sz) := by
  have kb_ := (hW.2.2.2.2.2.2.2.2.2.1 _ (hW.1 xb)).1
  have hO : OE O F F := fun _ _ => rfl
  have hw4 := hW.2.2.2.2.2.1
  have hw5 := hW.2.2.2.2.2.2.1
  have hw6 := hW.2.2.2.2.2.2.2.2.2.2
  refine q_ofX (lv := [(0, .ref ((gbg G))), (1, .int (iI xb)), (2, .int (iI xt))]) (by decide) (Nat.le_of_ble_eq_true rfl) rfl (fun p e s m below meth c C0 hret hlk hout hsz hA hP hD hS hX ls hl => ?_)
  subst hsz
  have hx := C0.1.1
  have hb := C0.1.2.1
  have hts := C0.1.2.2.2.2
  refine lv_aload_n hx hb dX3_tellBook_0 rfl (lv_at hl 0 rfl) ?_
  refine lv_iload_n hx hb dX3_tellBook_1 rfl (lv_at hl 1 rfl) ?_
  refine q_vXa C0 lX3_37 (c_X3_bookAt l hfl D y L F _ O G σ xb hC (by omega)) ⟨rfl, rfl⟩ rfl hP hD hX hout hlk hC.1.1 hC.1.2 rfl rfl rfl hl rfl (Nat.le_of_ble_eq_true rfl) dX3_tellBook_2 ⟨Nat.le_of_ble_eq_true rfl, Nat.le_of_ble_eq_true rfl⟩ ⟨Nat.le_of_ble_eq_true rfl, Nat.le_of_ble_eq_true rfl⟩ (fun E h => Or.inl ⟨h.1, fun q => h.2 (by omega)⟩) (fun r1 e_r1 => ?_)
  refine W.widen (k := 1) (n := 6) (Nat.le_of_ble_eq_true rfl) (Nat.le_of_ble_eq_true rfl) ?_
  obtain ⟨hb_r1, e_r1⟩ := e_r1
  subst e_r1
  refine lv_astore_n (lv' := [(3, .ref ((grh G (zbk σ xb)))), (0, .ref ((gbg G))), (1, .int (iI xb)), (2, .int (iI xt))]) hx hb dX3_tellBook_5 rfl hl (by decide) rfl (fun ls hl => ?_)
  refine lv_iload_n hx hb dX3_tellBook_6 rfl (lv_at hl 3 rfl) ?_
  refine q_iconst hx hb dX3_tellBook_7 ?_
  refine q_sXv C0 lX3_41 (c_X3_checkUpTo l hfl D y L F _ xt 3 (by omega) (by omega)) ⟨rfl, rfl⟩ rfl hP hD hX hout hlk rfl hl rfl (Nat.le_of_ble_eq_true rfl) dX3_tellBook_8 ⟨Nat.le_of_ble_eq_true rfl, Nat.le_of_ble_eq_true rfl⟩ ⟨Nat.le_of_ble_eq_true rfl, Nat.le_of_ble_eq_true rfl⟩ (fun E h => Or.inr ⟨h.1, by first | trivial | omega, fun q => h.2 (by omega)⟩) (fun _ e_r2 => ?_)
  refine W.widen (k := 2) (n := 12) (Nat.le_of_ble_eq_true rfl) (Nat.le_of_ble_eq_true rfl) ?_
  refine lv_aload_n hx hb dX3_tellBook_11 rfl (lv_at hl 0 rfl) ?_
  refine lv_iload_n hx hb dX3_tellBook_12 rfl (lv_at hl 3 rfl) ?_
  refine q_sS C0 lX3_145 (c_X3_bookFact l D y L F (grh G (zbk σ xb)) (grw G (zbk σ xb)) (zod σ (zbk σ xb)) ((zst σ (zbk σ xb)).1) ((zst σ (zbk σ xb)).2.1) ((zst σ (zbk σ xb)).2.2) xt (CP_r hC (hW.1 xb)) (by omega) (by omega)) ⟨rfl, rfl⟩ rfl hP rfl hl rfl (Nat.le_of_ble_eq_true rfl) dX3_tellBook_13 ⟨Nat.le_of_ble_eq_true rfl, Nat.le_of_ble_eq_true rfl⟩ (fun r3 e_r3 => ?_)
  subst e_r3
  refine W.widen (k := 8) (n := 60) (Nat.le_of_ble_eq_true rfl) (Nat.le_of_ble_eq_true rfl) ?_
  exact vx_ret (q_retMi C0 hret rfl hlk dX3_tellBook_16 hP hD hS (⟨by first | trivial | omega, by first | trivial | omega, (by unfold kR_tellBook; (repeat' split) <;> first | rfl | (exfalso; omega)), O, G, CP_eq hC (by unfold kS_tellBook; (repeat' split) <;> first | rfl | (exfalso; omega)), rfl, Ext0 hO⟩))
set_option maxHeartbeats 800000 in
set_option maxRecDepth 100000 in
theorem c_X3_sameBooks (l : Launch) (hfl : l.stackTraces = false) (D : va_G) (y : Nat → ClassId) (L : List Nat) (F : Nat → va_E) (sz : Nat) (O : Nat → Prop) (G : CG) (σ : CS) (xb : Int) (xc : Int) (hC : CP y L F O G σ) (hW : CW σ) (h_xb : -2147483648 ≤ xb ∧ xb ≤ 2147483647) (h_xc : -2147483648 ≤ xc ∧ xc ≤ 2147483647) : vx_Met l yX3_sameBooks (.code yX3_sameBooks cX3_sameBooks 4 (some .boolean) :: Tt) ({ frames := 7, cells := 8, slots := 60, locals := 103 }) (PcX D y L F sz [.ref ((gbg G)), .int (iI xb), .int (iI xc)]) (cMi D (AL L sz) (fun r L1 F1 => ((0 ≤ xb ∧ xb ≤ 3) ∧ (0 ≤ xc ∧ xc ≤ 3)) ∧ (True) ∧ r = kR_sameBooks σ xb xc ∧ ∃ O1 G1, CP y L1 F1 O1 G1 (kS_sameBooks σ xb xc) ∧ gbg G1 = gbg G ∧ Ext O O1 L L1 F F1)) (XC (pX ((0 ≤ xb ∧ xb ≤ 3) ∧ (0 ≤ xc ∧ xc ≤ 3)) (True))) 8 60 (AL L sz) := by
  have hO : OE O F F := fun _ _ => rfl
  have hw4 := hW.2.2.2.2.2.1
  have hw5 := hW.2.2.2.2.2.2.1
  have hw6 := hW.2.2.2.2.2.2.2.2.2.2
  refine q_ofX (lv := [(0, .ref ((gbg G))), (1, .int (iI xb)), (2, .int (iI xc))]) (by decide) (Nat.le_of_ble_eq_true rfl) rfl (fun p e s m below meth c C0 hret hlk hout hsz hA hP hD hS hX ls hl => ?_)
  subst hsz
  have hx := C0.1.1
  have hb := C0.1.2.1
  have hts := C0.1.2.2.2.2
  refine lv_aload_n hx hb dX3_sameBooks_0 rfl (lv_at hl 0 rfl) ?_
  refine lv_iload_n hx hb dX3_sameBooks_1 rfl (lv_at hl 1 rfl) ?_
  refine q_vXa C0 lX3_37 (c_X3_bookAt l hfl D y L F _ O G σ xb hC (by omega)) ⟨rfl, rfl⟩ rfl hP hD hX hout hlk hC.1.1 hC.1.2 rfl rfl rfl hl rfl (Nat.le_of_ble_eq_true rfl) dX3_sameBooks_2 ⟨Nat.le_of_ble_eq_true rfl, Nat.le_of_ble_eq_true rfl⟩ ⟨Nat.le_of_ble_eq_true rfl, Nat.le_of_ble_eq_true rfl⟩ (fun E h => Or.inl ⟨h.1, fun q => h.2 (by omega)⟩) (fun r1 e_r1 => ?_)
  refine W.widen (k := 1) (n := 6) (Nat.le_of_ble_eq_true rfl) (Nat.le_of_ble_eq_true rfl) ?_
  obtain ⟨hb_r1, e_r1⟩ := e_r1
  subst e_r1
  refine lv_astore_n (lv' := [(3, .ref ((grh G (zbk σ xb)))), (0, .ref ((gbg G))), (1, .int (iI xb)), (2, .int (iI xc))]) hx hb dX3_sameBooks_5 rfl hl (by decide) rfl (fun ls hl => ?_)
  refine lv_aload_n hx hb dX3_sameBooks_6 rfl (lv_at hl 0 rfl) ?_
  refine lv_aload_n hx hb dX3_sameBooks_7 rfl (lv_at hl 1 rfl) ?_
  refine lv_iload_n hx hb dX3_sameBooks_8 rfl (lv_at hl 3 rfl) ?_
  refine q_vXa C0 lX3_37 (c_X3_bookAt l hfl D y L F _ O G σ xc hC (by omega)) ⟨rfl, rfl⟩ rfl hP hD hX hout hlk hC.1.1 hC.1.2 rfl rfl rfl hl rfl (Nat.le_of_ble_eq_true rfl) dX3_sameBooks_9 ⟨Nat.le_of_ble_eq_true rfl, Nat.le_of_ble_eq_true rfl⟩ ⟨Nat.le_of_ble_eq_true rfl, Nat.le_of_ble_eq_true rfl⟩ (fun E h => Or.inl ⟨h.1, fun q => h.2 (by omega)⟩) (fun r2 e_r2 => ?_)
  refine W.widen (k := 2) (n := 12) (Nat.le_of_ble_eq_true rfl) (Nat.le_of_ble_eq_true rfl) ?_
  obtain ⟨hb_r2, e_r2⟩ := e_r2
  subst e_r2
  refine q_vS C0 lX3_167 (c_X0_isSameAs l D y L F (grh G (zbk σ xb)) (grw G (zbk σ xb)) (zod σ (zbk σ xb)) ((zst σ (zbk σ xb)).1) ((zst σ (zbk σ xb)).2.1) ((zst σ (zbk σ xb)).2.2) (grh G (zbk σ xc)) (grw G (zbk σ xc)) (zod σ (zbk σ xc)) ((zst σ (zbk σ xc)).1) ((zst σ (zbk σ xc)).2.1) ((zst σ (zbk σ xc)).2.2) (CP_r hC (hW.1 xb)) (CP_r hC (hW.1 xc))) ⟨rfl, rfl⟩ rfl hP (CP_r hC (hW.1 xb)).1 (CP_r hC (hW.1 xb)).2.1 rfl rfl rfl hl rfl (Nat.le_of_ble_eq_true rfl) dX3_sameBooks_12 ⟨Nat.le_of_ble_eq_true rfl, Nat.le_of_ble_eq_true rfl⟩ (fun r3 e_r3 => ?_)
  subst e_r3
  have b_4 := sameR_b (zod σ (zbk σ xb)) (zod σ (zbk σ xc)) ((zst σ (zbk σ xb)).2.2) ((zst σ (zbk σ xc)).2.2)
  refine W.widen (k := 8) (n := 60) (Nat.le_of_ble_eq_true rfl) (Nat.le_of_ble_eq_true rfl) ?_
  exact vx_ret (q_retMi C0 hret (narB (by omega)) hlk dX3_sameBooks_15 hP hD hS (⟨by first | trivial | omega, by first | trivial | omega, (by unfold kR_sameBooks; (repeat' split) <;> first | rfl | (exfalso; omega)), O, G, CP_eq hC (by unfold kS_sameBooks; (repeat' split) <;> first | rfl | (exfalso; omega)), rfl, Ext0 hO⟩))
set_option maxHeartbeats 800000 in
set_option maxRecDepth 100000 in
theorem c_X3_viewPut (l : Launch) (hfl : l.stackTraces = false) (D : va_G) (y : Nat → ClassId) (L : List Nat) (F : Nat → va_E) (sz : Nat) (O : Nat → Prop) (G : CG) (σ : CS) (xv : Int) (xk : Int) (xw : Int) (hC : CP y L F O G σ) (hW : CW σ) (h_xv : -2147483648 ≤ xv ∧ xv ≤ 2147483647) (h_xk : -2147483648 ≤ xk ∧ xk ≤ 2147483647) (h_xw : -2147483648 ≤ xw ∧ xw ≤ 2147483647) : vx_Met l yX3_viewPut (.code yX3_viewPut cX3_viewPut 6 (some .int) :: Tt) ({ frames := 7, cells := 8, slots := 60, locals := 103 }) (PcX D y L F sz [.ref ((gbg G)), .int (iI xv), .int (iI xk), .int (iI xw)]) (cMi D (AL L sz) (fun r L1 F1 => ((0 ≤ xv ∧ xv ≤ 1)) ∧ ((0 ≤ xk ∧ xk ≤ 99) ∧ (0 ≤ xw ∧ xw ≤ 99)) ∧ r = kR_viewPut σ xv xk xw ∧ ∃ O1 G1, CP y L1 F1 O1 G1 (kS_viewPut σ xv xk xw) ∧ gbg G1 = gbg G ∧ Ext O O1 L L1 F F1)) (XC (pX ((0 ≤ xv ∧ xv ≤ 1)) ((0 ≤ xk ∧ xk ≤ 99) ∧ (0 ≤ xw ∧ xw ≤ 99)))) 8 60 (AL L sz) := by
  have vb_ := hW.2.2.2.2.1 xv
  have hO : OE O F F := fun _ _ => rfl
  have hw4 := hW.2.2.2.2.2.1
  have hw5 := hW.2.2.2.2.2.2.1
  have hw6 := hW.2.2.2.2.2.2.2.2.2.2
  refine q_ofX (lv := [(0, .ref ((gbg G))), (1, .int (iI xv)), (2, .int (iI xk)), (3, .int (iI xw))]) (by decide) (Nat.le_of_ble_eq_true rfl) rfl (fun p e s m below meth c C0 hret hlk hout hsz hA hP hD hS hX ls hl => ?_)
  subst hsz
  have hx := C0.1.1
  have hb := C0.1.2.1
  have hts := C0.1.2.2.2.2
  refine lv_aload_n hx hb dX3_viewPut_0 rfl (lv_at hl 0 rfl) ?_
  refine lv_iload_n hx hb dX3_viewPut_1 rfl (lv_at hl 1 rfl) ?_
  refine q_vXa C0 lX3_171 (c_X3_viewAt l hfl D y L F _ O G σ xv hC (by omega)) ⟨rfl, rfl⟩ rfl hP hD hX hout hlk hC.1.1 hC.1.2 rfl rfl rfl hl rfl (Nat.le_of_ble_eq_true rfl) dX3_viewPut_2 ⟨Nat.le_of_ble_eq_true rfl, Nat.le_of_ble_eq_true rfl⟩ ⟨Nat.le_of_ble_eq_true rfl, Nat.le_of_ble_eq_true rfl⟩ (fun E h => Or.inl ⟨h.1, fun q => h.2 (by omega)⟩) (fun r1 e_r1 => ?_)
  refine W.widen (k := 1) (n := 6) (Nat.le_of_ble_eq_true rfl) (Nat.le_of_ble_eq_true rfl) ?_
  obtain ⟨hb_r1, e_r1⟩ := e_r1
  subst e_r1
  have hv_r1 := hW.2.2.2.2.1 xv
  refine lv_astore (lv' := [(4, .ref ((gva G xv))), (0, .ref ((gbg G))), (1, .int (iI xv)), (2, .int (iI xk)), (3, .int (iI xw))]) hx hb dX3_viewPut_5 hl (by decide) rfl (fun ls hl => ?_)
  refine lv_iload_n hx hb dX3_viewPut_7 rfl (lv_at hl 3 rfl) ?_
  refine q_sXv C0 lX3_60 (c_X3_checkKey l hfl D y L F _ xk (by omega)) ⟨rfl, rfl⟩ rfl hP hD hX hout hlk rfl hl rfl (Nat.le_of_ble_eq_true rfl) dX3_viewPut_8 ⟨Nat.le_of_ble_eq_true rfl, Nat.le_of_ble_eq_true rfl⟩ ⟨Nat.le_of_ble_eq_true rfl, Nat.le_of_ble_eq_true rfl⟩ (fun E h => Or.inr ⟨h.1, by first | trivial | omega, fun q => h.2 (by omega)⟩) (fun _ e_r2 => ?_)
  refine W.widen (k := 2) (n := 12) (Nat.le_of_ble_eq_true rfl) (Nat.le_of_ble_eq_true rfl) ?_
  refine lv_iload_n hx hb dX3_viewPut_11 rfl (lv_at hl 4 rfl) ?_
  refine q_sXv C0 lX3_104 (c_X3_checkWorth l hfl D y L F _ xw (by omega)) ⟨rfl, rfl⟩ rfl hP hD hX hout hlk rfl hl rfl (Nat.le_of_ble_eq_true rfl) dX3_viewPut_12 ⟨Nat.le_of_ble_eq_true rfl, Nat.le_of_ble_eq_true rfl⟩ ⟨Nat.le_of_ble_eq_true rfl, Nat.le_of_ble_eq_true rfl⟩ (fun E h => Or.inr ⟨h.1, by first | trivial | omega, fun q => h.2 (by omega)⟩) (fun _ e_r3 => ?_)
  refine W.widen (k := 3) (n := 18) (Nat.le_of_ble_eq_true rfl) (Nat.le_of_ble_eq_true rfl) ?_
  refine lv_aload hx hb dX3_viewPut_15 (lv_at hl 0 rfl) ?_
  refine q_get C0 iX1 hP (CP_v hC hb_r1).1 (CP_v hC hb_r1).2 rfl 0 (by decide) flX3_178 rfl rfl dX3_viewPut_17 ?_
  refine lv_iload_n hx hb dX3_viewPut_20 rfl (lv_at hl 3 rfl) ?_
  refine q_vS C0 lX3_70 (c_X0_rankOf l D y L F (grh G (zvw σ xv)) (grw G (zvw σ xv)) (zod σ (zvw σ xv)) ((zst σ (zvw σ xv)).1) ((zst σ (zvw σ xv)).2.1) ((zst σ (zvw σ xv)).2.2) xk (CP_r hC (hW.2.2.1 xv)) (by omega)) ⟨rfl, rfl⟩ rfl hP (CP_r hC (hW.2.2.1 xv)).1 (CP_r hC (hW.2.2.1 xv)).2.1 rfl rfl rfl hl rfl (Nat.le_of_ble_eq_true rfl) dX3_viewPut_21 ⟨Nat.le_of_ble_eq_true rfl, Nat.le_of_ble_eq_true rfl⟩ (fun r4 e_r4 => ?_)
  subst e_r4
  have b_5 := @turn_b (zod σ (zvw σ xv)) xk (by omega)
  refine lv_istore (lv' := [(5, .int (iI ((turn (zod σ (zvw σ xv)) xk)))), (4, .ref ((gva G xv))), (0, .ref ((gbg G))), (1, .int (iI xv)), (2, .int (iI xk)), (3, .int (iI xw))]) hx hb dX3_viewPut_24 hl (by decide) rfl (fun ls hl => ?_)
  refine lv_aload hx hb dX3_viewPut_26 (lv_at hl 1 rfl) ?_
  refine lv_iload hx hb dX3_viewPut_28 (lv_at hl 0 rfl) ?_
  refine q_vS C0 lX3_191 (c_X1_isWithin l D y L F (gva G xv) (grh G (zvw σ xv)) (zvl σ xv) (zvh σ xv) (turn (zod σ (zvw σ xv)) xk) (CP_v hC hb_r1).1 (CP_v hC hb_r1).2 (by omega) (by omega) (by omega)) ⟨rfl, rfl⟩ rfl hP (CP_v hC hb_r1).1 (CP_v hC hb_r1).2 rfl rfl rfl hl rfl (Nat.le_of_ble_eq_true rfl) dX3_viewPut_30 ⟨Nat.le_of_ble_eq_true rfl, Nat.le_of_ble_eq_true rfl⟩ (fun r6 e_r6 => ?_)
  subst e_r6
  refine q_if_ne hx hb dX3_viewPut_33 (tgt := 41) (by decide) (by omega) (fun c7 => ?_) (fun c7 => ?_)
  · refine lv_aload_n hx hb dX3_viewPut_41 rfl (lv_at hl 2 rfl) ?_
    refine lv_aload hx hb dX3_viewPut_42 (lv_at hl 1 rfl) ?_
    refine q_get C0 iX1 hP (CP_v hC hb_r1).1 (CP_v hC hb_r1).2 rfl 0 (by decide) flX3_178 rfl rfl dX3_viewPut_44 ?_
    refine q_vMv C0 lX3_67 (c_X3_write l D y L F _ O G σ (zvw σ xv) hC (hW.2.2.1 xv) hW.2.2.2.1) ⟨rfl, rfl⟩ rfl hP hD hS hA hC.1.1 hC.1.2 rfl rfl rfl hl rfl (Nat.le_of_ble_eq_true rfl) dX3_viewPut_47 ⟨Nat.le_of_ble_eq_true rfl, Nat.le_of_ble_eq_true rfl⟩ (fun _ H locs L9 F9 hP hD hS hz9 hp9 => ?_)
    obtain ⟨eL, hC, er, hO1⟩ := hp9
    subst eL
    have hO := hO.tr hO1
    refine lv_aload hx hb dX3_viewPut_50 (lv_at hl 1 rfl) ?_
    refine q_get C0 iX1 hP (CP_v hC hb_r1).1 (CP_v hC hb_r1).2 rfl 0 (by decide) flX3_178 rfl rfl dX3_viewPut_52 ?_
    refine lv_iload hx hb dX3_viewPut_55 (lv_at hl 0 rfl) ?_
    refine lv_iload_n hx hb dX3_viewPut_57 rfl (lv_at hl 5 rfl) ?_
    refine q_vMi C0 lX3_110 (c_X0_come l D y L F9 _ (grh G (zvw σ xv)) (grw G (zvw σ xv)) (zod σ (zvw σ xv)) (zst σ (zvw σ xv)) (turn (zod σ (zvw σ xv)) xk) xw (CP_r hC (hW.2.2.1 xv)) (by omega) (by omega)) ⟨rfl, rfl⟩ rfl hP hD hS hA (CP_r hC (hW.2.2.1 xv)).1 (CP_r hC (hW.2.2.1 xv)).2.1 rfl rfl rfl hl rfl (Nat.le_of_ble_eq_true rfl) dX3_viewPut_58 ⟨Nat.le_of_ble_eq_true rfl, Nat.le_of_ble_eq_true rfl⟩ (fun r10 H locs L11 F11 hP hD hS hz11 hp11 => ?_)
    obtain ⟨eL, er, hRn, hfr1⟩ := hp11
    subst eL
    subst er
    have hO := hO.tr (OEf hC (hW.2.2.1 xv) hfr1)
    have hC := CP_row hC (hW.2.2.1 xv) hRn hfr1
    refine W.widen (k := 8) (n := 60) (Nat.le_of_ble_eq_true rfl) (Nat.le_of_ble_eq_true rfl) ?_
    exact vx_ret (q_retMi C0 hret rfl hlk dX3_viewPut_61 hP hD hS (⟨by first | trivial | omega, by first | trivial | omega, (by unfold kR_viewPut; (repeat' split) <;> first | rfl | (exfalso; omega)), O, G, CP_eq hC (by unfold kS_viewPut; (repeat' split) <;> first | rfl | (exfalso; omega)), rfl, Ext0 hO⟩))
  · refine lv_aload_n hx hb dX3_viewPut_36 rfl (lv_at hl 2 rfl) ?_
    refine q_vMi C0 lX3_63 (c_X3_refuse l D y L F _ O G σ hC) ⟨rfl, rfl⟩ rfl hP hD hS hA hC.1.1 hC.1.2 rfl rfl rfl hl rfl (Nat.le_of_ble_eq_true rfl) dX3_viewPut_37 ⟨Nat.le_of_ble_eq_true rfl, Nat.le_of_ble_eq_true rfl⟩ (fun r12 H locs L13 F13 hP hD hS hz13 hp13 => ?_)
    obtain ⟨eL, hC, er, hO1⟩ := hp13
    subst eL
    subst er
    have hO := hO.tr hO1
    refine W.widen (k := 8) (n := 60) (Nat.le_of_ble_eq_true rfl) (Nat.le_of_ble_eq_true rfl) ?_
    exact vx_ret (q_retMi C0 hret rfl hlk dX3_viewPut_40 hP hD hS (⟨by first | trivial | omega, by first | trivial | omega, (by unfold kR_viewPut; (repeat' split) <;> first | rfl | (exfalso; omega)), O, G, CP_eq hC (by unfold kS_viewPut; (repeat' split) <;> first | rfl | (exfalso; omega)), rfl, Ext0 hO⟩))
set_option maxHeartbeats 800000 in
set_option maxRecDepth 100000 in
theorem c_X3_viewTake (l : Launch) (hfl : l.stackTraces = false) (D : va_G) (y : Nat → ClassId) (L : List Nat) (F : Nat → va_E) (sz : Nat) (O : Nat → Prop) (G : CG) (σ : CS) (xv : Int) (xk : Int) (hC : CP y L F O G σ) (hW : CW σ) (h_xv : -2147483648 ≤ xv ∧ xv ≤ 2147483647) (h_xk : -2147483648 ≤ xk ∧ xk ≤ 2147483647) : vx_Met l yX3_viewTake (.code yX3_viewTake cX3_viewTake 5 (some .int) :: Tt) ({ frames := 7, cells := 8, slots := 60, locals := 103 }) (PcX D y L F sz [.ref ((gbg G)), .int (iI xv), .int (iI xk)]) (cMi D (AL L sz) (fun r L1 F1 => ((0 ≤ xv ∧ xv ≤ 1)) ∧ ((0 ≤ xk ∧ xk ≤ 99)) ∧ r = kR_viewTake σ xv xk ∧ ∃ O1 G1, CP y L1 F1 O1 G1 (kS_viewTake σ xv xk) ∧ gbg G1 = gbg G ∧ Ext O O1 L L1 F F1)) (XC (pX ((0 ≤ xv ∧ xv ≤ 1)) ((0 ≤ xk ∧ xk ≤ 99)))) 8 60 (AL L sz) := by
  have vb_ := hW.2.2.2.2.1 xv
  have hO : OE O F F := fun _ _ => rfl
  have hw4 := hW.2.2.2.2.2.1
  have hw5 := hW.2.2.2.2.2.2.1
  have hw6 := hW.2.2.2.2.2.2.2.2.2.2
  refine q_ofX (lv := [(0, .ref ((gbg G))), (1, .int (iI xv)), (2, .int (iI xk))]) (by decide) (Nat.le_of_ble_eq_true rfl) rfl (fun p e s m below meth c C0 hret hlk hout hsz hA hP hD hS hX ls hl => ?_)
  subst hsz
  have hx := C0.1.1
  have hb := C0.1.2.1
  have hts := C0.1.2.2.2.2
  refine lv_aload_n hx hb dX3_viewTake_0 rfl (lv_at hl 0 rfl) ?_
  refine lv_iload_n hx hb dX3_viewTake_1 rfl (lv_at hl 1 rfl) ?_
  refine q_vXa C0 lX3_171 (c_X3_viewAt l hfl D y L F _ O G σ xv hC (by omega)) ⟨rfl, rfl⟩ rfl hP hD hX hout hlk hC.1.1 hC.1.2 rfl rfl rfl hl rfl (Nat.le_of_ble_eq_true rfl) dX3_viewTake_2 ⟨Nat.le_of_ble_eq_true rfl, Nat.le_of_ble_eq_true rfl⟩ ⟨Nat.le_of_ble_eq_true rfl, Nat.le_of_ble_eq_true rfl⟩ (fun E h => Or.inl ⟨h.1, fun q => h.2 (by omega)⟩) (fun r1 e_r1 => ?_)
  refine W.widen (k := 1) (n := 6) (Nat.le_of_ble_eq_true rfl) (Nat.le_of_ble_eq_true rfl) ?_
  obtain ⟨hb_r1, e_r1⟩ := e_r1
  subst e_r1
  have hv_r1 := hW.2.2.2.2.1 xv
  refine lv_astore_n (lv' := [(3, .ref ((gva G xv))), (0, .ref ((gbg G))), (1, .int (iI xv)), (2, .int (iI xk))]) hx hb dX3_viewTake_5 rfl hl (by decide) rfl (fun ls hl => ?_)
  refine lv_iload_n hx hb dX3_viewTake_6 rfl (lv_at hl 3 rfl) ?_
  refine q_sXv C0 lX3_60 (c_X3_checkKey l hfl D y L F _ xk (by omega)) ⟨rfl, rfl⟩ rfl hP hD hX hout hlk rfl hl rfl (Nat.le_of_ble_eq_true rfl) dX3_viewTake_7 ⟨Nat.le_of_ble_eq_true rfl, Nat.le_of_ble_eq_true rfl⟩ ⟨Nat.le_of_ble_eq_true rfl, Nat.le_of_ble_eq_true rfl⟩ (fun E h => Or.inr ⟨h.1, by first | trivial | omega, fun q => h.2 (by omega)⟩) (fun _ e_r2 => ?_)
  refine W.widen (k := 2) (n := 12) (Nat.le_of_ble_eq_true rfl) (Nat.le_of_ble_eq_true rfl) ?_
  refine lv_aload_n hx hb dX3_viewTake_10 rfl (lv_at hl 1 rfl) ?_
  refine lv_aload_n hx hb dX3_viewTake_11 rfl (lv_at hl 0 rfl) ?_
  refine q_get C0 iX1 hP (CP_v hC hb_r1).1 (CP_v hC hb_r1).2 rfl 0 (by decide) flX3_178 rfl rfl dX3_viewTake_12 ?_
  refine q_vMv C0 lX3_67 (c_X3_write l D y L F _ O G σ (zvw σ xv) hC (hW.2.2.1 xv) hW.2.2.2.1) ⟨rfl, rfl⟩ rfl hP hD hS hA hC.1.1 hC.1.2 rfl rfl rfl hl rfl (Nat.le_of_ble_eq_true rfl) dX3_viewTake_15 ⟨Nat.le_of_ble_eq_true rfl, Nat.le_of_ble_eq_true rfl⟩ (fun _ H locs L4 F4 hP hD hS hz4 hp4 => ?_)
  obtain ⟨eL, hC, er, hO1⟩ := hp4
  subst eL
  have hO := hO.tr hO1
  refine lv_aload_n hx hb dX3_viewTake_18 rfl (lv_at hl 0 rfl) ?_
  refine q_get C0 iX1 hP (CP_v hC hb_r1).1 (CP_v hC hb_r1).2 rfl 0 (by decide) flX3_178 rfl rfl dX3_viewTake_19 ?_
  refine lv_iload_n hx hb dX3_viewTake_22 rfl (lv_at hl 3 rfl) ?_
  refine q_vS C0 lX3_70 (c_X0_rankOf l D y L F4 (grh G (zvw σ xv)) (grw G (zvw σ xv)) (zod σ (zvw σ xv)) ((zst σ (zvw σ xv)).1) ((zst σ (zvw σ xv)).2.1) ((zst σ (zvw σ xv)).2.2) xk (CP_r hC (hW.2.2.1 xv)) (by omega)) ⟨rfl, rfl⟩ rfl hP (CP_r hC (hW.2.2.1 xv)).1 (CP_r hC (hW.2.2.1 xv)).2.1 rfl rfl rfl hl rfl (Nat.le_of_ble_eq_true rfl) dX3_viewTake_23 ⟨Nat.le_of_ble_eq_true rfl, Nat.le_of_ble_eq_true rfl⟩ (fun r5 e_r5 => ?_)
  subst e_r5
  have b_6 := @turn_b (zod σ (zvw σ xv)) xk (by omega)
  refine lv_istore (lv' := [(4, .int (iI ((turn (zod σ (zvw σ xv)) xk)))), (3, .ref ((gva G xv))), (0, .ref ((gbg G))), (1, .int (iI xv)), (2, .int (iI xk))]) hx hb dX3_viewTake_26 hl (by decide) rfl (fun ls hl => ?_)
  refine lv_aload_n hx hb dX3_viewTake_28 rfl (lv_at hl 1 rfl) ?_
  refine lv_iload hx hb dX3_viewTake_29 (lv_at hl 0 rfl) ?_
  refine q_vS C0 lX3_191 (c_X1_isWithin l D y L F4 (gva G xv) (grh G (zvw σ xv)) (zvl σ xv) (zvh σ xv) (turn (zod σ (zvw σ xv)) xk) (CP_v hC hb_r1).1 (CP_v hC hb_r1).2 (by omega) (by omega) (by omega)) ⟨rfl, rfl⟩ rfl hP (CP_v hC hb_r1).1 (CP_v hC hb_r1).2 rfl rfl rfl hl rfl (Nat.le_of_ble_eq_true rfl) dX3_viewTake_31 ⟨Nat.le_of_ble_eq_true rfl, Nat.le_of_ble_eq_true rfl⟩ (fun r7 e_r7 => ?_)
  subst e_r7
  refine q_if_eq hx hb dX3_viewTake_34 (tgt := 49) (by decide) (by omega) (fun c8 => ?_) (fun c8 => ?_)
  · refine q_iconst hx hb dX3_viewTake_49 ?_
    refine W.widen (k := 8) (n := 60) (Nat.le_of_ble_eq_true rfl) (Nat.le_of_ble_eq_true rfl) ?_
    exact vx_ret (q_retMi C0 hret rfl hlk dX3_viewTake_50 hP hD hS (⟨by first | trivial | omega, by first | trivial | omega, (by unfold kR_viewTake; (repeat' split) <;> first | rfl | (exfalso; omega)), O, G, CP_eq hC (by unfold kS_viewTake; (repeat' split) <;> first | rfl | (exfalso; omega)), rfl, Ext0 hO⟩))
  · refine lv_aload_n hx hb dX3_viewTake_37 rfl (lv_at hl 1 rfl) ?_
    refine q_get C0 iX1 hP (CP_v hC hb_r1).1 (CP_v hC hb_r1).2 rfl 0 (by decide) flX3_178 rfl rfl dX3_viewTake_38 ?_
    refine lv_iload hx hb dX3_viewTake_41 (lv_at hl 0 rfl) ?_
    refine q_vMi C0 lX3_113 (c_X0_go l D y L F4 _ (grh G (zvw σ xv)) (grw G (zvw σ xv)) (zod σ (zvw σ xv)) (zst σ (zvw σ xv)) (turn (zod σ (zvw σ xv)) xk) (CP_r hC (hW.2.2.1 xv)) (by omega)) ⟨rfl, rfl⟩ rfl hP hD hS hA (CP_r hC (hW.2.2.1 xv)).1 (CP_r hC (hW.2.2.1 xv)).2.1 rfl rfl rfl hl rfl (Nat.le_of_ble_eq_true rfl) dX3_viewTake_43 ⟨Nat.le_of_ble_eq_true rfl, Nat.le_of_ble_eq_true rfl⟩ (fun r9 H locs L10 F10 hP hD hS hz10 hp10 => ?_)
    obtain ⟨eL, er, hRn, hfr1⟩ := hp10
    subst eL
    subst er
    have hO := hO.tr (OEf hC (hW.2.2.1 xv) hfr1)
    have hC := CP_row hC (hW.2.2.1 xv) hRn hfr1
    refine lv_goto (tgt := 50) hx hb dX3_viewTake_46 (by decide) ?_
    refine W.widen (k := 8) (n := 60) (Nat.le_of_ble_eq_true rfl) (Nat.le_of_ble_eq_true rfl) ?_
    exact vx_ret (q_retMi C0 hret rfl hlk dX3_viewTake_50 hP hD hS (⟨by first | trivial | omega, by first | trivial | omega, (by unfold kR_viewTake; (repeat' split) <;> first | rfl | (exfalso; omega)), O, G, CP_eq hC (by unfold kS_viewTake; (repeat' split) <;> first | rfl | (exfalso; omega)), rfl, Ext0 hO⟩))
set_option maxHeartbeats 800000 in
set_option maxRecDepth 100000 in
theorem c_X3_viewDrop (l : Launch) (hfl : l.stackTraces = false) (D : va_G) (y : Nat → ClassId) (L : List Nat) (F : Nat → va_E) (sz : Nat) (O : Nat → Prop) (G : CG) (σ : CS) (xv : Int) (xt : Int) (hC : CP y L F O G σ) (hW : CW σ) (h_xv : -2147483648 ≤ xv ∧ xv ≤ 2147483647) (h_xt : -2147483648 ≤ xt ∧ xt ≤ 2147483647) : vx_Met l yX3_viewDrop (.code yX3_viewDrop cX3_viewDrop 4 (some .int) :: Tt) ({ frames := 7, cells := 8, slots := 60, locals := 103 }) (PcX D y L F sz [.ref ((gbg G)), .int (iI xv), .int (iI xt)]) (cMi D (AL L sz) (fun r L1 F1 => ((0 ≤ xv ∧ xv ≤ 1)) ∧ ((0 ≤ xt ∧ xt ≤ 2)) ∧ r = kR_viewDrop σ xv xt ∧ ∃ O1 G1, CP y L1 F1 O1 G1 (kS_viewDrop σ xv xt) ∧ gbg G1 = gbg G ∧ Ext O O1 L L1 F F1)) (XC (pX ((0 ≤ xv ∧ xv ≤ 1)) ((0 ≤ xt ∧ xt ≤ 2)))) 8 60 (AL L sz) := by
  have vb_ := hW.2.2.2.2.1 xv
  have hO : OE O F F := fun _ _ => rfl
  have hw4 := hW.2.2.2.2.2.1
  have hw5 := hW.2.2.2.2.2.2.1
  have hw6 := hW.2.2.2.2.2.2.2.2.2.2
  refine q_ofX (lv := [(0, .ref ((gbg G))), (1, .int (iI xv)), (2, .int (iI xt))]) (by decide) (Nat.le_of_ble_eq_true rfl) rfl (fun p e s m below meth c C0 hret hlk hout hsz hA hP hD hS hX ls hl => ?_)
  subst hsz
  have hx := C0.1.1
  have hb := C0.1.2.1
  have hts := C0.1.2.2.2.2
  refine lv_aload_n hx hb dX3_viewDrop_0 rfl (lv_at hl 0 rfl) ?_
  refine lv_iload_n hx hb dX3_viewDrop_1 rfl (lv_at hl 1 rfl) ?_
  refine q_vXa C0 lX3_171 (c_X3_viewAt l hfl D y L F _ O G σ xv hC (by omega)) ⟨rfl, rfl⟩ rfl hP hD hX hout hlk hC.1.1 hC.1.2 rfl rfl rfl hl rfl (Nat.le_of_ble_eq_true rfl) dX3_viewDrop_2 ⟨Nat.le_of_ble_eq_true rfl, Nat.le_of_ble_eq_true rfl⟩ ⟨Nat.le_of_ble_eq_true rfl, Nat.le_of_ble_eq_true rfl⟩ (fun E h => Or.inl ⟨h.1, fun q => h.2 (by omega)⟩) (fun r1 e_r1 => ?_)
  refine W.widen (k := 1) (n := 6) (Nat.le_of_ble_eq_true rfl) (Nat.le_of_ble_eq_true rfl) ?_
  obtain ⟨hb_r1, e_r1⟩ := e_r1
  subst e_r1
  have hv_r1 := hW.2.2.2.2.1 xv
  refine lv_astore_n (lv' := [(3, .ref ((gva G xv))), (0, .ref ((gbg G))), (1, .int (iI xv)), (2, .int (iI xt))]) hx hb dX3_viewDrop_5 rfl hl (by decide) rfl (fun ls hl => ?_)
  refine lv_iload_n hx hb dX3_viewDrop_6 rfl (lv_at hl 3 rfl) ?_
  refine q_iconst hx hb dX3_viewDrop_7 ?_
  refine q_sXv C0 lX3_41 (c_X3_checkUpTo l hfl D y L F _ xt 2 (by omega) (by omega)) ⟨rfl, rfl⟩ rfl hP hD hX hout hlk rfl hl rfl (Nat.le_of_ble_eq_true rfl) dX3_viewDrop_8 ⟨Nat.le_of_ble_eq_true rfl, Nat.le_of_ble_eq_true rfl⟩ ⟨Nat.le_of_ble_eq_true rfl, Nat.le_of_ble_eq_true rfl⟩ (fun E h => Or.inr ⟨h.1, by first | trivial | omega, fun q => h.2 (by omega)⟩) (fun _ e_r2 => ?_)
  refine W.widen (k := 2) (n := 12) (Nat.le_of_ble_eq_true rfl) (Nat.le_of_ble_eq_true rfl) ?_
  refine lv_aload_n hx hb dX3_viewDrop_11 rfl (lv_at hl 1 rfl) ?_
  refine lv_aload_n hx hb dX3_viewDrop_12 rfl (lv_at hl 0 rfl) ?_
  refine q_get C0 iX1 hP (CP_v hC hb_r1).1 (CP_v hC hb_r1).2 rfl 0 (by decide) flX3_178 rfl rfl dX3_viewDrop_13 ?_
  refine q_vMv C0 lX3_67 (c_X3_write l D y L F _ O G σ (zvw σ xv) hC (hW.2.2.1 xv) hW.2.2.2.1) ⟨rfl, rfl⟩ rfl hP hD hS hA hC.1.1 hC.1.2 rfl rfl rfl hl rfl (Nat.le_of_ble_eq_true rfl) dX3_viewDrop_16 ⟨Nat.le_of_ble_eq_true rfl, Nat.le_of_ble_eq_true rfl⟩ (fun _ H locs L4 F4 hP hD hS hz4 hp4 => ?_)
  obtain ⟨eL, hC, er, hO1⟩ := hp4
  subst eL
  have hO := hO.tr hO1
  refine lv_aload_n hx hb dX3_viewDrop_19 rfl (lv_at hl 0 rfl) ?_
  refine q_get C0 iX1 hP (CP_v hC hb_r1).1 (CP_v hC hb_r1).2 rfl 0 (by decide) flX3_178 rfl rfl dX3_viewDrop_20 ?_
  refine lv_aload_n hx hb dX3_viewDrop_23 rfl (lv_at hl 0 rfl) ?_
  refine q_get C0 iX1 hP (CP_v hC hb_r1).1 (CP_v hC hb_r1).2 rfl 1 (by decide) flX3_182 rfl rfl dX3_viewDrop_24 ?_
  refine lv_aload_n hx hb dX3_viewDrop_27 rfl (lv_at hl 0 rfl) ?_
  refine q_get C0 iX1 hP (CP_v hC hb_r1).1 (CP_v hC hb_r1).2 rfl 2 (by decide) flX3_185 rfl rfl dX3_viewDrop_28 ?_
  refine lv_iload_n hx hb dX3_viewDrop_31 rfl (lv_at hl 3 rfl) ?_
  refine q_vMi C0 lX3_116 (c_X0_dropOfPart l D y L F4 _ (grh G (zvw σ xv)) (grw G (zvw σ xv)) (zod σ (zvw σ xv)) (zst σ (zvw σ xv)) (zvl σ xv) (zvh σ xv) xt (CP_r hC (hW.2.2.1 xv)) (by omega) (by omega) (by omega)) ⟨rfl, rfl⟩ rfl hP hD hS hA (CP_r hC (hW.2.2.1 xv)).1 (CP_r hC (hW.2.2.1 xv)).2.1 rfl rfl rfl hl rfl (Nat.le_of_ble_eq_true rfl) dX3_viewDrop_32 ⟨Nat.le_of_ble_eq_true rfl, Nat.le_of_ble_eq_true rfl⟩ (fun r5 H locs L6 F6 hP hD hS hz6 hp6 => ?_)
  obtain ⟨eL, er, hRn, hfr1⟩ := hp6
  subst eL
  subst er
  have hO := hO.tr (OEf hC (hW.2.2.1 xv) hfr1)
  have hC := CP_row hC (hW.2.2.1 xv) hRn hfr1
  refine W.widen (k := 8) (n := 60) (Nat.le_of_ble_eq_true rfl) (Nat.le_of_ble_eq_true rfl) ?_
  exact vx_ret (q_retMi C0 hret rfl hlk dX3_viewDrop_35 hP hD hS (⟨by first | trivial | omega, by first | trivial | omega, (by unfold kR_viewDrop; (repeat' split) <;> first | rfl | (exfalso; omega)), O, G, CP_eq hC (by unfold kS_viewDrop; (repeat' split) <;> first | rfl | (exfalso; omega)), rfl, Ext0 hO⟩))
set_option maxHeartbeats 800000 in
set_option maxRecDepth 100000 in
theorem c_X3_viewNear (l : Launch) (hfl : l.stackTraces = false) (D : va_G) (y : Nat → ClassId) (L : List Nat) (F : Nat → va_E) (sz : Nat) (O : Nat → Prop) (G : CG) (σ : CS) (xv : Int) (xk : Int) (xt : Int) (hC : CP y L F O G σ) (hW : CW σ) (h_xv : -2147483648 ≤ xv ∧ xv ≤ 2147483647) (h_xk : -2147483648 ≤ xk ∧ xk ≤ 2147483647) (h_xt : -2147483648 ≤ xt ∧ xt ≤ 2147483647) : vx_Met l yX3_viewNear (.code yX3_viewNear cX3_viewNear 5 (some .int) :: Tt) ({ frames := 7, cells := 8, slots := 60, locals := 103 }) (PcX D y L F sz [.ref ((gbg G)), .int (iI xv), .int (iI xk), .int (iI xt)]) (cMi D (AL L sz) (fun r L1 F1 => ((0 ≤ xv ∧ xv ≤ 1)) ∧ ((0 ≤ xk ∧ xk ≤ 99) ∧ (0 ≤ xt ∧ xt ≤ 4)) ∧ r = kR_viewNear σ xv xk xt ∧ ∃ O1 G1, CP y L1 F1 O1 G1 (kS_viewNear σ xv xk xt) ∧ gbg G1 = gbg G ∧ Ext O O1 L L1 F F1)) (XC (pX ((0 ≤ xv ∧ xv ≤ 1)) ((0 ≤ xk ∧ xk ≤ 99) ∧ (0 ≤ xt ∧ xt ≤ 4)))) 8 60 (AL L sz) := by
  have vb_ := hW.2.2.2.2.1 xv
  have hO : OE O F F := fun _ _ => rfl
  have hw4 := hW.2.2.2.2.2.1
  have hw5 := hW.2.2.2.2.2.2.1
  have hw6 := hW.2.2.2.2.2.2.2.2.2.2
  refine q_ofX (lv := [(0, .ref ((gbg G))), (1, .int (iI xv)), (2, .int (iI xk)), (3, .int (iI xt))]) (by decide) (Nat.le_of_ble_eq_true rfl) rfl (fun p e s m below meth c C0 hret hlk hout hsz hA hP hD hS hX ls hl => ?_)
  subst hsz
  have hx := C0.1.1
  have hb := C0.1.2.1
  have hts := C0.1.2.2.2.2
  refine lv_aload_n hx hb dX3_viewNear_0 rfl (lv_at hl 0 rfl) ?_
  refine lv_iload_n hx hb dX3_viewNear_1 rfl (lv_at hl 1 rfl) ?_
  refine q_vXa C0 lX3_171 (c_X3_viewAt l hfl D y L F _ O G σ xv hC (by omega)) ⟨rfl, rfl⟩ rfl hP hD hX hout hlk hC.1.1 hC.1.2 rfl rfl rfl hl rfl (Nat.le_of_ble_eq_true rfl) dX3_viewNear_2 ⟨Nat.le_of_ble_eq_true rfl, Nat.le_of_ble_eq_true rfl⟩ ⟨Nat.le_of_ble_eq_true rfl, Nat.le_of_ble_eq_true rfl⟩ (fun E h => Or.inl ⟨h.1, fun q => h.2 (by omega)⟩) (fun r1 e_r1 => ?_)
  refine W.widen (k := 1) (n := 6) (Nat.le_of_ble_eq_true rfl) (Nat.le_of_ble_eq_true rfl) ?_
  obtain ⟨hb_r1, e_r1⟩ := e_r1
  subst e_r1
  have hv_r1 := hW.2.2.2.2.1 xv
  refine lv_astore (lv' := [(4, .ref ((gva G xv))), (0, .ref ((gbg G))), (1, .int (iI xv)), (2, .int (iI xk)), (3, .int (iI xt))]) hx hb dX3_viewNear_5 hl (by decide) rfl (fun ls hl => ?_)
  refine lv_iload_n hx hb dX3_viewNear_7 rfl (lv_at hl 3 rfl) ?_
  refine q_sXv C0 lX3_60 (c_X3_checkKey l hfl D y L F _ xk (by omega)) ⟨rfl, rfl⟩ rfl hP hD hX hout hlk rfl hl rfl (Nat.le_of_ble_eq_true rfl) dX3_viewNear_8 ⟨Nat.le_of_ble_eq_true rfl, Nat.le_of_ble_eq_true rfl⟩ ⟨Nat.le_of_ble_eq_true rfl, Nat.le_of_ble_eq_true rfl⟩ (fun E h => Or.inr ⟨h.1, by first | trivial | omega, fun q => h.2 (by omega)⟩) (fun _ e_r2 => ?_)
  refine W.widen (k := 2) (n := 12) (Nat.le_of_ble_eq_true rfl) (Nat.le_of_ble_eq_true rfl) ?_
  refine lv_iload_n hx hb dX3_viewNear_11 rfl (lv_at hl 4 rfl) ?_
  refine q_iconst hx hb dX3_viewNear_12 ?_
  refine q_sXv C0 lX3_41 (c_X3_checkUpTo l hfl D y L F _ xt 4 (by omega) (by omega)) ⟨rfl, rfl⟩ rfl hP hD hX hout hlk rfl hl rfl (Nat.le_of_ble_eq_true rfl) dX3_viewNear_13 ⟨Nat.le_of_ble_eq_true rfl, Nat.le_of_ble_eq_true rfl⟩ ⟨Nat.le_of_ble_eq_true rfl, Nat.le_of_ble_eq_true rfl⟩ (fun E h => Or.inr ⟨h.1, by first | trivial | omega, fun q => h.2 (by omega)⟩) (fun _ e_r3 => ?_)
  refine W.widen (k := 3) (n := 18) (Nat.le_of_ble_eq_true rfl) (Nat.le_of_ble_eq_true rfl) ?_
  refine lv_aload hx hb dX3_viewNear_16 (lv_at hl 0 rfl) ?_
  refine q_get C0 iX1 hP (CP_v hC hb_r1).1 (CP_v hC hb_r1).2 rfl 0 (by decide) flX3_178 rfl rfl dX3_viewNear_18 ?_
  refine lv_aload hx hb dX3_viewNear_21 (lv_at hl 0 rfl) ?_
  refine q_get C0 iX1 hP (CP_v hC hb_r1).1 (CP_v hC hb_r1).2 rfl 0 (by decide) flX3_178 rfl rfl dX3_viewNear_23 ?_
  refine lv_aload hx hb dX3_viewNear_26 (lv_at hl 0 rfl) ?_
  refine q_get C0 iX1 hP (CP_v hC hb_r1).1 (CP_v hC hb_r1).2 rfl 1 (by decide) flX3_182 rfl rfl dX3_viewNear_28 ?_
  refine lv_aload hx hb dX3_viewNear_31 (lv_at hl 0 rfl) ?_
  refine q_get C0 iX1 hP (CP_v hC hb_r1).1 (CP_v hC hb_r1).2 rfl 2 (by decide) flX3_185 rfl rfl dX3_viewNear_33 ?_
  refine lv_iload_n hx hb dX3_viewNear_36 rfl (lv_at hl 3 rfl) ?_
  refine lv_iload_n hx hb dX3_viewNear_37 rfl (lv_at hl 4 rfl) ?_
  refine q_vS C0 lX3_126 (c_X0_nearInPart l D y L F (grh G (zvw σ xv)) (grw G (zvw σ xv)) (zod σ (zvw σ xv)) ((zst σ (zvw σ xv)).1) ((zst σ (zvw σ xv)).2.1) ((zst σ (zvw σ xv)).2.2) (zvl σ xv) (zvh σ xv) xk xt (CP_r hC (hW.2.2.1 xv)) (by omega) (by omega) (by omega) (by omega)) ⟨rfl, rfl⟩ rfl hP (CP_r hC (hW.2.2.1 xv)).1 (CP_r hC (hW.2.2.1 xv)).2.1 rfl rfl rfl hl rfl (Nat.le_of_ble_eq_true rfl) dX3_viewNear_38 ⟨Nat.le_of_ble_eq_true rfl, Nat.le_of_ble_eq_true rfl⟩ (fun r4 e_r4 => ?_)
  subst e_r4
  have b_5 := nearP_r (zod σ (zvw σ xv)) ((zst σ (zvw σ xv)).2.2) (zvl σ xv) (zvh σ xv) xk xt
  refine q_vS C0 lX3_129 (c_X0_pairAt l D y L F (grh G (zvw σ xv)) (grw G (zvw σ xv)) (zod σ (zvw σ xv)) ((zst σ (zvw σ xv)).1) ((zst σ (zvw σ xv)).2.1) ((zst σ (zvw σ xv)).2.2) (nearP (zod σ (zvw σ xv)) ((zst σ (zvw σ xv)).2.2) (zvl σ xv) (zvh σ xv) xk xt) (CP_r hC (hW.2.2.1 xv)) (by omega)) ⟨rfl, rfl⟩ rfl hP (CP_r hC (hW.2.2.1 xv)).1 (CP_r hC (hW.2.2.1 xv)).2.1 rfl rfl rfl hl rfl (Nat.le_of_ble_eq_true rfl) dX3_viewNear_41 ⟨Nat.le_of_ble_eq_true rfl, Nat.le_of_ble_eq_true rfl⟩ (fun r6 e_r6 => ?_)
  subst e_r6
  refine W.widen (k := 8) (n := 60) (Nat.le_of_ble_eq_true rfl) (Nat.le_of_ble_eq_true rfl) ?_
  exact vx_ret (q_retMi C0 hret rfl hlk dX3_viewNear_44 hP hD hS (⟨by first | trivial | omega, by first | trivial | omega, (by unfold kR_viewNear; (repeat' split) <;> first | rfl | (exfalso; omega)), O, G, CP_eq hC (by unfold kS_viewNear; (repeat' split) <;> first | rfl | (exfalso; omega)), rfl, Ext0 hO⟩))
set_option maxHeartbeats 800000 in
set_option maxRecDepth 100000 in
theorem c_X3_viewTell (l : Launch) (hfl : l.stackTraces = false) (D : va_G) (y : Nat → ClassId) (L : List Nat) (F : Nat → va_E) (sz : Nat) (O : Nat → Prop) (G : CG) (σ : CS) (xv : Int) (xt : Int) (hC : CP y L F O G σ) (hW : CW σ) (h_xv : -2147483648 ≤ xv ∧ xv ≤ 2147483647) (h_xt : -2147483648 ≤ xt ∧ xt ≤ 2147483647) : vx_Met l yX3_viewTell (.code yX3_viewTell cX3_viewTell 4 (some .int) :: Tt) ({ frames := 7, cells := 8, slots := 60, locals := 103 }) (PcX D y L F sz [.ref ((gbg G)), .int (iI xv), .int (iI xt)]) (cMi D (AL L sz) (fun r L1 F1 => ((0 ≤ xv ∧ xv ≤ 1)) ∧ ((0 ≤ xt ∧ xt ≤ 3)) ∧ r = kR_viewTell σ xv xt ∧ ∃ O1 G1, CP y L1 F1 O1 G1 (kS_viewTell σ xv xt) ∧ gbg G1 = gbg G ∧ Ext O O1 L L1 F F1)) (XC (pX ((0 ≤ xv ∧ xv ≤ 1)) ((0 ≤ xt ∧ xt ≤ 3)))) 8 60 (AL L sz) := by
  have vb_ := hW.2.2.2.2.1 xv
  have hO : OE O F F := fun _ _ => rfl
  have hw4 := hW.2.2.2.2.2.1
  have hw5 := hW.2.2.2.2.2.2.1
  have hw6 := hW.2.2.2.2.2.2.2.2.2.2
  refine q_ofX (lv := [(0, .ref ((gbg G))), (1, .int (iI xv)), (2, .int (iI xt))]) (by decide) (Nat.le_of_ble_eq_true rfl) rfl (fun p e s m below meth c C0 hret hlk hout hsz hA hP hD hS hX ls hl => ?_)
  subst hsz
  have hx := C0.1.1
  have hb := C0.1.2.1
  have hts := C0.1.2.2.2.2
  refine lv_aload_n hx hb dX3_viewTell_0 rfl (lv_at hl 0 rfl) ?_
  refine lv_iload_n hx hb dX3_viewTell_1 rfl (lv_at hl 1 rfl) ?_
  refine q_vXa C0 lX3_171 (c_X3_viewAt l hfl D y L F _ O G σ xv hC (by omega)) ⟨rfl, rfl⟩ rfl hP hD hX hout hlk hC.1.1 hC.1.2 rfl rfl rfl hl rfl (Nat.le_of_ble_eq_true rfl) dX3_viewTell_2 ⟨Nat.le_of_ble_eq_true rfl, Nat.le_of_ble_eq_true rfl⟩ ⟨Nat.le_of_ble_eq_true rfl, Nat.le_of_ble_eq_true rfl⟩ (fun E h => Or.inl ⟨h.1, fun q => h.2 (by omega)⟩) (fun r1 e_r1 => ?_)
  refine W.widen (k := 1) (n := 6) (Nat.le_of_ble_eq_true rfl) (Nat.le_of_ble_eq_true rfl) ?_
  obtain ⟨hb_r1, e_r1⟩ := e_r1
  subst e_r1
  have hv_r1 := hW.2.2.2.2.1 xv
  refine lv_astore_n (lv' := [(3, .ref ((gva G xv))), (0, .ref ((gbg G))), (1, .int (iI xv)), (2, .int (iI xt))]) hx hb dX3_viewTell_5 rfl hl (by decide) rfl (fun ls hl => ?_)
  refine lv_iload_n hx hb dX3_viewTell_6 rfl (lv_at hl 3 rfl) ?_
  refine q_iconst hx hb dX3_viewTell_7 ?_
  refine q_sXv C0 lX3_41 (c_X3_checkUpTo l hfl D y L F _ xt 3 (by omega) (by omega)) ⟨rfl, rfl⟩ rfl hP hD hX hout hlk rfl hl rfl (Nat.le_of_ble_eq_true rfl) dX3_viewTell_8 ⟨Nat.le_of_ble_eq_true rfl, Nat.le_of_ble_eq_true rfl⟩ ⟨Nat.le_of_ble_eq_true rfl, Nat.le_of_ble_eq_true rfl⟩ (fun E h => Or.inr ⟨h.1, by first | trivial | omega, fun q => h.2 (by omega)⟩) (fun _ e_r2 => ?_)
  refine W.widen (k := 2) (n := 12) (Nat.le_of_ble_eq_true rfl) (Nat.le_of_ble_eq_true rfl) ?_
  refine lv_iload_n hx hb dX3_viewTell_11 rfl (lv_at hl 3 rfl) ?_
  refine q_if_ne hx hb dX3_viewTell_12 (tgt := 31) (by decide) (by omega) (fun c3 => ?_) (fun c3 => ?_)
  · refine lv_iload_n hx hb dX3_viewTell_31 rfl (lv_at hl 3 rfl) ?_
    refine q_iconst hx hb dX3_viewTell_32 ?_
    refine q_icmp_ne hx hb dX3_viewTell_33 (tgt := 52) (by decide) (by omega) (by omega) (fun c4 => ?_) (fun c4 => ?_)
    · refine lv_aload_n hx hb dX3_viewTell_52 rfl (lv_at hl 1 rfl) ?_
      refine lv_aload_n hx hb dX3_viewTell_53 rfl (lv_at hl 0 rfl) ?_
      refine q_get C0 iX1 hP (CP_v hC hb_r1).1 (CP_v hC hb_r1).2 rfl 0 (by decide) flX3_178 rfl rfl dX3_viewTell_54 ?_
      refine lv_aload_n hx hb dX3_viewTell_57 rfl (lv_at hl 0 rfl) ?_
      refine q_get C0 iX1 hP (CP_v hC hb_r1).1 (CP_v hC hb_r1).2 rfl 0 (by decide) flX3_178 rfl rfl dX3_viewTell_58 ?_
      refine lv_aload_n hx hb dX3_viewTell_61 rfl (lv_at hl 0 rfl) ?_
      refine q_get C0 iX1 hP (CP_v hC hb_r1).1 (CP_v hC hb_r1).2 rfl 1 (by decide) flX3_182 rfl rfl dX3_viewTell_62 ?_
      refine lv_aload_n hx hb dX3_viewTell_65 rfl (lv_at hl 0 rfl) ?_
      refine q_get C0 iX1 hP (CP_v hC hb_r1).1 (CP_v hC hb_r1).2 rfl 2 (by decide) flX3_185 rfl rfl dX3_viewTell_66 ?_
      refine lv_iload_n hx hb dX3_viewTell_69 rfl (lv_at hl 3 rfl) ?_
      refine q_iconst hx hb dX3_viewTell_70 ?_
      refine q_icmp_ne hx hb dX3_viewTell_71 (tgt := 78) (by decide) (by omega) (by omega) (fun c5 => ?_) (fun c5 => ?_)
      · refine q_iconst hx hb dX3_viewTell_78 ?_
        refine q_vS C0 lX3_135 (c_X0_endOfPart l D y L F (grh G (zvw σ xv)) (grw G (zvw σ xv)) (zod σ (zvw σ xv)) ((zst σ (zvw σ xv)).1) ((zst σ (zvw σ xv)).2.1) ((zst σ (zvw σ xv)).2.2) (zvl σ xv) (zvh σ xv) 0 (CP_r hC (hW.2.2.1 xv)) (by omega) (by omega) (by omega)) ⟨rfl, rfl⟩ rfl hP (CP_r hC (hW.2.2.1 xv)).1 (CP_r hC (hW.2.2.1 xv)).2.1 rfl rfl rfl hl rfl (Nat.le_of_ble_eq_true rfl) dX3_viewTell_79 ⟨Nat.le_of_ble_eq_true rfl, Nat.le_of_ble_eq_true rfl⟩ (fun r6 e_r6 => ?_)
        subst e_r6
        have b_7 := endP_r ((zst σ (zvw σ xv)).2.2) (zvl σ xv) (zvh σ xv) 0
        refine q_vMi C0 lX3_139 (c_X3_keyOrRefuse l D y L F _ O G σ (zvw σ xv) (endP ((zst σ (zvw σ xv)).2.2) (zvl σ xv) (zvh σ xv) 0) hC (hW.2.2.1 xv) (by omega)) ⟨rfl, rfl⟩ rfl hP hD hS hA hC.1.1 hC.1.2 rfl rfl rfl hl rfl (Nat.le_of_ble_eq_true rfl) dX3_viewTell_82 ⟨Nat.le_of_ble_eq_true rfl, Nat.le_of_ble_eq_true rfl⟩ (fun r8 H locs L9 F9 hP hD hS hz9 hp9 => ?_)
        obtain ⟨eL, hC, er, hO1⟩ := hp9
        subst eL
        subst er
        have hO := hO.tr hO1
        refine W.widen (k := 8) (n := 60) (Nat.le_of_ble_eq_true rfl) (Nat.le_of_ble_eq_true rfl) ?_
        exact vx_ret (q_retMi C0 hret rfl hlk dX3_viewTell_85 hP hD hS (⟨by first | trivial | omega, by first | trivial | omega, (by unfold kR_viewTell; (repeat' split) <;> first | rfl | (exfalso; omega)), O, G, CP_eq hC (by unfold kS_viewTell; (repeat' split) <;> first | rfl | (exfalso; omega)), rfl, Ext0 hO⟩))
      · refine q_iconst hx hb dX3_viewTell_74 ?_
        refine lv_goto (tgt := 79) hx hb dX3_viewTell_75 (by decide) ?_
        refine q_vS C0 lX3_135 (c_X0_endOfPart l D y L F (grh G (zvw σ xv)) (grw G (zvw σ xv)) (zod σ (zvw σ xv)) ((zst σ (zvw σ xv)).1) ((zst σ (zvw σ xv)).2.1) ((zst σ (zvw σ xv)).2.2) (zvl σ xv) (zvh σ xv) 1 (CP_r hC (hW.2.2.1 xv)) (by omega) (by omega) (by omega)) ⟨rfl, rfl⟩ rfl hP (CP_r hC (hW.2.2.1 xv)).1 (CP_r hC (hW.2.2.1 xv)).2.1 rfl rfl rfl hl rfl (Nat.le_of_ble_eq_true rfl) dX3_viewTell_79 ⟨Nat.le_of_ble_eq_true rfl, Nat.le_of_ble_eq_true rfl⟩ (fun r10 e_r10 => ?_)
        subst e_r10
        have b_11 := endP_r ((zst σ (zvw σ xv)).2.2) (zvl σ xv) (zvh σ xv) 1
        refine q_vMi C0 lX3_139 (c_X3_keyOrRefuse l D y L F _ O G σ (zvw σ xv) (endP ((zst σ (zvw σ xv)).2.2) (zvl σ xv) (zvh σ xv) 1) hC (hW.2.2.1 xv) (by omega)) ⟨rfl, rfl⟩ rfl hP hD hS hA hC.1.1 hC.1.2 rfl rfl rfl hl rfl (Nat.le_of_ble_eq_true rfl) dX3_viewTell_82 ⟨Nat.le_of_ble_eq_true rfl, Nat.le_of_ble_eq_true rfl⟩ (fun r12 H locs L13 F13 hP hD hS hz13 hp13 => ?_)
        obtain ⟨eL, hC, er, hO1⟩ := hp13
        subst eL
        subst er
        have hO := hO.tr hO1
        refine W.widen (k := 8) (n := 60) (Nat.le_of_ble_eq_true rfl) (Nat.le_of_ble_eq_true rfl) ?_
        exact vx_ret (q_retMi C0 hret rfl hlk dX3_viewTell_85 hP hD hS (⟨by first | trivial | omega, by first | trivial | omega, (by unfold kR_viewTell; (repeat' split) <;> first | rfl | (exfalso; omega)), O, G, CP_eq hC (by unfold kS_viewTell; (repeat' split) <;> first | rfl | (exfalso; omega)), rfl, Ext0 hO⟩))
    · refine lv_aload_n hx hb dX3_viewTell_36 rfl (lv_at hl 0 rfl) ?_
      refine q_get C0 iX1 hP (CP_v hC hb_r1).1 (CP_v hC hb_r1).2 rfl 0 (by decide) flX3_178 rfl rfl dX3_viewTell_37 ?_
      refine lv_aload_n hx hb dX3_viewTell_40 rfl (lv_at hl 0 rfl) ?_
      refine q_get C0 iX1 hP (CP_v hC hb_r1).1 (CP_v hC hb_r1).2 rfl 1 (by decide) flX3_182 rfl rfl dX3_viewTell_41 ?_
      refine lv_aload_n hx hb dX3_viewTell_44 rfl (lv_at hl 0 rfl) ?_
      refine q_get C0 iX1 hP (CP_v hC hb_r1).1 (CP_v hC hb_r1).2 rfl 2 (by decide) flX3_185 rfl rfl dX3_viewTell_45 ?_
      refine q_vS C0 lX3_194 (c_X0_worthsOfPart l D y L F (grh G (zvw σ xv)) (grw G (zvw σ xv)) (zod σ (zvw σ xv)) ((zst σ (zvw σ xv)).1) ((zst σ (zvw σ xv)).2.1) ((zst σ (zvw σ xv)).2.2) (zvl σ xv) (zvh σ xv) (CP_r hC (hW.2.2.1 xv)) (by omega) (by omega)) ⟨rfl, rfl⟩ rfl hP (CP_r hC (hW.2.2.1 xv)).1 (CP_r hC (hW.2.2.1 xv)).2.1 rfl rfl rfl hl rfl (Nat.le_of_ble_eq_true rfl) dX3_viewTell_48 ⟨Nat.le_of_ble_eq_true rfl, Nat.le_of_ble_eq_true rfl⟩ (fun r14 e_r14 => ?_)
      subst e_r14
      refine W.widen (k := 8) (n := 60) (Nat.le_of_ble_eq_true rfl) (Nat.le_of_ble_eq_true rfl) ?_
      exact vx_ret (q_retMi C0 hret rfl hlk dX3_viewTell_51 hP hD hS (⟨by first | trivial | omega, by first | trivial | omega, (by unfold kR_viewTell; (repeat' split) <;> first | rfl | (exfalso; omega)), O, G, CP_eq hC (by unfold kS_viewTell; (repeat' split) <;> first | rfl | (exfalso; omega)), rfl, Ext0 hO⟩))
  · refine lv_aload_n hx hb dX3_viewTell_15 rfl (lv_at hl 0 rfl) ?_
    refine q_get C0 iX1 hP (CP_v hC hb_r1).1 (CP_v hC hb_r1).2 rfl 0 (by decide) flX3_178 rfl rfl dX3_viewTell_16 ?_
    refine lv_aload_n hx hb dX3_viewTell_19 rfl (lv_at hl 0 rfl) ?_
    refine q_get C0 iX1 hP (CP_v hC hb_r1).1 (CP_v hC hb_r1).2 rfl 1 (by decide) flX3_182 rfl rfl dX3_viewTell_20 ?_
    refine lv_aload_n hx hb dX3_viewTell_23 rfl (lv_at hl 0 rfl) ?_
    refine q_get C0 iX1 hP (CP_v hC hb_r1).1 (CP_v hC hb_r1).2 rfl 2 (by decide) flX3_185 rfl rfl dX3_viewTell_24 ?_
    refine q_vS C0 lX3_188 (c_X0_countOfPart l D y L F (grh G (zvw σ xv)) (grw G (zvw σ xv)) (zod σ (zvw σ xv)) ((zst σ (zvw σ xv)).1) ((zst σ (zvw σ xv)).2.1) ((zst σ (zvw σ xv)).2.2) (zvl σ xv) (zvh σ xv) (CP_r hC (hW.2.2.1 xv)) (by omega) (by omega)) ⟨rfl, rfl⟩ rfl hP (CP_r hC (hW.2.2.1 xv)).1 (CP_r hC (hW.2.2.1 xv)).2.1 rfl rfl rfl hl rfl (Nat.le_of_ble_eq_true rfl) dX3_viewTell_27 ⟨Nat.le_of_ble_eq_true rfl, Nat.le_of_ble_eq_true rfl⟩ (fun r15 e_r15 => ?_)
    subst e_r15
    refine W.widen (k := 8) (n := 60) (Nat.le_of_ble_eq_true rfl) (Nat.le_of_ble_eq_true rfl) ?_
    exact vx_ret (q_retMi C0 hret rfl hlk dX3_viewTell_30 hP hD hS (⟨by first | trivial | omega, by first | trivial | omega, (by unfold kR_viewTell; (repeat' split) <;> first | rfl | (exfalso; omega)), O, G, CP_eq hC (by unfold kS_viewTell; (repeat' split) <;> first | rfl | (exfalso; omega)), rfl, Ext0 hO⟩))
set_option maxHeartbeats 800000 in
set_option maxRecDepth 100000 in
theorem c_X3_startWalk (l : Launch) (hfl : l.stackTraces = false) (D : va_G) (y : Nat → ClassId) (L : List Nat) (F : Nat → va_E) (sz : Nat) (O : Nat → Prop) (G : CG) (σ : CS) (xb : Int) (hC : CP y L F O G σ) (hW : CW σ) (h_xb : -2147483648 ≤ xb ∧ xb ≤ 2147483647) : vx_Met l yX3_startWalk (.code yX3_startWalk cX3_startWalk 3 (some .int) :: Tt) ({ frames := 7, cells := 8, slots := 60, locals := 103 }) (PcX D y L F sz [.ref ((gbg G)), .int (iI xb)]) (cMi D (AL L sz) (fun r L1 F1 => ((0 ≤ xb ∧ xb ≤ 3)) ∧ (True) ∧ r = kR_startWalk σ xb ∧ ∃ O1 G1, CP y L1 F1 O1 G1 (kS_startWalk σ xb) ∧ gbg G1 = gbg G ∧ Ext O O1 L L1 F F1)) (XC (pX ((0 ≤ xb ∧ xb ≤ 3)) (True))) 8 60 (AL L sz) := by
  have hO : OE O F F := fun _ _ => rfl
  have hw4 := hW.2.2.2.2.2.1
  have hw5 := hW.2.2.2.2.2.2.1
  have hw6 := hW.2.2.2.2.2.2.2.2.2.2
  refine q_ofX (lv := [(0, .ref ((gbg G))), (1, .int (iI xb))]) (by decide) (Nat.le_of_ble_eq_true rfl) rfl (fun p e s m below meth c C0 hret hlk hout hsz hA hP hD hS hX ls hl => ?_)
  subst hsz
  have hx := C0.1.1
  have hb := C0.1.2.1
  have hts := C0.1.2.2.2.2
  refine lv_aload_n hx hb dX3_startWalk_0 rfl (lv_at hl 0 rfl) ?_
  refine lv_iload_n hx hb dX3_startWalk_1 rfl (lv_at hl 1 rfl) ?_
  refine q_vXa C0 lX3_37 (c_X3_bookAt l hfl D y L F _ O G σ xb hC (by omega)) ⟨rfl, rfl⟩ rfl hP hD hX hout hlk hC.1.1 hC.1.2 rfl rfl rfl hl rfl (Nat.le_of_ble_eq_true rfl) dX3_startWalk_2 ⟨Nat.le_of_ble_eq_true rfl, Nat.le_of_ble_eq_true rfl⟩ ⟨Nat.le_of_ble_eq_true rfl, Nat.le_of_ble_eq_true rfl⟩ (fun E h => Or.inl ⟨h.1, fun q => h.2 (by omega)⟩) (fun r1 e_r1 => ?_)
  refine W.widen (k := 1) (n := 6) (Nat.le_of_ble_eq_true rfl) (Nat.le_of_ble_eq_true rfl) ?_
  obtain ⟨hb_r1, e_r1⟩ := e_r1
  subst e_r1
  refine lv_astore_n (lv' := [(2, .ref ((grh G (zbk σ xb)))), (0, .ref ((gbg G))), (1, .int (iI xb))]) hx hb dX3_startWalk_5 rfl hl (by decide) rfl (fun ls hl => ?_)
  refine lv_aload_n hx hb dX3_startWalk_6 rfl (lv_at hl 1 rfl) ?_
  refine q_get C0 iX3 hP hC.1.1 hC.1.2 rfl 3 (by decide) flX3_33 rfl rfl dX3_startWalk_7 ?_
  refine lv_aload_n hx hb dX3_startWalk_10 rfl (lv_at hl 0 rfl) ?_
  refine q_vMv C0 lX3_197 (c_X2_begin l D y L F _ O G σ (zbk σ xb) hC (hW.1 xb)) ⟨rfl, rfl⟩ rfl hP hD hS hA (CP_k hC).1 (CP_k hC).2 rfl rfl rfl hl rfl (Nat.le_of_ble_eq_true rfl) dX3_startWalk_11 ⟨Nat.le_of_ble_eq_true rfl, Nat.le_of_ble_eq_true rfl⟩ (fun _ H locs L3 F3 hP hD hS hz3 hp3 => ?_)
  obtain ⟨eL, hC, er, hO1⟩ := hp3
  subst eL
  have hO := hO.tr hO1
  refine lv_aload_n hx hb dX3_startWalk_14 rfl (lv_at hl 0 rfl) ?_
  refine q_get C0 iX0 hP (CP_r hC (hW.1 xb)).1 (CP_r hC (hW.1 xb)).2.1 rfl 2 (by decide) flX3_49 rfl rfl dX3_startWalk_15 ?_
  refine W.widen (k := 8) (n := 60) (Nat.le_of_ble_eq_true rfl) (Nat.le_of_ble_eq_true rfl) ?_
  exact vx_ret (q_retMi C0 hret rfl hlk dX3_startWalk_18 hP hD hS (⟨by first | trivial | omega, by first | trivial | omega, (by unfold kR_startWalk; (repeat' split) <;> first | rfl | (exfalso; omega)), O, G, CP_eq hC (by unfold kS_startWalk; (repeat' split) <;> first | rfl | (exfalso; omega)), rfl, Ext0 hO⟩))
