set_option maxHeartbeats 800000 in
set_option maxRecDepth 100000 in
theorem c_X3_walkNext0 (l : Launch) (D : va_G) (y : Nat → ClassId) (L : List Nat) (F : Nat → va_E) (sz : Nat) (O : Nat → Prop) (G : CG) (σ : CS) (hC : CP y L F O G σ) (hW : CW σ) (hwk : zwk σ = none) : Met l yX3_walkNext (.code yX3_walkNext cX3_walkNext 1 (some .int) :: Tt) ({ frames := 1, cells := 0, slots := 0, locals := 20 }) (PcM D y L F sz [.ref ((gbg G))]) (cMi D (AL L sz) (fun r L1 F1 => L = L1 ∧ CP y L F1 O G (kS_walkNext0 σ) ∧ r = kR_walkNext0 σ ∧ OE O F F1)) 0 0 (AL L sz) := by
  have hO : OE O F F := fun _ _ => rfl
  have hw4 := hW.2.2.2.2.2.1
  have hw5 := hW.2.2.2.2.2.2.1
  have hw6 := hW.2.2.2.2.2.2.2.2.2.2
  refine q_ofM (lv := [(0, .ref ((gbg G)))]) (by decide) (Nat.le_of_ble_eq_true rfl) rfl (fun p e s m below meth c C0 hret hlk hnm hA hP hD hS ls hl => ?_)
  have hx := C0.1.1
  have hb := C0.1.2.1
  have hts := C0.1.2.2.2.2
  refine lv_aload_n hx hb dX3_walkNext_0 rfl (lv_at hl 0 rfl) ?_
  refine q_get C0 iX3 hP hC.1.1 hC.1.2 rfl 3 (by decide) flX3_33 rfl rfl dX3_walkNext_1 ?_
  refine q_vS C0 lX3_200 (c_X2_isGoing0 l D y L F O G σ hC hwk) ⟨rfl, rfl⟩ rfl hP (CP_k0 hC hwk).1 (CP_k0 hC hwk).2 rfl rfl rfl hl rfl (Nat.le_of_ble_eq_true rfl) dX3_walkNext_4 ⟨Nat.zero_le _, Nat.zero_le _⟩ (fun r1 e_r1 => ?_)
  subst e_r1
  refine q_if_ne hx hb dX3_walkNext_7 (tgt := 15) (by decide) (by omega) (fun c2 => absurd c2 (by omega)) (fun c2 => ?_)
  refine lv_aload_n hx hb dX3_walkNext_10 rfl (lv_at hl 0 rfl) ?_
  refine q_vMi C0 lX3_63 (c_X3_refuse l D y L F _ O G σ hC) ⟨rfl, rfl⟩ rfl hP hD hS hA hC.1.1 hC.1.2 rfl rfl rfl hl rfl (Nat.le_of_ble_eq_true rfl) dX3_walkNext_11 ⟨Nat.le_of_ble_eq_true rfl, Nat.le_of_ble_eq_true rfl⟩ (fun r3 H locs L4 F4 hP hD hS hz4 hp4 => ?_)
  obtain ⟨eL, hC, er, hO1⟩ := hp4
  subst eL
  subst er
  have hO := hO.tr hO1
  exact q_retMi C0 hret rfl hlk dX3_walkNext_14 hP hD hS (⟨rfl, CP_eq hC (by unfold kS_walkNext0; (repeat' split) <;> first | rfl | (exfalso; omega)), (by unfold kR_walkNext0; (repeat' split) <;> first | rfl | (exfalso; omega)), hO⟩)
set_option maxHeartbeats 800000 in
set_option maxRecDepth 100000 in
theorem c_X3_walkNext1 (l : Launch) (D : va_G) (y : Nat → ClassId) (L : List Nat) (F : Nat → va_E) (sz : Nat) (O : Nat → Prop) (G : CG) (σ : CS) (j : Nat) (hC : CP y L F O G σ) (hW : CW σ) (hwk : zwk σ = some j) : Met l yX3_walkNext (.code yX3_walkNext cX3_walkNext 1 (some .int) :: Tt) ({ frames := 4, cells := 0, slots := 0, locals := 84 }) (PcM D y L F sz [.ref ((gbg G))]) (cMi D (AL L sz) (fun r L1 F1 => L = L1 ∧ CP y L F1 O G (kS_walkNext1 σ j) ∧ r = kR_walkNext1 σ j ∧ OE O F F1)) 0 0 (AL L sz) := by
  have hO : OE O F F := fun _ _ => rfl
  have hw4 := hW.2.2.2.2.2.1
  have hw5 := hW.2.2.2.2.2.2.1
  have hw6 := hW.2.2.2.2.2.2.2.2.2.2
  have hw7 := (hW.2.2.2.2.2.2.2.2.2.1 j (hW.2.2.2.1 _ hwk)).2
  refine q_ofM (lv := [(0, .ref ((gbg G)))]) (by decide) (Nat.le_of_ble_eq_true rfl) rfl (fun p e s m below meth c C0 hret hlk hnm hA hP hD hS ls hl => ?_)
  have hx := C0.1.1
  have hb := C0.1.2.1
  have hts := C0.1.2.2.2.2
  refine lv_aload_n hx hb dX3_walkNext_0 rfl (lv_at hl 0 rfl) ?_
  refine q_get C0 iX3 hP hC.1.1 hC.1.2 rfl 3 (by decide) flX3_33 rfl rfl dX3_walkNext_1 ?_
  refine q_vS C0 lX3_200 (c_X2_isGoing1 l D y L F O G σ j hC hwk (hW.2.2.2.1 _ hwk) (by omega) (by omega)) ⟨rfl, rfl⟩ rfl hP (CP_k1 hC hwk).1 (CP_k1 hC hwk).2 rfl rfl rfl hl rfl (Nat.le_of_ble_eq_true rfl) dX3_walkNext_4 ⟨Nat.zero_le _, Nat.zero_le _⟩ (fun r1 e_r1 => ?_)
  subst e_r1
  have b_2 := goI_b σ j
  refine q_if_ne hx hb dX3_walkNext_7 (tgt := 15) (by decide) (by omega) (fun c3 => ?_) (fun c3 => ?_)
  · refine lv_aload_n hx hb dX3_walkNext_15 rfl (lv_at hl 0 rfl) ?_
    refine q_get C0 iX3 hP hC.1.1 hC.1.2 rfl 3 (by decide) flX3_33 rfl rfl dX3_walkNext_16 ?_
    refine q_vMi C0 lX3_204 (c_X2_tellNext l D y L F _ O G σ j hC hwk (hW.2.2.2.1 _ hwk) (by first | exact hw4 | omega)) ⟨rfl, rfl⟩ rfl hP hD hS hA (CP_k1 hC hwk).1 (CP_k1 hC hwk).2 rfl rfl rfl hl rfl (Nat.le_of_ble_eq_true rfl) dX3_walkNext_19 ⟨Nat.le_of_ble_eq_true rfl, Nat.le_of_ble_eq_true rfl⟩ (fun r4 H locs L5 F5 hP hD hS hz5 hp5 => ?_)
    obtain ⟨eL, hC, er, hO1⟩ := hp5
    subst eL
    subst er
    have hO := hO.tr hO1
    exact q_retMi C0 hret rfl hlk dX3_walkNext_22 hP hD hS (⟨rfl, CP_eq hC (by unfold kS_walkNext1; (repeat' split) <;> first | rfl | (exfalso; omega)), (by unfold kR_walkNext1; (repeat' split) <;> first | rfl | (exfalso; omega)), hO⟩)
  · refine lv_aload_n hx hb dX3_walkNext_10 rfl (lv_at hl 0 rfl) ?_
    refine q_vMi C0 lX3_63 (c_X3_refuse l D y L F _ O G σ hC) ⟨rfl, rfl⟩ rfl hP hD hS hA hC.1.1 hC.1.2 rfl rfl rfl hl rfl (Nat.le_of_ble_eq_true rfl) dX3_walkNext_11 ⟨Nat.le_of_ble_eq_true rfl, Nat.le_of_ble_eq_true rfl⟩ (fun r6 H locs L7 F7 hP hD hS hz7 hp7 => ?_)
    obtain ⟨eL, hC, er, hO1⟩ := hp7
    subst eL
    subst er
    have hO := hO.tr hO1
    exact q_retMi C0 hret rfl hlk dX3_walkNext_14 hP hD hS (⟨rfl, CP_eq hC (by unfold kS_walkNext1; (repeat' split) <;> first | rfl | (exfalso; omega)), (by unfold kR_walkNext1; (repeat' split) <;> first | rfl | (exfalso; omega)), hO⟩)
set_option maxHeartbeats 800000 in
set_option maxRecDepth 100000 in
theorem c_X3_walkTake0 (l : Launch) (D : va_G) (y : Nat → ClassId) (L : List Nat) (F : Nat → va_E) (sz : Nat) (O : Nat → Prop) (G : CG) (σ : CS) (hC : CP y L F O G σ) (hW : CW σ) (hwk : zwk σ = none) : Met l yX3_walkTake (.code yX3_walkTake cX3_walkTake 1 (some .int) :: Tt) ({ frames := 1, cells := 0, slots := 0, locals := 20 }) (PcM D y L F sz [.ref ((gbg G))]) (cMi D (AL L sz) (fun r L1 F1 => L = L1 ∧ CP y L F1 O G (kS_walkTake0 σ) ∧ r = kR_walkTake0 σ ∧ OE O F F1)) 0 0 (AL L sz) := by
  have hO : OE O F F := fun _ _ => rfl
  have hw4 := hW.2.2.2.2.2.1
  have hw5 := hW.2.2.2.2.2.2.1
  have hw6 := hW.2.2.2.2.2.2.2.2.2.2
  refine q_ofM (lv := [(0, .ref ((gbg G)))]) (by decide) (Nat.le_of_ble_eq_true rfl) rfl (fun p e s m below meth c C0 hret hlk hnm hA hP hD hS ls hl => ?_)
  have hx := C0.1.1
  have hb := C0.1.2.1
  have hts := C0.1.2.2.2.2
  refine lv_aload_n hx hb dX3_walkTake_0 rfl (lv_at hl 0 rfl) ?_
  refine q_get C0 iX3 hP hC.1.1 hC.1.2 rfl 3 (by decide) flX3_33 rfl rfl dX3_walkTake_1 ?_
  refine q_vS C0 lX3_207 (c_X2_isTelling0 l D y L F O G σ hC hwk) ⟨rfl, rfl⟩ rfl hP (CP_k0 hC hwk).1 (CP_k0 hC hwk).2 rfl rfl rfl hl rfl (Nat.le_of_ble_eq_true rfl) dX3_walkTake_4 ⟨Nat.zero_le _, Nat.zero_le _⟩ (fun r1 e_r1 => ?_)
  subst e_r1
  refine q_if_ne hx hb dX3_walkTake_7 (tgt := 15) (by decide) (by omega) (fun c2 => absurd c2 (by omega)) (fun c2 => ?_)
  refine lv_aload_n hx hb dX3_walkTake_10 rfl (lv_at hl 0 rfl) ?_
  refine q_vMi C0 lX3_63 (c_X3_refuse l D y L F _ O G σ hC) ⟨rfl, rfl⟩ rfl hP hD hS hA hC.1.1 hC.1.2 rfl rfl rfl hl rfl (Nat.le_of_ble_eq_true rfl) dX3_walkTake_11 ⟨Nat.le_of_ble_eq_true rfl, Nat.le_of_ble_eq_true rfl⟩ (fun r3 H locs L4 F4 hP hD hS hz4 hp4 => ?_)
  obtain ⟨eL, hC, er, hO1⟩ := hp4
  subst eL
  subst er
  have hO := hO.tr hO1
  exact q_retMi C0 hret rfl hlk dX3_walkTake_14 hP hD hS (⟨rfl, CP_eq hC (by unfold kS_walkTake0; (repeat' split) <;> first | rfl | (exfalso; omega)), (by unfold kR_walkTake0; (repeat' split) <;> first | rfl | (exfalso; omega)), hO⟩)
set_option maxHeartbeats 800000 in
set_option maxRecDepth 100000 in
theorem c_X3_walkTake1 (l : Launch) (D : va_G) (y : Nat → ClassId) (L : List Nat) (F : Nat → va_E) (sz : Nat) (O : Nat → Prop) (G : CG) (σ : CS) (j : Nat) (hC : CP y L F O G σ) (hW : CW σ) (hwk : zwk σ = some j) : Met l yX3_walkTake (.code yX3_walkTake cX3_walkTake 1 (some .int) :: Tt) ({ frames := 4, cells := 0, slots := 0, locals := 84 }) (PcM D y L F sz [.ref ((gbg G))]) (cMi D (AL L sz) (fun r L1 F1 => L = L1 ∧ CP y L F1 O G (kS_walkTake1 σ j) ∧ r = kR_walkTake1 σ j ∧ OE O F F1)) 0 0 (AL L sz) := by
  have hO : OE O F F := fun _ _ => rfl
  have hw4 := hW.2.2.2.2.2.1
  have hw5 := hW.2.2.2.2.2.2.1
  have hw6 := hW.2.2.2.2.2.2.2.2.2.2
  have hw7 := (hW.2.2.2.2.2.2.2.2.2.1 j (hW.2.2.2.1 _ hwk)).2
  refine q_ofM (lv := [(0, .ref ((gbg G)))]) (by decide) (Nat.le_of_ble_eq_true rfl) rfl (fun p e s m below meth c C0 hret hlk hnm hA hP hD hS ls hl => ?_)
  have hx := C0.1.1
  have hb := C0.1.2.1
  have hts := C0.1.2.2.2.2
  refine lv_aload_n hx hb dX3_walkTake_0 rfl (lv_at hl 0 rfl) ?_
  refine q_get C0 iX3 hP hC.1.1 hC.1.2 rfl 3 (by decide) flX3_33 rfl rfl dX3_walkTake_1 ?_
  refine q_vS C0 lX3_207 (c_X2_isTelling1 l D y L F O G σ j hC hwk (hW.2.2.2.1 _ hwk) (by omega)) ⟨rfl, rfl⟩ rfl hP (CP_k1 hC hwk).1 (CP_k1 hC hwk).2 rfl rfl rfl hl rfl (Nat.le_of_ble_eq_true rfl) dX3_walkTake_4 ⟨Nat.zero_le _, Nat.zero_le _⟩ (fun r1 e_r1 => ?_)
  subst e_r1
  refine q_if_ne hx hb dX3_walkTake_7 (tgt := 15) (by decide) (by omega) (fun c2 => ?_) (fun c2 => ?_)
  · refine lv_aload_n hx hb dX3_walkTake_15 rfl (lv_at hl 0 rfl) ?_
    refine lv_dup hx hb dX3_walkTake_16 rfl ?_
    refine q_get C0 iX3 hP hC.1.1 hC.1.2 rfl 4 (by decide) flX3_45 rfl rfl dX3_walkTake_17 ?_
    refine q_iconst hx hb dX3_walkTake_20 ?_
    refine q_iadd hx hb dX3_walkTake_21 ?_
    refine q_put C0 iX3 tyX3 tyX3_ok nmX3 hP hD hS hC.1.1 hC.1.2 rfl 4 (by decide) flX3_45 rfl rfl rfl rfl (Nat.le_of_ble_eq_true rfl) dX3_walkTake_22 (fun H locs hP hD hS => ?_)
    obtain ⟨F3, eF3⟩ : ∃ z, z = va_up F (gbg G) (.inr (5, [.ref ((gab G)), .ref ((gas G)), .ref ((gav G)), .ref ((gkk G)), .int (iI ((z0 σ + 1))), .int (iI (z1 σ)), .int (iI (z2 σ)), .int (iI (z3 σ))])) := ⟨_, rfl⟩
    have hP : va_P D vwCl (va_pl L F3) H := by rw [eF3]; exact hP
    have hD : va_D (AL L sz) (va_pl L F3) := by rw [eF3]; exact hD
    have hO : OE O F F3 := by rw [eF3]; exact hO.tr (OE1 (CP_O hC).1)
    have hC : CP y L F3 O G (sCt σ (z0 σ + 1) (z1 σ) (z2 σ) (z3 σ)) := by rw [eF3]; exact CP_ct hC (va_up_self _ _ _) (fun q hq => va_up_ne _ _ hq)
    refine lv_aload_n hx hb dX3_walkTake_25 rfl (lv_at hl 0 rfl) ?_
    refine q_get C0 iX3 hP hC.1.1 hC.1.2 rfl 3 (by decide) flX3_33 rfl rfl dX3_walkTake_26 ?_
    refine q_vMi C0 lX3_213 (c_X2_removeTold l D y L F3 _ O G (sCt σ (z0 σ + 1) (z1 σ) (z2 σ) (z3 σ)) j hC hwk (hW.2.2.2.1 _ hwk) (by first | exact hw4 | omega)) ⟨rfl, rfl⟩ rfl hP hD hS hA (CP_k1 hC hwk).1 (CP_k1 hC hwk).2 rfl rfl rfl hl rfl (Nat.le_of_ble_eq_true rfl) dX3_walkTake_29 ⟨Nat.le_of_ble_eq_true rfl, Nat.le_of_ble_eq_true rfl⟩ (fun r4 H locs L5 F5 hP hD hS hz5 hp5 => ?_)
    obtain ⟨eL, hC, er, hO1⟩ := hp5
    subst eL
    subst er
    have hO := hO.tr hO1
    exact q_retMi C0 hret rfl hlk dX3_walkTake_32 hP hD hS (⟨rfl, CP_eq hC (by unfold kS_walkTake1; (repeat' split) <;> first | rfl | (exfalso; omega)), (by unfold kR_walkTake1; (repeat' split) <;> first | rfl | (exfalso; omega)), hO⟩)
  · refine lv_aload_n hx hb dX3_walkTake_10 rfl (lv_at hl 0 rfl) ?_
    refine q_vMi C0 lX3_63 (c_X3_refuse l D y L F _ O G σ hC) ⟨rfl, rfl⟩ rfl hP hD hS hA hC.1.1 hC.1.2 rfl rfl rfl hl rfl (Nat.le_of_ble_eq_true rfl) dX3_walkTake_11 ⟨Nat.le_of_ble_eq_true rfl, Nat.le_of_ble_eq_true rfl⟩ (fun r6 H locs L7 F7 hP hD hS hz7 hp7 => ?_)
    obtain ⟨eL, hC, er, hO1⟩ := hp7
    subst eL
    subst er
    have hO := hO.tr hO1
    exact q_retMi C0 hret rfl hlk dX3_walkTake_14 hP hD hS (⟨rfl, CP_eq hC (by unfold kS_walkTake1; (repeat' split) <;> first | rfl | (exfalso; omega)), (by unfold kR_walkTake1; (repeat' split) <;> first | rfl | (exfalso; omega)), hO⟩)
set_option maxHeartbeats 800000 in
set_option maxRecDepth 100000 in
theorem c_X3_knock (l : Launch) (D : va_G) (y : Nat → ClassId) (L : List Nat) (F : Nat → va_E) (sz : Nat) (O : Nat → Prop) (G : CG) (σ : CS) (hC : CP y L F O G σ) (hW : CW σ) : Met l yX3_knock (.code yX3_knock cX3_knock 1 (some .int) :: Tt) ({ frames := 0, cells := 0, slots := 0, locals := 0 }) (PcM D y L F sz [.ref ((gbg G))]) (cMi D (AL L sz) (fun r L1 F1 => L = L1 ∧ CP y L F1 O G (kS_knock σ) ∧ r = kR_knock σ ∧ OE O F F1)) 0 0 (AL L sz) := by
  have hO : OE O F F := fun _ _ => rfl
  have hw4 := hW.2.2.2.2.2.1
  have hw5 := hW.2.2.2.2.2.2.1
  have hw6 := hW.2.2.2.2.2.2.2.2.2.2
  refine q_ofM (lv := [(0, .ref ((gbg G)))]) (by decide) (Nat.le_of_ble_eq_true rfl) rfl (fun p e s m below meth c C0 hret hlk hnm hA hP hD hS ls hl => ?_)
  have hx := C0.1.1
  have hb := C0.1.2.1
  have hts := C0.1.2.2.2.2
  refine lv_aload_n hx hb dX3_knock_0 rfl (lv_at hl 0 rfl) ?_
  refine lv_dup hx hb dX3_knock_1 rfl ?_
  refine q_get C0 iX3 hP hC.1.1 hC.1.2 rfl 7 (by decide) flX3_241 rfl rfl dX3_knock_2 ?_
  refine q_iconst hx hb dX3_knock_5 ?_
  refine q_iadd hx hb dX3_knock_6 ?_
  refine q_put C0 iX3 tyX3 tyX3_ok nmX3 hP hD hS hC.1.1 hC.1.2 rfl 7 (by decide) flX3_241 rfl rfl rfl rfl (Nat.le_of_ble_eq_true rfl) dX3_knock_7 (fun H locs hP hD hS => ?_)
  obtain ⟨F1, eF1⟩ : ∃ z, z = va_up F (gbg G) (.inr (5, [.ref ((gab G)), .ref ((gas G)), .ref ((gav G)), .ref ((gkk G)), .int (iI (z0 σ)), .int (iI (z1 σ)), .int (iI (z2 σ)), .int (iI ((z3 σ + 1)))])) := ⟨_, rfl⟩
  have hP : va_P D vwCl (va_pl L F1) H := by rw [eF1]; exact hP
  have hD : va_D (AL L sz) (va_pl L F1) := by rw [eF1]; exact hD
  have hO : OE O F F1 := by rw [eF1]; exact hO.tr (OE1 (CP_O hC).1)
  have hC : CP y L F1 O G (sCt σ (z0 σ) (z1 σ) (z2 σ) (z3 σ + 1)) := by rw [eF1]; exact CP_ct hC (va_up_self _ _ _) (fun q hq => va_up_ne _ _ hq)
  refine lv_aload_n hx hb dX3_knock_10 rfl (lv_at hl 0 rfl) ?_
  refine q_get C0 iX3 hP hC.1.1 hC.1.2 rfl 7 (by decide) flX3_241 rfl rfl dX3_knock_11 ?_
  exact q_retMi C0 hret rfl hlk dX3_knock_14 hP hD hS (⟨rfl, CP_eq hC (by unfold kS_knock; (repeat' split) <;> first | rfl | (exfalso; omega)), (by unfold kR_knock; (repeat' split) <;> first | rfl | (exfalso; omega)), hO⟩)
set_option maxHeartbeats 800000 in
set_option maxRecDepth 100000 in
theorem c_X3_walkSet0 (l : Launch) (hfl : l.stackTraces = false) (D : va_G) (y : Nat → ClassId) (L : List Nat) (F : Nat → va_E) (sz : Nat) (O : Nat → Prop) (G : CG) (σ : CS) (xw : Int) (hC : CP y L F O G σ) (hW : CW σ) (h_xw : -2147483648 ≤ xw ∧ xw ≤ 2147483647) (hwk : zwk σ = none) : vx_Met l yX3_walkSet (.code yX3_walkSet cX3_walkSet 2 (some .int) :: Tt) ({ frames := 7, cells := 8, slots := 60, locals := 102 }) (PcX D y L F sz [.ref ((gbg G)), .int (iI xw)]) (cMi D (AL L sz) (fun r L1 F1 => (True) ∧ ((0 ≤ xw ∧ xw ≤ 99)) ∧ r = kR_walkSet0 σ xw ∧ ∃ O1 G1, CP y L1 F1 O1 G1 (kS_walkSet0 σ xw) ∧ gbg G1 = gbg G ∧ Ext O O1 L L1 F F1)) (XC (pX (True) ((0 ≤ xw ∧ xw ≤ 99)))) 8 60 (AL L sz) := by
  have hO : OE O F F := fun _ _ => rfl
  have hw4 := hW.2.2.2.2.2.1
  have hw5 := hW.2.2.2.2.2.2.1
  have hw6 := hW.2.2.2.2.2.2.2.2.2.2
  refine q_ofX (lv := [(0, .ref ((gbg G))), (1, .int (iI xw))]) (by decide) (Nat.le_of_ble_eq_true rfl) rfl (fun p e s m below meth c C0 hret hlk hout hsz hA hP hD hS hX ls hl => ?_)
  subst hsz
  have hx := C0.1.1
  have hb := C0.1.2.1
  have hts := C0.1.2.2.2.2
  refine lv_iload_n hx hb dX3_walkSet_0 rfl (lv_at hl 1 rfl) ?_
  refine q_sXv C0 lX3_104 (c_X3_checkWorth l hfl D y L F _ xw (by omega)) ⟨rfl, rfl⟩ rfl hP hD hX hout hlk rfl hl rfl (Nat.le_of_ble_eq_true rfl) dX3_walkSet_1 ⟨Nat.le_of_ble_eq_true rfl, Nat.le_of_ble_eq_true rfl⟩ ⟨Nat.le_of_ble_eq_true rfl, Nat.le_of_ble_eq_true rfl⟩ (fun E h => Or.inr ⟨h.1, by first | trivial | omega, fun q => h.2 (by omega)⟩) (fun _ e_r1 => ?_)
  refine W.widen (k := 1) (n := 6) (Nat.le_of_ble_eq_true rfl) (Nat.le_of_ble_eq_true rfl) ?_
  refine lv_aload_n hx hb dX3_walkSet_4 rfl (lv_at hl 0 rfl) ?_
  refine q_get C0 iX3 hP hC.1.1 hC.1.2 rfl 3 (by decide) flX3_33 rfl rfl dX3_walkSet_5 ?_
  refine q_vS C0 lX3_207 (c_X2_isTelling0 l D y L F O G σ hC hwk) ⟨rfl, rfl⟩ rfl hP (CP_k0 hC hwk).1 (CP_k0 hC hwk).2 rfl rfl rfl hl rfl (Nat.le_of_ble_eq_true rfl) dX3_walkSet_8 ⟨Nat.le_of_ble_eq_true rfl, Nat.le_of_ble_eq_true rfl⟩ (fun r2 e_r2 => ?_)
  subst e_r2
  refine q_if_ne hx hb dX3_walkSet_11 (tgt := 19) (by decide) (by omega) (fun c3 => absurd c3 (by omega)) (fun c3 => ?_)
  refine lv_aload_n hx hb dX3_walkSet_14 rfl (lv_at hl 0 rfl) ?_
  refine q_vMi C0 lX3_63 (c_X3_refuse l D y L F _ O G σ hC) ⟨rfl, rfl⟩ rfl hP hD hS hA hC.1.1 hC.1.2 rfl rfl rfl hl rfl (Nat.le_of_ble_eq_true rfl) dX3_walkSet_15 ⟨Nat.le_of_ble_eq_true rfl, Nat.le_of_ble_eq_true rfl⟩ (fun r4 H locs L5 F5 hP hD hS hz5 hp5 => ?_)
  obtain ⟨eL, hC, er, hO1⟩ := hp5
  subst eL
  subst er
  have hO := hO.tr hO1
  refine W.widen (k := 8) (n := 60) (Nat.le_of_ble_eq_true rfl) (Nat.le_of_ble_eq_true rfl) ?_
  exact vx_ret (q_retMi C0 hret rfl hlk dX3_walkSet_18 hP hD hS (⟨by first | trivial | omega, by first | trivial | omega, (by unfold kR_walkSet0; (repeat' split) <;> first | rfl | (exfalso; omega)), O, G, CP_eq hC (by unfold kS_walkSet0; (repeat' split) <;> first | rfl | (exfalso; omega)), rfl, Ext0 hO⟩))
set_option maxHeartbeats 800000 in
set_option maxRecDepth 100000 in
theorem c_X3_walkSet1 (l : Launch) (hfl : l.stackTraces = false) (D : va_G) (y : Nat → ClassId) (L : List Nat) (F : Nat → va_E) (sz : Nat) (O : Nat → Prop) (G : CG) (σ : CS) (j : Nat) (xw : Int) (hC : CP y L F O G σ) (hW : CW σ) (h_xw : -2147483648 ≤ xw ∧ xw ≤ 2147483647) (hwk : zwk σ = some j) : vx_Met l yX3_walkSet (.code yX3_walkSet cX3_walkSet 2 (some .int) :: Tt) ({ frames := 7, cells := 8, slots := 60, locals := 102 }) (PcX D y L F sz [.ref ((gbg G)), .int (iI xw)]) (cMi D (AL L sz) (fun r L1 F1 => (True) ∧ ((0 ≤ xw ∧ xw ≤ 99)) ∧ r = kR_walkSet1 σ j xw ∧ ∃ O1 G1, CP y L1 F1 O1 G1 (kS_walkSet1 σ j xw) ∧ gbg G1 = gbg G ∧ Ext O O1 L L1 F F1)) (XC (pX (True) ((0 ≤ xw ∧ xw ≤ 99)))) 8 60 (AL L sz) := by
  have hO : OE O F F := fun _ _ => rfl
  have hw4 := hW.2.2.2.2.2.1
  have hw5 := hW.2.2.2.2.2.2.1
  have hw6 := hW.2.2.2.2.2.2.2.2.2.2
  refine q_ofX (lv := [(0, .ref ((gbg G))), (1, .int (iI xw))]) (by decide) (Nat.le_of_ble_eq_true rfl) rfl (fun p e s m below meth c C0 hret hlk hout hsz hA hP hD hS hX ls hl => ?_)
  subst hsz
  have hx := C0.1.1
  have hb := C0.1.2.1
  have hts := C0.1.2.2.2.2
  refine lv_iload_n hx hb dX3_walkSet_0 rfl (lv_at hl 1 rfl) ?_
  refine q_sXv C0 lX3_104 (c_X3_checkWorth l hfl D y L F _ xw (by omega)) ⟨rfl, rfl⟩ rfl hP hD hX hout hlk rfl hl rfl (Nat.le_of_ble_eq_true rfl) dX3_walkSet_1 ⟨Nat.le_of_ble_eq_true rfl, Nat.le_of_ble_eq_true rfl⟩ ⟨Nat.le_of_ble_eq_true rfl, Nat.le_of_ble_eq_true rfl⟩ (fun E h => Or.inr ⟨h.1, by first | trivial | omega, fun q => h.2 (by omega)⟩) (fun _ e_r1 => ?_)
  refine W.widen (k := 1) (n := 6) (Nat.le_of_ble_eq_true rfl) (Nat.le_of_ble_eq_true rfl) ?_
  refine lv_aload_n hx hb dX3_walkSet_4 rfl (lv_at hl 0 rfl) ?_
  refine q_get C0 iX3 hP hC.1.1 hC.1.2 rfl 3 (by decide) flX3_33 rfl rfl dX3_walkSet_5 ?_
  refine q_vS C0 lX3_207 (c_X2_isTelling1 l D y L F O G σ j hC hwk (hW.2.2.2.1 _ hwk) (by omega)) ⟨rfl, rfl⟩ rfl hP (CP_k1 hC hwk).1 (CP_k1 hC hwk).2 rfl rfl rfl hl rfl (Nat.le_of_ble_eq_true rfl) dX3_walkSet_8 ⟨Nat.le_of_ble_eq_true rfl, Nat.le_of_ble_eq_true rfl⟩ (fun r2 e_r2 => ?_)
  subst e_r2
  refine q_if_ne hx hb dX3_walkSet_11 (tgt := 19) (by decide) (by omega) (fun c3 => ?_) (fun c3 => ?_)
  · refine lv_aload_n hx hb dX3_walkSet_19 rfl (lv_at hl 0 rfl) ?_
    refine lv_dup hx hb dX3_walkSet_20 rfl ?_
    refine q_get C0 iX3 hP hC.1.1 hC.1.2 rfl 4 (by decide) flX3_45 rfl rfl dX3_walkSet_21 ?_
    refine q_iconst hx hb dX3_walkSet_24 ?_
    refine q_iadd hx hb dX3_walkSet_25 ?_
    refine q_put C0 iX3 tyX3 tyX3_ok nmX3 hP hD hS hC.1.1 hC.1.2 rfl 4 (by decide) flX3_45 rfl rfl rfl rfl (Nat.le_of_ble_eq_true rfl) dX3_walkSet_26 (fun H locs hP hD hS => ?_)
    obtain ⟨F4, eF4⟩ : ∃ z, z = va_up F (gbg G) (.inr (5, [.ref ((gab G)), .ref ((gas G)), .ref ((gav G)), .ref ((gkk G)), .int (iI ((z0 σ + 1))), .int (iI (z1 σ)), .int (iI (z2 σ)), .int (iI (z3 σ))])) := ⟨_, rfl⟩
    have hP : va_P D vwCl (va_pl L F4) H := by rw [eF4]; exact hP
    have hD : va_D (AL L s.heap.size) (va_pl L F4) := by rw [eF4]; exact hD
    have hO : OE O F F4 := by rw [eF4]; exact hO.tr (OE1 (CP_O hC).1)
    have hC : CP y L F4 O G (sCt σ (z0 σ + 1) (z1 σ) (z2 σ) (z3 σ)) := by rw [eF4]; exact CP_ct hC (va_up_self _ _ _) (fun q hq => va_up_ne _ _ hq)
    refine lv_aload_n hx hb dX3_walkSet_29 rfl (lv_at hl 0 rfl) ?_
    refine q_get C0 iX3 hP hC.1.1 hC.1.2 rfl 3 (by decide) flX3_33 rfl rfl dX3_walkSet_30 ?_
    refine lv_iload_n hx hb dX3_walkSet_33 rfl (lv_at hl 1 rfl) ?_
    refine q_vMi C0 lX3_210 (c_X2_setTold l D y L F4 _ O G (sCt σ (z0 σ + 1) (z1 σ) (z2 σ) (z3 σ)) j xw hC hwk (hW.2.2.2.1 _ hwk) (by first | exact hw4 | omega) (by omega)) ⟨rfl, rfl⟩ rfl hP hD hS hA (CP_k1 hC hwk).1 (CP_k1 hC hwk).2 rfl rfl rfl hl rfl (Nat.le_of_ble_eq_true rfl) dX3_walkSet_34 ⟨Nat.le_of_ble_eq_true rfl, Nat.le_of_ble_eq_true rfl⟩ (fun r5 H locs L6 F6 hP hD hS hz6 hp6 => ?_)
    obtain ⟨eL, hC, er, hO1⟩ := hp6
    subst eL
    subst er
    have hO := hO.tr hO1
    refine W.widen (k := 8) (n := 60) (Nat.le_of_ble_eq_true rfl) (Nat.le_of_ble_eq_true rfl) ?_
    exact vx_ret (q_retMi C0 hret rfl hlk dX3_walkSet_37 hP hD hS (⟨by first | trivial | omega, by first | trivial | omega, (by unfold kR_walkSet1; (repeat' split) <;> first | rfl | (exfalso; omega)), O, G, CP_eq hC (by unfold kS_walkSet1; (repeat' split) <;> first | rfl | (exfalso; omega)), rfl, Ext0 hO⟩))
  · refine lv_aload_n hx hb dX3_walkSet_14 rfl (lv_at hl 0 rfl) ?_
    refine q_vMi C0 lX3_63 (c_X3_refuse l D y L F _ O G σ hC) ⟨rfl, rfl⟩ rfl hP hD hS hA hC.1.1 hC.1.2 rfl rfl rfl hl rfl (Nat.le_of_ble_eq_true rfl) dX3_walkSet_15 ⟨Nat.le_of_ble_eq_true rfl, Nat.le_of_ble_eq_true rfl⟩ (fun r7 H locs L8 F8 hP hD hS hz8 hp8 => ?_)
    obtain ⟨eL, hC, er, hO1⟩ := hp8
    subst eL
    subst er
    have hO := hO.tr hO1
    refine W.widen (k := 8) (n := 60) (Nat.le_of_ble_eq_true rfl) (Nat.le_of_ble_eq_true rfl) ?_
    exact vx_ret (q_retMi C0 hret rfl hlk dX3_walkSet_18 hP hD hS (⟨by first | trivial | omega, by first | trivial | omega, (by unfold kR_walkSet1; (repeat' split) <;> first | rfl | (exfalso; omega)), O, G, CP_eq hC (by unfold kS_walkSet1; (repeat' split) <;> first | rfl | (exfalso; omega)), rfl, Ext0 hO⟩))
