set_option maxHeartbeats 3000000 in
set_option maxRecDepth 100000 in
theorem c_X6_startWalk (l : Launch) (D : va_G) (y : Nat → ClassId) (L : List Nat) (F : Nat → va_E) (sz : Nat) (O : Nat → Prop) (G : MG) (μ : MS) (xb : Int) (hC : MP y L F O G μ) (hW : MW μ) (h_xb : -2147483648 ≤ xb ∧ xb ≤ 2147483647) : Met l yX6_startWalk (.code yX6_startWalk cX6_startWalk 2 (some .int) :: Tt) ({ frames := 2, cells := 0, slots := 0, locals := 45 }) (PcM D y L F sz [.ref ((ubg G)), .int (iI xb)]) (cMi D (AL L sz) (fun r L1 F1 => r = jR_startWalk μ xb ∧ ∃ (O1 : Nat → Prop) (G1 : MG), MP y L1 F1 O1 G1 (jS_startWalk μ xb) ∧ ubg G1 = ubg G ∧ Ext O O1 L L1 F F1)) 0 0 (AL L sz) := by
  have hO : OE O F F := fun _ _ => rfl
  have hw5 := hW.2.2.2.2.2.1
  have hw6 := hW.2.2.2.2.2.2.1
  have hw7 := hW.2.2.2.2.2.2.2.1
  refine q_ofM (lv := [(0, .ref ((ubg G))), (1, .int (iI xb))]) (by decide) (Nat.le_of_ble_eq_true rfl) rfl (fun p e s m below meth c C0 hret hlk hnm hA hP hD hS ls hl => ?_)
  have hx := C0.1.1
  have hb := C0.1.2.1
  have hts := C0.1.2.2.2.2
  refine lv_aload_n hx hb dX6_startWalk_0 rfl (lv_at hl 0 rfl) ?_
  refine lv_iload_n hx hb dX6_startWalk_1 rfl (lv_at hl 1 rfl) ?_
  refine q_sS C0 lX6_60 (c_X6_isBook l D y L F xb (by omega)) ⟨rfl, rfl⟩ rfl hP rfl hl rfl (Nat.le_of_ble_eq_true rfl) dX6_startWalk_2 ⟨Nat.zero_le _, Nat.zero_le _⟩ (fun r1 e_r1 => ?_)
  subst e_r1
  have b_2 := inR_d xb 0 3
  refine q_iconst hx hb dX6_startWalk_5 ?_
  refine q_vMi C0 lX6_63 (c_X6_isLet l D y L F _ O G μ (inR xb 0 3) 1 hC (by omega) (by omega)) ⟨rfl, rfl⟩ rfl hP hD hS hA hC.1.1 hC.1.2 rfl rfl rfl hl rfl (Nat.le_of_ble_eq_true rfl) dX6_startWalk_6 ⟨Nat.le_of_ble_eq_true rfl, Nat.le_of_ble_eq_true rfl⟩ (fun r3 H locs L4 F4 hP hD hS hz4 hp4 => ?_)
  obtain ⟨eL, hC, er, hO1⟩ := hp4
  subst eL
  replace er := er.symm
  subst er
  have hO := hO.tr hO1
  have k_5 := okR_d (inR xb 0 3) 1
  refine q_if_ne hx hb dX6_startWalk_9 (tgt := 14) (by decide) (by omega) (fun c6 => ?_) (fun c6 => ?_)
  · replace k_5 := k_5.resolve_right (fun h => c6 h.1)
    refine lv_aload_n hx hb dX6_startWalk_14 rfl (lv_at hl 0 rfl) ?_
    refine lv_aload_n hx hb dX6_startWalk_15 rfl (lv_at hl 0 rfl) ?_
    refine q_get C0 iX6 hP hC.1.1 hC.1.2 rfl 0 (by decide) flX6_11 rfl (v := .ref ((uab G))) rfl dX6_startWalk_16 ?_
    refine lv_iload_n hx hb dX6_startWalk_19 rfl (lv_at hl 1 rfl) ?_
    refine q_aald C0 hP hC.2.1.1 hC.2.1.2 (t := 3) rfl (by omega) (by decide) (v := .ref ((urh G (vbk μ xb)))) rfl dX6_startWalk_20 ?_
    refine q_put C0 iX6 tyX6 tyX6_ok nmX6 hP hD hS hC.1.1 hC.1.2 rfl 5 (by decide) flX6_45 rfl rfl rfl rfl (Nat.le_of_ble_eq_true rfl) dX6_startWalk_21 (fun H locs hP hD hS => ?_)
    obtain ⟨F7, eF7⟩ : ∃ z, z = va_up F4 (ubg G) (.inr (8, [.ref ((uab G)), .ref ((uas G)), .ref ((uav G)), .ref ((uaf G)), .ref ((uat G)), .ref ((urh G (vbk μ xb))), .int (iI (vbr μ)), .int (iI (vtd μ)), .int (iI (vbh μ)), .ref ((uac G)), .int (iI ((ltR (inR xb 0 3) 1)))])) := ⟨_, rfl⟩
    have hP : va_P D vwCl (va_pl L F7) H := by rw [eF7]; exact hP
    have hD : va_D (AL L sz) (va_pl L F7) := by rw [eF7]; exact hD
    have hO : OE O F F7 := by rw [eF7]; exact hO.tr (OE1 (MP_O hC).1)
    have hC : MP y L F7 O G (tOb (tTh μ (ltR (inR xb 0 3) 1)) (some (vbk μ xb)) (vbr μ) (vtd μ) (vbh μ) (ltR (inR xb 0 3) 1)) := by rw [eF7]; exact MP_ob hC (va_up_self _ _ _) (fun q hq => va_up_ne _ _ hq)
    refine lv_aload_n hx hb dX6_startWalk_24 rfl (lv_at hl 0 rfl) ?_
    refine q_iconst hx hb dX6_startWalk_25 ?_
    refine q_put C0 iX6 tyX6 tyX6_ok nmX6 hP hD hS hC.1.1 hC.1.2 rfl 6 (by decide) flX6_56 rfl rfl (by decide) (by decide) (Nat.le_of_ble_eq_true rfl) dX6_startWalk_26 (fun H locs hP hD hS => ?_)
    obtain ⟨F8, eF8⟩ : ∃ z, z = va_up F7 (ubg G) (.inr (8, [.ref ((uab G)), .ref ((uas G)), .ref ((uav G)), .ref ((uaf G)), .ref ((uat G)), .ref ((urh G (vbk μ xb))), .int (iI 0), .int (iI (vtd μ)), .int (iI (vbh μ)), .ref ((uac G)), .int (iI ((ltR (inR xb 0 3) 1)))])) := ⟨_, rfl⟩
    have hP : va_P D vwCl (va_pl L F8) H := by rw [eF8]; exact hP
    have hD : va_D (AL L sz) (va_pl L F8) := by rw [eF8]; exact hD
    have hO : OE O F F8 := by rw [eF8]; exact hO.tr (OE1 (MP_O hC).1)
    have hC : MP y L F8 O G (tOb (tOb (tTh μ (ltR (inR xb 0 3) 1)) (some (vbk μ xb)) (vbr μ) (vtd μ) (vbh μ) (ltR (inR xb 0 3) 1)) (some (vbk μ xb)) 0 (vtd μ) (vbh μ) (ltR (inR xb 0 3) 1)) := by rw [eF8]; exact MP_ob hC (va_up_self _ _ _) (fun q hq => va_up_ne _ _ hq)
    refine lv_aload_n hx hb dX6_startWalk_29 rfl (lv_at hl 0 rfl) ?_
    refine q_iconst hx hb dX6_startWalk_30 ?_
    refine q_put C0 iX6 tyX6 tyX6_ok nmX6 hP hD hS hC.1.1 hC.1.2 rfl 7 (by decide) flX6_28 rfl rfl rfl rfl (Nat.le_of_ble_eq_true rfl) dX6_startWalk_31 (fun H locs hP hD hS => ?_)
    obtain ⟨F9, eF9⟩ : ∃ z, z = va_up F8 (ubg G) (.inr (8, [.ref ((uab G)), .ref ((uas G)), .ref ((uav G)), .ref ((uaf G)), .ref ((uat G)), .ref ((urh G (vbk μ xb))), .int (iI 0), .int (iI ((-1))), .int (iI (vbh μ)), .ref ((uac G)), .int (iI ((ltR (inR xb 0 3) 1)))])) := ⟨_, rfl⟩
    have hP : va_P D vwCl (va_pl L F9) H := by rw [eF9]; exact hP
    have hD : va_D (AL L sz) (va_pl L F9) := by rw [eF9]; exact hD
    have hO : OE O F F9 := by rw [eF9]; exact hO.tr (OE1 (MP_O hC).1)
    have hC : MP y L F9 O G (tOb (tOb (tOb (tTh μ (ltR (inR xb 0 3) 1)) (some (vbk μ xb)) (vbr μ) (vtd μ) (vbh μ) (ltR (inR xb 0 3) 1)) (some (vbk μ xb)) 0 (vtd μ) (vbh μ) (ltR (inR xb 0 3) 1)) (some (vbk μ xb)) 0 (-1) (vbh μ) (ltR (inR xb 0 3) 1)) := by rw [eF9]; exact MP_ob hC (va_up_self _ _ _) (fun q hq => va_up_ne _ _ hq)
    refine lv_aload_n hx hb dX6_startWalk_34 rfl (lv_at hl 0 rfl) ?_
    refine q_iconst hx hb dX6_startWalk_35 ?_
    refine q_put C0 iX6 tyX6 tyX6_ok nmX6 hP hD hS hC.1.1 hC.1.2 rfl 8 (by decide) flX6_186 rfl rfl rfl rfl (Nat.le_of_ble_eq_true rfl) dX6_startWalk_36 (fun H locs hP hD hS => ?_)
    obtain ⟨F10, eF10⟩ : ∃ z, z = va_up F9 (ubg G) (.inr (8, [.ref ((uab G)), .ref ((uas G)), .ref ((uav G)), .ref ((uaf G)), .ref ((uat G)), .ref ((urh G (vbk μ xb))), .int (iI 0), .int (iI ((-1))), .int (iI 0), .ref ((uac G)), .int (iI ((ltR (inR xb 0 3) 1)))])) := ⟨_, rfl⟩
    have hP : va_P D vwCl (va_pl L F10) H := by rw [eF10]; exact hP
    have hD : va_D (AL L sz) (va_pl L F10) := by rw [eF10]; exact hD
    have hO : OE O F F10 := by rw [eF10]; exact hO.tr (OE1 (MP_O hC).1)
    have hC : MP y L F10 O G (tOb (tOb (tOb (tOb (tTh μ (ltR (inR xb 0 3) 1)) (some (vbk μ xb)) (vbr μ) (vtd μ) (vbh μ) (ltR (inR xb 0 3) 1)) (some (vbk μ xb)) 0 (vtd μ) (vbh μ) (ltR (inR xb 0 3) 1)) (some (vbk μ xb)) 0 (-1) (vbh μ) (ltR (inR xb 0 3) 1)) (some (vbk μ xb)) 0 (-1) 0 (ltR (inR xb 0 3) 1)) := by rw [eF10]; exact MP_ob hC (va_up_self _ _ _) (fun q hq => va_up_ne _ _ hq)
    refine lv_aload_n hx hb dX6_startWalk_39 rfl (lv_at hl 0 rfl) ?_
    refine q_get C0 iX6 hP hC.1.1 hC.1.2 rfl 5 (by decide) flX6_45 rfl (v := .ref ((urh G (vbk μ xb)))) rfl dX6_startWalk_40 ?_
    refine q_iconst hx hb dX6_startWalk_43 ?_
    refine q_bipush hx hb dX6_startWalk_44 (by decide) ?_
    refine q_vS C0 lX6_67 (c_X5_many l D y L F10 (urh G (vbk μ xb)) (urw G (vbk μ xb)) (vod μ (vbk μ xb)) (vst μ (vbk μ xb)) 0 99 (MP_r hC (hW.1 xb)) (by omega) (by omega)) ⟨rfl, rfl⟩ rfl hP (MP_r hC (hW.1 xb)).1 (MP_r hC (hW.1 xb)).2.1 rfl rfl rfl hl rfl (Nat.le_of_ble_eq_true rfl) dX6_startWalk_46 ⟨Nat.zero_le _, Nat.zero_le _⟩ (fun r11 e_r11 => ?_)
    subst e_r11
    exact q_retMi C0 hret rfl hlk dX6_startWalk_49 hP hD hS (⟨(by unfold jR_startWalk; (try unfold bkF); (try unfold bkO); (repeat' split) <;> first | omega | (exfalso; omega) | rfl), O, G, MP_eq hC (by unfold jS_startWalk; (try unfold ltR); (try unfold inR); (try unfold bkF); (try unfold bkO); (repeat' split) <;> first | omega | (exfalso; omega) | rfl), rfl, Ext0 hO⟩)
  · replace k_5 := k_5.resolve_left (fun h => absurd (h.1.symm.trans c6) (by decide))
    refine q_iconst hx hb dX6_startWalk_12 ?_
    exact q_retMi C0 hret rfl hlk dX6_startWalk_13 hP hD hS (⟨(by unfold jR_startWalk; (try unfold bkF); (try unfold bkO); (repeat' split) <;> first | omega | (exfalso; omega) | rfl), O, G, MP_eq hC (by unfold jS_startWalk; (try unfold ltR); (try unfold inR); (try unfold bkF); (try unfold bkO); (repeat' split) <;> first | omega | (exfalso; omega) | rfl), rfl, Ext0 hO⟩)
