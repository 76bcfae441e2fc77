set_option maxHeartbeats 3000000 in
set_option maxRecDepth 100000 in
theorem c_X6_house (l : Launch) (D : va_G) (y : Nat → ClassId) (L : List Nat) (F : Nat → va_E) (sz : Nat) (O : Nat → Prop) (G : MG) (μ : MS) (xt : Int) (hC : MP y L F O G μ) (hW : MW μ) (h_xt : -2147483648 ≤ xt ∧ xt ≤ 2147483647) : Met l yX6_house (.code yX6_house cX6_house 2 (some .int) :: Tt) ({ frames := 1, cells := 0, slots := 0, locals := 22 }) (PcM D y L F sz [.ref ((ubg G)), .int (iI xt)]) (cMi D (AL L sz) (fun r L1 F1 => r = jR_house μ xt ∧ ∃ (O1 : Nat → Prop) (G1 : MG), MP y L1 F1 O1 G1 (jS_house μ xt) ∧ ubg G1 = ubg G ∧ Ext O O1 L L1 F F1)) 0 0 (AL L sz) := by
  have hO : OE O F F := fun _ _ => rfl
  have hw5 := hW.2.2.2.2.2.1
  have hw6 := hW.2.2.2.2.2.2.1
  have hw7 := hW.2.2.2.2.2.2.2.1
  refine q_ofM (lv := [(0, .ref ((ubg G))), (1, .int (iI xt))]) (by decide) (Nat.le_of_ble_eq_true rfl) rfl (fun p e s m below meth c C0 hret hlk hnm hA hP hD hS ls hl => ?_)
  have hx := C0.1.1
  have hb := C0.1.2.1
  have hts := C0.1.2.2.2.2
  refine lv_aload_n hx hb dX6_house_0 rfl (lv_at hl 0 rfl) ?_
  refine lv_iload_n hx hb dX6_house_1 rfl (lv_at hl 1 rfl) ?_
  refine q_iconst hx hb dX6_house_2 ?_
  refine q_iconst hx hb dX6_house_3 ?_
  refine q_sS C0 lX6_41 (c_X6_isIn l D y L F xt 0 3 (by omega) (by omega) (by omega)) ⟨rfl, rfl⟩ rfl hP rfl hl rfl (Nat.le_of_ble_eq_true rfl) dX6_house_4 ⟨Nat.zero_le _, Nat.zero_le _⟩ (fun r1 e_r1 => ?_)
  subst e_r1
  have b_2 := inR_d xt 0 3
  refine q_if_eq hx hb dX6_house_7 (tgt := 14) (by decide) (by omega) (fun c3 => ?_) (fun c3 => ?_)
  · replace b_2 := b_2.resolve_left (fun h => absurd (h.1.symm.trans c3) (by decide))
    refine q_iconst hx hb dX6_house_14 ?_
    refine q_put C0 iX6 tyX6 tyX6_ok nmX6 hP hD hS hC.1.1 hC.1.2 rfl 10 (by decide) flX6_38 rfl rfl rfl rfl (Nat.le_of_ble_eq_true rfl) dX6_house_15 (fun H locs hP hD hS => ?_)
    obtain ⟨F4, eF4⟩ : ∃ z, z = va_up F (ubg G) (.inr (8, [.ref ((uab G)), .ref ((uas G)), .ref ((uav G)), .ref ((uaf G)), .ref ((uat G)), va_rf (Option.map (urh G) (vwk μ)), .int (iI (vbr μ)), .int (iI (vtd μ)), .int (iI (vbh μ)), .ref ((uac G)), .int (iI 1)])) := ⟨_, rfl⟩
    have hP : va_P D vwCl (va_pl L F4) H := by rw [eF4]; exact hP
    have hD : va_D (AL L sz) (va_pl L F4) := by rw [eF4]; exact hD
    have hO : OE O F F4 := by rw [eF4]; exact hO.tr (OE1 (MP_O hC).1)
    have hC : MP y L F4 O G (tOb μ (vwk μ) (vbr μ) (vtd μ) (vbh μ) 1) := by rw [eF4]; exact MP_ob hC (va_up_self _ _ _) (fun q hq => va_up_ne _ _ hq)
    refine lv_aload_n hx hb dX6_house_18 rfl (lv_at hl 0 rfl) ?_
    refine q_get C0 iX6 hP hC.1.1 hC.1.2 rfl 10 (by decide) flX6_38 rfl (v := .int (iI 1)) rfl dX6_house_19 ?_
    refine q_if_ne hx hb dX6_house_22 (tgt := 34) (by decide) (by omega) (fun c5 => ?_) (fun c5 => absurd c5 (by omega))
    refine q_iconst hx hb dX6_house_34 ?_
    exact q_retMi C0 hret rfl hlk dX6_house_35 hP hD hS (⟨(by unfold jR_house; (try unfold bkF); (try unfold bkO); (repeat' split) <;> first | omega | (exfalso; omega) | rfl), O, G, MP_eq hC (by unfold jS_house; (try unfold ltR); (try unfold inR); (try unfold bkF); (try unfold bkO); (repeat' split) <;> first | omega | (exfalso; omega) | rfl), rfl, Ext0 hO⟩)
  · replace b_2 := b_2.resolve_right (fun h => c3 h.1)
    refine q_iconst hx hb dX6_house_10 ?_
    refine lv_goto (tgt := 15) hx hb dX6_house_11 (by decide) ?_
    refine q_put C0 iX6 tyX6 tyX6_ok nmX6 hP hD hS hC.1.1 hC.1.2 rfl 10 (by decide) flX6_38 rfl rfl rfl rfl (Nat.le_of_ble_eq_true rfl) dX6_house_15 (fun H locs hP hD hS => ?_)
    obtain ⟨F6, eF6⟩ : ∃ z, z = va_up F (ubg G) (.inr (8, [.ref ((uab G)), .ref ((uas G)), .ref ((uav G)), .ref ((uaf G)), .ref ((uat G)), va_rf (Option.map (urh G) (vwk μ)), .int (iI (vbr μ)), .int (iI (vtd μ)), .int (iI (vbh μ)), .ref ((uac G)), .int (iI 0)])) := ⟨_, rfl⟩
    have hP : va_P D vwCl (va_pl L F6) H := by rw [eF6]; exact hP
    have hD : va_D (AL L sz) (va_pl L F6) := by rw [eF6]; exact hD
    have hO : OE O F F6 := by rw [eF6]; exact hO.tr (OE1 (MP_O hC).1)
    have hC : MP y L F6 O G (tOb μ (vwk μ) (vbr μ) (vtd μ) (vbh μ) 0) := by rw [eF6]; exact MP_ob hC (va_up_self _ _ _) (fun q hq => va_up_ne _ _ hq)
    refine lv_aload_n hx hb dX6_house_18 rfl (lv_at hl 0 rfl) ?_
    refine q_get C0 iX6 hP hC.1.1 hC.1.2 rfl 10 (by decide) flX6_38 rfl (v := .int (iI 0)) rfl dX6_house_19 ?_
    refine q_if_ne hx hb dX6_house_22 (tgt := 34) (by decide) (by omega) (fun c7 => absurd c7 (by omega)) (fun c7 => ?_)
    refine lv_aload_n hx hb dX6_house_25 rfl (lv_at hl 0 rfl) ?_
    refine q_get C0 iX6 hP hC.1.1 hC.1.2 rfl 9 (by decide) flX6_32 rfl (v := .ref ((uac G))) rfl dX6_house_26 ?_
    refine lv_iload_n hx hb dX6_house_29 rfl (lv_at hl 1 rfl) ?_
    refine q_iald C0 hP (f := (vct μ)) hC.2.2.2.2.2.2.1.1 hC.2.2.2.2.2.2.1.2 (by omega) (by decide) dX6_house_30 ?_
    refine lv_goto (tgt := 35) hx hb dX6_house_31 (by decide) ?_
    exact q_retMi C0 hret rfl hlk dX6_house_35 hP hD hS (⟨(by unfold jR_house; (try unfold bkF); (try unfold bkO); (repeat' split) <;> first | omega | (exfalso; omega) | rfl), O, G, MP_eq hC (by unfold jS_house; (try unfold ltR); (try unfold inR); (try unfold bkF); (try unfold bkO); (repeat' split) <;> first | omega | (exfalso; omega) | rfl), rfl, Ext0 hO⟩)
