set_option maxHeartbeats 3000000 in
set_option maxRecDepth 100000 in
theorem c_X6_knock (l : Launch) (D : va_G) (y : Nat → ClassId) (L : List Nat) (F : Nat → va_E) (sz : Nat) (O : Nat → Prop) (G : MG) (μ : MS) (hC : MP y L F O G μ) (hW : MW μ) : Met l yX6_knock (.code yX6_knock cX6_knock 1 (some .int) :: Tt) ({ frames := 0, cells := 0, slots := 0, locals := 0 }) (PcM D y L F sz [.ref ((ubg G))]) (cMi D (AL L sz) (fun r L1 F1 => r = jR_knock μ ∧ ∃ (O1 : Nat → Prop) (G1 : MG), MP y L1 F1 O1 G1 (jS_knock μ) ∧ ubg G1 = ubg G ∧ Ext O O1 L L1 F F1)) 0 0 (AL L sz) := by
  have hO : OE O F F := fun _ _ => rfl
  have hw5 := hW.2.2.2.2.2.1
  have hw6 := hW.2.2.2.2.2.2.1
  have hw7 := hW.2.2.2.2.2.2.2.1
  refine q_ofM (lv := [(0, .ref ((ubg G)))]) (by decide) (Nat.le_of_ble_eq_true rfl) rfl (fun p e s m below meth c C0 hret hlk hnm hA hP hD hS ls hl => ?_)
  have hx := C0.1.1
  have hb := C0.1.2.1
  have hts := C0.1.2.2.2.2
  refine lv_aload_n hx hb dX6_knock_0 rfl (lv_at hl 0 rfl) ?_
  refine q_iconst hx hb dX6_knock_1 ?_
  refine q_put C0 iX6 tyX6 tyX6_ok nmX6 hP hD hS hC.1.1 hC.1.2 rfl 10 (by decide) flX6_38 rfl rfl rfl rfl (Nat.le_of_ble_eq_true rfl) dX6_knock_2 (fun H locs hP hD hS => ?_)
  obtain ⟨F1, eF1⟩ : ∃ z, z = va_up F (ubg G) (.inr (8, [.ref ((uab G)), .ref ((uas G)), .ref ((uav G)), .ref ((uaf G)), .ref ((uat G)), va_rf (Option.map (urh G) (vwk μ)), .int (iI (vbr μ)), .int (iI (vtd μ)), .int (iI (vbh μ)), .ref ((uac G)), .int (iI 0)])) := ⟨_, rfl⟩
  have hP : va_P D vwCl (va_pl L F1) H := by rw [eF1]; exact hP
  have hD : va_D (AL L sz) (va_pl L F1) := by rw [eF1]; exact hD
  have hO : OE O F F1 := by rw [eF1]; exact hO.tr (OE1 (MP_O hC).1)
  have hC : MP y L F1 O G (tOb μ (vwk μ) (vbr μ) (vtd μ) (vbh μ) 0) := by rw [eF1]; exact MP_ob hC (va_up_self _ _ _) (fun q hq => va_up_ne _ _ hq)
  refine lv_aload_n hx hb dX6_knock_5 rfl (lv_at hl 0 rfl) ?_
  refine q_get C0 iX6 hP hC.1.1 hC.1.2 rfl 9 (by decide) flX6_32 rfl (v := .ref ((uac G))) rfl dX6_knock_6 ?_
  refine q_iconst hx hb dX6_knock_9 ?_
  refine lv_dup2_11 hx hb dX6_knock_10 rfl rfl ?_
  refine q_iald C0 hP (f := (vct μ)) hC.2.2.2.2.2.2.1.1 hC.2.2.2.2.2.2.1.2 (by omega) (by decide) dX6_knock_11 ?_
  refine q_iconst hx hb dX6_knock_12 ?_
  refine q_iadd hx hb dX6_knock_13 ?_
  refine q_iast C0 hP hD hS hC.2.2.2.2.2.2.1.1 hC.2.2.2.2.2.2.1.2 (i := 3) (v := (((vct μ) 3) + 1)) (by omega) (by decide) dX6_knock_14 (fun H locs hP hD hS => ?_)
  obtain ⟨F2, eF2⟩ : ∃ z, z = va_up F1 (uac G) (arrI (y 0) 4 (iu (vct μ) 3 (((vct μ) 3) + 1))) := ⟨_, rfl⟩
  have hP : va_P D vwCl (va_pl L F2) H := by rw [eF2]; exact hP
  have hD : va_D (AL L sz) (va_pl L F2) := by rw [eF2]; exact hD
  have hO : OE O F F2 := by rw [eF2]; exact hO.tr (OE1 (MP_O hC).2.2.2.2.2.2.1)
  have hC : MP y L F2 O G (tCt (tOb μ (vwk μ) (vbr μ) (vtd μ) (vbh μ) 0) 3 (((vct μ) 3) + 1)) := by rw [eF2]; exact MP_ct hC (va_up_self _ _ _) (fun q hq => va_up_ne _ _ hq)
  refine lv_aload_n hx hb dX6_knock_15 rfl (lv_at hl 0 rfl) ?_
  refine q_get C0 iX6 hP hC.1.1 hC.1.2 rfl 9 (by decide) flX6_32 rfl (v := .ref ((uac G))) rfl dX6_knock_16 ?_
  refine q_iconst hx hb dX6_knock_19 ?_
  refine q_iald C0 hP (f := (vct (tCt (tOb μ (vwk μ) (vbr μ) (vtd μ) (vbh μ) 0) 3 (((vct μ) 3) + 1)))) hC.2.2.2.2.2.2.1.1 hC.2.2.2.2.2.2.1.2 (by omega) (by decide) dX6_knock_20 ?_
  exact q_retMi C0 hret rfl hlk dX6_knock_21 hP hD hS (⟨(by unfold jR_knock; (try unfold bkF); (try unfold bkO); (repeat' split) <;> first | omega | (exfalso; omega) | rfl), O, G, MP_eq hC (by unfold jS_knock; (try unfold ltR); (try unfold inR); (try unfold bkF); (try unfold bkO); (repeat' split) <;> first | omega | (exfalso; omega) | rfl), rfl, Ext0 hO⟩)
