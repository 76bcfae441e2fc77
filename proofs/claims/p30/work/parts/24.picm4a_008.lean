set_option maxHeartbeats 3000000 in
set_option maxRecDepth 100000 in
theorem c_X6_walkNext0 (l : Launch) (D : va_G) (y : Nat → ClassId) (L : List Nat) (F : Nat → va_E) (sz : Nat) (O : Nat → Prop) (G : MG) (μ : MS) (hC : MP y L F O G μ) (hW : MW μ) (hwk : vwk μ = none) : Met l yX6_walkNext (.code yX6_walkNext cX6_walkNext 2 (some .int) :: Tt) ({ frames := 1, cells := 0, slots := 0, locals := 20 }) (PcM D y L F sz [.ref ((ubg G))]) (cMi D (AL L sz) (fun r L1 F1 => r = jR_walkNext0 μ ∧ ∃ (O1 : Nat → Prop) (G1 : MG), MP y L1 F1 O1 G1 (jS_walkNext0 μ) ∧ ubg G1 = ubg G ∧ Ext O O1 L L1 F F1)) 0 0 (AL L sz) := by
  have hO : OE O F F := fun _ _ => rfl
  have hw5 := hW.2.2.2.2.2.1
  have hw6 := hW.2.2.2.2.2.2.1
  have hw7 := hW.2.2.2.2.2.2.2.1
  refine q_ofM (lv := [(0, .ref ((ubg G)))]) (by decide) (Nat.le_of_ble_eq_true rfl) rfl (fun p e s m below meth c C0 hret hlk hnm hA hP hD hS ls hl => ?_)
  have hx := C0.1.1
  have hb := C0.1.2.1
  have hts := C0.1.2.2.2.2
  refine lv_aload_n hx hb dX6_walkNext_0 rfl (lv_at hl 0 rfl) ?_
  refine q_iconst hx hb dX6_walkNext_1 ?_
  refine q_put C0 iX6 tyX6 tyX6_ok nmX6 hP hD hS (MP_o0 hC hwk).1 (MP_o0 hC hwk).2 rfl 10 (by decide) flX6_38 rfl rfl rfl rfl (Nat.le_of_ble_eq_true rfl) dX6_walkNext_2 (fun H locs hP hD hS => ?_)
  obtain ⟨F1, eF1⟩ : ∃ z, z = va_up F (ubg G) (.inr (8, [.ref ((uab G)), .ref ((uas G)), .ref ((uav G)), .ref ((uaf G)), .ref ((uat G)), .null, .int (iI (vbr μ)), .int (iI (vtd μ)), .int (iI (vbh μ)), .ref ((uac G)), .int (iI 0)])) := ⟨_, rfl⟩
  have hP : va_P D vwCl (va_pl L F1) H := by rw [eF1]; exact hP
  have hD : va_D (AL L sz) (va_pl L F1) := by rw [eF1]; exact hD
  have hO : OE O F F1 := by rw [eF1]; exact hO.tr (OE1 (MP_O hC).1)
  have hC : MP y L F1 O G (tOb μ none (vbr μ) (vtd μ) (vbh μ) 0) := by rw [eF1]; exact MP_ob hC (va_up_self _ _ _) (fun q hq => va_up_ne _ _ hq)
  refine lv_aload_n hx hb dX6_walkNext_5 rfl (lv_at hl 0 rfl) ?_
  refine q_vS C0 lX6_189 (c_X6_isGoing0 l D y L F1 O G (tOb μ none (vbr μ) (vtd μ) (vbh μ) 0) hC (by first | exact hwk | rfl)) ⟨rfl, rfl⟩ rfl hP hC.1.1 hC.1.2 rfl rfl rfl hl rfl (Nat.le_of_ble_eq_true rfl) dX6_walkNext_6 ⟨Nat.zero_le _, Nat.zero_le _⟩ (fun r2 e_r2 => ?_)
  subst e_r2
  refine q_if_ne hx hb dX6_walkNext_9 (tgt := 17) (by decide) (by omega) (fun c3 => absurd c3 (by omega)) (fun c3 => ?_)
  refine lv_aload_n hx hb dX6_walkNext_12 rfl (lv_at hl 0 rfl) ?_
  refine q_vMi C0 lX6_89 (c_X6_refuse l D y L F1 _ O G (tOb μ none (vbr μ) (vtd μ) (vbh μ) 0) hC) ⟨rfl, rfl⟩ rfl hP hD hS hA hC.1.1 hC.1.2 rfl rfl rfl hl rfl (Nat.le_of_ble_eq_true rfl) dX6_walkNext_13 ⟨Nat.le_of_ble_eq_true rfl, Nat.le_of_ble_eq_true rfl⟩ (fun r4 H locs L5 F5 hP hD hS hz5 hp5 => ?_)
  obtain ⟨eL, hC, er, hO1⟩ := hp5
  subst eL
  replace er : (-9) = r4 := er.symm
  subst er
  have hO := hO.tr hO1
  exact q_retMi C0 hret rfl hlk dX6_walkNext_16 hP hD hS (⟨(by unfold jR_walkNext0; (try unfold bkF); (try unfold bkO); (try unfold shF); (try unfold shO);  (repeat' split) <;> first | omega | (exfalso; omega) | rfl), O, G, MP_eq hC (by unfold jS_walkNext0; (try unfold ltR); (try unfold inR); (try unfold bkF); (try unfold bkO); (try unfold shF); (try unfold shO);  (repeat' split) <;> first | omega | (exfalso; omega) | rfl), rfl, Ext0 hO⟩)
