set_option maxHeartbeats 3000000 in
set_option maxRecDepth 100000 in
theorem c_X6_walkNext1 (l : Launch) (D : va_G) (y : Nat → ClassId) (L : List Nat) (F : Nat → va_E) (sz : Nat) (O : Nat → Prop) (G : MG) (μ : MS) (j : Nat) (hC : MP y L F O G μ) (hW : MW μ) (hwk : vwk μ = some j) : Met l yX6_walkNext (.code yX6_walkNext cX6_walkNext 2 (some .int) :: Tt) ({ frames := 2, cells := 0, slots := 0, locals := 44 }) (PcM D y L F sz [.ref ((ubg G))]) (cMi D (AL L sz) (fun r L1 F1 => r = jR_walkNext1 μ j ∧ ∃ (O1 : Nat → Prop) (G1 : MG), MP y L1 F1 O1 G1 (jS_walkNext1 μ j) ∧ ubg G1 = ubg G ∧ Ext O O1 L L1 F F1)) 0 0 (AL L sz) := by
  have hO : OE O F F := fun _ _ => rfl
  have hw5 := hW.2.2.2.2.2.1
  have hw6 := hW.2.2.2.2.2.2.1
  have hw7 := hW.2.2.2.2.2.2.2.1
  have m2_ := @keyR_m1 (vod μ j) (firP (vst μ j) (vbh μ) 99) (firP_r _ _ _)
  have kb_ := @keyR_b (vod μ j) (firP (vst μ j) (vbh μ) 99) (firP_r _ _ _)
  refine q_ofM (lv := [(0, .ref ((ubg G)))]) (by decide) (Nat.le_of_ble_eq_true rfl) rfl (fun p e s m below meth c C0 hret hlk hnm hA hP hD hS ls hl => ?_)
  have hx := C0.1.1
  have hb := C0.1.2.1
  have hts := C0.1.2.2.2.2
  refine lv_aload_n hx hb dX6_walkNext_0 rfl (lv_at hl 0 rfl) ?_
  refine q_iconst hx hb dX6_walkNext_1 ?_
  refine q_put C0 iX6 tyX6 tyX6_ok nmX6 hP hD hS (MP_o1 hC hwk).1 (MP_o1 hC hwk).2 rfl 10 (by decide) flX6_38 rfl rfl rfl rfl (Nat.le_of_ble_eq_true rfl) dX6_walkNext_2 (fun H locs hP hD hS => ?_)
  obtain ⟨F1, eF1⟩ : ∃ z, z = va_up F (ubg G) (.inr (8, [.ref ((uab G)), .ref ((uas G)), .ref ((uav G)), .ref ((uaf G)), .ref ((uat G)), .ref ((urh G j)), .int (iI (vbr μ)), .int (iI (vtd μ)), .int (iI (vbh μ)), .ref ((uac G)), .int (iI 0)])) := ⟨_, rfl⟩
  have hP : va_P D vwCl (va_pl L F1) H := by rw [eF1]; exact hP
  have hD : va_D (AL L sz) (va_pl L F1) := by rw [eF1]; exact hD
  have hO : OE O F F1 := by rw [eF1]; exact hO.tr (OE1 (MP_O hC).1)
  have hC : MP y L F1 O G (tOb μ (some j) (vbr μ) (vtd μ) (vbh μ) 0) := by rw [eF1]; exact MP_ob hC (va_up_self _ _ _) (fun q hq => va_up_ne _ _ hq)
  refine lv_aload_n hx hb dX6_walkNext_5 rfl (lv_at hl 0 rfl) ?_
  refine q_vS C0 lX6_189 (c_X6_isGoing1 l D y L F1 O G (tOb μ (some j) (vbr μ) (vtd μ) (vbh μ) 0) j hC (by first | exact hwk | rfl) (by first | exact hw5 | omega)) ⟨rfl, rfl⟩ rfl hP hC.1.1 hC.1.2 rfl rfl rfl hl rfl (Nat.le_of_ble_eq_true rfl) dX6_walkNext_6 ⟨Nat.zero_le _, Nat.zero_le _⟩ (fun r2 e_r2 => ?_)
  subst e_r2
  refine q_if_ne hx hb dX6_walkNext_9 (tgt := 17) (by decide) (by omega) (fun c3 => ?_) (fun c3 => ?_)
  · have g_ : vbr μ = 0 := Classical.byContradiction (fun z => absurd (if_neg z) c3)
    refine lv_aload_n hx hb dX6_walkNext_17 rfl (lv_at hl 0 rfl) ?_
    refine q_get C0 iX6 hP hC.1.1 hC.1.2 rfl 5 (by decide) flX6_45 rfl (v := .ref ((urh G j))) rfl dX6_walkNext_18 ?_
    refine lv_aload_n hx hb dX6_walkNext_21 rfl (lv_at hl 0 rfl) ?_
    refine q_get C0 iX6 hP hC.1.1 hC.1.2 rfl 8 (by decide) flX6_186 rfl (v := .int (iI (vbh μ))) rfl dX6_walkNext_22 ?_
    refine q_bipush hx hb dX6_walkNext_25 (by decide) ?_
    refine q_vS C0 lX6_111 (c_X5_first l D y L F1 (urh G j) (urw G j) (vod μ j) (vst μ j) (vbh μ) 99 (MP_r hC (hW.2.2.2.1 j hwk)) (by omega) (by omega)) ⟨rfl, rfl⟩ rfl hP (MP_r hC (hW.2.2.2.1 j hwk)).1 (MP_r hC (hW.2.2.2.1 j hwk)).2.1 rfl rfl rfl hl rfl (Nat.le_of_ble_eq_true rfl) dX6_walkNext_27 ⟨Nat.zero_le _, Nat.zero_le _⟩ (fun r4 e_r4 => ?_)
    subst e_r4
    have b_5 := @keyR_b (vod μ j) (firP (vst μ j) (vbh μ) 99) (firP_r (vst μ j) (vbh μ) 99)
    refine lv_istore_n (lv' := [(1, .int (iI ((keyR (vod μ j) (firP (vst μ j) (vbh μ) 99))))), (0, .ref ((ubg G)))]) hx hb dX6_walkNext_30 rfl hl (by decide) rfl (fun ls hl => ?_)
    refine lv_iload_n hx hb dX6_walkNext_31 rfl (lv_at hl 0 rfl) ?_
    refine q_iconst hx hb dX6_walkNext_32 ?_
    refine q_icmp_ne hx hb dX6_walkNext_33 (tgt := 38) (by decide) (by omega) (by omega) (fun c6 => ?_) (fun c6 => ?_)
    · refine lv_aload_n hx hb dX6_walkNext_38 rfl (lv_at hl 1 rfl) ?_
      refine lv_iload_n hx hb dX6_walkNext_39 rfl (lv_at hl 0 rfl) ?_
      refine q_put C0 iX6 tyX6 tyX6_ok nmX6 hP hD hS hC.1.1 hC.1.2 rfl 7 (by decide) flX6_28 rfl rfl rfl rfl (Nat.le_of_ble_eq_true rfl) dX6_walkNext_40 (fun H locs hP hD hS => ?_)
      obtain ⟨F7, eF7⟩ : ∃ z, z = va_up F1 (ubg G) (.inr (8, [.ref ((uab G)), .ref ((uas G)), .ref ((uav G)), .ref ((uaf G)), .ref ((uat G)), .ref ((urh G j)), .int (iI (vbr μ)), .int (iI ((keyR (vod μ j) (firP (vst μ j) (vbh μ) 99)))), .int (iI (vbh μ)), .ref ((uac G)), .int (iI 0)])) := ⟨_, rfl⟩
      have hP : va_P D vwCl (va_pl L F7) H := by rw [eF7]; exact hP
      have hD : va_D (AL L sz) (va_pl L F7) := by rw [eF7]; exact hD
      have hO : OE O F F7 := by rw [eF7]; exact hO.tr (OE1 (MP_O hC).1)
      have hC : MP y L F7 O G (tOb (tOb μ (some j) (vbr μ) (vtd μ) (vbh μ) 0) (some j) (vbr μ) (keyR (vod μ j) (firP (vst μ j) (vbh μ) 99)) (vbh μ) 0) := by rw [eF7]; exact MP_ob hC (va_up_self _ _ _) (fun q hq => va_up_ne _ _ hq)
      refine lv_aload_n hx hb dX6_walkNext_43 rfl (lv_at hl 1 rfl) ?_
      refine lv_aload_n hx hb dX6_walkNext_44 rfl (lv_at hl 1 rfl) ?_
      refine q_get C0 iX6 hP hC.1.1 hC.1.2 rfl 5 (by decide) flX6_45 rfl (v := .ref ((urh G j))) rfl dX6_walkNext_45 ?_
      refine lv_iload_n hx hb dX6_walkNext_48 rfl (lv_at hl 0 rfl) ?_
      refine q_vS C0 lX6_93 (c_X5_rank l D y L F7 (urh G j) (urw G j) (vod μ j) (vst μ j) (keyR (vod μ j) (firP (vst μ j) (vbh μ) 99)) (MP_r hC (hW.2.2.2.1 j hwk)) (by omega)) ⟨rfl, rfl⟩ rfl hP (MP_r hC (hW.2.2.2.1 j hwk)).1 (MP_r hC (hW.2.2.2.1 j hwk)).2.1 rfl rfl rfl hl rfl (Nat.le_of_ble_eq_true rfl) dX6_walkNext_49 ⟨Nat.zero_le _, Nat.zero_le _⟩ (fun r8 e_r8 => ?_)
      subst e_r8
      have b_9 := @turn_b (vod μ j) (keyR (vod μ j) (firP (vst μ j) (vbh μ) 99)) (by omega)
      refine q_iconst hx hb dX6_walkNext_52 ?_
      refine q_iadd hx hb dX6_walkNext_53 ?_
      refine q_put C0 iX6 tyX6 tyX6_ok nmX6 hP hD hS hC.1.1 hC.1.2 rfl 8 (by decide) flX6_186 rfl rfl rfl rfl (Nat.le_of_ble_eq_true rfl) dX6_walkNext_54 (fun H locs hP hD hS => ?_)
      obtain ⟨F10, eF10⟩ : ∃ z, z = va_up F7 (ubg G) (.inr (8, [.ref ((uab G)), .ref ((uas G)), .ref ((uav G)), .ref ((uaf G)), .ref ((uat G)), .ref ((urh G j)), .int (iI (vbr μ)), .int (iI ((keyR (vod μ j) (firP (vst μ j) (vbh μ) 99)))), .int (iI (((turn (vod μ j) (keyR (vod μ j) (firP (vst μ j) (vbh μ) 99))) + 1))), .ref ((uac G)), .int (iI 0)])) := ⟨_, rfl⟩
      have hP : va_P D vwCl (va_pl L F10) H := by rw [eF10]; exact hP
      have hD : va_D (AL L sz) (va_pl L F10) := by rw [eF10]; exact hD
      have hO : OE O F F10 := by rw [eF10]; exact hO.tr (OE1 (MP_O hC).1)
      have hC : MP y L F10 O G (tOb (tOb (tOb μ (some j) (vbr μ) (vtd μ) (vbh μ) 0) (some j) (vbr μ) (keyR (vod μ j) (firP (vst μ j) (vbh μ) 99)) (vbh μ) 0) (some j) (vbr μ) (keyR (vod μ j) (firP (vst μ j) (vbh μ) 99)) ((turn (vod μ j) (keyR (vod μ j) (firP (vst μ j) (vbh μ) 99))) + 1) 0) := by rw [eF10]; exact MP_ob hC (va_up_self _ _ _) (fun q hq => va_up_ne _ _ hq)
      refine lv_aload_n hx hb dX6_walkNext_57 rfl (lv_at hl 1 rfl) ?_
      refine q_get C0 iX6 hP hC.1.1 hC.1.2 rfl 5 (by decide) flX6_45 rfl (v := .ref ((urh G j))) rfl dX6_walkNext_58 ?_
      refine lv_iload_n hx hb dX6_walkNext_61 rfl (lv_at hl 0 rfl) ?_
      refine q_vS C0 lX6_117 (c_X5_pair l D y L F10 (urh G j) (urw G j) (vod μ j) (vst μ j) (keyR (vod μ j) (firP (vst μ j) (vbh μ) 99)) (MP_r hC (hW.2.2.2.1 j hwk)) (by omega)) ⟨rfl, rfl⟩ rfl hP (MP_r hC (hW.2.2.2.1 j hwk)).1 (MP_r hC (hW.2.2.2.1 j hwk)).2.1 rfl rfl rfl hl rfl (Nat.le_of_ble_eq_true rfl) dX6_walkNext_62 ⟨Nat.zero_le _, Nat.zero_le _⟩ (fun r11 e_r11 => ?_)
      subst e_r11
      exact q_retMi C0 hret rfl hlk dX6_walkNext_65 hP hD hS (⟨(by unfold jR_walkNext1; (try unfold bkF); (try unfold bkO); (try unfold shF); (try unfold shO);  (repeat' split) <;> first | omega | (exfalso; omega) | rfl), O, G, MP_eq hC (by unfold jS_walkNext1; (try unfold ltR); (try unfold inR); (try unfold bkF); (try unfold bkO); (try unfold shF); (try unfold shO);  (repeat' split) <;> first | omega | (exfalso; omega) | rfl), rfl, Ext0 hO⟩)
    · refine q_iconst hx hb dX6_walkNext_36 ?_
      exact q_retMi C0 hret rfl hlk dX6_walkNext_37 hP hD hS (⟨(by unfold jR_walkNext1; (try unfold bkF); (try unfold bkO); (try unfold shF); (try unfold shO);  (repeat' split) <;> first | omega | (exfalso; omega) | rfl), O, G, MP_eq hC (by unfold jS_walkNext1; (try unfold ltR); (try unfold inR); (try unfold bkF); (try unfold bkO); (try unfold shF); (try unfold shO);  (repeat' split) <;> first | omega | (exfalso; omega) | rfl), rfl, Ext0 hO⟩)
  · have g_ : vbr μ ≠ 0 := fun z => by have q : (if vbr μ = 0 then (1 : Int) else 0) = 0 := (by first | exact c3 | exact Classical.not_not.mp c3 | omega); rw [if_pos z] at q; exact absurd q (by decide)
    refine lv_aload_n hx hb dX6_walkNext_12 rfl (lv_at hl 0 rfl) ?_
    refine q_vMi C0 lX6_89 (c_X6_refuse l D y L F1 _ O G (tOb μ (some j) (vbr μ) (vtd μ) (vbh μ) 0) hC) ⟨rfl, rfl⟩ rfl hP hD hS hA hC.1.1 hC.1.2 rfl rfl rfl hl rfl (Nat.le_of_ble_eq_true rfl) dX6_walkNext_13 ⟨Nat.le_of_ble_eq_true rfl, Nat.le_of_ble_eq_true rfl⟩ (fun r12 H locs L13 F13 hP hD hS hz13 hp13 => ?_)
    obtain ⟨eL, hC, er, hO1⟩ := hp13
    subst eL
    replace er : (-9) = r12 := er.symm
    subst er
    have hO := hO.tr hO1
    exact q_retMi C0 hret rfl hlk dX6_walkNext_16 hP hD hS (⟨(by unfold jR_walkNext1; (try unfold bkF); (try unfold bkO); (try unfold shF); (try unfold shO);  (repeat' split) <;> first | omega | (exfalso; omega) | rfl), O, G, MP_eq hC (by unfold jS_walkNext1; (try unfold ltR); (try unfold inR); (try unfold bkF); (try unfold bkO); (try unfold shF); (try unfold shO);  (repeat' split) <;> first | omega | (exfalso; omega) | rfl), rfl, Ext0 hO⟩)
