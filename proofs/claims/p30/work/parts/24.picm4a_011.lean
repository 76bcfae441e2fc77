set_option maxHeartbeats 3000000 in
set_option maxRecDepth 100000 in
theorem c_X6_walkSet1 (l : Launch) (D : va_G) (y : Nat → ClassId) (L : List Nat) (F : Nat → va_E) (sz : Nat) (O : Nat → Prop) (G : MG) (μ : MS) (j : Nat) (xw : Int) (hC : MP y L F O G μ) (hW : MW μ) (h_xw : -2147483648 ≤ xw ∧ xw ≤ 2147483647) (hwk : vwk μ = some j) : Met l yX6_walkSet (.code yX6_walkSet cX6_walkSet 3 (some .int) :: Tt) ({ frames := 2, cells := 0, slots := 0, locals := 42 }) (PcM D y L F sz [.ref ((ubg G)), .int (iI xw)]) (cMi D (AL L sz) (fun r L1 F1 => r = jR_walkSet1 μ j xw ∧ ∃ (O1 : Nat → Prop) (G1 : MG), MP y L1 F1 O1 G1 (jS_walkSet1 μ j xw) ∧ ubg G1 = ubg G ∧ Ext O O1 L L1 F F1)) 0 0 (AL L sz) := by
  have hO : OE O F F := fun _ _ => rfl
  have hw5 := hW.2.2.2.2.2.1
  have hw6 := hW.2.2.2.2.2.2.1
  have hw7 := hW.2.2.2.2.2.2.2.1
  refine q_ofM (lv := [(0, .ref ((ubg G))), (1, .int (iI xw))]) (by decide) (Nat.le_of_ble_eq_true rfl) rfl (fun p e s m below meth c C0 hret hlk hnm hA hP hD hS ls hl => ?_)
  have hx := C0.1.1
  have hb := C0.1.2.1
  have hts := C0.1.2.2.2.2
  refine lv_aload_n hx hb dX6_walkSet_0 rfl (lv_at hl 0 rfl) ?_
  refine lv_iload_n hx hb dX6_walkSet_1 rfl (lv_at hl 1 rfl) ?_
  refine q_sS C0 lX6_86 (c_X6_isKey l D y L F xw (by omega)) ⟨rfl, rfl⟩ rfl hP rfl hl rfl (Nat.le_of_ble_eq_true rfl) dX6_walkSet_2 ⟨Nat.zero_le _, Nat.zero_le _⟩ (fun r1 e_r1 => ?_)
  subst e_r1
  have b_2 := inR_d xw 0 99
  refine q_if_eq hx hb dX6_walkSet_5 (tgt := 12) (by decide) (by omega) (fun c3 => ?_) (fun c3 => ?_)
  · replace b_2 := b_2.resolve_left (fun h => absurd (h.1.symm.trans c3) (by decide))
    refine q_iconst hx hb dX6_walkSet_12 ?_
    refine q_put C0 iX6 tyX6 tyX6_ok nmX6 hP hD hS (MP_o1 hC hwk).1 (MP_o1 hC hwk).2 rfl 10 (by decide) flX6_38 rfl rfl rfl rfl (Nat.le_of_ble_eq_true rfl) dX6_walkSet_13 (fun H locs hP hD hS => ?_)
    obtain ⟨F4, eF4⟩ : ∃ z, z = va_up F (ubg G) (.inr (8, [.ref ((uab G)), .ref ((uas G)), .ref ((uav G)), .ref ((uaf G)), .ref ((uat G)), .ref ((urh G j)), .int (iI (vbr μ)), .int (iI (vtd μ)), .int (iI (vbh μ)), .ref ((uac G)), .int (iI 1)])) := ⟨_, rfl⟩
    have hP : va_P D vwCl (va_pl L F4) H := by rw [eF4]; exact hP
    have hD : va_D (AL L sz) (va_pl L F4) := by rw [eF4]; exact hD
    have hO : OE O F F4 := by rw [eF4]; exact hO.tr (OE1 (MP_O hC).1)
    have hC : MP y L F4 O G (tOb μ (some j) (vbr μ) (vtd μ) (vbh μ) 1) := by rw [eF4]; exact MP_ob hC (va_up_self _ _ _) (fun q hq => va_up_ne _ _ hq)
    refine lv_aload_n hx hb dX6_walkSet_16 rfl (lv_at hl 0 rfl) ?_
    refine q_get C0 iX6 hP hC.1.1 hC.1.2 rfl 10 (by decide) flX6_38 rfl (v := .int (iI 1)) rfl dX6_walkSet_17 ?_
    refine q_iconst hx hb dX6_walkSet_20 ?_
    refine q_icmp_ne hx hb dX6_walkSet_21 (tgt := 26) (by decide) (by omega) (by omega) (fun c5 => absurd c5 (by omega)) (fun c5 => ?_)
    refine q_iconst hx hb dX6_walkSet_24 ?_
    exact q_retMi C0 hret rfl hlk dX6_walkSet_25 hP hD hS (⟨(by unfold jR_walkSet1; (try unfold bkF); (try unfold bkO); (try unfold shF); (try unfold shO);  (repeat' split) <;> first | omega | (exfalso; omega) | rfl), O, G, MP_eq hC (by unfold jS_walkSet1; (try unfold ltR); (try unfold inR); (try unfold bkF); (try unfold bkO); (try unfold shF); (try unfold shO);  (repeat' split) <;> first | omega | (exfalso; omega) | rfl), rfl, Ext0 hO⟩)
  · replace b_2 := b_2.resolve_right (fun h => c3 h.1)
    refine q_iconst hx hb dX6_walkSet_8 ?_
    refine lv_goto (tgt := 13) hx hb dX6_walkSet_9 (by decide) ?_
    refine q_put C0 iX6 tyX6 tyX6_ok nmX6 hP hD hS (MP_o1 hC hwk).1 (MP_o1 hC hwk).2 rfl 10 (by decide) flX6_38 rfl rfl rfl rfl (Nat.le_of_ble_eq_true rfl) dX6_walkSet_13 (fun H locs hP hD hS => ?_)
    obtain ⟨F6, eF6⟩ : ∃ z, z = va_up F (ubg G) (.inr (8, [.ref ((uab G)), .ref ((uas G)), .ref ((uav G)), .ref ((uaf G)), .ref ((uat G)), .ref ((urh G j)), .int (iI (vbr μ)), .int (iI (vtd μ)), .int (iI (vbh μ)), .ref ((uac G)), .int (iI 0)])) := ⟨_, rfl⟩
    have hP : va_P D vwCl (va_pl L F6) H := by rw [eF6]; exact hP
    have hD : va_D (AL L sz) (va_pl L F6) := by rw [eF6]; exact hD
    have hO : OE O F F6 := by rw [eF6]; exact hO.tr (OE1 (MP_O hC).1)
    have hC : MP y L F6 O G (tOb μ (some j) (vbr μ) (vtd μ) (vbh μ) 0) := by rw [eF6]; exact MP_ob hC (va_up_self _ _ _) (fun q hq => va_up_ne _ _ hq)
    refine lv_aload_n hx hb dX6_walkSet_16 rfl (lv_at hl 0 rfl) ?_
    refine q_get C0 iX6 hP hC.1.1 hC.1.2 rfl 10 (by decide) flX6_38 rfl (v := .int (iI 0)) rfl dX6_walkSet_17 ?_
    refine q_iconst hx hb dX6_walkSet_20 ?_
    refine q_icmp_ne hx hb dX6_walkSet_21 (tgt := 26) (by decide) (by omega) (by omega) (fun c7 => ?_) (fun c7 => absurd c7 (by omega))
    refine lv_aload_n hx hb dX6_walkSet_26 rfl (lv_at hl 0 rfl) ?_
    refine q_get C0 iX6 hP hC.1.1 hC.1.2 rfl 7 (by decide) flX6_28 rfl (v := .int (iI (vtd μ))) rfl dX6_walkSet_27 ?_
    refine q_iconst hx hb dX6_walkSet_30 ?_
    refine q_icmp_ne hx hb dX6_walkSet_31 (tgt := 39) (by decide) (by omega) (by omega) (fun c8 => ?_) (fun c8 => ?_)
    · refine lv_aload_n hx hb dX6_walkSet_39 rfl (lv_at hl 0 rfl) ?_
      refine q_get C0 iX6 hP hC.1.1 hC.1.2 rfl 5 (by decide) flX6_45 rfl (v := .ref ((urh G j))) rfl dX6_walkSet_40 ?_
      refine q_getN C0 iX5 hP (MP_r hC (hW.2.2.2.1 j hwk)).1 (MP_r hC (hW.2.2.2.1 j hwk)).2.1 rfl 1 (by decide) C0.2.2.2.2.2.2.1 rfl (v := .ref ((urw G j))) rfl dX6_walkSet_43 ?_
      refine lv_aload_n hx hb dX6_walkSet_46 rfl (lv_at hl 0 rfl) ?_
      refine q_get C0 iX6 hP hC.1.1 hC.1.2 rfl 7 (by decide) flX6_28 rfl (v := .int (iI (vtd μ))) rfl dX6_walkSet_47 ?_
      refine q_iald C0 hP (f := (mwd (vod μ j) (vst μ j))) (MP_r hC (hW.2.2.2.1 j hwk)).2.2.1 (MP_r hC (hW.2.2.2.1 j hwk)).2.2.2.1 (by omega) (by decide) dX6_walkSet_50 ?_
      have b_9 := (fun k => show -1 ≤ mwd (vod μ j) (vst μ j) k ∧ mwd (vod μ j) (vst μ j) k ≤ 99 from (MP_r hC (hW.2.2.2.1 j hwk)).2.2.2.2.2 (turn (vod μ j) k)) (vtd μ)
      refine lv_istore_n (lv' := [(2, .int (iI (((mwd (vod μ j) (vst μ j)) (vtd μ))))), (0, .ref ((ubg G))), (1, .int (iI xw))]) hx hb dX6_walkSet_51 rfl hl (by decide) rfl (fun ls hl => ?_)
      refine lv_aload_n hx hb dX6_walkSet_52 rfl (lv_at hl 1 rfl) ?_
      refine q_get C0 iX6 hP hC.1.1 hC.1.2 rfl 5 (by decide) flX6_45 rfl (v := .ref ((urh G j))) rfl dX6_walkSet_53 ?_
      refine q_getN C0 iX5 hP (MP_r hC (hW.2.2.2.1 j hwk)).1 (MP_r hC (hW.2.2.2.1 j hwk)).2.1 rfl 1 (by decide) C0.2.2.2.2.2.2.1 rfl (v := .ref ((urw G j))) rfl dX6_walkSet_56 ?_
      refine lv_aload_n hx hb dX6_walkSet_59 rfl (lv_at hl 1 rfl) ?_
      refine q_get C0 iX6 hP hC.1.1 hC.1.2 rfl 7 (by decide) flX6_28 rfl (v := .int (iI (vtd μ))) rfl dX6_walkSet_60 ?_
      refine lv_iload_n hx hb dX6_walkSet_63 rfl (lv_at hl 2 rfl) ?_
      refine q_iast C0 hP hD hS (MP_r hC (hW.2.2.2.1 j hwk)).2.2.1 (MP_r hC (hW.2.2.2.1 j hwk)).2.2.2.1 (i := (vtd μ)) (v := xw) (by omega) (by decide) dX6_walkSet_64 (fun H locs hP hD hS => ?_)
      replace hP := va_P_re (a := (urw G j)) (e := arrI (y 0) 100 (mwd (vod μ j) (iu (vst μ j) (turn (vod μ j) (vtd μ)) xw))) hP (fun X z => by rw [va_up_self] at z; exact at_arrI (fun i h0 h1 => mwd_iu (by omega) i h0 h1) X z)
      replace hP : va_P D vwCl (va_pl L (va_up F6 (urw G j) (arrI (y 0) 100 (mwd (vod μ j) (iu (vst μ j) (turn (vod μ j) (vtd μ)) xw))))) H := by rw [va_up_up] at hP; exact hP
      replace hD := va_D_re (F1 := va_up F6 (urw G j) (arrI (y 0) 100 (mwd (vod μ j) (iu (vst μ j) (turn (vod μ j) (vtd μ)) xw)))) hD
      obtain ⟨F10, eF10⟩ : ∃ z, z = va_up F6 (urw G j) (arrI (y 0) 100 (mwd (vod μ j) (iu (vst μ j) (turn (vod μ j) (vtd μ)) xw))) := ⟨_, rfl⟩
      have hP : va_P D vwCl (va_pl L F10) H := by rw [eF10]; exact hP
      have hD : va_D (AL L sz) (va_pl L F10) := by rw [eF10]; exact hD
      have hO : OE O F F10 := by rw [eF10]; exact hO.tr (OE1 ((MP_O hC).2.2.2.2.2.2.2 _ (hW.2.2.2.1 j hwk)).2)
      have hC : MP y L F10 O G (tRw (tOb μ (some j) (vbr μ) (vtd μ) (vbh μ) 0) j (iu (vst μ j) (turn (vod μ j) (vtd μ)) xw)) := by rw [eF10]; exact MP_row hC (hW.2.2.2.1 j hwk) (va_up_self _ _ _) (fun r => by unfold iu; split <;> first | omega | exact (MP_r hC (hW.2.2.2.1 j hwk)).2.2.2.2.2 r) (fun q hq => va_up_ne _ _ hq)
      refine lv_aload_n hx hb dX6_walkSet_65 rfl (lv_at hl 1 rfl) ?_
      refine lv_iload_n hx hb dX6_walkSet_66 rfl (lv_at hl 0 rfl) ?_
      refine q_vMi C0 lX6_71 (c_X6_did l D y L F10 _ O G (tRw (tOb μ (some j) (vbr μ) (vtd μ) (vbh μ) 0) j (iu (vst μ j) (turn (vod μ j) (vtd μ)) xw)) ((mwd (vod μ j) (vst μ j)) (vtd μ)) hC) ⟨rfl, rfl⟩ rfl hP hD hS hA hC.1.1 hC.1.2 rfl rfl rfl hl rfl (Nat.le_of_ble_eq_true rfl) dX6_walkSet_67 ⟨Nat.le_of_ble_eq_true rfl, Nat.le_of_ble_eq_true rfl⟩ (fun r11 H locs L12 F12 hP hD hS hz12 hp12 => ?_)
      obtain ⟨eL, hC, er, hO1⟩ := hp12
      subst eL
      replace er : ((mwd (vod μ j) (vst μ j)) (vtd μ)) = r11 := er.symm
      subst er
      have hO := hO.tr hO1
      exact q_retMi C0 hret rfl hlk dX6_walkSet_70 hP hD hS (⟨(by unfold jR_walkSet1; (try unfold bkF); (try unfold bkO); (try unfold shF); (try unfold shO);  (repeat' split) <;> first | omega | (exfalso; omega) | rfl), O, G, MP_eq hC (by unfold jS_walkSet1; (try unfold ltR); (try unfold inR); (try unfold bkF); (try unfold bkO); (try unfold shF); (try unfold shO);  (repeat' split) <;> first | omega | (exfalso; omega) | rfl), rfl, Ext0 hO⟩)
    · refine lv_aload_n hx hb dX6_walkSet_34 rfl (lv_at hl 0 rfl) ?_
      refine q_vMi C0 lX6_89 (c_X6_refuse l D y L F6 _ O G (tOb μ (some j) (vbr μ) (vtd μ) (vbh μ) 0) hC) ⟨rfl, rfl⟩ rfl hP hD hS hA hC.1.1 hC.1.2 rfl rfl rfl hl rfl (Nat.le_of_ble_eq_true rfl) dX6_walkSet_35 ⟨Nat.le_of_ble_eq_true rfl, Nat.le_of_ble_eq_true rfl⟩ (fun r13 H locs L14 F14 hP hD hS hz14 hp14 => ?_)
      obtain ⟨eL, hC, er, hO1⟩ := hp14
      subst eL
      replace er : (-9) = r13 := er.symm
      subst er
      have hO := hO.tr hO1
      exact q_retMi C0 hret rfl hlk dX6_walkSet_38 hP hD hS (⟨(by unfold jR_walkSet1; (try unfold bkF); (try unfold bkO); (try unfold shF); (try unfold shO);  (repeat' split) <;> first | omega | (exfalso; omega) | rfl), O, G, MP_eq hC (by unfold jS_walkSet1; (try unfold ltR); (try unfold inR); (try unfold bkF); (try unfold bkO); (try unfold shF); (try unfold shO);  (repeat' split) <;> first | omega | (exfalso; omega) | rfl), rfl, Ext0 hO⟩)
