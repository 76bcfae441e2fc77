set_option maxHeartbeats 3000000 in
set_option maxRecDepth 100000 in
theorem c_X6_walkTake1 (l : Launch) (D : va_G) (y : Nat → ClassId) (L : List Nat) (F : Nat → va_E) (sz : Nat) (O : Nat → Prop) (G : MG) (μ : MS) (j : Nat) (hC : MP y L F O G μ) (hW : MW μ) (hwk : vwk μ = some j) : Met l yX6_walkTake (.code yX6_walkTake cX6_walkTake 2 (some .int) :: Tt) ({ frames := 1, cells := 0, slots := 0, locals := 21 }) (PcM D y L F sz [.ref ((ubg G))]) (cMi D (AL L sz) (fun r L1 F1 => r = jR_walkTake1 μ j ∧ ∃ (O1 : Nat → Prop) (G1 : MG), MP y L1 F1 O1 G1 (jS_walkTake1 μ j) ∧ ubg G1 = ubg G ∧ Ext O O1 L L1 F F1)) 0 0 (AL L sz) := by
  have hO : OE O F F := fun _ _ => rfl
  have hw5 := hW.2.2.2.2.2.1
  have hw6 := hW.2.2.2.2.2.2.1
  have hw7 := hW.2.2.2.2.2.2.2.1
  refine q_ofM (lv := [(0, .ref ((ubg G)))]) (by decide) (Nat.le_of_ble_eq_true rfl) rfl (fun p e s m below meth c C0 hret hlk hnm hA hP hD hS ls hl => ?_)
  have hx := C0.1.1
  have hb := C0.1.2.1
  have hts := C0.1.2.2.2.2
  refine lv_aload_n hx hb dX6_walkTake_0 rfl (lv_at hl 0 rfl) ?_
  refine q_iconst hx hb dX6_walkTake_1 ?_
  refine q_put C0 iX6 tyX6 tyX6_ok nmX6 hP hD hS (MP_o1 hC hwk).1 (MP_o1 hC hwk).2 rfl 10 (by decide) flX6_38 rfl rfl rfl rfl (Nat.le_of_ble_eq_true rfl) dX6_walkTake_2 (fun H locs hP hD hS => ?_)
  obtain ⟨F1, eF1⟩ : ∃ z, z = va_up F (ubg G) (.inr (8, [.ref ((uab G)), .ref ((uas G)), .ref ((uav G)), .ref ((uaf G)), .ref ((uat G)), .ref ((urh G j)), .int (iI (vbr μ)), .int (iI (vtd μ)), .int (iI (vbh μ)), .ref ((uac G)), .int (iI 0)])) := ⟨_, rfl⟩
  have hP : va_P D vwCl (va_pl L F1) H := by rw [eF1]; exact hP
  have hD : va_D (AL L sz) (va_pl L F1) := by rw [eF1]; exact hD
  have hO : OE O F F1 := by rw [eF1]; exact hO.tr (OE1 (MP_O hC).1)
  have hC : MP y L F1 O G (tOb μ (some j) (vbr μ) (vtd μ) (vbh μ) 0) := by rw [eF1]; exact MP_ob hC (va_up_self _ _ _) (fun q hq => va_up_ne _ _ hq)
  refine lv_aload_n hx hb dX6_walkTake_5 rfl (lv_at hl 0 rfl) ?_
  refine q_get C0 iX6 hP hC.1.1 hC.1.2 rfl 7 (by decide) flX6_28 rfl (v := .int (iI (vtd μ))) rfl dX6_walkTake_6 ?_
  refine q_iconst hx hb dX6_walkTake_9 ?_
  refine q_icmp_ne hx hb dX6_walkTake_10 (tgt := 18) (by decide) (by omega) (by omega) (fun c2 => ?_) (fun c2 => ?_)
  · refine lv_aload_n hx hb dX6_walkTake_18 rfl (lv_at hl 0 rfl) ?_
    refine q_get C0 iX6 hP hC.1.1 hC.1.2 rfl 5 (by decide) flX6_45 rfl (v := .ref ((urh G j))) rfl dX6_walkTake_19 ?_
    refine lv_aload_n hx hb dX6_walkTake_22 rfl (lv_at hl 0 rfl) ?_
    refine q_get C0 iX6 hP hC.1.1 hC.1.2 rfl 7 (by decide) flX6_28 rfl (v := .int (iI (vtd μ))) rfl dX6_walkTake_23 ?_
    refine q_vS C0 lX6_117 (c_X5_pair l D y L F1 (urh G j) (urw G j) (vod μ j) (vst μ j) (vtd μ) (MP_r hC (hW.2.2.2.1 j hwk)) (by omega)) ⟨rfl, rfl⟩ rfl hP (MP_r hC (hW.2.2.2.1 j hwk)).1 (MP_r hC (hW.2.2.2.1 j hwk)).2.1 rfl rfl rfl hl rfl (Nat.le_of_ble_eq_true rfl) dX6_walkTake_26 ⟨Nat.zero_le _, Nat.zero_le _⟩ (fun r3 e_r3 => ?_)
    subst e_r3
    refine lv_istore_n (lv' := [(1, .int (iI (((vtd μ) * 100 + (vst μ j) (turn (vod μ j) (vtd μ)))))), (0, .ref ((ubg G)))]) hx hb dX6_walkTake_29 rfl hl (by decide) rfl (fun ls hl => ?_)
    refine lv_aload_n hx hb dX6_walkTake_30 rfl (lv_at hl 1 rfl) ?_
    refine q_get C0 iX6 hP hC.1.1 hC.1.2 rfl 5 (by decide) flX6_45 rfl (v := .ref ((urh G j))) rfl dX6_walkTake_31 ?_
    refine q_getN C0 iX5 hP (MP_r hC (hW.2.2.2.1 j hwk)).1 (MP_r hC (hW.2.2.2.1 j hwk)).2.1 rfl 1 (by decide) C0.2.2.2.2.2.2.1 rfl (v := .ref ((urw G j))) rfl dX6_walkTake_34 ?_
    refine lv_aload_n hx hb dX6_walkTake_37 rfl (lv_at hl 1 rfl) ?_
    refine q_get C0 iX6 hP hC.1.1 hC.1.2 rfl 7 (by decide) flX6_28 rfl (v := .int (iI (vtd μ))) rfl dX6_walkTake_38 ?_
    refine q_iconst hx hb dX6_walkTake_41 ?_
    refine q_iast C0 hP hD hS (MP_r hC (hW.2.2.2.1 j hwk)).2.2.1 (MP_r hC (hW.2.2.2.1 j hwk)).2.2.2.1 (i := (vtd μ)) (v := (-1)) (by omega) (by decide) dX6_walkTake_42 (fun H locs hP hD hS => ?_)
    replace hP := va_P_re (a := (urw G j)) (e := arrI (y 0) 100 (mwd (vod μ j) (iu (vst μ j) (turn (vod μ j) (vtd μ)) (-1)))) hP (fun X z => by rw [va_up_self] at z; exact at_arrI (fun i h0 h1 => mwd_iu (by omega) i h0 h1) X z)
    replace hP : va_P D vwCl (va_pl L (va_up F1 (urw G j) (arrI (y 0) 100 (mwd (vod μ j) (iu (vst μ j) (turn (vod μ j) (vtd μ)) (-1)))))) H := by rw [va_up_up] at hP; exact hP
    replace hD := va_D_re (F1 := va_up F1 (urw G j) (arrI (y 0) 100 (mwd (vod μ j) (iu (vst μ j) (turn (vod μ j) (vtd μ)) (-1))))) hD
    obtain ⟨F4, eF4⟩ : ∃ z, z = va_up F1 (urw G j) (arrI (y 0) 100 (mwd (vod μ j) (iu (vst μ j) (turn (vod μ j) (vtd μ)) (-1)))) := ⟨_, rfl⟩
    have hP : va_P D vwCl (va_pl L F4) H := by rw [eF4]; exact hP
    have hD : va_D (AL L sz) (va_pl L F4) := by rw [eF4]; exact hD
    have hO : OE O F F4 := by rw [eF4]; exact hO.tr (OE1 ((MP_O hC).2.2.2.2.2.2.2 _ (hW.2.2.2.1 j hwk)).2)
    have hC : MP y L F4 O G (tRw (tOb μ (some j) (vbr μ) (vtd μ) (vbh μ) 0) j (iu (vst μ j) (turn (vod μ j) (vtd μ)) (-1))) := by rw [eF4]; exact MP_row hC (hW.2.2.2.1 j hwk) (va_up_self _ _ _) (fun r => by unfold iu; split <;> first | omega | exact (MP_r hC (hW.2.2.2.1 j hwk)).2.2.2.2.2 r) (fun q hq => va_up_ne _ _ hq)
    refine lv_aload_n hx hb dX6_walkTake_43 rfl (lv_at hl 1 rfl) ?_
    refine q_iconst hx hb dX6_walkTake_44 ?_
    refine q_put C0 iX6 tyX6 tyX6_ok nmX6 hP hD hS hC.1.1 hC.1.2 rfl 7 (by decide) flX6_28 rfl rfl rfl rfl (Nat.le_of_ble_eq_true rfl) dX6_walkTake_45 (fun H locs hP hD hS => ?_)
    obtain ⟨F5, eF5⟩ : ∃ z, z = va_up F4 (ubg G) (.inr (8, [.ref ((uab G)), .ref ((uas G)), .ref ((uav G)), .ref ((uaf G)), .ref ((uat G)), .ref ((urh G j)), .int (iI (vbr μ)), .int (iI ((-1))), .int (iI (vbh μ)), .ref ((uac G)), .int (iI 0)])) := ⟨_, rfl⟩
    have hP : va_P D vwCl (va_pl L F5) H := by rw [eF5]; exact hP
    have hD : va_D (AL L sz) (va_pl L F5) := by rw [eF5]; exact hD
    have hO : OE O F F5 := by rw [eF5]; exact hO.tr (OE1 (MP_O hC).1)
    have hC : MP y L F5 O G (tOb (tRw (tOb μ (some j) (vbr μ) (vtd μ) (vbh μ) 0) j (iu (vst μ j) (turn (vod μ j) (vtd μ)) (-1))) (some j) (vbr μ) (-1) (vbh μ) 0) := by rw [eF5]; exact MP_ob hC (va_up_self _ _ _) (fun q hq => va_up_ne _ _ hq)
    refine lv_aload_n hx hb dX6_walkTake_48 rfl (lv_at hl 1 rfl) ?_
    refine lv_iload_n hx hb dX6_walkTake_49 rfl (lv_at hl 0 rfl) ?_
    refine q_vMi C0 lX6_71 (c_X6_did l D y L F5 _ O G (tOb (tRw (tOb μ (some j) (vbr μ) (vtd μ) (vbh μ) 0) j (iu (vst μ j) (turn (vod μ j) (vtd μ)) (-1))) (some j) (vbr μ) (-1) (vbh μ) 0) ((vtd μ) * 100 + (vst μ j) (turn (vod μ j) (vtd μ))) hC) ⟨rfl, rfl⟩ rfl hP hD hS hA hC.1.1 hC.1.2 rfl rfl rfl hl rfl (Nat.le_of_ble_eq_true rfl) dX6_walkTake_50 ⟨Nat.le_of_ble_eq_true rfl, Nat.le_of_ble_eq_true rfl⟩ (fun r6 H locs L7 F7 hP hD hS hz7 hp7 => ?_)
    obtain ⟨eL, hC, er, hO1⟩ := hp7
    subst eL
    replace er : ((vtd μ) * 100 + (vst μ j) (turn (vod μ j) (vtd μ))) = r6 := er.symm
    subst er
    have hO := hO.tr hO1
    exact q_retMi C0 hret rfl hlk dX6_walkTake_53 hP hD hS (⟨(by unfold jR_walkTake1; (try unfold bkF); (try unfold bkO); (try unfold shF); (try unfold shO);  (repeat' split) <;> first | omega | (exfalso; omega) | rfl), O, G, MP_eq hC (by unfold jS_walkTake1; (try unfold ltR); (try unfold inR); (try unfold bkF); (try unfold bkO); (try unfold shF); (try unfold shO);  (repeat' split) <;> first | omega | (exfalso; omega) | rfl), rfl, Ext0 hO⟩)
  · refine lv_aload_n hx hb dX6_walkTake_13 rfl (lv_at hl 0 rfl) ?_
    refine q_vMi C0 lX6_89 (c_X6_refuse l D y L F1 _ O G (tOb μ (some j) (vbr μ) (vtd μ) (vbh μ) 0) hC) ⟨rfl, rfl⟩ rfl hP hD hS hA hC.1.1 hC.1.2 rfl rfl rfl hl rfl (Nat.le_of_ble_eq_true rfl) dX6_walkTake_14 ⟨Nat.le_of_ble_eq_true rfl, Nat.le_of_ble_eq_true rfl⟩ (fun r8 H locs L9 F9 hP hD hS hz9 hp9 => ?_)
    obtain ⟨eL, hC, er, hO1⟩ := hp9
    subst eL
    replace er : (-9) = r8 := er.symm
    subst er
    have hO := hO.tr hO1
    exact q_retMi C0 hret rfl hlk dX6_walkTake_17 hP hD hS (⟨(by unfold jR_walkTake1; (try unfold bkF); (try unfold bkO); (try unfold shF); (try unfold shO);  (repeat' split) <;> first | omega | (exfalso; omega) | rfl), O, G, MP_eq hC (by unfold jS_walkTake1; (try unfold ltR); (try unfold inR); (try unfold bkF); (try unfold bkO); (try unfold shF); (try unfold shO);  (repeat' split) <;> first | omega | (exfalso; omega) | rfl), rfl, Ext0 hO⟩)
