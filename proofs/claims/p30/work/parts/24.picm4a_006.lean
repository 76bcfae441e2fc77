set_option maxHeartbeats 3000000 in
set_option maxRecDepth 100000 in
theorem c_X6_shelfTell (l : Launch) (D : va_G) (y : Nat → ClassId) (L : List Nat) (F : Nat → va_E) (sz : Nat) (O : Nat → Prop) (G : MG) (μ : MS) (xb : Int) (xt : Int) (hC : MP y L F O G μ) (hW : MW μ) (h_xb : -2147483648 ≤ xb ∧ xb ≤ 2147483647) (h_xt : -2147483648 ≤ xt ∧ xt ≤ 2147483647) : Met l yX6_shelfTell (.code yX6_shelfTell cX6_shelfTell 5 (some .int) :: Tt) ({ frames := 2, cells := 0, slots := 0, locals := 45 }) (PcM D y L F sz [.ref ((ubg G)), .int (iI xb), .int (iI xt)]) (cMi D (AL L sz) (fun r L1 F1 => r = jR_shelfTell μ xb xt ∧ ∃ (O1 : Nat → Prop) (G1 : MG), MP y L1 F1 O1 G1 (jS_shelfTell μ xb xt) ∧ ubg G1 = ubg G ∧ Ext O O1 L L1 F F1)) 0 0 (AL L sz) := by
  have hO : OE O F F := fun _ _ => rfl
  have hw5 := hW.2.2.2.2.2.1
  have hw6 := hW.2.2.2.2.2.2.1
  have hw7 := hW.2.2.2.2.2.2.2.1
  have m1_ := @keyR_m1 (vod μ (vsh μ xb)) (lasP (vst μ (vsh μ xb)) 0 99) (lasP_r _ _ _)
  have m2_ := @keyR_m1 (vod μ (vsh μ xb)) (firP (vst μ (vsh μ xb)) 0 99) (firP_r _ _ _)
  refine q_ofM (lv := [(0, .ref ((ubg G))), (1, .int (iI xb)), (2, .int (iI xt))]) (by decide) (Nat.le_of_ble_eq_true rfl) rfl (fun p e s m below meth c C0 hret hlk hnm hA hP hD hS ls hl => ?_)
  have hx := C0.1.1
  have hb := C0.1.2.1
  have hts := C0.1.2.2.2.2
  refine lv_aload_n hx hb dX6_shelfTell_0 rfl (lv_at hl 0 rfl) ?_
  refine lv_iload_n hx hb dX6_shelfTell_1 rfl (lv_at hl 1 rfl) ?_
  refine q_sS C0 lX6_193 (c_X6_isShelf l D y L F xb (by omega)) ⟨rfl, rfl⟩ rfl hP rfl hl rfl (Nat.le_of_ble_eq_true rfl) dX6_shelfTell_2 ⟨Nat.zero_le _, Nat.zero_le _⟩ (fun r1 e_r1 => ?_)
  subst e_r1
  have b_2 := inR_d xb 0 2
  refine lv_iload_n hx hb dX6_shelfTell_5 rfl (lv_at hl 2 rfl) ?_
  refine q_iconst hx hb dX6_shelfTell_6 ?_
  refine q_iconst hx hb dX6_shelfTell_7 ?_
  refine q_sS C0 lX6_41 (c_X6_isIn l D y L F xt 0 4 (by omega) (by omega) (by omega)) ⟨rfl, rfl⟩ rfl hP rfl hl rfl (Nat.le_of_ble_eq_true rfl) dX6_shelfTell_8 ⟨Nat.zero_le _, Nat.zero_le _⟩ (fun r3 e_r3 => ?_)
  subst e_r3
  have b_4 := inR_d xt 0 4
  refine q_vMi C0 lX6_63 (c_X6_isLet l D y L F _ O G μ (inR xb 0 2) (inR xt 0 4) hC (by omega) (by omega)) ⟨rfl, rfl⟩ rfl hP hD hS hA hC.1.1 hC.1.2 rfl rfl rfl hl rfl (Nat.le_of_ble_eq_true rfl) dX6_shelfTell_11 ⟨Nat.le_of_ble_eq_true rfl, Nat.le_of_ble_eq_true rfl⟩ (fun r5 H locs L6 F6 hP hD hS hz6 hp6 => ?_)
  obtain ⟨eL, hC, er, hO1⟩ := hp6
  subst eL
  replace er := er.symm
  subst er
  have hO := hO.tr hO1
  have k_7 := okR_d (inR xb 0 2) (inR xt 0 4)
  refine q_if_ne hx hb dX6_shelfTell_14 (tgt := 19) (by decide) (by omega) (fun c8 => ?_) (fun c8 => ?_)
  · replace k_7 := k_7.resolve_right (fun h => c8 h.1)
    refine lv_aload_n hx hb dX6_shelfTell_19 rfl (lv_at hl 0 rfl) ?_
    refine q_get C0 iX6 hP hC.1.1 hC.1.2 rfl 1 (by decide) flX6_15 rfl (v := .ref ((uas G))) rfl dX6_shelfTell_20 ?_
    refine lv_iload_n hx hb dX6_shelfTell_23 rfl (lv_at hl 1 rfl) ?_
    refine q_aald C0 hP hC.2.2.1.1 hC.2.2.1.2 (t := 3) rfl (by omega) (by decide) (v := .ref ((urh G (vsh μ xb)))) rfl dX6_shelfTell_24 ?_
    refine lv_astore_n (lv' := [(3, .ref ((urh G (vsh μ xb)))), (0, .ref ((ubg G))), (1, .int (iI xb)), (2, .int (iI xt))]) hx hb dX6_shelfTell_25 rfl hl (by decide) rfl (fun ls hl => ?_)
    refine lv_iload_n hx hb dX6_shelfTell_26 rfl (lv_at hl 3 rfl) ?_
    refine q_iconst hx hb dX6_shelfTell_27 ?_
    refine q_icmp_ge hx hb dX6_shelfTell_28 (tgt := 62) (by decide) (by omega) (by omega) (fun c9 => ?_) (fun c9 => ?_)
    · refine lv_iload_n hx hb dX6_shelfTell_62 rfl (lv_at hl 3 rfl) ?_
      refine q_iconst hx hb dX6_shelfTell_63 ?_
      refine q_icmp_ne hx hb dX6_shelfTell_64 (tgt := 77) (by decide) (by omega) (by omega) (fun c10 => ?_) (fun c10 => ?_)
      · refine lv_aload_n hx hb dX6_shelfTell_77 rfl (lv_at hl 0 rfl) ?_
        refine q_iconst hx hb dX6_shelfTell_78 ?_
        refine q_bipush hx hb dX6_shelfTell_79 (by decide) ?_
        refine q_vS C0 lX6_114 (c_X5_last l D y L F6 (urh G (vsh μ xb)) (urw G (vsh μ xb)) (vod μ (vsh μ xb)) (vst μ (vsh μ xb)) 0 99 (MP_r hC (hW.2.1 xb)) (by omega) (by omega)) ⟨rfl, rfl⟩ rfl hP (MP_r hC (hW.2.1 xb)).1 (MP_r hC (hW.2.1 xb)).2.1 rfl rfl rfl hl rfl (Nat.le_of_ble_eq_true rfl) dX6_shelfTell_81 ⟨Nat.zero_le _, Nat.zero_le _⟩ (fun r11 e_r11 => ?_)
        subst e_r11
        have b_12 := @keyR_b (vod μ (vsh μ xb)) (lasP (vst μ (vsh μ xb)) 0 99) (lasP_r (vst μ (vsh μ xb)) 0 99)
        refine lv_istore (lv' := [(4, .int (iI ((keyR (vod μ (vsh μ xb)) (lasP (vst μ (vsh μ xb)) 0 99))))), (3, .ref ((urh G (vsh μ xb)))), (0, .ref ((ubg G))), (1, .int (iI xb)), (2, .int (iI xt))]) hx hb dX6_shelfTell_84 hl (by decide) rfl (fun ls hl => ?_)
        refine lv_iload hx hb dX6_shelfTell_86 (lv_at hl 0 rfl) ?_
        refine q_iconst hx hb dX6_shelfTell_88 ?_
        refine q_icmp_ne hx hb dX6_shelfTell_89 (tgt := 99) (by decide) (by omega) (by omega) (fun c13 => ?_) (fun c13 => ?_)
        · refine lv_iload hx hb dX6_shelfTell_99 (lv_at hl 0 rfl) ?_
          exact q_retMi C0 hret rfl hlk dX6_shelfTell_101 hP hD hS (⟨(by unfold jR_shelfTell; (try unfold bkF); (try unfold bkO); (try unfold shF); (try unfold shO); (try unfold endP); (repeat' split) <;> first | omega | (exfalso; omega) | rfl), O, G, MP_eq hC (by unfold jS_shelfTell; (try unfold ltR); (try unfold inR); (try unfold bkF); (try unfold bkO); (try unfold shF); (try unfold shO); (try unfold endP); (repeat' split) <;> first | omega | (exfalso; omega) | rfl), rfl, Ext0 hO⟩)
        · refine lv_aload_n hx hb dX6_shelfTell_92 rfl (lv_at hl 2 rfl) ?_
          refine q_vMi C0 lX6_89 (c_X6_refuse l D y L F6 _ O G (tTh μ (ltR (inR xb 0 2) (inR xt 0 4))) hC) ⟨rfl, rfl⟩ rfl hP hD hS hA hC.1.1 hC.1.2 rfl rfl rfl hl rfl (Nat.le_of_ble_eq_true rfl) dX6_shelfTell_93 ⟨Nat.le_of_ble_eq_true rfl, Nat.le_of_ble_eq_true rfl⟩ (fun r14 H locs L15 F15 hP hD hS hz15 hp15 => ?_)
          obtain ⟨eL, hC, er, hO1⟩ := hp15
          subst eL
          replace er : (-9) = r14 := er.symm
          subst er
          have hO := hO.tr hO1
          refine lv_goto (tgt := 101) hx hb dX6_shelfTell_96 (by decide) ?_
          exact q_retMi C0 hret rfl hlk dX6_shelfTell_101 hP hD hS (⟨(by unfold jR_shelfTell; (try unfold bkF); (try unfold bkO); (try unfold shF); (try unfold shO); (try unfold endP); (repeat' split) <;> first | omega | (exfalso; omega) | rfl), O, G, MP_eq hC (by unfold jS_shelfTell; (try unfold ltR); (try unfold inR); (try unfold bkF); (try unfold bkO); (try unfold shF); (try unfold shO); (try unfold endP); (repeat' split) <;> first | omega | (exfalso; omega) | rfl), rfl, Ext0 hO⟩)
      · refine lv_aload_n hx hb dX6_shelfTell_67 rfl (lv_at hl 0 rfl) ?_
        refine q_iconst hx hb dX6_shelfTell_68 ?_
        refine q_bipush hx hb dX6_shelfTell_69 (by decide) ?_
        refine q_vS C0 lX6_111 (c_X5_first l D y L F6 (urh G (vsh μ xb)) (urw G (vsh μ xb)) (vod μ (vsh μ xb)) (vst μ (vsh μ xb)) 0 99 (MP_r hC (hW.2.1 xb)) (by omega) (by omega)) ⟨rfl, rfl⟩ rfl hP (MP_r hC (hW.2.1 xb)).1 (MP_r hC (hW.2.1 xb)).2.1 rfl rfl rfl hl rfl (Nat.le_of_ble_eq_true rfl) dX6_shelfTell_71 ⟨Nat.zero_le _, Nat.zero_le _⟩ (fun r16 e_r16 => ?_)
        subst e_r16
        have b_17 := @keyR_b (vod μ (vsh μ xb)) (firP (vst μ (vsh μ xb)) 0 99) (firP_r (vst μ (vsh μ xb)) 0 99)
        refine lv_goto (tgt := 84) hx hb dX6_shelfTell_74 (by decide) ?_
        refine lv_istore (lv' := [(4, .int (iI ((keyR (vod μ (vsh μ xb)) (firP (vst μ (vsh μ xb)) 0 99))))), (3, .ref ((urh G (vsh μ xb)))), (0, .ref ((ubg G))), (1, .int (iI xb)), (2, .int (iI xt))]) hx hb dX6_shelfTell_84 hl (by decide) rfl (fun ls hl => ?_)
        refine lv_iload hx hb dX6_shelfTell_86 (lv_at hl 0 rfl) ?_
        refine q_iconst hx hb dX6_shelfTell_88 ?_
        refine q_icmp_ne hx hb dX6_shelfTell_89 (tgt := 99) (by decide) (by omega) (by omega) (fun c18 => ?_) (fun c18 => ?_)
        · refine lv_iload hx hb dX6_shelfTell_99 (lv_at hl 0 rfl) ?_
          exact q_retMi C0 hret rfl hlk dX6_shelfTell_101 hP hD hS (⟨(by unfold jR_shelfTell; (try unfold bkF); (try unfold bkO); (try unfold shF); (try unfold shO); (try unfold endP); (repeat' split) <;> first | omega | (exfalso; omega) | rfl), O, G, MP_eq hC (by unfold jS_shelfTell; (try unfold ltR); (try unfold inR); (try unfold bkF); (try unfold bkO); (try unfold shF); (try unfold shO); (try unfold endP); (repeat' split) <;> first | omega | (exfalso; omega) | rfl), rfl, Ext0 hO⟩)
        · refine lv_aload_n hx hb dX6_shelfTell_92 rfl (lv_at hl 2 rfl) ?_
          refine q_vMi C0 lX6_89 (c_X6_refuse l D y L F6 _ O G (tTh μ (ltR (inR xb 0 2) (inR xt 0 4))) hC) ⟨rfl, rfl⟩ rfl hP hD hS hA hC.1.1 hC.1.2 rfl rfl rfl hl rfl (Nat.le_of_ble_eq_true rfl) dX6_shelfTell_93 ⟨Nat.le_of_ble_eq_true rfl, Nat.le_of_ble_eq_true rfl⟩ (fun r19 H locs L20 F20 hP hD hS hz20 hp20 => ?_)
          obtain ⟨eL, hC, er, hO1⟩ := hp20
          subst eL
          replace er : (-9) = r19 := er.symm
          subst er
          have hO := hO.tr hO1
          refine lv_goto (tgt := 101) hx hb dX6_shelfTell_96 (by decide) ?_
          exact q_retMi C0 hret rfl hlk dX6_shelfTell_101 hP hD hS (⟨(by unfold jR_shelfTell; (try unfold bkF); (try unfold bkO); (try unfold shF); (try unfold shO); (try unfold endP); (repeat' split) <;> first | omega | (exfalso; omega) | rfl), O, G, MP_eq hC (by unfold jS_shelfTell; (try unfold ltR); (try unfold inR); (try unfold bkF); (try unfold bkO); (try unfold shF); (try unfold shO); (try unfold endP); (repeat' split) <;> first | omega | (exfalso; omega) | rfl), rfl, Ext0 hO⟩)
    · refine lv_iload_n hx hb dX6_shelfTell_31 rfl (lv_at hl 3 rfl) ?_
      refine q_if_ne hx hb dX6_shelfTell_32 (tgt := 45) (by decide) (by omega) (fun c21 => ?_) (fun c21 => ?_)
      · refine lv_iload_n hx hb dX6_shelfTell_45 rfl (lv_at hl 3 rfl) ?_
        refine q_iconst hx hb dX6_shelfTell_46 ?_
        refine q_icmp_ne hx hb dX6_shelfTell_47 (tgt := 57) (by decide) (by omega) (by omega) (fun c22 => ?_) (fun c22 => ?_)
        · refine lv_aload_n hx hb dX6_shelfTell_57 rfl (lv_at hl 0 rfl) ?_
          refine q_sS C0 lX6_200 (c_X6_sum_ l D y L F6 (urh G (vsh μ xb)) (urw G (vsh μ xb)) (vod μ (vsh μ xb)) (vst μ (vsh μ xb)) (MP_r hC (hW.2.1 xb))) ⟨rfl, rfl⟩ rfl hP rfl hl rfl (Nat.le_of_ble_eq_true rfl) dX6_shelfTell_58 ⟨Nat.zero_le _, Nat.zero_le _⟩ (fun r23 e_r23 => ?_)
          subst e_r23
          exact q_retMi C0 hret rfl hlk dX6_shelfTell_61 hP hD hS (⟨(by unfold jR_shelfTell; (try unfold bkF); (try unfold bkO); (try unfold shF); (try unfold shO); (try unfold endP); (repeat' split) <;> first | omega | (exfalso; omega) | rfl), O, G, MP_eq hC (by unfold jS_shelfTell; (try unfold ltR); (try unfold inR); (try unfold bkF); (try unfold bkO); (try unfold shF); (try unfold shO); (try unfold endP); (repeat' split) <;> first | omega | (exfalso; omega) | rfl), rfl, Ext0 hO⟩)
        · refine lv_aload_n hx hb dX6_shelfTell_50 rfl (lv_at hl 0 rfl) ?_
          refine q_getN C0 iX5 hP (MP_r hC (hW.2.1 xb)).1 (MP_r hC (hW.2.1 xb)).2.1 rfl 0 (by decide) C0.2.2.2.2.2.2.2.1 rfl (v := .int (iI ((vod μ (vsh μ xb))))) rfl dX6_shelfTell_51 ?_
          refine lv_goto (tgt := 61) hx hb dX6_shelfTell_54 (by decide) ?_
          exact q_retMi C0 hret rfl hlk dX6_shelfTell_61 hP hD hS (⟨(by unfold jR_shelfTell; (try unfold bkF); (try unfold bkO); (try unfold shF); (try unfold shO); (try unfold endP); (repeat' split) <;> first | omega | (exfalso; omega) | rfl), O, G, MP_eq hC (by unfold jS_shelfTell; (try unfold ltR); (try unfold inR); (try unfold bkF); (try unfold bkO); (try unfold shF); (try unfold shO); (try unfold endP); (repeat' split) <;> first | omega | (exfalso; omega) | rfl), rfl, Ext0 hO⟩)
      · refine lv_aload_n hx hb dX6_shelfTell_35 rfl (lv_at hl 0 rfl) ?_
        refine q_iconst hx hb dX6_shelfTell_36 ?_
        refine q_bipush hx hb dX6_shelfTell_37 (by decide) ?_
        refine q_vS C0 lX6_67 (c_X5_many l D y L F6 (urh G (vsh μ xb)) (urw G (vsh μ xb)) (vod μ (vsh μ xb)) (vst μ (vsh μ xb)) 0 99 (MP_r hC (hW.2.1 xb)) (by omega) (by omega)) ⟨rfl, rfl⟩ rfl hP (MP_r hC (hW.2.1 xb)).1 (MP_r hC (hW.2.1 xb)).2.1 rfl rfl rfl hl rfl (Nat.le_of_ble_eq_true rfl) dX6_shelfTell_39 ⟨Nat.zero_le _, Nat.zero_le _⟩ (fun r24 e_r24 => ?_)
        subst e_r24
        refine lv_goto (tgt := 61) hx hb dX6_shelfTell_42 (by decide) ?_
        exact q_retMi C0 hret rfl hlk dX6_shelfTell_61 hP hD hS (⟨(by unfold jR_shelfTell; (try unfold bkF); (try unfold bkO); (try unfold shF); (try unfold shO); (try unfold endP); (repeat' split) <;> first | omega | (exfalso; omega) | rfl), O, G, MP_eq hC (by unfold jS_shelfTell; (try unfold ltR); (try unfold inR); (try unfold bkF); (try unfold bkO); (try unfold shF); (try unfold shO); (try unfold endP); (repeat' split) <;> first | omega | (exfalso; omega) | rfl), rfl, Ext0 hO⟩)
  · replace k_7 := k_7.resolve_left (fun h => absurd (h.1.symm.trans c8) (by decide))
    refine q_iconst hx hb dX6_shelfTell_17 ?_
    exact q_retMi C0 hret rfl hlk dX6_shelfTell_18 hP hD hS (⟨(by unfold jR_shelfTell; (try unfold bkF); (try unfold bkO); (try unfold shF); (try unfold shO); (try unfold endP); (repeat' split) <;> first | omega | (exfalso; omega) | rfl), O, G, MP_eq hC (by unfold jS_shelfTell; (try unfold ltR); (try unfold inR); (try unfold bkF); (try unfold bkO); (try unfold shF); (try unfold shO); (try unfold endP); (repeat' split) <;> first | omega | (exfalso; omega) | rfl), rfl, Ext0 hO⟩)
