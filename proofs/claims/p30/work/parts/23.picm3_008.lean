set_option maxHeartbeats 3000000 in
set_option maxRecDepth 100000 in
theorem c_X6_end (l : Launch) (D : va_G) (y : Nat → ClassId) (L : List Nat) (F : Nat → va_E) (sz : Nat) (O : Nat → Prop) (G : MG) (μ : MS) (xb : Int) (xw : Int) (xv : Int) (hC : MP y L F O G μ) (hW : MW μ) (h_xb : -2147483648 ≤ xb ∧ xb ≤ 2147483647) (h_xw : 0 ≤ xw ∧ xw ≤ 1) (h_xv : 0 ≤ xv ∧ xv ≤ 1) : Met l yX6_end (.code yX6_end cX6_end 5 (some .int) :: Tt) ({ frames := 2, cells := 0, slots := 0, locals := 44 }) (PcM D y L F sz [.ref ((ubg G)), .int (iI xb), .int (iI xw), .int (iI xv)]) (cMi D (AL L sz) (fun r L1 F1 => r = jR_end μ xb xw xv ∧ ∃ (O1 : Nat → Prop) (G1 : MG), MP y L1 F1 O1 G1 (jS_end μ xb xw xv) ∧ ubg G1 = ubg G ∧ Ext O O1 L L1 F F1)) 0 0 (AL L sz) := by
  have hO : OE O F F := fun _ _ => rfl
  have hw5 := hW.2.2.2.2.2.1
  have hw6 := hW.2.2.2.2.2.2.1
  have hw7 := hW.2.2.2.2.2.2.2.1
  have m1_ := @keyR_m1 (vod μ (vbk μ xb)) (lasP (vst μ (vbk μ xb)) 0 99) (lasP_r _ _ _)
  have m2_ := @keyR_m1 (vod μ (vbk μ xb)) (firP (vst μ (vbk μ xb)) 0 99) (firP_r _ _ _)
  refine q_ofM (lv := [(0, .ref ((ubg G))), (1, .int (iI xb)), (2, .int (iI xw)), (3, .int (iI xv))]) (by decide) (Nat.le_of_ble_eq_true rfl) rfl (fun p e s m below meth c C0 hret hlk hnm hA hP hD hS ls hl => ?_)
  have hx := C0.1.1
  have hb := C0.1.2.1
  have hts := C0.1.2.2.2.2
  refine lv_aload_n hx hb dX6_end_0 rfl (lv_at hl 0 rfl) ?_
  refine lv_iload_n hx hb dX6_end_1 rfl (lv_at hl 1 rfl) ?_
  refine q_sS C0 lX6_60 (c_X6_isBook l D y L F xb (by omega)) ⟨rfl, rfl⟩ rfl hP rfl hl rfl (Nat.le_of_ble_eq_true rfl) dX6_end_2 ⟨Nat.zero_le _, Nat.zero_le _⟩ (fun r1 e_r1 => ?_)
  subst e_r1
  have b_2 := inR_d xb 0 3
  refine q_iconst hx hb dX6_end_5 ?_
  refine q_vMi C0 lX6_63 (c_X6_isLet l D y L F _ O G μ (inR xb 0 3) 1 hC (by omega) (by omega)) ⟨rfl, rfl⟩ rfl hP hD hS hA hC.1.1 hC.1.2 rfl rfl rfl hl rfl (Nat.le_of_ble_eq_true rfl) dX6_end_6 ⟨Nat.le_of_ble_eq_true rfl, Nat.le_of_ble_eq_true rfl⟩ (fun r3 H locs L4 F4 hP hD hS hz4 hp4 => ?_)
  obtain ⟨eL, hC, er, hO1⟩ := hp4
  subst eL
  replace er := er.symm
  subst er
  have hO := hO.tr hO1
  have k_5 := okR_d (inR xb 0 3) 1
  refine q_if_ne hx hb dX6_end_9 (tgt := 14) (by decide) (by omega) (fun c6 => ?_) (fun c6 => ?_)
  · replace k_5 := k_5.resolve_right (fun h => c6 h.1)
    refine lv_iload_n hx hb dX6_end_14 rfl (lv_at hl 2 rfl) ?_
    refine q_if_eq hx hb dX6_end_15 (tgt := 33) (by decide) (by omega) (fun c7 => ?_) (fun c7 => ?_)
    · refine lv_aload_n hx hb dX6_end_33 rfl (lv_at hl 0 rfl) ?_
      refine q_get C0 iX6 hP hC.1.1 hC.1.2 rfl 0 (by decide) flX6_11 rfl (v := .ref ((uab G))) rfl dX6_end_34 ?_
      refine lv_iload_n hx hb dX6_end_37 rfl (lv_at hl 1 rfl) ?_
      refine q_aald C0 hP hC.2.1.1 hC.2.1.2 (t := 3) rfl (by omega) (by decide) (v := .ref ((urh G (vbk μ xb)))) rfl dX6_end_38 ?_
      refine q_iconst hx hb dX6_end_39 ?_
      refine q_bipush hx hb dX6_end_40 (by decide) ?_
      refine q_vS C0 lX6_111 (c_X5_first l D y L F4 (urh G (vbk μ xb)) (urw G (vbk μ xb)) (vod μ (vbk μ xb)) (vst μ (vbk μ xb)) 0 99 (MP_r hC (hW.1 xb)) (by omega) (by omega)) ⟨rfl, rfl⟩ rfl hP (MP_r hC (hW.1 xb)).1 (MP_r hC (hW.1 xb)).2.1 rfl rfl rfl hl rfl (Nat.le_of_ble_eq_true rfl) dX6_end_42 ⟨Nat.zero_le _, Nat.zero_le _⟩ (fun r8 e_r8 => ?_)
      subst e_r8
      have b_9 := @keyR_b (vod μ (vbk μ xb)) (firP (vst μ (vbk μ xb)) 0 99) (firP_r (vst μ (vbk μ xb)) 0 99)
      refine lv_istore (lv' := [(4, .int (iI ((keyR (vod μ (vbk μ xb)) (firP (vst μ (vbk μ xb)) 0 99))))), (0, .ref ((ubg G))), (1, .int (iI xb)), (2, .int (iI xw)), (3, .int (iI xv))]) hx hb dX6_end_45 hl (by decide) rfl (fun ls hl => ?_)
      refine lv_iload hx hb dX6_end_47 (lv_at hl 0 rfl) ?_
      refine q_iconst hx hb dX6_end_49 ?_
      refine q_icmp_ne hx hb dX6_end_50 (tgt := 64) (by decide) (by omega) (by omega) (fun c10 => ?_) (fun c10 => ?_)
      · refine lv_aload_n hx hb dX6_end_64 rfl (lv_at hl 1 rfl) ?_
        refine q_get C0 iX6 hP hC.1.1 hC.1.2 rfl 0 (by decide) flX6_11 rfl (v := .ref ((uab G))) rfl dX6_end_65 ?_
        refine lv_iload_n hx hb dX6_end_68 rfl (lv_at hl 2 rfl) ?_
        refine q_aald C0 hP hC.2.1.1 hC.2.1.2 (t := 3) rfl (by omega) (by decide) (v := .ref ((urh G (vbk μ xb)))) rfl dX6_end_69 ?_
        refine lv_iload hx hb dX6_end_70 (lv_at hl 0 rfl) ?_
        refine lv_iload_n hx hb dX6_end_72 rfl (lv_at hl 4 rfl) ?_
        refine q_sS C0 lX6_128 (c_X6_told l D y L F4 (urh G (vbk μ xb)) (urw G (vbk μ xb)) (vod μ (vbk μ xb)) (vst μ (vbk μ xb)) (keyR (vod μ (vbk μ xb)) (firP (vst μ (vbk μ xb)) 0 99)) xv (MP_r hC (hW.1 xb)) (by omega) (by omega)) ⟨rfl, rfl⟩ rfl hP rfl hl rfl (Nat.le_of_ble_eq_true rfl) dX6_end_73 ⟨Nat.zero_le _, Nat.zero_le _⟩ (fun r11 e_r11 => ?_)
        subst e_r11
        exact q_retMi C0 hret rfl hlk dX6_end_76 hP hD hS (⟨(by unfold jR_end; (try unfold bkF); (try unfold bkO); (try unfold endP); (repeat' split) <;> first | omega | (exfalso; omega) | rfl), O, G, MP_eq hC (by unfold jS_end; (try unfold ltR); (try unfold inR); (try unfold bkF); (try unfold bkO); (try unfold endP); (repeat' split) <;> first | omega | (exfalso; omega) | rfl), rfl, Ext0 hO⟩)
      · refine lv_iload_n hx hb dX6_end_53 rfl (lv_at hl 4 rfl) ?_
        refine q_if_ne hx hb dX6_end_54 (tgt := 64) (by decide) (by omega) (fun c12 => ?_) (fun c12 => ?_)
        · refine lv_aload_n hx hb dX6_end_64 rfl (lv_at hl 1 rfl) ?_
          refine q_get C0 iX6 hP hC.1.1 hC.1.2 rfl 0 (by decide) flX6_11 rfl (v := .ref ((uab G))) rfl dX6_end_65 ?_
          refine lv_iload_n hx hb dX6_end_68 rfl (lv_at hl 2 rfl) ?_
          refine q_aald C0 hP hC.2.1.1 hC.2.1.2 (t := 3) rfl (by omega) (by decide) (v := .ref ((urh G (vbk μ xb)))) rfl dX6_end_69 ?_
          refine lv_iload hx hb dX6_end_70 (lv_at hl 0 rfl) ?_
          refine lv_iload_n hx hb dX6_end_72 rfl (lv_at hl 4 rfl) ?_
          refine q_sS C0 lX6_128 (c_X6_told l D y L F4 (urh G (vbk μ xb)) (urw G (vbk μ xb)) (vod μ (vbk μ xb)) (vst μ (vbk μ xb)) (keyR (vod μ (vbk μ xb)) (firP (vst μ (vbk μ xb)) 0 99)) xv (MP_r hC (hW.1 xb)) (by omega) (by omega)) ⟨rfl, rfl⟩ rfl hP rfl hl rfl (Nat.le_of_ble_eq_true rfl) dX6_end_73 ⟨Nat.zero_le _, Nat.zero_le _⟩ (fun r13 e_r13 => ?_)
          subst e_r13
          exact q_retMi C0 hret rfl hlk dX6_end_76 hP hD hS (⟨(by unfold jR_end; (try unfold bkF); (try unfold bkO); (try unfold endP); (repeat' split) <;> first | omega | (exfalso; omega) | rfl), O, G, MP_eq hC (by unfold jS_end; (try unfold ltR); (try unfold inR); (try unfold bkF); (try unfold bkO); (try unfold endP); (repeat' split) <;> first | omega | (exfalso; omega) | rfl), rfl, Ext0 hO⟩)
        · refine lv_aload_n hx hb dX6_end_57 rfl (lv_at hl 1 rfl) ?_
          refine q_vMi C0 lX6_89 (c_X6_refuse l D y L F4 _ O G (tTh μ (ltR (inR xb 0 3) 1)) hC) ⟨rfl, rfl⟩ rfl hP hD hS hA hC.1.1 hC.1.2 rfl rfl rfl hl rfl (Nat.le_of_ble_eq_true rfl) dX6_end_58 ⟨Nat.le_of_ble_eq_true rfl, Nat.le_of_ble_eq_true rfl⟩ (fun r14 H locs L15 F15 hP hD hS hz15 hp15 => ?_)
          obtain ⟨eL, hC, er, hO1⟩ := hp15
          subst eL
          replace er : (-9) = r14 := er.symm
          subst er
          have hO := hO.tr hO1
          refine lv_goto (tgt := 76) hx hb dX6_end_61 (by decide) ?_
          exact q_retMi C0 hret rfl hlk dX6_end_76 hP hD hS (⟨(by unfold jR_end; (try unfold bkF); (try unfold bkO); (try unfold endP); (repeat' split) <;> first | omega | (exfalso; omega) | rfl), O, G, MP_eq hC (by unfold jS_end; (try unfold ltR); (try unfold inR); (try unfold bkF); (try unfold bkO); (try unfold endP); (repeat' split) <;> first | omega | (exfalso; omega) | rfl), rfl, Ext0 hO⟩)
    · refine lv_aload_n hx hb dX6_end_18 rfl (lv_at hl 0 rfl) ?_
      refine q_get C0 iX6 hP hC.1.1 hC.1.2 rfl 0 (by decide) flX6_11 rfl (v := .ref ((uab G))) rfl dX6_end_19 ?_
      refine lv_iload_n hx hb dX6_end_22 rfl (lv_at hl 1 rfl) ?_
      refine q_aald C0 hP hC.2.1.1 hC.2.1.2 (t := 3) rfl (by omega) (by decide) (v := .ref ((urh G (vbk μ xb)))) rfl dX6_end_23 ?_
      refine q_iconst hx hb dX6_end_24 ?_
      refine q_bipush hx hb dX6_end_25 (by decide) ?_
      refine q_vS C0 lX6_114 (c_X5_last l D y L F4 (urh G (vbk μ xb)) (urw G (vbk μ xb)) (vod μ (vbk μ xb)) (vst μ (vbk μ xb)) 0 99 (MP_r hC (hW.1 xb)) (by omega) (by omega)) ⟨rfl, rfl⟩ rfl hP (MP_r hC (hW.1 xb)).1 (MP_r hC (hW.1 xb)).2.1 rfl rfl rfl hl rfl (Nat.le_of_ble_eq_true rfl) dX6_end_27 ⟨Nat.zero_le _, Nat.zero_le _⟩ (fun r16 e_r16 => ?_)
      subst e_r16
      have b_17 := @keyR_b (vod μ (vbk μ xb)) (lasP (vst μ (vbk μ xb)) 0 99) (lasP_r (vst μ (vbk μ xb)) 0 99)
      refine lv_goto (tgt := 45) hx hb dX6_end_30 (by decide) ?_
      refine lv_istore (lv' := [(4, .int (iI ((keyR (vod μ (vbk μ xb)) (lasP (vst μ (vbk μ xb)) 0 99))))), (0, .ref ((ubg G))), (1, .int (iI xb)), (2, .int (iI xw)), (3, .int (iI xv))]) hx hb dX6_end_45 hl (by decide) rfl (fun ls hl => ?_)
      refine lv_iload hx hb dX6_end_47 (lv_at hl 0 rfl) ?_
      refine q_iconst hx hb dX6_end_49 ?_
      refine q_icmp_ne hx hb dX6_end_50 (tgt := 64) (by decide) (by omega) (by omega) (fun c18 => ?_) (fun c18 => ?_)
      · refine lv_aload_n hx hb dX6_end_64 rfl (lv_at hl 1 rfl) ?_
        refine q_get C0 iX6 hP hC.1.1 hC.1.2 rfl 0 (by decide) flX6_11 rfl (v := .ref ((uab G))) rfl dX6_end_65 ?_
        refine lv_iload_n hx hb dX6_end_68 rfl (lv_at hl 2 rfl) ?_
        refine q_aald C0 hP hC.2.1.1 hC.2.1.2 (t := 3) rfl (by omega) (by decide) (v := .ref ((urh G (vbk μ xb)))) rfl dX6_end_69 ?_
        refine lv_iload hx hb dX6_end_70 (lv_at hl 0 rfl) ?_
        refine lv_iload_n hx hb dX6_end_72 rfl (lv_at hl 4 rfl) ?_
        refine q_sS C0 lX6_128 (c_X6_told l D y L F4 (urh G (vbk μ xb)) (urw G (vbk μ xb)) (vod μ (vbk μ xb)) (vst μ (vbk μ xb)) (keyR (vod μ (vbk μ xb)) (lasP (vst μ (vbk μ xb)) 0 99)) xv (MP_r hC (hW.1 xb)) (by omega) (by omega)) ⟨rfl, rfl⟩ rfl hP rfl hl rfl (Nat.le_of_ble_eq_true rfl) dX6_end_73 ⟨Nat.zero_le _, Nat.zero_le _⟩ (fun r19 e_r19 => ?_)
        subst e_r19
        exact q_retMi C0 hret rfl hlk dX6_end_76 hP hD hS (⟨(by unfold jR_end; (try unfold bkF); (try unfold bkO); (try unfold endP); (repeat' split) <;> first | omega | (exfalso; omega) | rfl), O, G, MP_eq hC (by unfold jS_end; (try unfold ltR); (try unfold inR); (try unfold bkF); (try unfold bkO); (try unfold endP); (repeat' split) <;> first | omega | (exfalso; omega) | rfl), rfl, Ext0 hO⟩)
      · refine lv_iload_n hx hb dX6_end_53 rfl (lv_at hl 4 rfl) ?_
        refine q_if_ne hx hb dX6_end_54 (tgt := 64) (by decide) (by omega) (fun c20 => ?_) (fun c20 => ?_)
        · refine lv_aload_n hx hb dX6_end_64 rfl (lv_at hl 1 rfl) ?_
          refine q_get C0 iX6 hP hC.1.1 hC.1.2 rfl 0 (by decide) flX6_11 rfl (v := .ref ((uab G))) rfl dX6_end_65 ?_
          refine lv_iload_n hx hb dX6_end_68 rfl (lv_at hl 2 rfl) ?_
          refine q_aald C0 hP hC.2.1.1 hC.2.1.2 (t := 3) rfl (by omega) (by decide) (v := .ref ((urh G (vbk μ xb)))) rfl dX6_end_69 ?_
          refine lv_iload hx hb dX6_end_70 (lv_at hl 0 rfl) ?_
          refine lv_iload_n hx hb dX6_end_72 rfl (lv_at hl 4 rfl) ?_
          refine q_sS C0 lX6_128 (c_X6_told l D y L F4 (urh G (vbk μ xb)) (urw G (vbk μ xb)) (vod μ (vbk μ xb)) (vst μ (vbk μ xb)) (keyR (vod μ (vbk μ xb)) (lasP (vst μ (vbk μ xb)) 0 99)) xv (MP_r hC (hW.1 xb)) (by omega) (by omega)) ⟨rfl, rfl⟩ rfl hP rfl hl rfl (Nat.le_of_ble_eq_true rfl) dX6_end_73 ⟨Nat.zero_le _, Nat.zero_le _⟩ (fun r21 e_r21 => ?_)
          subst e_r21
          exact q_retMi C0 hret rfl hlk dX6_end_76 hP hD hS (⟨(by unfold jR_end; (try unfold bkF); (try unfold bkO); (try unfold endP); (repeat' split) <;> first | omega | (exfalso; omega) | rfl), O, G, MP_eq hC (by unfold jS_end; (try unfold ltR); (try unfold inR); (try unfold bkF); (try unfold bkO); (try unfold endP); (repeat' split) <;> first | omega | (exfalso; omega) | rfl), rfl, Ext0 hO⟩)
        · refine lv_aload_n hx hb dX6_end_57 rfl (lv_at hl 1 rfl) ?_
          refine q_vMi C0 lX6_89 (c_X6_refuse l D y L F4 _ O G (tTh μ (ltR (inR xb 0 3) 1)) hC) ⟨rfl, rfl⟩ rfl hP hD hS hA hC.1.1 hC.1.2 rfl rfl rfl hl rfl (Nat.le_of_ble_eq_true rfl) dX6_end_58 ⟨Nat.le_of_ble_eq_true rfl, Nat.le_of_ble_eq_true rfl⟩ (fun r22 H locs L23 F23 hP hD hS hz23 hp23 => ?_)
          obtain ⟨eL, hC, er, hO1⟩ := hp23
          subst eL
          replace er : (-9) = r22 := er.symm
          subst er
          have hO := hO.tr hO1
          refine lv_goto (tgt := 76) hx hb dX6_end_61 (by decide) ?_
          exact q_retMi C0 hret rfl hlk dX6_end_76 hP hD hS (⟨(by unfold jR_end; (try unfold bkF); (try unfold bkO); (try unfold endP); (repeat' split) <;> first | omega | (exfalso; omega) | rfl), O, G, MP_eq hC (by unfold jS_end; (try unfold ltR); (try unfold inR); (try unfold bkF); (try unfold bkO); (try unfold endP); (repeat' split) <;> first | omega | (exfalso; omega) | rfl), rfl, Ext0 hO⟩)
  · replace k_5 := k_5.resolve_left (fun h => absurd (h.1.symm.trans c6) (by decide))
    refine q_iconst hx hb dX6_end_12 ?_
    exact q_retMi C0 hret rfl hlk dX6_end_13 hP hD hS (⟨(by unfold jR_end; (try unfold bkF); (try unfold bkO); (try unfold endP); (repeat' split) <;> first | omega | (exfalso; omega) | rfl), O, G, MP_eq hC (by unfold jS_end; (try unfold ltR); (try unfold inR); (try unfold bkF); (try unfold bkO); (try unfold endP); (repeat' split) <;> first | omega | (exfalso; omega) | rfl), rfl, Ext0 hO⟩)
