set_option maxHeartbeats 3000000 in
set_option maxRecDepth 100000 in
theorem c_X6_sameBooks (l : Launch) (D : va_G) (y : Nat → ClassId) (L : List Nat) (F : Nat → va_E) (sz : Nat) (O : Nat → Prop) (G : MG) (μ : MS) (xb : Int) (xc : Int) (hC : MP y L F O G μ) (hW : MW μ) (h_xb : -2147483648 ≤ xb ∧ xb ≤ 2147483647) (h_xc : -2147483648 ≤ xc ∧ xc ≤ 2147483647) : Met l yX6_sameBooks (.code yX6_sameBooks cX6_sameBooks 3 (some .boolean) :: Tt) ({ frames := 2, cells := 0, slots := 0, locals := 42 }) (PcM D y L F sz [.ref ((ubg G)), .int (iI xb), .int (iI xc)]) (cMi D (AL L sz) (fun r L1 F1 => r = jR_sameBooks μ xb xc ∧ ∃ (O1 : Nat → Prop) (G1 : MG), MP y L1 F1 O1 G1 (jS_sameBooks μ xb xc) ∧ ubg G1 = ubg G ∧ Ext O O1 L L1 F F1)) 0 0 (AL L sz) := by
  have hO : OE O F F := fun _ _ => rfl
  have hw5 := hW.2.2.2.2.2.1
  have hw6 := hW.2.2.2.2.2.2.1
  have hw7 := hW.2.2.2.2.2.2.2.1
  have bs_ : 0 ≤ sameM (vod μ (vbk μ xb)) (vod μ (vbk μ xc)) (vst μ (vbk μ xb)) (vst μ (vbk μ xc)) ∧ sameM (vod μ (vbk μ xb)) (vod μ (vbk μ xc)) (vst μ (vbk μ xb)) (vst μ (vbk μ xc)) ≤ 1 := allP_b _ _
  refine q_ofM (lv := [(0, .ref ((ubg G))), (1, .int (iI xb)), (2, .int (iI xc))]) (by decide) (Nat.le_of_ble_eq_true rfl) rfl (fun p e s m below meth c C0 hret hlk hnm hA hP hD hS ls hl => ?_)
  have hx := C0.1.1
  have hb := C0.1.2.1
  have hts := C0.1.2.2.2.2
  refine lv_aload_n hx hb dX6_sameBooks_0 rfl (lv_at hl 0 rfl) ?_
  refine lv_iload_n hx hb dX6_sameBooks_1 rfl (lv_at hl 1 rfl) ?_
  refine q_sS C0 lX6_60 (c_X6_isBook l D y L F xb (by omega)) ⟨rfl, rfl⟩ rfl hP rfl hl rfl (Nat.le_of_ble_eq_true rfl) dX6_sameBooks_2 ⟨Nat.zero_le _, Nat.zero_le _⟩ (fun r1 e_r1 => ?_)
  subst e_r1
  have b_2 := inR_d xb 0 3
  refine q_if_eq hx hb dX6_sameBooks_5 (tgt := 19) (by decide) (by omega) (fun c3 => ?_) (fun c3 => ?_)
  · replace b_2 := b_2.resolve_left (fun h => absurd (h.1.symm.trans c3) (by decide))
    refine q_iconst hx hb dX6_sameBooks_19 ?_
    refine q_iconst hx hb dX6_sameBooks_20 ?_
    refine q_vMi C0 lX6_63 (c_X6_isLet l D y L F _ O G μ 0 1 hC (by omega) (by omega)) ⟨rfl, rfl⟩ rfl hP hD hS hA hC.1.1 hC.1.2 rfl rfl rfl hl rfl (Nat.le_of_ble_eq_true rfl) dX6_sameBooks_21 ⟨Nat.le_of_ble_eq_true rfl, Nat.le_of_ble_eq_true rfl⟩ (fun r4 H locs L5 F5 hP hD hS hz5 hp5 => ?_)
    obtain ⟨eL, hC, er, hO1⟩ := hp5
    subst eL
    replace er := er.symm
    subst er
    have hO := hO.tr hO1
    have k_6 := okR_d 0 1
    refine q_if_eq hx hb dX6_sameBooks_24 (tgt := 49) (by decide) (by omega) (fun c7 => ?_) (fun c7 => ?_)
    · replace k_6 := k_6.resolve_left (fun h => absurd (h.1.symm.trans c7) (by decide))
      refine q_iconst hx hb dX6_sameBooks_49 ?_
      exact q_retMi C0 hret (by decide) hlk dX6_sameBooks_50 hP hD hS (⟨(by unfold jR_sameBooks; (try unfold bkF); (try unfold bkO); (repeat' split) <;> first | omega | (exfalso; omega) | rfl), O, G, MP_eq hC (by unfold jS_sameBooks; (try unfold ltR); (try unfold inR); (try unfold bkF); (try unfold bkO); (repeat' split) <;> first | omega | (exfalso; omega) | rfl), rfl, Ext0 hO⟩)
    · replace k_6 := k_6.resolve_right (fun h => c7 h.1)
      refine lv_aload_n hx hb dX6_sameBooks_27 rfl (lv_at hl 0 rfl) ?_
      refine q_get C0 iX6 hP hC.1.1 hC.1.2 rfl 0 (by decide) flX6_11 rfl (v := .ref ((uab G))) rfl dX6_sameBooks_28 ?_
      refine lv_iload_n hx hb dX6_sameBooks_31 rfl (lv_at hl 1 rfl) ?_
      refine q_aald C0 hP hC.2.1.1 hC.2.1.2 (t := 3) rfl (by omega) (by decide) (v := .ref ((urh G (vbk μ xb)))) rfl dX6_sameBooks_32 ?_
      refine lv_aload_n hx hb dX6_sameBooks_33 rfl (lv_at hl 0 rfl) ?_
      refine q_get C0 iX6 hP hC.1.1 hC.1.2 rfl 0 (by decide) flX6_11 rfl (v := .ref ((uab G))) rfl dX6_sameBooks_34 ?_
      refine lv_iload_n hx hb dX6_sameBooks_37 rfl (lv_at hl 2 rfl) ?_
      refine q_aald C0 hP hC.2.1.1 hC.2.1.2 (t := 3) rfl (by omega) (by decide) (v := .ref ((urh G (vbk μ xc)))) rfl dX6_sameBooks_38 ?_
      refine q_sS C0 lX6_164 (c_X6_same l D y L F5 (urh G (vbk μ xb)) (urw G (vbk μ xb)) (vod μ (vbk μ xb)) (vst μ (vbk μ xb)) (urh G (vbk μ xc)) (urw G (vbk μ xc)) (vod μ (vbk μ xc)) (vst μ (vbk μ xc)) (MP_r hC (hW.1 xb)) (MP_r hC (hW.1 xc))) ⟨rfl, rfl⟩ rfl hP rfl hl rfl (Nat.le_of_ble_eq_true rfl) dX6_sameBooks_39 ⟨Nat.zero_le _, Nat.zero_le _⟩ (fun r8 e_r8 => ?_)
      subst e_r8
      have b_9 := allP_b (sm2U (vod μ (vbk μ xb)) (vod μ (vbk μ xc)) (vst μ (vbk μ xb)) (vst μ (vbk μ xc))) 0
      refine q_if_eq hx hb dX6_sameBooks_42 (tgt := 49) (by decide) (by omega) (fun c10 => ?_) (fun c10 => ?_)
      · refine q_iconst hx hb dX6_sameBooks_49 ?_
        exact q_retMi C0 hret (by decide) hlk dX6_sameBooks_50 hP hD hS (⟨(by unfold jR_sameBooks; (try unfold bkF); (try unfold bkO); (repeat' split) <;> first | omega | (exfalso; omega) | rfl), O, G, MP_eq hC (by unfold jS_sameBooks; (try unfold ltR); (try unfold inR); (try unfold bkF); (try unfold bkO); (repeat' split) <;> first | omega | (exfalso; omega) | rfl), rfl, Ext0 hO⟩)
      · refine q_iconst hx hb dX6_sameBooks_45 ?_
        refine lv_goto (tgt := 50) hx hb dX6_sameBooks_46 (by decide) ?_
        exact q_retMi C0 hret (by decide) hlk dX6_sameBooks_50 hP hD hS (⟨(by unfold jR_sameBooks; (try unfold bkF); (try unfold bkO); (repeat' split) <;> first | omega | (exfalso; omega) | rfl), O, G, MP_eq hC (by unfold jS_sameBooks; (try unfold ltR); (try unfold inR); (try unfold bkF); (try unfold bkO); (repeat' split) <;> first | omega | (exfalso; omega) | rfl), rfl, Ext0 hO⟩)
  · replace b_2 := b_2.resolve_right (fun h => c3 h.1)
    refine lv_iload_n hx hb dX6_sameBooks_8 rfl (lv_at hl 2 rfl) ?_
    refine q_sS C0 lX6_60 (c_X6_isBook l D y L F xc (by omega)) ⟨rfl, rfl⟩ rfl hP rfl hl rfl (Nat.le_of_ble_eq_true rfl) dX6_sameBooks_9 ⟨Nat.zero_le _, Nat.zero_le _⟩ (fun r11 e_r11 => ?_)
    subst e_r11
    have b_12 := inR_d xc 0 3
    refine q_if_eq hx hb dX6_sameBooks_12 (tgt := 19) (by decide) (by omega) (fun c13 => ?_) (fun c13 => ?_)
    · replace b_12 := b_12.resolve_left (fun h => absurd (h.1.symm.trans c13) (by decide))
      refine q_iconst hx hb dX6_sameBooks_19 ?_
      refine q_iconst hx hb dX6_sameBooks_20 ?_
      refine q_vMi C0 lX6_63 (c_X6_isLet l D y L F _ O G μ 0 1 hC (by omega) (by omega)) ⟨rfl, rfl⟩ rfl hP hD hS hA hC.1.1 hC.1.2 rfl rfl rfl hl rfl (Nat.le_of_ble_eq_true rfl) dX6_sameBooks_21 ⟨Nat.le_of_ble_eq_true rfl, Nat.le_of_ble_eq_true rfl⟩ (fun r14 H locs L15 F15 hP hD hS hz15 hp15 => ?_)
      obtain ⟨eL, hC, er, hO1⟩ := hp15
      subst eL
      replace er := er.symm
      subst er
      have hO := hO.tr hO1
      have k_16 := okR_d 0 1
      refine q_if_eq hx hb dX6_sameBooks_24 (tgt := 49) (by decide) (by omega) (fun c17 => ?_) (fun c17 => ?_)
      · replace k_16 := k_16.resolve_left (fun h => absurd (h.1.symm.trans c17) (by decide))
        refine q_iconst hx hb dX6_sameBooks_49 ?_
        exact q_retMi C0 hret (by decide) hlk dX6_sameBooks_50 hP hD hS (⟨(by unfold jR_sameBooks; (try unfold bkF); (try unfold bkO); (repeat' split) <;> first | omega | (exfalso; omega) | rfl), O, G, MP_eq hC (by unfold jS_sameBooks; (try unfold ltR); (try unfold inR); (try unfold bkF); (try unfold bkO); (repeat' split) <;> first | omega | (exfalso; omega) | rfl), rfl, Ext0 hO⟩)
      · replace k_16 := k_16.resolve_right (fun h => c17 h.1)
        refine lv_aload_n hx hb dX6_sameBooks_27 rfl (lv_at hl 0 rfl) ?_
        refine q_get C0 iX6 hP hC.1.1 hC.1.2 rfl 0 (by decide) flX6_11 rfl (v := .ref ((uab G))) rfl dX6_sameBooks_28 ?_
        refine lv_iload_n hx hb dX6_sameBooks_31 rfl (lv_at hl 1 rfl) ?_
        refine q_aald C0 hP hC.2.1.1 hC.2.1.2 (t := 3) rfl (by omega) (by decide) (v := .ref ((urh G (vbk μ xb)))) rfl dX6_sameBooks_32 ?_
        refine lv_aload_n hx hb dX6_sameBooks_33 rfl (lv_at hl 0 rfl) ?_
        refine q_get C0 iX6 hP hC.1.1 hC.1.2 rfl 0 (by decide) flX6_11 rfl (v := .ref ((uab G))) rfl dX6_sameBooks_34 ?_
        refine lv_iload_n hx hb dX6_sameBooks_37 rfl (lv_at hl 2 rfl) ?_
        refine q_aald C0 hP hC.2.1.1 hC.2.1.2 (t := 3) rfl (by omega) (by decide) (v := .ref ((urh G (vbk μ xc)))) rfl dX6_sameBooks_38 ?_
        refine q_sS C0 lX6_164 (c_X6_same l D y L F15 (urh G (vbk μ xb)) (urw G (vbk μ xb)) (vod μ (vbk μ xb)) (vst μ (vbk μ xb)) (urh G (vbk μ xc)) (urw G (vbk μ xc)) (vod μ (vbk μ xc)) (vst μ (vbk μ xc)) (MP_r hC (hW.1 xb)) (MP_r hC (hW.1 xc))) ⟨rfl, rfl⟩ rfl hP rfl hl rfl (Nat.le_of_ble_eq_true rfl) dX6_sameBooks_39 ⟨Nat.zero_le _, Nat.zero_le _⟩ (fun r18 e_r18 => ?_)
        subst e_r18
        have b_19 := allP_b (sm2U (vod μ (vbk μ xb)) (vod μ (vbk μ xc)) (vst μ (vbk μ xb)) (vst μ (vbk μ xc))) 0
        refine q_if_eq hx hb dX6_sameBooks_42 (tgt := 49) (by decide) (by omega) (fun c20 => ?_) (fun c20 => ?_)
        · refine q_iconst hx hb dX6_sameBooks_49 ?_
          exact q_retMi C0 hret (by decide) hlk dX6_sameBooks_50 hP hD hS (⟨(by unfold jR_sameBooks; (try unfold bkF); (try unfold bkO); (repeat' split) <;> first | omega | (exfalso; omega) | rfl), O, G, MP_eq hC (by unfold jS_sameBooks; (try unfold ltR); (try unfold inR); (try unfold bkF); (try unfold bkO); (repeat' split) <;> first | omega | (exfalso; omega) | rfl), rfl, Ext0 hO⟩)
        · refine q_iconst hx hb dX6_sameBooks_45 ?_
          refine lv_goto (tgt := 50) hx hb dX6_sameBooks_46 (by decide) ?_
          exact q_retMi C0 hret (by decide) hlk dX6_sameBooks_50 hP hD hS (⟨(by unfold jR_sameBooks; (try unfold bkF); (try unfold bkO); (repeat' split) <;> first | omega | (exfalso; omega) | rfl), O, G, MP_eq hC (by unfold jS_sameBooks; (try unfold ltR); (try unfold inR); (try unfold bkF); (try unfold bkO); (repeat' split) <;> first | omega | (exfalso; omega) | rfl), rfl, Ext0 hO⟩)
    · replace b_12 := b_12.resolve_right (fun h => c13 h.1)
      refine q_iconst hx hb dX6_sameBooks_15 ?_
      refine lv_goto (tgt := 20) hx hb dX6_sameBooks_16 (by decide) ?_
      refine q_iconst hx hb dX6_sameBooks_20 ?_
      refine q_vMi C0 lX6_63 (c_X6_isLet l D y L F _ O G μ 1 1 hC (by omega) (by omega)) ⟨rfl, rfl⟩ rfl hP hD hS hA hC.1.1 hC.1.2 rfl rfl rfl hl rfl (Nat.le_of_ble_eq_true rfl) dX6_sameBooks_21 ⟨Nat.le_of_ble_eq_true rfl, Nat.le_of_ble_eq_true rfl⟩ (fun r21 H locs L22 F22 hP hD hS hz22 hp22 => ?_)
      obtain ⟨eL, hC, er, hO1⟩ := hp22
      subst eL
      replace er := er.symm
      subst er
      have hO := hO.tr hO1
      have k_23 := okR_d 1 1
      refine q_if_eq hx hb dX6_sameBooks_24 (tgt := 49) (by decide) (by omega) (fun c24 => ?_) (fun c24 => ?_)
      · replace k_23 := k_23.resolve_left (fun h => absurd (h.1.symm.trans c24) (by decide))
        refine q_iconst hx hb dX6_sameBooks_49 ?_
        exact q_retMi C0 hret (by decide) hlk dX6_sameBooks_50 hP hD hS (⟨(by unfold jR_sameBooks; (try unfold bkF); (try unfold bkO); (repeat' split) <;> first | omega | (exfalso; omega) | rfl), O, G, MP_eq hC (by unfold jS_sameBooks; (try unfold ltR); (try unfold inR); (try unfold bkF); (try unfold bkO); (repeat' split) <;> first | omega | (exfalso; omega) | rfl), rfl, Ext0 hO⟩)
      · replace k_23 := k_23.resolve_right (fun h => c24 h.1)
        refine lv_aload_n hx hb dX6_sameBooks_27 rfl (lv_at hl 0 rfl) ?_
        refine q_get C0 iX6 hP hC.1.1 hC.1.2 rfl 0 (by decide) flX6_11 rfl (v := .ref ((uab G))) rfl dX6_sameBooks_28 ?_
        refine lv_iload_n hx hb dX6_sameBooks_31 rfl (lv_at hl 1 rfl) ?_
        refine q_aald C0 hP hC.2.1.1 hC.2.1.2 (t := 3) rfl (by omega) (by decide) (v := .ref ((urh G (vbk μ xb)))) rfl dX6_sameBooks_32 ?_
        refine lv_aload_n hx hb dX6_sameBooks_33 rfl (lv_at hl 0 rfl) ?_
        refine q_get C0 iX6 hP hC.1.1 hC.1.2 rfl 0 (by decide) flX6_11 rfl (v := .ref ((uab G))) rfl dX6_sameBooks_34 ?_
        refine lv_iload_n hx hb dX6_sameBooks_37 rfl (lv_at hl 2 rfl) ?_
        refine q_aald C0 hP hC.2.1.1 hC.2.1.2 (t := 3) rfl (by omega) (by decide) (v := .ref ((urh G (vbk μ xc)))) rfl dX6_sameBooks_38 ?_
        refine q_sS C0 lX6_164 (c_X6_same l D y L F22 (urh G (vbk μ xb)) (urw G (vbk μ xb)) (vod μ (vbk μ xb)) (vst μ (vbk μ xb)) (urh G (vbk μ xc)) (urw G (vbk μ xc)) (vod μ (vbk μ xc)) (vst μ (vbk μ xc)) (MP_r hC (hW.1 xb)) (MP_r hC (hW.1 xc))) ⟨rfl, rfl⟩ rfl hP rfl hl rfl (Nat.le_of_ble_eq_true rfl) dX6_sameBooks_39 ⟨Nat.zero_le _, Nat.zero_le _⟩ (fun r25 e_r25 => ?_)
        subst e_r25
        have b_26 := allP_b (sm2U (vod μ (vbk μ xb)) (vod μ (vbk μ xc)) (vst μ (vbk μ xb)) (vst μ (vbk μ xc))) 0
        refine q_if_eq hx hb dX6_sameBooks_42 (tgt := 49) (by decide) (by omega) (fun c27 => ?_) (fun c27 => ?_)
        · refine q_iconst hx hb dX6_sameBooks_49 ?_
          exact q_retMi C0 hret (by decide) hlk dX6_sameBooks_50 hP hD hS (⟨(by unfold jR_sameBooks; (try unfold bkF); (try unfold bkO); (repeat' split) <;> first | omega | (exfalso; omega) | rfl), O, G, MP_eq hC (by unfold jS_sameBooks; (try unfold ltR); (try unfold inR); (try unfold bkF); (try unfold bkO); (repeat' split) <;> first | omega | (exfalso; omega) | rfl), rfl, Ext0 hO⟩)
        · refine q_iconst hx hb dX6_sameBooks_45 ?_
          refine lv_goto (tgt := 50) hx hb dX6_sameBooks_46 (by decide) ?_
          exact q_retMi C0 hret (by decide) hlk dX6_sameBooks_50 hP hD hS (⟨(by unfold jR_sameBooks; (try unfold bkF); (try unfold bkO); (repeat' split) <;> first | omega | (exfalso; omega) | rfl), O, G, MP_eq hC (by unfold jS_sameBooks; (try unfold ltR); (try unfold inR); (try unfold bkF); (try unfold bkO); (repeat' split) <;> first | omega | (exfalso; omega) | rfl), rfl, Ext0 hO⟩)
