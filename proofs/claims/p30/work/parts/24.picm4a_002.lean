set_option maxHeartbeats 3000000 in
set_option maxRecDepth 100000 in
theorem c_X6_put (l : Launch) (D : va_G) (y : Nat → ClassId) (L : List Nat) (F : Nat → va_E) (sz : Nat) (O : Nat → Prop) (G : MG) (μ : MS) (xb : Int) (xk : Int) (xw : Int) (xt : Int) (hC : MP y L F O G μ) (hW : MW μ) (h_xb : -2147483648 ≤ xb ∧ xb ≤ 2147483647) (h_xk : -2147483648 ≤ xk ∧ xk ≤ 2147483647) (h_xw : -2147483648 ≤ xw ∧ xw ≤ 2147483647) (h_xt : -2147483648 ≤ xt ∧ xt ≤ 2147483647) : Met l yX6_put (.code yX6_put cX6_put 5 (some .int) :: Tt) ({ frames := 3, cells := 0, slots := 0, locals := 70 }) (PcM D y L F sz [.ref ((ubg G)), .int (iI xb), .int (iI xk), .int (iI xw), .int (iI xt)]) (cMi D (AL L sz) (fun r L1 F1 => r = jR_put μ xb xk xw xt ∧ ∃ (O1 : Nat → Prop) (G1 : MG), MP y L1 F1 O1 G1 (jS_put μ xb xk xw xt) ∧ ubg G1 = ubg G ∧ Ext O O1 L L1 F F1)) 0 0 (AL L sz) := by
  have hO : OE O F F := fun _ _ => rfl
  have hw5 := hW.2.2.2.2.2.1
  have hw6 := hW.2.2.2.2.2.2.1
  have hw7 := hW.2.2.2.2.2.2.2.1
  refine q_ofM (lv := [(0, .ref ((ubg G))), (1, .int (iI xb)), (2, .int (iI xk)), (3, .int (iI xw)), (4, .int (iI xt))]) (by decide) (Nat.le_of_ble_eq_true rfl) rfl (fun p e s m below meth c C0 hret hlk hnm hA hP hD hS ls hl => ?_)
  have hx := C0.1.1
  have hb := C0.1.2.1
  have hts := C0.1.2.2.2.2
  refine lv_aload_n hx hb dX6_put_0 rfl (lv_at hl 0 rfl) ?_
  refine lv_iload_n hx hb dX6_put_1 rfl (lv_at hl 1 rfl) ?_
  refine q_sS C0 lX6_60 (c_X6_isBook l D y L F xb (by omega)) ⟨rfl, rfl⟩ rfl hP rfl hl rfl (Nat.le_of_ble_eq_true rfl) dX6_put_2 ⟨Nat.zero_le _, Nat.zero_le _⟩ (fun r1 e_r1 => ?_)
  subst e_r1
  have b_2 := inR_d xb 0 3
  refine lv_iload_n hx hb dX6_put_5 rfl (lv_at hl 2 rfl) ?_
  refine q_sS C0 lX6_86 (c_X6_isKey l D y L F xk (by omega)) ⟨rfl, rfl⟩ rfl hP rfl hl rfl (Nat.le_of_ble_eq_true rfl) dX6_put_6 ⟨Nat.zero_le _, Nat.zero_le _⟩ (fun r3 e_r3 => ?_)
  subst e_r3
  have b_4 := inR_d xk 0 99
  refine q_if_eq hx hb dX6_put_9 (tgt := 33) (by decide) (by omega) (fun c5 => ?_) (fun c5 => ?_)
  · replace b_4 := b_4.resolve_left (fun h => absurd (h.1.symm.trans c5) (by decide))
    refine q_iconst hx hb dX6_put_33 ?_
    refine q_vMi C0 lX6_63 (c_X6_isLet l D y L F _ O G μ (inR xb 0 3) 0 hC (by omega) (by omega)) ⟨rfl, rfl⟩ rfl hP hD hS hA hC.1.1 hC.1.2 rfl rfl rfl hl rfl (Nat.le_of_ble_eq_true rfl) dX6_put_34 ⟨Nat.le_of_ble_eq_true rfl, Nat.le_of_ble_eq_true rfl⟩ (fun r6 H locs L7 F7 hP hD hS hz7 hp7 => ?_)
    obtain ⟨eL, hC, er, hO1⟩ := hp7
    subst eL
    replace er := (er.trans (okR_z _)).symm
    subst er
    have hO := hO.tr hO1
    refine q_if_ne hx hb dX6_put_37 (tgt := 42) (by decide) (by omega) (fun c8 => absurd c8 (by omega)) (fun c8 => ?_)
    refine q_iconst hx hb dX6_put_40 ?_
    exact q_retMi C0 hret rfl hlk dX6_put_41 hP hD hS (⟨(by unfold jR_put; (try unfold bkF); (try unfold bkO); (try unfold shF); (try unfold shO);  (repeat' split) <;> first | omega | (exfalso; omega) | rfl), O, G, MP_eq hC (by unfold jS_put; (try unfold ltR); (try unfold inR); (try unfold bkF); (try unfold bkO); (try unfold shF); (try unfold shO);  (repeat' split) <;> first | omega | (exfalso; omega) | rfl), rfl, Ext0 hO⟩)
  · replace b_4 := b_4.resolve_right (fun h => c5 h.1)
    refine lv_iload_n hx hb dX6_put_12 rfl (lv_at hl 3 rfl) ?_
    refine q_sS C0 lX6_86 (c_X6_isKey l D y L F xw (by omega)) ⟨rfl, rfl⟩ rfl hP rfl hl rfl (Nat.le_of_ble_eq_true rfl) dX6_put_13 ⟨Nat.zero_le _, Nat.zero_le _⟩ (fun r9 e_r9 => ?_)
    subst e_r9
    have b_10 := inR_d xw 0 99
    refine q_if_eq hx hb dX6_put_16 (tgt := 33) (by decide) (by omega) (fun c11 => ?_) (fun c11 => ?_)
    · replace b_10 := b_10.resolve_left (fun h => absurd (h.1.symm.trans c11) (by decide))
      refine q_iconst hx hb dX6_put_33 ?_
      refine q_vMi C0 lX6_63 (c_X6_isLet l D y L F _ O G μ (inR xb 0 3) 0 hC (by omega) (by omega)) ⟨rfl, rfl⟩ rfl hP hD hS hA hC.1.1 hC.1.2 rfl rfl rfl hl rfl (Nat.le_of_ble_eq_true rfl) dX6_put_34 ⟨Nat.le_of_ble_eq_true rfl, Nat.le_of_ble_eq_true rfl⟩ (fun r12 H locs L13 F13 hP hD hS hz13 hp13 => ?_)
      obtain ⟨eL, hC, er, hO1⟩ := hp13
      subst eL
      replace er := (er.trans (okR_z _)).symm
      subst er
      have hO := hO.tr hO1
      refine q_if_ne hx hb dX6_put_37 (tgt := 42) (by decide) (by omega) (fun c14 => absurd c14 (by omega)) (fun c14 => ?_)
      refine q_iconst hx hb dX6_put_40 ?_
      exact q_retMi C0 hret rfl hlk dX6_put_41 hP hD hS (⟨(by unfold jR_put; (try unfold bkF); (try unfold bkO); (try unfold shF); (try unfold shO);  (repeat' split) <;> first | omega | (exfalso; omega) | rfl), O, G, MP_eq hC (by unfold jS_put; (try unfold ltR); (try unfold inR); (try unfold bkF); (try unfold bkO); (try unfold shF); (try unfold shO);  (repeat' split) <;> first | omega | (exfalso; omega) | rfl), rfl, Ext0 hO⟩)
    · replace b_10 := b_10.resolve_right (fun h => c11 h.1)
      refine lv_iload hx hb dX6_put_19 (lv_at hl 4 rfl) ?_
      refine q_iconst hx hb dX6_put_21 ?_
      refine q_iconst hx hb dX6_put_22 ?_
      refine q_sS C0 lX6_41 (c_X6_isIn l D y L F xt 0 2 (by omega) (by omega) (by omega)) ⟨rfl, rfl⟩ rfl hP rfl hl rfl (Nat.le_of_ble_eq_true rfl) dX6_put_23 ⟨Nat.zero_le _, Nat.zero_le _⟩ (fun r15 e_r15 => ?_)
      subst e_r15
      have b_16 := inR_d xt 0 2
      refine q_if_eq hx hb dX6_put_26 (tgt := 33) (by decide) (by omega) (fun c17 => ?_) (fun c17 => ?_)
      · replace b_16 := b_16.resolve_left (fun h => absurd (h.1.symm.trans c17) (by decide))
        refine q_iconst hx hb dX6_put_33 ?_
        refine q_vMi C0 lX6_63 (c_X6_isLet l D y L F _ O G μ (inR xb 0 3) 0 hC (by omega) (by omega)) ⟨rfl, rfl⟩ rfl hP hD hS hA hC.1.1 hC.1.2 rfl rfl rfl hl rfl (Nat.le_of_ble_eq_true rfl) dX6_put_34 ⟨Nat.le_of_ble_eq_true rfl, Nat.le_of_ble_eq_true rfl⟩ (fun r18 H locs L19 F19 hP hD hS hz19 hp19 => ?_)
        obtain ⟨eL, hC, er, hO1⟩ := hp19
        subst eL
        replace er := (er.trans (okR_z _)).symm
        subst er
        have hO := hO.tr hO1
        refine q_if_ne hx hb dX6_put_37 (tgt := 42) (by decide) (by omega) (fun c20 => absurd c20 (by omega)) (fun c20 => ?_)
        refine q_iconst hx hb dX6_put_40 ?_
        exact q_retMi C0 hret rfl hlk dX6_put_41 hP hD hS (⟨(by unfold jR_put; (try unfold bkF); (try unfold bkO); (try unfold shF); (try unfold shO);  (repeat' split) <;> first | omega | (exfalso; omega) | rfl), O, G, MP_eq hC (by unfold jS_put; (try unfold ltR); (try unfold inR); (try unfold bkF); (try unfold bkO); (try unfold shF); (try unfold shO);  (repeat' split) <;> first | omega | (exfalso; omega) | rfl), rfl, Ext0 hO⟩)
      · replace b_16 := b_16.resolve_right (fun h => c17 h.1)
        refine q_iconst hx hb dX6_put_29 ?_
        refine lv_goto (tgt := 34) hx hb dX6_put_30 (by decide) ?_
        refine q_vMi C0 lX6_63 (c_X6_isLet l D y L F _ O G μ (inR xb 0 3) 1 hC (by omega) (by omega)) ⟨rfl, rfl⟩ rfl hP hD hS hA hC.1.1 hC.1.2 rfl rfl rfl hl rfl (Nat.le_of_ble_eq_true rfl) dX6_put_34 ⟨Nat.le_of_ble_eq_true rfl, Nat.le_of_ble_eq_true rfl⟩ (fun r21 H locs L22 F22 hP hD hS hz22 hp22 => ?_)
        obtain ⟨eL, hC, er, hO1⟩ := hp22
        subst eL
        replace er := er.symm
        subst er
        have hO := hO.tr hO1
        have k_23 := okR_d (inR xb 0 3) 1
        refine q_if_ne hx hb dX6_put_37 (tgt := 42) (by decide) (by omega) (fun c24 => ?_) (fun c24 => ?_)
        · replace k_23 := k_23.resolve_right (fun h => c24 h.1)
          refine lv_aload_n hx hb dX6_put_42 rfl (lv_at hl 0 rfl) ?_
          refine lv_aload_n hx hb dX6_put_43 rfl (lv_at hl 0 rfl) ?_
          refine q_get C0 iX6 hP hC.1.1 hC.1.2 rfl 0 (by decide) flX6_11 rfl (v := .ref ((uab G))) rfl dX6_put_44 ?_
          refine lv_iload_n hx hb dX6_put_47 rfl (lv_at hl 1 rfl) ?_
          refine q_aald C0 hP hC.2.1.1 hC.2.1.2 (t := 3) rfl (by omega) (by decide) (v := .ref ((urh G (vbk μ xb)))) rfl dX6_put_48 ?_
          refine lv_iload_n hx hb dX6_put_49 rfl (lv_at hl 2 rfl) ?_
          refine lv_iload hx hb dX6_put_50 (lv_at hl 4 rfl) ?_
          refine q_if_eq hx hb dX6_put_52 (tgt := 79) (by decide) (by omega) (fun c25 => ?_) (fun c25 => ?_)
          · refine q_iconst hx hb dX6_put_79 ?_
            refine lv_goto (tgt := 84) hx hb dX6_put_80 (by decide) ?_
            refine lv_iload_n hx hb dX6_put_84 rfl (lv_at hl 3 rfl) ?_
            refine q_vMi C0 lX6_107 (c_X6_change l D y L F22 _ O G (tTh μ (ltR (inR xb 0 3) 1)) (vbk μ xb) xk 1 xw hC hW (hW.1 xb) (by omega) (by omega) (by omega)) ⟨rfl, rfl⟩ rfl hP hD hS hA hC.1.1 hC.1.2 rfl rfl rfl hl rfl (Nat.le_of_ble_eq_true rfl) dX6_put_85 ⟨Nat.le_of_ble_eq_true rfl, Nat.le_of_ble_eq_true rfl⟩ (fun r26 H locs L27 F27 hP hD hS hz27 hp27 => ?_)
            obtain ⟨eL, hC, er, hO1⟩ := hp27
            subst eL
            replace er : (vst μ (vbk μ xb) (turn (vod μ (vbk μ xb)) xk)) = r26 := er.symm
            subst er
            have hO := hO.tr hO1
            exact q_retMi C0 hret rfl hlk dX6_put_88 hP hD hS (⟨(by unfold jR_put; (try unfold bkF); (try unfold bkO); (try unfold shF); (try unfold shO);  (repeat' split) <;> first | omega | (exfalso; omega) | rfl), O, G, MP_eq hC (by unfold jS_put; (try unfold ltR); (try unfold inR); (try unfold bkF); (try unfold bkO); (try unfold shF); (try unfold shO);  (repeat' split) <;> first | omega | (exfalso; omega) | rfl), rfl, Ext0 hO⟩)
          · refine lv_aload_n hx hb dX6_put_55 rfl (lv_at hl 0 rfl) ?_
            refine q_get C0 iX6 hP hC.1.1 hC.1.2 rfl 0 (by decide) flX6_11 rfl (v := .ref ((uab G))) rfl dX6_put_56 ?_
            refine lv_iload_n hx hb dX6_put_59 rfl (lv_at hl 1 rfl) ?_
            refine q_aald C0 hP hC.2.1.1 hC.2.1.2 (t := 3) rfl (by omega) (by decide) (v := .ref ((urh G (vbk μ xb)))) rfl dX6_put_60 ?_
            refine lv_iload_n hx hb dX6_put_61 rfl (lv_at hl 2 rfl) ?_
            refine q_vS C0 lX6_49 (c_X5_has l D y L F22 (urh G (vbk μ xb)) (urw G (vbk μ xb)) (vod μ (vbk μ xb)) (vst μ (vbk μ xb)) xk (MP_r hC (hW.1 xb)) (by omega)) ⟨rfl, rfl⟩ rfl hP (MP_r hC (hW.1 xb)).1 (MP_r hC (hW.1 xb)).2.1 rfl rfl rfl hl rfl (Nat.le_of_ble_eq_true rfl) dX6_put_62 ⟨Nat.zero_le _, Nat.zero_le _⟩ (fun r28 e_r28 => ?_)
            subst e_r28
            have b_29 := isT_b (vst μ (vbk μ xb)) (turn (vod μ (vbk μ xb)) xk)
            refine lv_iload hx hb dX6_put_65 (lv_at hl 4 rfl) ?_
            refine q_iconst hx hb dX6_put_67 ?_
            refine q_icmp_ne hx hb dX6_put_68 (tgt := 75) (by decide) (by omega) (by omega) (fun c30 => ?_) (fun c30 => ?_)
            · refine q_iconst hx hb dX6_put_75 ?_
              refine q_icmp_ne hx hb dX6_put_76 (tgt := 83) (by decide) (by omega) (by omega) (fun c31 => ?_) (fun c31 => ?_)
              · refine q_iconst hx hb dX6_put_83 ?_
                refine lv_iload_n hx hb dX6_put_84 rfl (lv_at hl 3 rfl) ?_
                refine q_vMi C0 lX6_107 (c_X6_change l D y L F22 _ O G (tTh μ (ltR (inR xb 0 3) 1)) (vbk μ xb) xk 0 xw hC hW (hW.1 xb) (by omega) (by omega) (by omega)) ⟨rfl, rfl⟩ rfl hP hD hS hA hC.1.1 hC.1.2 rfl rfl rfl hl rfl (Nat.le_of_ble_eq_true rfl) dX6_put_85 ⟨Nat.le_of_ble_eq_true rfl, Nat.le_of_ble_eq_true rfl⟩ (fun r32 H locs L33 F33 hP hD hS hz33 hp33 => ?_)
                obtain ⟨eL, hC, er, hO1⟩ := hp33
                subst eL
                replace er : (vst μ (vbk μ xb) (turn (vod μ (vbk μ xb)) xk)) = r32 := er.symm
                subst er
                have hO := hO.tr hO1
                exact q_retMi C0 hret rfl hlk dX6_put_88 hP hD hS (⟨(by unfold jR_put; (try unfold bkF); (try unfold bkO); (try unfold shF); (try unfold shO);  (repeat' split) <;> first | omega | (exfalso; omega) | rfl), O, G, MP_eq hC (by unfold jS_put; (try unfold ltR); (try unfold inR); (try unfold bkF); (try unfold bkO); (try unfold shF); (try unfold shO);  (repeat' split) <;> first | omega | (exfalso; omega) | rfl), rfl, Ext0 hO⟩)
              · refine q_iconst hx hb dX6_put_79 ?_
                refine lv_goto (tgt := 84) hx hb dX6_put_80 (by decide) ?_
                refine lv_iload_n hx hb dX6_put_84 rfl (lv_at hl 3 rfl) ?_
                refine q_vMi C0 lX6_107 (c_X6_change l D y L F22 _ O G (tTh μ (ltR (inR xb 0 3) 1)) (vbk μ xb) xk 1 xw hC hW (hW.1 xb) (by omega) (by omega) (by omega)) ⟨rfl, rfl⟩ rfl hP hD hS hA hC.1.1 hC.1.2 rfl rfl rfl hl rfl (Nat.le_of_ble_eq_true rfl) dX6_put_85 ⟨Nat.le_of_ble_eq_true rfl, Nat.le_of_ble_eq_true rfl⟩ (fun r34 H locs L35 F35 hP hD hS hz35 hp35 => ?_)
                obtain ⟨eL, hC, er, hO1⟩ := hp35
                subst eL
                replace er : (vst μ (vbk μ xb) (turn (vod μ (vbk μ xb)) xk)) = r34 := er.symm
                subst er
                have hO := hO.tr hO1
                exact q_retMi C0 hret rfl hlk dX6_put_88 hP hD hS (⟨(by unfold jR_put; (try unfold bkF); (try unfold bkO); (try unfold shF); (try unfold shO);  (repeat' split) <;> first | omega | (exfalso; omega) | rfl), O, G, MP_eq hC (by unfold jS_put; (try unfold ltR); (try unfold inR); (try unfold bkF); (try unfold bkO); (try unfold shF); (try unfold shO);  (repeat' split) <;> first | omega | (exfalso; omega) | rfl), rfl, Ext0 hO⟩)
            · refine q_iconst hx hb dX6_put_71 ?_
              refine lv_goto (tgt := 76) hx hb dX6_put_72 (by decide) ?_
              refine q_icmp_ne hx hb dX6_put_76 (tgt := 83) (by decide) (by omega) (by omega) (fun c36 => ?_) (fun c36 => ?_)
              · refine q_iconst hx hb dX6_put_83 ?_
                refine lv_iload_n hx hb dX6_put_84 rfl (lv_at hl 3 rfl) ?_
                refine q_vMi C0 lX6_107 (c_X6_change l D y L F22 _ O G (tTh μ (ltR (inR xb 0 3) 1)) (vbk μ xb) xk 0 xw hC hW (hW.1 xb) (by omega) (by omega) (by omega)) ⟨rfl, rfl⟩ rfl hP hD hS hA hC.1.1 hC.1.2 rfl rfl rfl hl rfl (Nat.le_of_ble_eq_true rfl) dX6_put_85 ⟨Nat.le_of_ble_eq_true rfl, Nat.le_of_ble_eq_true rfl⟩ (fun r37 H locs L38 F38 hP hD hS hz38 hp38 => ?_)
                obtain ⟨eL, hC, er, hO1⟩ := hp38
                subst eL
                replace er : (vst μ (vbk μ xb) (turn (vod μ (vbk μ xb)) xk)) = r37 := er.symm
                subst er
                have hO := hO.tr hO1
                exact q_retMi C0 hret rfl hlk dX6_put_88 hP hD hS (⟨(by unfold jR_put; (try unfold bkF); (try unfold bkO); (try unfold shF); (try unfold shO);  (repeat' split) <;> first | omega | (exfalso; omega) | rfl), O, G, MP_eq hC (by unfold jS_put; (try unfold ltR); (try unfold inR); (try unfold bkF); (try unfold bkO); (try unfold shF); (try unfold shO);  (repeat' split) <;> first | omega | (exfalso; omega) | rfl), rfl, Ext0 hO⟩)
              · refine q_iconst hx hb dX6_put_79 ?_
                refine lv_goto (tgt := 84) hx hb dX6_put_80 (by decide) ?_
                refine lv_iload_n hx hb dX6_put_84 rfl (lv_at hl 3 rfl) ?_
                refine q_vMi C0 lX6_107 (c_X6_change l D y L F22 _ O G (tTh μ (ltR (inR xb 0 3) 1)) (vbk μ xb) xk 1 xw hC hW (hW.1 xb) (by omega) (by omega) (by omega)) ⟨rfl, rfl⟩ rfl hP hD hS hA hC.1.1 hC.1.2 rfl rfl rfl hl rfl (Nat.le_of_ble_eq_true rfl) dX6_put_85 ⟨Nat.le_of_ble_eq_true rfl, Nat.le_of_ble_eq_true rfl⟩ (fun r39 H locs L40 F40 hP hD hS hz40 hp40 => ?_)
                obtain ⟨eL, hC, er, hO1⟩ := hp40
                subst eL
                replace er : (vst μ (vbk μ xb) (turn (vod μ (vbk μ xb)) xk)) = r39 := er.symm
                subst er
                have hO := hO.tr hO1
                exact q_retMi C0 hret rfl hlk dX6_put_88 hP hD hS (⟨(by unfold jR_put; (try unfold bkF); (try unfold bkO); (try unfold shF); (try unfold shO);  (repeat' split) <;> first | omega | (exfalso; omega) | rfl), O, G, MP_eq hC (by unfold jS_put; (try unfold ltR); (try unfold inR); (try unfold bkF); (try unfold bkO); (try unfold shF); (try unfold shO);  (repeat' split) <;> first | omega | (exfalso; omega) | rfl), rfl, Ext0 hO⟩)
        · replace k_23 := k_23.resolve_left (fun h => absurd (h.1.symm.trans c24) (by decide))
          refine q_iconst hx hb dX6_put_40 ?_
          exact q_retMi C0 hret rfl hlk dX6_put_41 hP hD hS (⟨(by unfold jR_put; (try unfold bkF); (try unfold bkO); (try unfold shF); (try unfold shO);  (repeat' split) <;> first | omega | (exfalso; omega) | rfl), O, G, MP_eq hC (by unfold jS_put; (try unfold ltR); (try unfold inR); (try unfold bkF); (try unfold bkO); (try unfold shF); (try unfold shO);  (repeat' split) <;> first | omega | (exfalso; omega) | rfl), rfl, Ext0 hO⟩)
