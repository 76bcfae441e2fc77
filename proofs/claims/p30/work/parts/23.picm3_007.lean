set_option maxHeartbeats 3000000 in
set_option maxRecDepth 100000 in
theorem c_X6_exchange (l : Launch) (D : va_G) (y : Nat → ClassId) (L : List Nat) (F : Nat → va_E) (sz : Nat) (O : Nat → Prop) (G : MG) (μ : MS) (xb : Int) (xk : Int) (xo : Int) (xw : Int) (hC : MP y L F O G μ) (hW : MW μ) (h_xb : -2147483648 ≤ xb ∧ xb ≤ 2147483647) (h_xk : -2147483648 ≤ xk ∧ xk ≤ 2147483647) (h_xo : -2147483648 ≤ xo ∧ xo ≤ 2147483647) (h_xw : -2147483648 ≤ xw ∧ xw ≤ 2147483647) : Met l yX6_exchange (.code yX6_exchange cX6_exchange 5 (some .int) :: Tt) ({ frames := 3, cells := 0, slots := 0, locals := 70 }) (PcM D y L F sz [.ref ((ubg G)), .int (iI xb), .int (iI xk), .int (iI xo), .int (iI xw)]) (cMi D (AL L sz) (fun r L1 F1 => r = jR_exchange μ xb xk xo xw ∧ ∃ (O1 : Nat → Prop) (G1 : MG), MP y L1 F1 O1 G1 (jS_exchange μ xb xk xo xw) ∧ ubg G1 = ubg G ∧ Ext O O1 L L1 F F1)) 0 0 (AL L sz) := by
  have hO : OE O F F := fun _ _ => rfl
  have hw5 := hW.2.2.2.2.2.1
  have hw6 := hW.2.2.2.2.2.2.1
  have hw7 := hW.2.2.2.2.2.2.2.1
  have fb_ := (MP_r hC (hW.1 xb)).2.2.2.2.2 (turn (vod μ (vbk μ xb)) xk)
  have em_ : mwd (vod μ (vbk μ xb)) (vst μ (vbk μ xb)) xk = vst μ (vbk μ xb) (turn (vod μ (vbk μ xb)) xk) := rfl
  refine q_ofM (lv := [(0, .ref ((ubg G))), (1, .int (iI xb)), (2, .int (iI xk)), (3, .int (iI xo)), (4, .int (iI xw))]) (by decide) (Nat.le_of_ble_eq_true rfl) rfl (fun p e s m below meth c C0 hret hlk hnm hA hP hD hS ls hl => ?_)
  have hx := C0.1.1
  have hb := C0.1.2.1
  have hts := C0.1.2.2.2.2
  refine lv_aload_n hx hb dX6_exchange_0 rfl (lv_at hl 0 rfl) ?_
  refine lv_iload_n hx hb dX6_exchange_1 rfl (lv_at hl 1 rfl) ?_
  refine q_sS C0 lX6_60 (c_X6_isBook l D y L F xb (by omega)) ⟨rfl, rfl⟩ rfl hP rfl hl rfl (Nat.le_of_ble_eq_true rfl) dX6_exchange_2 ⟨Nat.zero_le _, Nat.zero_le _⟩ (fun r1 e_r1 => ?_)
  subst e_r1
  have b_2 := inR_d xb 0 3
  refine lv_iload_n hx hb dX6_exchange_5 rfl (lv_at hl 2 rfl) ?_
  refine q_sS C0 lX6_86 (c_X6_isKey l D y L F xk (by omega)) ⟨rfl, rfl⟩ rfl hP rfl hl rfl (Nat.le_of_ble_eq_true rfl) dX6_exchange_6 ⟨Nat.zero_le _, Nat.zero_le _⟩ (fun r3 e_r3 => ?_)
  subst e_r3
  have b_4 := inR_d xk 0 99
  refine q_if_eq hx hb dX6_exchange_9 (tgt := 34) (by decide) (by omega) (fun c5 => ?_) (fun c5 => ?_)
  · replace b_4 := b_4.resolve_left (fun h => absurd (h.1.symm.trans c5) (by decide))
    refine q_iconst hx hb dX6_exchange_34 ?_
    refine q_vMi C0 lX6_63 (c_X6_isLet l D y L F _ O G μ (inR xb 0 3) 0 hC (by omega) (by omega)) ⟨rfl, rfl⟩ rfl hP hD hS hA hC.1.1 hC.1.2 rfl rfl rfl hl rfl (Nat.le_of_ble_eq_true rfl) dX6_exchange_35 ⟨Nat.le_of_ble_eq_true rfl, Nat.le_of_ble_eq_true rfl⟩ (fun r6 H locs L7 F7 hP hD hS hz7 hp7 => ?_)
    obtain ⟨eL, hC, er, hO1⟩ := hp7
    subst eL
    replace er := (er.trans (okR_z _)).symm
    subst er
    have hO := hO.tr hO1
    refine q_if_ne hx hb dX6_exchange_38 (tgt := 43) (by decide) (by omega) (fun c8 => absurd c8 (by omega)) (fun c8 => ?_)
    refine q_iconst hx hb dX6_exchange_41 ?_
    exact q_retMi C0 hret rfl hlk dX6_exchange_42 hP hD hS (⟨(by unfold jR_exchange; (try unfold bkF); (try unfold bkO); (repeat' split) <;> first | omega | (exfalso; omega) | rfl), O, G, MP_eq hC (by unfold jS_exchange; (try unfold ltR); (try unfold inR); (try unfold bkF); (try unfold bkO); (repeat' split) <;> first | omega | (exfalso; omega) | rfl), rfl, Ext0 hO⟩)
  · replace b_4 := b_4.resolve_right (fun h => c5 h.1)
    refine lv_iload_n hx hb dX6_exchange_12 rfl (lv_at hl 3 rfl) ?_
    refine q_sS C0 lX6_86 (c_X6_isKey l D y L F xo (by omega)) ⟨rfl, rfl⟩ rfl hP rfl hl rfl (Nat.le_of_ble_eq_true rfl) dX6_exchange_13 ⟨Nat.zero_le _, Nat.zero_le _⟩ (fun r9 e_r9 => ?_)
    subst e_r9
    have b_10 := inR_d xo 0 99
    refine q_if_eq hx hb dX6_exchange_16 (tgt := 34) (by decide) (by omega) (fun c11 => ?_) (fun c11 => ?_)
    · replace b_10 := b_10.resolve_left (fun h => absurd (h.1.symm.trans c11) (by decide))
      refine q_iconst hx hb dX6_exchange_34 ?_
      refine q_vMi C0 lX6_63 (c_X6_isLet l D y L F _ O G μ (inR xb 0 3) 0 hC (by omega) (by omega)) ⟨rfl, rfl⟩ rfl hP hD hS hA hC.1.1 hC.1.2 rfl rfl rfl hl rfl (Nat.le_of_ble_eq_true rfl) dX6_exchange_35 ⟨Nat.le_of_ble_eq_true rfl, Nat.le_of_ble_eq_true rfl⟩ (fun r12 H locs L13 F13 hP hD hS hz13 hp13 => ?_)
      obtain ⟨eL, hC, er, hO1⟩ := hp13
      subst eL
      replace er := (er.trans (okR_z _)).symm
      subst er
      have hO := hO.tr hO1
      refine q_if_ne hx hb dX6_exchange_38 (tgt := 43) (by decide) (by omega) (fun c14 => absurd c14 (by omega)) (fun c14 => ?_)
      refine q_iconst hx hb dX6_exchange_41 ?_
      exact q_retMi C0 hret rfl hlk dX6_exchange_42 hP hD hS (⟨(by unfold jR_exchange; (try unfold bkF); (try unfold bkO); (repeat' split) <;> first | omega | (exfalso; omega) | rfl), O, G, MP_eq hC (by unfold jS_exchange; (try unfold ltR); (try unfold inR); (try unfold bkF); (try unfold bkO); (repeat' split) <;> first | omega | (exfalso; omega) | rfl), rfl, Ext0 hO⟩)
    · replace b_10 := b_10.resolve_right (fun h => c11 h.1)
      refine lv_iload hx hb dX6_exchange_19 (lv_at hl 4 rfl) ?_
      refine q_iconst hx hb dX6_exchange_21 ?_
      refine q_bipush hx hb dX6_exchange_22 (by decide) ?_
      refine q_sS C0 lX6_41 (c_X6_isIn l D y L F xw (-1) 99 (by omega) (by omega) (by omega)) ⟨rfl, rfl⟩ rfl hP rfl hl rfl (Nat.le_of_ble_eq_true rfl) dX6_exchange_24 ⟨Nat.zero_le _, Nat.zero_le _⟩ (fun r15 e_r15 => ?_)
      subst e_r15
      have b_16 := inR_d xw (-1) 99
      refine q_if_eq hx hb dX6_exchange_27 (tgt := 34) (by decide) (by omega) (fun c17 => ?_) (fun c17 => ?_)
      · replace b_16 := b_16.resolve_left (fun h => absurd (h.1.symm.trans c17) (by decide))
        refine q_iconst hx hb dX6_exchange_34 ?_
        refine q_vMi C0 lX6_63 (c_X6_isLet l D y L F _ O G μ (inR xb 0 3) 0 hC (by omega) (by omega)) ⟨rfl, rfl⟩ rfl hP hD hS hA hC.1.1 hC.1.2 rfl rfl rfl hl rfl (Nat.le_of_ble_eq_true rfl) dX6_exchange_35 ⟨Nat.le_of_ble_eq_true rfl, Nat.le_of_ble_eq_true rfl⟩ (fun r18 H locs L19 F19 hP hD hS hz19 hp19 => ?_)
        obtain ⟨eL, hC, er, hO1⟩ := hp19
        subst eL
        replace er := (er.trans (okR_z _)).symm
        subst er
        have hO := hO.tr hO1
        refine q_if_ne hx hb dX6_exchange_38 (tgt := 43) (by decide) (by omega) (fun c20 => absurd c20 (by omega)) (fun c20 => ?_)
        refine q_iconst hx hb dX6_exchange_41 ?_
        exact q_retMi C0 hret rfl hlk dX6_exchange_42 hP hD hS (⟨(by unfold jR_exchange; (try unfold bkF); (try unfold bkO); (repeat' split) <;> first | omega | (exfalso; omega) | rfl), O, G, MP_eq hC (by unfold jS_exchange; (try unfold ltR); (try unfold inR); (try unfold bkF); (try unfold bkO); (repeat' split) <;> first | omega | (exfalso; omega) | rfl), rfl, Ext0 hO⟩)
      · replace b_16 := b_16.resolve_right (fun h => c17 h.1)
        refine q_iconst hx hb dX6_exchange_30 ?_
        refine lv_goto (tgt := 35) hx hb dX6_exchange_31 (by decide) ?_
        refine q_vMi C0 lX6_63 (c_X6_isLet l D y L F _ O G μ (inR xb 0 3) 1 hC (by omega) (by omega)) ⟨rfl, rfl⟩ rfl hP hD hS hA hC.1.1 hC.1.2 rfl rfl rfl hl rfl (Nat.le_of_ble_eq_true rfl) dX6_exchange_35 ⟨Nat.le_of_ble_eq_true rfl, Nat.le_of_ble_eq_true rfl⟩ (fun r21 H locs L22 F22 hP hD hS hz22 hp22 => ?_)
        obtain ⟨eL, hC, er, hO1⟩ := hp22
        subst eL
        replace er := er.symm
        subst er
        have hO := hO.tr hO1
        have k_23 := okR_d (inR xb 0 3) 1
        refine q_if_ne hx hb dX6_exchange_38 (tgt := 43) (by decide) (by omega) (fun c24 => ?_) (fun c24 => ?_)
        · replace k_23 := k_23.resolve_right (fun h => c24 h.1)
          refine lv_aload_n hx hb dX6_exchange_43 rfl (lv_at hl 0 rfl) ?_
          refine lv_aload_n hx hb dX6_exchange_44 rfl (lv_at hl 0 rfl) ?_
          refine q_get C0 iX6 hP hC.1.1 hC.1.2 rfl 0 (by decide) flX6_11 rfl (v := .ref ((uab G))) rfl dX6_exchange_45 ?_
          refine lv_iload_n hx hb dX6_exchange_48 rfl (lv_at hl 1 rfl) ?_
          refine q_aald C0 hP hC.2.1.1 hC.2.1.2 (t := 3) rfl (by omega) (by decide) (v := .ref ((urh G (vbk μ xb)))) rfl dX6_exchange_49 ?_
          refine lv_iload_n hx hb dX6_exchange_50 rfl (lv_at hl 2 rfl) ?_
          refine lv_aload_n hx hb dX6_exchange_51 rfl (lv_at hl 0 rfl) ?_
          refine q_get C0 iX6 hP hC.1.1 hC.1.2 rfl 0 (by decide) flX6_11 rfl (v := .ref ((uab G))) rfl dX6_exchange_52 ?_
          refine lv_iload_n hx hb dX6_exchange_55 rfl (lv_at hl 1 rfl) ?_
          refine q_aald C0 hP hC.2.1.1 hC.2.1.2 (t := 3) rfl (by omega) (by decide) (v := .ref ((urh G (vbk μ xb)))) rfl dX6_exchange_56 ?_
          refine q_getN C0 iX5 hP (MP_r hC (hW.1 xb)).1 (MP_r hC (hW.1 xb)).2.1 rfl 1 (by decide) C0.2.2.2.2.2.2.1 rfl (v := .ref ((urw G (vbk μ xb)))) rfl dX6_exchange_57 ?_
          refine lv_iload_n hx hb dX6_exchange_60 rfl (lv_at hl 2 rfl) ?_
          refine q_iald C0 hP (f := (mwd (vod μ (vbk μ xb)) (vst μ (vbk μ xb)))) (MP_r hC (hW.1 xb)).2.2.1 (MP_r hC (hW.1 xb)).2.2.2.1 (by omega) (by decide) dX6_exchange_61 ?_
          have b_25 := (fun k => show -1 ≤ mwd (vod μ (vbk μ xb)) (vst μ (vbk μ xb)) k ∧ mwd (vod μ (vbk μ xb)) (vst μ (vbk μ xb)) k ≤ 99 from (MP_r hC (hW.1 xb)).2.2.2.2.2 (turn (vod μ (vbk μ xb)) k)) xk
          refine lv_iload_n hx hb dX6_exchange_62 rfl (lv_at hl 3 rfl) ?_
          refine q_icmp_ne hx hb dX6_exchange_63 (tgt := 70) (by decide) (by omega) (by omega) (fun c26 => ?_) (fun c26 => ?_)
          · refine q_iconst hx hb dX6_exchange_70 ?_
            refine lv_iload hx hb dX6_exchange_71 (lv_at hl 4 rfl) ?_
            refine q_vMi C0 lX6_107 (c_X6_change l D y L F22 _ O G (tTh μ (ltR (inR xb 0 3) 1)) (vbk μ xb) xk 0 xw hC hW (hW.1 xb) (by omega) (by omega) (by omega)) ⟨rfl, rfl⟩ rfl hP hD hS hA hC.1.1 hC.1.2 rfl rfl rfl hl rfl (Nat.le_of_ble_eq_true rfl) dX6_exchange_73 ⟨Nat.le_of_ble_eq_true rfl, Nat.le_of_ble_eq_true rfl⟩ (fun r27 H locs L28 F28 hP hD hS hz28 hp28 => ?_)
            obtain ⟨eL, hC, er, hO1⟩ := hp28
            subst eL
            replace er : (vst μ (vbk μ xb) (turn (vod μ (vbk μ xb)) xk)) = r27 := er.symm
            subst er
            have hO := hO.tr hO1
            refine lv_iload_n hx hb dX6_exchange_76 rfl (lv_at hl 3 rfl) ?_
            refine q_icmp_ne hx hb dX6_exchange_77 (tgt := 84) (by decide) (by omega) (by omega) (fun c29 => ?_) (fun c29 => ?_)
            · refine q_iconst hx hb dX6_exchange_84 ?_
              exact q_retMi C0 hret rfl hlk dX6_exchange_85 hP hD hS (⟨(by unfold jR_exchange; (try unfold bkF); (try unfold bkO); (repeat' split) <;> first | omega | (exfalso; omega) | rfl), O, G, MP_eq hC (by unfold jS_exchange; (try unfold ltR); (try unfold inR); (try unfold bkF); (try unfold bkO); (repeat' split) <;> first | omega | (exfalso; omega) | rfl), rfl, Ext0 hO⟩)
            · refine q_iconst hx hb dX6_exchange_80 ?_
              refine lv_goto (tgt := 85) hx hb dX6_exchange_81 (by decide) ?_
              exact q_retMi C0 hret rfl hlk dX6_exchange_85 hP hD hS (⟨(by unfold jR_exchange; (try unfold bkF); (try unfold bkO); (repeat' split) <;> first | omega | (exfalso; omega) | rfl), O, G, MP_eq hC (by unfold jS_exchange; (try unfold ltR); (try unfold inR); (try unfold bkF); (try unfold bkO); (repeat' split) <;> first | omega | (exfalso; omega) | rfl), rfl, Ext0 hO⟩)
          · refine q_iconst hx hb dX6_exchange_66 ?_
            refine lv_goto (tgt := 71) hx hb dX6_exchange_67 (by decide) ?_
            refine lv_iload hx hb dX6_exchange_71 (lv_at hl 4 rfl) ?_
            refine q_vMi C0 lX6_107 (c_X6_change l D y L F22 _ O G (tTh μ (ltR (inR xb 0 3) 1)) (vbk μ xb) xk 1 xw hC hW (hW.1 xb) (by omega) (by omega) (by omega)) ⟨rfl, rfl⟩ rfl hP hD hS hA hC.1.1 hC.1.2 rfl rfl rfl hl rfl (Nat.le_of_ble_eq_true rfl) dX6_exchange_73 ⟨Nat.le_of_ble_eq_true rfl, Nat.le_of_ble_eq_true rfl⟩ (fun r30 H locs L31 F31 hP hD hS hz31 hp31 => ?_)
            obtain ⟨eL, hC, er, hO1⟩ := hp31
            subst eL
            replace er : (vst μ (vbk μ xb) (turn (vod μ (vbk μ xb)) xk)) = r30 := er.symm
            subst er
            have hO := hO.tr hO1
            refine lv_iload_n hx hb dX6_exchange_76 rfl (lv_at hl 3 rfl) ?_
            refine q_icmp_ne hx hb dX6_exchange_77 (tgt := 84) (by decide) (by omega) (by omega) (fun c32 => ?_) (fun c32 => ?_)
            · refine q_iconst hx hb dX6_exchange_84 ?_
              exact q_retMi C0 hret rfl hlk dX6_exchange_85 hP hD hS (⟨(by unfold jR_exchange; (try unfold bkF); (try unfold bkO); (repeat' split) <;> first | omega | (exfalso; omega) | rfl), O, G, MP_eq hC (by unfold jS_exchange; (try unfold ltR); (try unfold inR); (try unfold bkF); (try unfold bkO); (repeat' split) <;> first | omega | (exfalso; omega) | rfl), rfl, Ext0 hO⟩)
            · refine q_iconst hx hb dX6_exchange_80 ?_
              refine lv_goto (tgt := 85) hx hb dX6_exchange_81 (by decide) ?_
              exact q_retMi C0 hret rfl hlk dX6_exchange_85 hP hD hS (⟨(by unfold jR_exchange; (try unfold bkF); (try unfold bkO); (repeat' split) <;> first | omega | (exfalso; omega) | rfl), O, G, MP_eq hC (by unfold jS_exchange; (try unfold ltR); (try unfold inR); (try unfold bkF); (try unfold bkO); (repeat' split) <;> first | omega | (exfalso; omega) | rfl), rfl, Ext0 hO⟩)
        · replace k_23 := k_23.resolve_left (fun h => absurd (h.1.symm.trans c24) (by decide))
          refine q_iconst hx hb dX6_exchange_41 ?_
          exact q_retMi C0 hret rfl hlk dX6_exchange_42 hP hD hS (⟨(by unfold jR_exchange; (try unfold bkF); (try unfold bkO); (repeat' split) <;> first | omega | (exfalso; omega) | rfl), O, G, MP_eq hC (by unfold jS_exchange; (try unfold ltR); (try unfold inR); (try unfold bkF); (try unfold bkO); (repeat' split) <;> first | omega | (exfalso; omega) | rfl), rfl, Ext0 hO⟩)
