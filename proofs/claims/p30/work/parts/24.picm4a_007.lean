set_option maxHeartbeats 3000000 in
set_option maxRecDepth 100000 in
theorem c_X6_viewTell (l : Launch) (D : va_G) (y : Nat → ClassId) (L : List Nat) (F : Nat → va_E) (sz : Nat) (O : Nat → Prop) (G : MG) (μ : MS) (xv : Int) (xt : Int) (hC : MP y L F O G μ) (hW : MW μ) (h_xv : -2147483648 ≤ xv ∧ xv ≤ 2147483647) (h_xt : -2147483648 ≤ xt ∧ xt ≤ 2147483647) : Met l yX6_viewTell (.code yX6_viewTell cX6_viewTell 4 (some .int) :: Tt) ({ frames := 3, cells := 0, slots := 0, locals := 66 }) (PcM D y L F sz [.ref ((ubg G)), .int (iI xv), .int (iI xt)]) (cMi D (AL L sz) (fun r L1 F1 => r = jR_viewTell μ xv xt ∧ ∃ (O1 : Nat → Prop) (G1 : MG), MP y L1 F1 O1 G1 (jS_viewTell μ xv xt) ∧ ubg G1 = ubg G ∧ Ext O O1 L L1 F F1)) 0 0 (AL L sz) := by
  have hO : OE O F F := fun _ _ => rfl
  have hw5 := hW.2.2.2.2.2.1
  have hw6 := hW.2.2.2.2.2.2.1
  have hw7 := hW.2.2.2.2.2.2.2.1
  have vb_ := hW.2.2.2.2.1 xv
  have m1_ := @keyR_m1 (vod μ (vvw μ xv)) (lasP (vst μ (vvw μ xv)) (vvl μ xv) (vvh μ xv)) (lasP_r _ _ _)
  have m2_ := @keyR_m1 (vod μ (vvw μ xv)) (firP (vst μ (vvw μ xv)) (vvl μ xv) (vvh μ xv)) (firP_r _ _ _)
  refine q_ofM (lv := [(0, .ref ((ubg G))), (1, .int (iI xv)), (2, .int (iI xt))]) (by decide) (Nat.le_of_ble_eq_true rfl) rfl (fun p e s m below meth c C0 hret hlk hnm hA hP hD hS ls hl => ?_)
  have hx := C0.1.1
  have hb := C0.1.2.1
  have hts := C0.1.2.2.2.2
  refine lv_aload_n hx hb dX6_viewTell_0 rfl (lv_at hl 0 rfl) ?_
  refine lv_iload_n hx hb dX6_viewTell_1 rfl (lv_at hl 1 rfl) ?_
  refine q_sS C0 lX6_168 (c_X6_isView l D y L F xv (by omega)) ⟨rfl, rfl⟩ rfl hP rfl hl rfl (Nat.le_of_ble_eq_true rfl) dX6_viewTell_2 ⟨Nat.zero_le _, Nat.zero_le _⟩ (fun r1 e_r1 => ?_)
  subst e_r1
  have b_2 := inR_d xv 0 1
  refine lv_iload_n hx hb dX6_viewTell_5 rfl (lv_at hl 2 rfl) ?_
  refine q_iconst hx hb dX6_viewTell_6 ?_
  refine q_iconst hx hb dX6_viewTell_7 ?_
  refine q_sS C0 lX6_41 (c_X6_isIn l D y L F xt 0 3 (by omega) (by omega) (by omega)) ⟨rfl, rfl⟩ rfl hP rfl hl rfl (Nat.le_of_ble_eq_true rfl) dX6_viewTell_8 ⟨Nat.zero_le _, Nat.zero_le _⟩ (fun r3 e_r3 => ?_)
  subst e_r3
  have b_4 := inR_d xt 0 3
  refine q_vMi C0 lX6_63 (c_X6_isLet l D y L F _ O G μ (inR xv 0 1) (inR xt 0 3) hC (by omega) (by omega)) ⟨rfl, rfl⟩ rfl hP hD hS hA hC.1.1 hC.1.2 rfl rfl rfl hl rfl (Nat.le_of_ble_eq_true rfl) dX6_viewTell_11 ⟨Nat.le_of_ble_eq_true rfl, Nat.le_of_ble_eq_true rfl⟩ (fun r5 H locs L6 F6 hP hD hS hz6 hp6 => ?_)
  obtain ⟨eL, hC, er, hO1⟩ := hp6
  subst eL
  replace er := er.symm
  subst er
  have hO := hO.tr hO1
  have k_7 := okR_d (inR xv 0 1) (inR xt 0 3)
  refine q_if_ne hx hb dX6_viewTell_14 (tgt := 19) (by decide) (by omega) (fun c8 => ?_) (fun c8 => ?_)
  · replace k_7 := k_7.resolve_right (fun h => c8 h.1)
    refine lv_iload_n hx hb dX6_viewTell_19 rfl (lv_at hl 2 rfl) ?_
    refine q_if_eq hx hb dX6_viewTell_20 (tgt := 28) (by decide) (by omega) (fun c9 => ?_) (fun c9 => ?_)
    · refine lv_iload_n hx hb dX6_viewTell_28 rfl (lv_at hl 2 rfl) ?_
      refine q_if_ne hx hb dX6_viewTell_29 (tgt := 40) (by decide) (by omega) (fun c10 => ?_) (fun c10 => ?_)
      · refine lv_aload_n hx hb dX6_viewTell_40 rfl (lv_at hl 0 rfl) ?_
        refine lv_iload_n hx hb dX6_viewTell_41 rfl (lv_at hl 1 rfl) ?_
        refine q_vS C0 lX6_183 (c_X6_sum l D y L F6 O G (tTh μ (ltR (inR xv 0 1) (inR xt 0 3))) xv hC (by omega) (hW.2.2.1 xv) ⟨(hW.2.2.2.2.1 xv).1, (hW.2.2.2.2.1 xv).2.1⟩ (hW.2.2.2.2.1 xv).2.2) ⟨rfl, rfl⟩ rfl hP hC.1.1 hC.1.2 rfl rfl rfl hl rfl (Nat.le_of_ble_eq_true rfl) dX6_viewTell_42 ⟨Nat.zero_le _, Nat.zero_le _⟩ (fun r11 e_r11 => ?_)
        replace e_r11 : r11 = sumP (wmU (vst μ (vvw μ xv))) (vvl μ xv) (vvh μ xv) := e_r11.trans (by first | rfl | (rw [show vvw (tTh μ (ltR (inR xv 0 1) (inR xt 0 3))) xv = vvw μ xv from (by first | rfl | exact iu_s _ _ _), show vvl (tTh μ (ltR (inR xv 0 1) (inR xt 0 3))) xv = vvl μ xv from (by first | rfl | exact iu_s _ _ _), show vvh (tTh μ (ltR (inR xv 0 1) (inR xt 0 3))) xv = vvh μ xv from (by first | rfl | exact iu_s _ _ _)]; done) | (rw [show vvw (tTh μ (ltR (inR xv 0 1) (inR xt 0 3))) xv = vvw μ xv from (by first | rfl | exact iu_s _ _ _), show vvl (tTh μ (ltR (inR xv 0 1) (inR xt 0 3))) xv = vvl μ xv from (by first | rfl | exact iu_s _ _ _), show vvh (tTh μ (ltR (inR xv 0 1) (inR xt 0 3))) xv = vvh μ xv from (by first | rfl | exact iu_s _ _ _)]; rfl))
        subst e_r11
        exact q_retMi C0 hret rfl hlk dX6_viewTell_45 hP hD hS (⟨(by unfold jR_viewTell; (try unfold bkF); (try unfold bkO); (try unfold shF); (try unfold shO); (try unfold endP); (repeat' split) <;> first | omega | (exfalso; omega) | rfl), O, G, MP_eq hC (by unfold jS_viewTell; (try unfold ltR); (try unfold inR); (try unfold bkF); (try unfold bkO); (try unfold shF); (try unfold shO); (try unfold endP); (repeat' split) <;> first | omega | (exfalso; omega) | rfl), rfl, Ext0 hO⟩)
      · refine lv_aload_n hx hb dX6_viewTell_32 rfl (lv_at hl 0 rfl) ?_
        refine lv_iload_n hx hb dX6_viewTell_33 rfl (lv_at hl 1 rfl) ?_
        refine q_vS C0 lX6_171 (c_X6_seen l D y L F6 O G (tTh μ (ltR (inR xv 0 1) (inR xt 0 3))) xv hC (by omega) (hW.2.2.1 xv) ⟨(hW.2.2.2.2.1 xv).1, (hW.2.2.2.2.1 xv).2.1⟩ (hW.2.2.2.2.1 xv).2.2) ⟨rfl, rfl⟩ rfl hP hC.1.1 hC.1.2 rfl rfl rfl hl rfl (Nat.le_of_ble_eq_true rfl) dX6_viewTell_34 ⟨Nat.zero_le _, Nat.zero_le _⟩ (fun r12 e_r12 => ?_)
        replace e_r12 : r12 = cntP (vst μ (vvw μ xv)) (vvl μ xv) (vvh μ xv) := e_r12.trans (by first | rfl | (rw [show vvw (tTh μ (ltR (inR xv 0 1) (inR xt 0 3))) xv = vvw μ xv from (by first | rfl | exact iu_s _ _ _), show vvl (tTh μ (ltR (inR xv 0 1) (inR xt 0 3))) xv = vvl μ xv from (by first | rfl | exact iu_s _ _ _), show vvh (tTh μ (ltR (inR xv 0 1) (inR xt 0 3))) xv = vvh μ xv from (by first | rfl | exact iu_s _ _ _)]; done) | (rw [show vvw (tTh μ (ltR (inR xv 0 1) (inR xt 0 3))) xv = vvw μ xv from (by first | rfl | exact iu_s _ _ _), show vvl (tTh μ (ltR (inR xv 0 1) (inR xt 0 3))) xv = vvl μ xv from (by first | rfl | exact iu_s _ _ _), show vvh (tTh μ (ltR (inR xv 0 1) (inR xt 0 3))) xv = vvh μ xv from (by first | rfl | exact iu_s _ _ _)]; rfl))
        subst e_r12
        refine lv_goto (tgt := 45) hx hb dX6_viewTell_37 (by decide) ?_
        exact q_retMi C0 hret rfl hlk dX6_viewTell_45 hP hD hS (⟨(by unfold jR_viewTell; (try unfold bkF); (try unfold bkO); (try unfold shF); (try unfold shO); (try unfold endP); (repeat' split) <;> first | omega | (exfalso; omega) | rfl), O, G, MP_eq hC (by unfold jS_viewTell; (try unfold ltR); (try unfold inR); (try unfold bkF); (try unfold bkO); (try unfold shF); (try unfold shO); (try unfold endP); (repeat' split) <;> first | omega | (exfalso; omega) | rfl), rfl, Ext0 hO⟩)
    · refine lv_iload_n hx hb dX6_viewTell_23 rfl (lv_at hl 2 rfl) ?_
      refine q_iconst hx hb dX6_viewTell_24 ?_
      refine q_icmp_ne hx hb dX6_viewTell_25 (tgt := 46) (by decide) (by omega) (by omega) (fun c13 => ?_) (fun c13 => ?_)
      · refine lv_iload_n hx hb dX6_viewTell_46 rfl (lv_at hl 2 rfl) ?_
        refine q_iconst hx hb dX6_viewTell_47 ?_
        refine q_icmp_ne hx hb dX6_viewTell_48 (tgt := 75) (by decide) (by omega) (by omega) (fun c14 => ?_) (fun c14 => ?_)
        · refine lv_aload_n hx hb dX6_viewTell_75 rfl (lv_at hl 0 rfl) ?_
          refine q_get C0 iX6 hP hC.1.1 hC.1.2 rfl 2 (by decide) flX6_18 rfl (v := .ref ((uav G))) rfl dX6_viewTell_76 ?_
          refine lv_iload_n hx hb dX6_viewTell_79 rfl (lv_at hl 1 rfl) ?_
          refine q_aald C0 hP hC.2.2.2.1.1 hC.2.2.2.1.2 (t := 3) rfl (by omega) (by decide) (v := .ref ((urh G (vvw μ xv)))) rfl dX6_viewTell_80 ?_
          refine lv_aload_n hx hb dX6_viewTell_81 rfl (lv_at hl 0 rfl) ?_
          refine q_get C0 iX6 hP hC.1.1 hC.1.2 rfl 3 (by decide) flX6_21 rfl (v := .ref ((uaf G))) rfl dX6_viewTell_82 ?_
          refine lv_iload_n hx hb dX6_viewTell_85 rfl (lv_at hl 1 rfl) ?_
          refine q_iald C0 hP (f := (vvl μ)) hC.2.2.2.2.1.1 hC.2.2.2.2.1.2 (by omega) (by decide) dX6_viewTell_86 ?_
          refine lv_aload_n hx hb dX6_viewTell_87 rfl (lv_at hl 0 rfl) ?_
          refine q_get C0 iX6 hP hC.1.1 hC.1.2 rfl 4 (by decide) flX6_25 rfl (v := .ref ((uat G))) rfl dX6_viewTell_88 ?_
          refine lv_iload_n hx hb dX6_viewTell_91 rfl (lv_at hl 1 rfl) ?_
          refine q_iald C0 hP (f := (vvh μ)) hC.2.2.2.2.2.1.1 hC.2.2.2.2.2.1.2 (by omega) (by decide) dX6_viewTell_92 ?_
          refine q_vS C0 lX6_114 (c_X5_last l D y L F6 (urh G (vvw μ xv)) (urw G (vvw μ xv)) (vod μ (vvw μ xv)) (vst μ (vvw μ xv)) ((vvl μ) xv) ((vvh μ) xv) (MP_r hC (hW.2.2.1 xv)) (by omega) (by omega)) ⟨rfl, rfl⟩ rfl hP (MP_r hC (hW.2.2.1 xv)).1 (MP_r hC (hW.2.2.1 xv)).2.1 rfl rfl rfl hl rfl (Nat.le_of_ble_eq_true rfl) dX6_viewTell_93 ⟨Nat.zero_le _, Nat.zero_le _⟩ (fun r15 e_r15 => ?_)
          subst e_r15
          have b_16 := @keyR_b (vod μ (vvw μ xv)) (lasP (vst μ (vvw μ xv)) ((vvl μ) xv) ((vvh μ) xv)) (lasP_r (vst μ (vvw μ xv)) ((vvl μ) xv) ((vvh μ) xv))
          refine lv_istore_n (lv' := [(3, .int (iI ((keyR (vod μ (vvw μ xv)) (lasP (vst μ (vvw μ xv)) ((vvl μ) xv) ((vvh μ) xv)))))), (0, .ref ((ubg G))), (1, .int (iI xv)), (2, .int (iI xt))]) hx hb dX6_viewTell_96 rfl hl (by decide) rfl (fun ls hl => ?_)
          refine lv_iload_n hx hb dX6_viewTell_97 rfl (lv_at hl 0 rfl) ?_
          refine q_iconst hx hb dX6_viewTell_98 ?_
          refine q_icmp_ne hx hb dX6_viewTell_99 (tgt := 109) (by decide) (by omega) (by omega) (fun c17 => ?_) (fun c17 => ?_)
          · refine lv_iload_n hx hb dX6_viewTell_109 rfl (lv_at hl 0 rfl) ?_
            exact q_retMi C0 hret rfl hlk dX6_viewTell_110 hP hD hS (⟨(by unfold jR_viewTell; (try unfold bkF); (try unfold bkO); (try unfold shF); (try unfold shO); (try unfold endP); (repeat' split) <;> first | omega | (exfalso; omega) | rfl), O, G, MP_eq hC (by unfold jS_viewTell; (try unfold ltR); (try unfold inR); (try unfold bkF); (try unfold bkO); (try unfold shF); (try unfold shO); (try unfold endP); (repeat' split) <;> first | omega | (exfalso; omega) | rfl), rfl, Ext0 hO⟩)
          · refine lv_aload_n hx hb dX6_viewTell_102 rfl (lv_at hl 1 rfl) ?_
            refine q_vMi C0 lX6_89 (c_X6_refuse l D y L F6 _ O G (tTh μ (ltR (inR xv 0 1) (inR xt 0 3))) hC) ⟨rfl, rfl⟩ rfl hP hD hS hA hC.1.1 hC.1.2 rfl rfl rfl hl rfl (Nat.le_of_ble_eq_true rfl) dX6_viewTell_103 ⟨Nat.le_of_ble_eq_true rfl, Nat.le_of_ble_eq_true rfl⟩ (fun r18 H locs L19 F19 hP hD hS hz19 hp19 => ?_)
            obtain ⟨eL, hC, er, hO1⟩ := hp19
            subst eL
            replace er : (-9) = r18 := er.symm
            subst er
            have hO := hO.tr hO1
            refine lv_goto (tgt := 110) hx hb dX6_viewTell_106 (by decide) ?_
            exact q_retMi C0 hret rfl hlk dX6_viewTell_110 hP hD hS (⟨(by unfold jR_viewTell; (try unfold bkF); (try unfold bkO); (try unfold shF); (try unfold shO); (try unfold endP); (repeat' split) <;> first | omega | (exfalso; omega) | rfl), O, G, MP_eq hC (by unfold jS_viewTell; (try unfold ltR); (try unfold inR); (try unfold bkF); (try unfold bkO); (try unfold shF); (try unfold shO); (try unfold endP); (repeat' split) <;> first | omega | (exfalso; omega) | rfl), rfl, Ext0 hO⟩)
        · refine lv_aload_n hx hb dX6_viewTell_51 rfl (lv_at hl 0 rfl) ?_
          refine q_get C0 iX6 hP hC.1.1 hC.1.2 rfl 2 (by decide) flX6_18 rfl (v := .ref ((uav G))) rfl dX6_viewTell_52 ?_
          refine lv_iload_n hx hb dX6_viewTell_55 rfl (lv_at hl 1 rfl) ?_
          refine q_aald C0 hP hC.2.2.2.1.1 hC.2.2.2.1.2 (t := 3) rfl (by omega) (by decide) (v := .ref ((urh G (vvw μ xv)))) rfl dX6_viewTell_56 ?_
          refine lv_aload_n hx hb dX6_viewTell_57 rfl (lv_at hl 0 rfl) ?_
          refine q_get C0 iX6 hP hC.1.1 hC.1.2 rfl 3 (by decide) flX6_21 rfl (v := .ref ((uaf G))) rfl dX6_viewTell_58 ?_
          refine lv_iload_n hx hb dX6_viewTell_61 rfl (lv_at hl 1 rfl) ?_
          refine q_iald C0 hP (f := (vvl μ)) hC.2.2.2.2.1.1 hC.2.2.2.2.1.2 (by omega) (by decide) dX6_viewTell_62 ?_
          refine lv_aload_n hx hb dX6_viewTell_63 rfl (lv_at hl 0 rfl) ?_
          refine q_get C0 iX6 hP hC.1.1 hC.1.2 rfl 4 (by decide) flX6_25 rfl (v := .ref ((uat G))) rfl dX6_viewTell_64 ?_
          refine lv_iload_n hx hb dX6_viewTell_67 rfl (lv_at hl 1 rfl) ?_
          refine q_iald C0 hP (f := (vvh μ)) hC.2.2.2.2.2.1.1 hC.2.2.2.2.2.1.2 (by omega) (by decide) dX6_viewTell_68 ?_
          refine q_vS C0 lX6_111 (c_X5_first l D y L F6 (urh G (vvw μ xv)) (urw G (vvw μ xv)) (vod μ (vvw μ xv)) (vst μ (vvw μ xv)) ((vvl μ) xv) ((vvh μ) xv) (MP_r hC (hW.2.2.1 xv)) (by omega) (by omega)) ⟨rfl, rfl⟩ rfl hP (MP_r hC (hW.2.2.1 xv)).1 (MP_r hC (hW.2.2.1 xv)).2.1 rfl rfl rfl hl rfl (Nat.le_of_ble_eq_true rfl) dX6_viewTell_69 ⟨Nat.zero_le _, Nat.zero_le _⟩ (fun r20 e_r20 => ?_)
          subst e_r20
          have b_21 := @keyR_b (vod μ (vvw μ xv)) (firP (vst μ (vvw μ xv)) ((vvl μ) xv) ((vvh μ) xv)) (firP_r (vst μ (vvw μ xv)) ((vvl μ) xv) ((vvh μ) xv))
          refine lv_goto (tgt := 96) hx hb dX6_viewTell_72 (by decide) ?_
          refine lv_istore_n (lv' := [(3, .int (iI ((keyR (vod μ (vvw μ xv)) (firP (vst μ (vvw μ xv)) ((vvl μ) xv) ((vvh μ) xv)))))), (0, .ref ((ubg G))), (1, .int (iI xv)), (2, .int (iI xt))]) hx hb dX6_viewTell_96 rfl hl (by decide) rfl (fun ls hl => ?_)
          refine lv_iload_n hx hb dX6_viewTell_97 rfl (lv_at hl 0 rfl) ?_
          refine q_iconst hx hb dX6_viewTell_98 ?_
          refine q_icmp_ne hx hb dX6_viewTell_99 (tgt := 109) (by decide) (by omega) (by omega) (fun c22 => ?_) (fun c22 => ?_)
          · refine lv_iload_n hx hb dX6_viewTell_109 rfl (lv_at hl 0 rfl) ?_
            exact q_retMi C0 hret rfl hlk dX6_viewTell_110 hP hD hS (⟨(by unfold jR_viewTell; (try unfold bkF); (try unfold bkO); (try unfold shF); (try unfold shO); (try unfold endP); (repeat' split) <;> first | omega | (exfalso; omega) | rfl), O, G, MP_eq hC (by unfold jS_viewTell; (try unfold ltR); (try unfold inR); (try unfold bkF); (try unfold bkO); (try unfold shF); (try unfold shO); (try unfold endP); (repeat' split) <;> first | omega | (exfalso; omega) | rfl), rfl, Ext0 hO⟩)
          · refine lv_aload_n hx hb dX6_viewTell_102 rfl (lv_at hl 1 rfl) ?_
            refine q_vMi C0 lX6_89 (c_X6_refuse l D y L F6 _ O G (tTh μ (ltR (inR xv 0 1) (inR xt 0 3))) hC) ⟨rfl, rfl⟩ rfl hP hD hS hA hC.1.1 hC.1.2 rfl rfl rfl hl rfl (Nat.le_of_ble_eq_true rfl) dX6_viewTell_103 ⟨Nat.le_of_ble_eq_true rfl, Nat.le_of_ble_eq_true rfl⟩ (fun r23 H locs L24 F24 hP hD hS hz24 hp24 => ?_)
            obtain ⟨eL, hC, er, hO1⟩ := hp24
            subst eL
            replace er : (-9) = r23 := er.symm
            subst er
            have hO := hO.tr hO1
            refine lv_goto (tgt := 110) hx hb dX6_viewTell_106 (by decide) ?_
            exact q_retMi C0 hret rfl hlk dX6_viewTell_110 hP hD hS (⟨(by unfold jR_viewTell; (try unfold bkF); (try unfold bkO); (try unfold shF); (try unfold shO); (try unfold endP); (repeat' split) <;> first | omega | (exfalso; omega) | rfl), O, G, MP_eq hC (by unfold jS_viewTell; (try unfold ltR); (try unfold inR); (try unfold bkF); (try unfold bkO); (try unfold shF); (try unfold shO); (try unfold endP); (repeat' split) <;> first | omega | (exfalso; omega) | rfl), rfl, Ext0 hO⟩)
      · refine lv_iload_n hx hb dX6_viewTell_28 rfl (lv_at hl 2 rfl) ?_
        refine q_if_ne hx hb dX6_viewTell_29 (tgt := 40) (by decide) (by omega) (fun c25 => ?_) (fun c25 => ?_)
        · refine lv_aload_n hx hb dX6_viewTell_40 rfl (lv_at hl 0 rfl) ?_
          refine lv_iload_n hx hb dX6_viewTell_41 rfl (lv_at hl 1 rfl) ?_
          refine q_vS C0 lX6_183 (c_X6_sum l D y L F6 O G (tTh μ (ltR (inR xv 0 1) (inR xt 0 3))) xv hC (by omega) (hW.2.2.1 xv) ⟨(hW.2.2.2.2.1 xv).1, (hW.2.2.2.2.1 xv).2.1⟩ (hW.2.2.2.2.1 xv).2.2) ⟨rfl, rfl⟩ rfl hP hC.1.1 hC.1.2 rfl rfl rfl hl rfl (Nat.le_of_ble_eq_true rfl) dX6_viewTell_42 ⟨Nat.zero_le _, Nat.zero_le _⟩ (fun r26 e_r26 => ?_)
          replace e_r26 : r26 = sumP (wmU (vst μ (vvw μ xv))) (vvl μ xv) (vvh μ xv) := e_r26.trans (by first | rfl | (rw [show vvw (tTh μ (ltR (inR xv 0 1) (inR xt 0 3))) xv = vvw μ xv from (by first | rfl | exact iu_s _ _ _), show vvl (tTh μ (ltR (inR xv 0 1) (inR xt 0 3))) xv = vvl μ xv from (by first | rfl | exact iu_s _ _ _), show vvh (tTh μ (ltR (inR xv 0 1) (inR xt 0 3))) xv = vvh μ xv from (by first | rfl | exact iu_s _ _ _)]; done) | (rw [show vvw (tTh μ (ltR (inR xv 0 1) (inR xt 0 3))) xv = vvw μ xv from (by first | rfl | exact iu_s _ _ _), show vvl (tTh μ (ltR (inR xv 0 1) (inR xt 0 3))) xv = vvl μ xv from (by first | rfl | exact iu_s _ _ _), show vvh (tTh μ (ltR (inR xv 0 1) (inR xt 0 3))) xv = vvh μ xv from (by first | rfl | exact iu_s _ _ _)]; rfl))
          subst e_r26
          exact q_retMi C0 hret rfl hlk dX6_viewTell_45 hP hD hS (⟨(by unfold jR_viewTell; (try unfold bkF); (try unfold bkO); (try unfold shF); (try unfold shO); (try unfold endP); (repeat' split) <;> first | omega | (exfalso; omega) | rfl), O, G, MP_eq hC (by unfold jS_viewTell; (try unfold ltR); (try unfold inR); (try unfold bkF); (try unfold bkO); (try unfold shF); (try unfold shO); (try unfold endP); (repeat' split) <;> first | omega | (exfalso; omega) | rfl), rfl, Ext0 hO⟩)
        · refine lv_aload_n hx hb dX6_viewTell_32 rfl (lv_at hl 0 rfl) ?_
          refine lv_iload_n hx hb dX6_viewTell_33 rfl (lv_at hl 1 rfl) ?_
          refine q_vS C0 lX6_171 (c_X6_seen l D y L F6 O G (tTh μ (ltR (inR xv 0 1) (inR xt 0 3))) xv hC (by omega) (hW.2.2.1 xv) ⟨(hW.2.2.2.2.1 xv).1, (hW.2.2.2.2.1 xv).2.1⟩ (hW.2.2.2.2.1 xv).2.2) ⟨rfl, rfl⟩ rfl hP hC.1.1 hC.1.2 rfl rfl rfl hl rfl (Nat.le_of_ble_eq_true rfl) dX6_viewTell_34 ⟨Nat.zero_le _, Nat.zero_le _⟩ (fun r27 e_r27 => ?_)
          replace e_r27 : r27 = cntP (vst μ (vvw μ xv)) (vvl μ xv) (vvh μ xv) := e_r27.trans (by first | rfl | (rw [show vvw (tTh μ (ltR (inR xv 0 1) (inR xt 0 3))) xv = vvw μ xv from (by first | rfl | exact iu_s _ _ _), show vvl (tTh μ (ltR (inR xv 0 1) (inR xt 0 3))) xv = vvl μ xv from (by first | rfl | exact iu_s _ _ _), show vvh (tTh μ (ltR (inR xv 0 1) (inR xt 0 3))) xv = vvh μ xv from (by first | rfl | exact iu_s _ _ _)]; done) | (rw [show vvw (tTh μ (ltR (inR xv 0 1) (inR xt 0 3))) xv = vvw μ xv from (by first | rfl | exact iu_s _ _ _), show vvl (tTh μ (ltR (inR xv 0 1) (inR xt 0 3))) xv = vvl μ xv from (by first | rfl | exact iu_s _ _ _), show vvh (tTh μ (ltR (inR xv 0 1) (inR xt 0 3))) xv = vvh μ xv from (by first | rfl | exact iu_s _ _ _)]; rfl))
          subst e_r27
          refine lv_goto (tgt := 45) hx hb dX6_viewTell_37 (by decide) ?_
          exact q_retMi C0 hret rfl hlk dX6_viewTell_45 hP hD hS (⟨(by unfold jR_viewTell; (try unfold bkF); (try unfold bkO); (try unfold shF); (try unfold shO); (try unfold endP); (repeat' split) <;> first | omega | (exfalso; omega) | rfl), O, G, MP_eq hC (by unfold jS_viewTell; (try unfold ltR); (try unfold inR); (try unfold bkF); (try unfold bkO); (try unfold shF); (try unfold shO); (try unfold endP); (repeat' split) <;> first | omega | (exfalso; omega) | rfl), rfl, Ext0 hO⟩)
  · replace k_7 := k_7.resolve_left (fun h => absurd (h.1.symm.trans c8) (by decide))
    refine q_iconst hx hb dX6_viewTell_17 ?_
    exact q_retMi C0 hret rfl hlk dX6_viewTell_18 hP hD hS (⟨(by unfold jR_viewTell; (try unfold bkF); (try unfold bkO); (try unfold shF); (try unfold shO); (try unfold endP); (repeat' split) <;> first | omega | (exfalso; omega) | rfl), O, G, MP_eq hC (by unfold jS_viewTell; (try unfold ltR); (try unfold inR); (try unfold bkF); (try unfold bkO); (try unfold shF); (try unfold shO); (try unfold endP); (repeat' split) <;> first | omega | (exfalso; omega) | rfl), rfl, Ext0 hO⟩)
