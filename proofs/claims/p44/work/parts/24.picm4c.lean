set_option maxHeartbeats 3000000 in
set_option maxRecDepth 100000 in
theorem c_X6_narrowView (l : Launch) (D : va_G) (y : Nat → ClassId) (L : List Nat) (F : Nat → va_E) (sz : Nat) (O : Nat → Prop) (G : MG) (μ : MS) (xv : Int) (xkind : Int) (xlow : Int) (xhigh : Int) (hC : MP y L F O G μ) (hW : MW μ) (h_xv : -2147483648 ≤ xv ∧ xv ≤ 2147483647) (h_xkind : -2147483648 ≤ xkind ∧ xkind ≤ 2147483647) (h_xlow : -2147483648 ≤ xlow ∧ xlow ≤ 2147483647) (h_xhigh : -2147483648 ≤ xhigh ∧ xhigh ≤ 2147483647) : Met l yX6_narrowView (.code yX6_narrowView cX6_narrowView 6 (some .int) :: Tt) ({ frames := 3, cells := 0, slots := 0, locals := 66 }) (PcM D y L F sz [.ref ((ubg G)), .int (iI xv), .int (iI xkind), .int (iI xlow), .int (iI xhigh)]) (cMi D (AL L sz) (fun r L1 F1 => r = jR_narrowView μ xv xkind xlow xhigh ∧ ∃ (O1 : Nat → Prop) (G1 : MG), MP y L1 F1 O1 G1 (jS_narrowView μ xv xkind xlow xhigh) ∧ ubg G1 = ubg G ∧ Ext O O1 L L1 F F1)) 0 0 (AL L sz) := by
  have hO : OE O F F := fun _ _ => rfl
  have hw5 := hW.2.2.2.2.2.1
  have hw6 := hW.2.2.2.2.2.2.1
  have hw7 := hW.2.2.2.2.2.2.2.1
  have vb_ := hW.2.2.2.2.1 xv
  refine q_ofM (lv := [(0, .ref ((ubg G))), (1, .int (iI xv)), (2, .int (iI xkind)), (3, .int (iI xlow)), (4, .int (iI xhigh))]) (by decide) (Nat.le_of_ble_eq_true rfl) rfl (fun p e s m below meth c C0 hret hlk hnm hA hP hD hS ls hl => ?_)
  have hx := C0.1.1
  have hb := C0.1.2.1
  have hts := C0.1.2.2.2.2
  refine lv_aload_n hx hb dX6_narrowView_0 rfl (lv_at hl 0 rfl) ?_
  refine lv_iload_n hx hb dX6_narrowView_1 rfl (lv_at hl 1 rfl) ?_
  refine q_sS C0 lX6_168 (c_X6_isView l D y L F xv (by omega)) ⟨rfl, rfl⟩ rfl hP rfl hl rfl (Nat.le_of_ble_eq_true rfl) dX6_narrowView_2 ⟨Nat.zero_le _, Nat.zero_le _⟩ (fun r1 e_r1 => ?_)
  subst e_r1
  have b_2 := inR_d xv 0 1
  refine lv_iload_n hx hb dX6_narrowView_5 rfl (lv_at hl 2 rfl) ?_
  refine q_iconst hx hb dX6_narrowView_6 ?_
  refine q_iconst hx hb dX6_narrowView_7 ?_
  refine q_sS C0 lX6_41 (c_X6_isIn l D y L F xkind 0 2 (by omega) (by omega) (by omega)) ⟨rfl, rfl⟩ rfl hP rfl hl rfl (Nat.le_of_ble_eq_true rfl) dX6_narrowView_8 ⟨Nat.zero_le _, Nat.zero_le _⟩ (fun r3 e_r3 => ?_)
  subst e_r3
  have b_4 := inR_d xkind 0 2
  refine q_if_eq hx hb dX6_narrowView_11 (tgt := 33) (by decide) (by omega) (fun c5 => ?_) (fun c5 => ?_)
  · replace b_4 := b_4.resolve_left (fun h => absurd (h.1.symm.trans c5) (by decide))
    refine q_iconst hx hb dX6_narrowView_33 ?_
    refine q_vMi C0 lX6_63 (c_X6_isLet l D y L F _ O G μ (inR xv 0 1) 0 hC (by omega) (by omega)) ⟨rfl, rfl⟩ rfl hP hD hS hA hC.1.1 hC.1.2 rfl rfl rfl hl rfl (Nat.le_of_ble_eq_true rfl) dX6_narrowView_34 ⟨Nat.le_of_ble_eq_true rfl, Nat.le_of_ble_eq_true rfl⟩ (fun r6 H locs L7 F7 hP hD hS hz7 hp7 => ?_)
    obtain ⟨eL, hC, er, hO1⟩ := hp7
    subst eL
    replace er := (er.trans (okR_z _)).symm
    subst er
    have hO := hO.tr hO1
    refine q_if_ne hx hb dX6_narrowView_37 (tgt := 42) (by decide) (by omega) (fun c8 => absurd c8 (by omega)) (fun c8 => ?_)
    refine q_iconst hx hb dX6_narrowView_40 ?_
    exact q_retMi C0 hret rfl hlk dX6_narrowView_41 hP hD hS (⟨(by unfold jR_narrowView; rw [if_neg (by omega)]), O, G, MP_eq hC (by have lt_ := ltR_d (inR xv 0 1) 0; unfold jS_narrowView; rcases lt_ with lt_ | lt_ | lt_ <;> first | (rw [if_neg (by omega), lt_.1]; done) | (rw [if_pos (by omega), if_neg (by omega), lt_.1]; done) | (exfalso; omega)), rfl, Ext0 hO⟩)
  · replace b_4 := b_4.resolve_right (fun h => c5 h.1)
    refine lv_iload_n hx hb dX6_narrowView_14 rfl (lv_at hl 3 rfl) ?_
    refine q_sS C0 lX6_86 (c_X6_isKey l D y L F xlow (by omega)) ⟨rfl, rfl⟩ rfl hP rfl hl rfl (Nat.le_of_ble_eq_true rfl) dX6_narrowView_15 ⟨Nat.zero_le _, Nat.zero_le _⟩ (fun r9 e_r9 => ?_)
    subst e_r9
    have b_10 := inR_d xlow 0 99
    refine q_if_eq hx hb dX6_narrowView_18 (tgt := 33) (by decide) (by omega) (fun c11 => ?_) (fun c11 => ?_)
    · replace b_10 := b_10.resolve_left (fun h => absurd (h.1.symm.trans c11) (by decide))
      refine q_iconst hx hb dX6_narrowView_33 ?_
      refine q_vMi C0 lX6_63 (c_X6_isLet l D y L F _ O G μ (inR xv 0 1) 0 hC (by omega) (by omega)) ⟨rfl, rfl⟩ rfl hP hD hS hA hC.1.1 hC.1.2 rfl rfl rfl hl rfl (Nat.le_of_ble_eq_true rfl) dX6_narrowView_34 ⟨Nat.le_of_ble_eq_true rfl, Nat.le_of_ble_eq_true rfl⟩ (fun r12 H locs L13 F13 hP hD hS hz13 hp13 => ?_)
      obtain ⟨eL, hC, er, hO1⟩ := hp13
      subst eL
      replace er := (er.trans (okR_z _)).symm
      subst er
      have hO := hO.tr hO1
      refine q_if_ne hx hb dX6_narrowView_37 (tgt := 42) (by decide) (by omega) (fun c14 => absurd c14 (by omega)) (fun c14 => ?_)
      refine q_iconst hx hb dX6_narrowView_40 ?_
      exact q_retMi C0 hret rfl hlk dX6_narrowView_41 hP hD hS (⟨(by unfold jR_narrowView; rw [if_neg (by omega)]), O, G, MP_eq hC (by have lt_ := ltR_d (inR xv 0 1) 0; unfold jS_narrowView; rcases lt_ with lt_ | lt_ | lt_ <;> first | (rw [if_neg (by omega), lt_.1]; done) | (rw [if_pos (by omega), if_neg (by omega), lt_.1]; done) | (exfalso; omega)), rfl, Ext0 hO⟩)
    · replace b_10 := b_10.resolve_right (fun h => c11 h.1)
      refine lv_iload hx hb dX6_narrowView_21 (lv_at hl 4 rfl) ?_
      refine q_sS C0 lX6_86 (c_X6_isKey l D y L F xhigh (by omega)) ⟨rfl, rfl⟩ rfl hP rfl hl rfl (Nat.le_of_ble_eq_true rfl) dX6_narrowView_23 ⟨Nat.zero_le _, Nat.zero_le _⟩ (fun r15 e_r15 => ?_)
      subst e_r15
      have b_16 := inR_d xhigh 0 99
      refine q_if_eq hx hb dX6_narrowView_26 (tgt := 33) (by decide) (by omega) (fun c17 => ?_) (fun c17 => ?_)
      · replace b_16 := b_16.resolve_left (fun h => absurd (h.1.symm.trans c17) (by decide))
        refine q_iconst hx hb dX6_narrowView_33 ?_
        refine q_vMi C0 lX6_63 (c_X6_isLet l D y L F _ O G μ (inR xv 0 1) 0 hC (by omega) (by omega)) ⟨rfl, rfl⟩ rfl hP hD hS hA hC.1.1 hC.1.2 rfl rfl rfl hl rfl (Nat.le_of_ble_eq_true rfl) dX6_narrowView_34 ⟨Nat.le_of_ble_eq_true rfl, Nat.le_of_ble_eq_true rfl⟩ (fun r18 H locs L19 F19 hP hD hS hz19 hp19 => ?_)
        obtain ⟨eL, hC, er, hO1⟩ := hp19
        subst eL
        replace er := (er.trans (okR_z _)).symm
        subst er
        have hO := hO.tr hO1
        refine q_if_ne hx hb dX6_narrowView_37 (tgt := 42) (by decide) (by omega) (fun c20 => absurd c20 (by omega)) (fun c20 => ?_)
        refine q_iconst hx hb dX6_narrowView_40 ?_
        exact q_retMi C0 hret rfl hlk dX6_narrowView_41 hP hD hS (⟨(by unfold jR_narrowView; rw [if_neg (by omega)]), O, G, MP_eq hC (by have lt_ := ltR_d (inR xv 0 1) 0; unfold jS_narrowView; rcases lt_ with lt_ | lt_ | lt_ <;> first | (rw [if_neg (by omega), lt_.1]; done) | (rw [if_pos (by omega), if_neg (by omega), lt_.1]; done) | (exfalso; omega)), rfl, Ext0 hO⟩)
      · replace b_16 := b_16.resolve_right (fun h => c17 h.1)
        refine q_iconst hx hb dX6_narrowView_29 ?_
        refine lv_goto (tgt := 34) hx hb dX6_narrowView_30 (by decide) ?_
        refine q_vMi C0 lX6_63 (c_X6_isLet l D y L F _ O G μ (inR xv 0 1) 1 hC (by omega) (by omega)) ⟨rfl, rfl⟩ rfl hP hD hS hA hC.1.1 hC.1.2 rfl rfl rfl hl rfl (Nat.le_of_ble_eq_true rfl) dX6_narrowView_34 ⟨Nat.le_of_ble_eq_true rfl, Nat.le_of_ble_eq_true rfl⟩ (fun r21 H locs L22 F22 hP hD hS hz22 hp22 => ?_)
        obtain ⟨eL, hC, er, hO1⟩ := hp22
        subst eL
        replace er := er.symm
        subst er
        have hO := hO.tr hO1
        have k_23 := okR_d (inR xv 0 1) 1
        refine q_if_ne hx hb dX6_narrowView_37 (tgt := 42) (by decide) (by omega) (fun c24 => ?_) (fun c24 => ?_)
        · replace k_23 := k_23.resolve_right (fun h => c24 h.1)
          refine lv_aload_n hx hb dX6_narrowView_42 rfl (lv_at hl 0 rfl) ?_
          refine q_get C0 iX6 hP hC.1.1 hC.1.2 rfl 2 (by decide) flX6_18 rfl (v := .ref ((uav G))) rfl dX6_narrowView_43 ?_
          refine lv_iload_n hx hb dX6_narrowView_46 rfl (lv_at hl 1 rfl) ?_
          refine q_aald C0 hP hC.2.2.2.1.1 hC.2.2.2.1.2 (t := 3) rfl (by omega) (by decide) (v := .ref ((urh G (vvw μ xv)))) rfl dX6_narrowView_47 ?_
          refine lv_astore (lv' := [(5, .ref ((urh G (vvw μ xv)))), (0, .ref ((ubg G))), (1, .int (iI xv)), (2, .int (iI xkind)), (3, .int (iI xlow)), (4, .int (iI xhigh))]) hx hb dX6_narrowView_48 hl (by decide) rfl (fun ls hl => ?_)
          refine lv_iload_n hx hb dX6_narrowView_50 rfl (lv_at hl 3 rfl) ?_
          refine q_if_le hx hb dX6_narrowView_51 (tgt := 63) (by decide) (by omega) (fun c25 => ?_) (fun c25 => ?_)
          · refine lv_iload_n hx hb dX6_narrowView_63 rfl (lv_at hl 3 rfl) ?_
            refine q_iconst hx hb dX6_narrowView_64 ?_
            refine q_icmp_eq hx hb dX6_narrowView_65 (tgt := 78) (by decide) (by omega) (by omega) (fun c26 => ?_) (fun c26 => ?_)
            · refine lv_iload_n hx hb dX6_narrowView_78 rfl (lv_at hl 3 rfl) ?_
              refine q_iconst hx hb dX6_narrowView_79 ?_
              refine q_icmp_ne hx hb dX6_narrowView_80 (tgt := 104) (by decide) (by omega) (by omega) (fun c27 => ?_) (fun c27 => ?_)
              · refine lv_iload_n hx hb dX6_narrowView_104 rfl (lv_at hl 3 rfl) ?_
                refine q_if_le hx hb dX6_narrowView_105 (tgt := 120) (by decide) (by omega) (fun c28 => ?_) (fun c28 => ?_)
                · refine lv_iload_n hx hb dX6_narrowView_120 rfl (lv_at hl 3 rfl) ?_
                  refine q_iconst hx hb dX6_narrowView_121 ?_
                  refine q_icmp_eq hx hb dX6_narrowView_122 (tgt := 138) (by decide) (by omega) (by omega) (fun c29 => ?_) (fun c29 => ?_)
                  · refine lv_aload_n hx hb dX6_narrowView_138 rfl (lv_at hl 1 rfl) ?_
                    refine lv_iload_n hx hb dX6_narrowView_139 rfl (lv_at hl 2 rfl) ?_
                    refine q_vS C0 lX6_171 (c_X6_seen l D y L F22 O G (tTh μ (ltR (inR xv 0 1) 1)) xv hC (by omega) (hW.2.2.1 xv) ⟨(hW.2.2.2.2.1 xv).1, (hW.2.2.2.2.1 xv).2.1⟩ (hW.2.2.2.2.1 xv).2.2) ⟨rfl, rfl⟩ rfl hP hC.1.1 hC.1.2 rfl rfl rfl hl rfl (Nat.le_of_ble_eq_true rfl) dX6_narrowView_140 ⟨Nat.zero_le _, Nat.zero_le _⟩ (fun r30 e_r30 => ?_)
                    replace e_r30 : r30 = cntP (vst μ (vvw μ xv)) (vvl μ xv) (vvh μ xv) := e_r30.trans (by first | rfl | (rw [show vvw (tTh μ (ltR (inR xv 0 1) 1)) xv = vvw μ xv from (by first | rfl | exact iu_s _ _ _), show vvl (tTh μ (ltR (inR xv 0 1) 1)) xv = vvl μ xv from (by first | rfl | exact iu_s _ _ _), show vvh (tTh μ (ltR (inR xv 0 1) 1)) xv = vvh μ xv from (by first | rfl | exact iu_s _ _ _)]; done) | (rw [show vvw (tTh μ (ltR (inR xv 0 1) 1)) xv = vvw μ xv from (by first | rfl | exact iu_s _ _ _), show vvl (tTh μ (ltR (inR xv 0 1) 1)) xv = vvl μ xv from (by first | rfl | exact iu_s _ _ _), show vvh (tTh μ (ltR (inR xv 0 1) 1)) xv = vvh μ xv from (by first | rfl | exact iu_s _ _ _)]; rfl))
                    subst e_r30
                    exact q_retMi C0 hret rfl hlk dX6_narrowView_143 hP hD hS (⟨(by 
    have eN : ¬ (mnRef μ xv xkind xlow xhigh = 1) := by (unfold mnRef; (repeat' split) <;> first | rfl | omega)
    have eL : mnLo μ xv xkind xlow = (vvl μ xv) := by (unfold mnLo; first | (rw [if_pos (by omega)]; done) | (rw [if_neg (by omega)]; done))
    have eH : mnHi μ xv xkind xhigh = (vvh μ xv) := by (unfold mnHi; first | (rw [if_pos (by omega)]; done) | (rw [if_neg (by omega)]; done))
    unfold jR_narrowView; rw [if_pos (by omega), if_neg eN, eL, eH]), O, G, MP_eq hC (by 
    have eN : ¬ (mnRef μ xv xkind xlow xhigh = 1) := by (unfold mnRef; (repeat' split) <;> first | rfl | omega)
    have eL : mnLo μ xv xkind xlow = (vvl μ xv) := by (unfold mnLo; first | (rw [if_pos (by omega)]; done) | (rw [if_neg (by omega)]; done))
    have eH : mnHi μ xv xkind xhigh = (vvh μ xv) := by (unfold mnHi; first | (rw [if_pos (by omega)]; done) | (rw [if_neg (by omega)]; done))
    have lt_ := ltR_d (inR xv 0 1) 1; 
    unfold jS_narrowView; rw [if_pos (by omega), if_pos (by omega), if_neg eN, eL, eH, show ltR (inR xv 0 1) 1 = 0 by omega]; first | (exfalso; omega) | (rw [if_pos (by omega)]; done) | (rw [if_neg (by omega), if_pos (by omega)]; done) | (rw [if_neg (by omega), if_neg (by omega)]; done)), rfl, Ext0 hO⟩)
                  · refine lv_aload_n hx hb dX6_narrowView_125 rfl (lv_at hl 1 rfl) ?_
                    refine q_get C0 iX6 hP hC.1.1 hC.1.2 rfl 4 (by decide) flX6_25 rfl (v := .ref ((uat G))) rfl dX6_narrowView_126 ?_
                    refine lv_iload_n hx hb dX6_narrowView_129 rfl (lv_at hl 2 rfl) ?_
                    refine lv_aload hx hb dX6_narrowView_130 (lv_at hl 0 rfl) ?_
                    refine lv_iload hx hb dX6_narrowView_132 (lv_at hl 5 rfl) ?_
                    refine q_vS C0 lX6_93 (c_X5_rank l D y L F22 (urh G (vvw μ xv)) (urw G (vvw μ xv)) (vod μ (vvw μ xv)) (vst μ (vvw μ xv)) xhigh (MP_r hC (hW.2.2.1 xv)) (by omega)) ⟨rfl, rfl⟩ rfl hP (MP_r hC (hW.2.2.1 xv)).1 (MP_r hC (hW.2.2.1 xv)).2.1 rfl rfl rfl hl rfl (Nat.le_of_ble_eq_true rfl) dX6_narrowView_134 ⟨Nat.zero_le _, Nat.zero_le _⟩ (fun r31 e_r31 => ?_)
                    subst e_r31
                    have b_32 := @turn_b (vod μ (vvw μ xv)) xhigh (by omega)
                    refine q_iast C0 hP hD hS hC.2.2.2.2.2.1.1 hC.2.2.2.2.2.1.2 (i := xv) (v := (turn (vod μ (vvw μ xv)) xhigh)) (by omega) (by decide) dX6_narrowView_137 (fun H locs hP hD hS => ?_)
                    obtain ⟨F33, eF33⟩ : ∃ z, z = va_up F22 (uat G) (arrI (y 0) 2 (iu (vvh μ) xv (turn (vod μ (vvw μ xv)) xhigh))) := ⟨_, rfl⟩
                    have hP : va_P D vwCl (va_pl L F33) H := by rw [eF33]; exact hP
                    have hD : va_D (AL L sz) (va_pl L F33) := by rw [eF33]; exact hD
                    have hO : OE O F F33 := by rw [eF33]; exact hO.tr (OE1 (MP_O hC).2.2.2.2.2.1)
                    have hC : MP y L F33 O G (tVh (tTh μ (ltR (inR xv 0 1) 1)) xv (turn (vod μ (vvw μ xv)) xhigh)) := by rw [eF33]; exact MP_vh hC (va_up_self _ _ _) (fun q hq => va_up_ne _ _ hq)
                    refine lv_aload_n hx hb dX6_narrowView_138 rfl (lv_at hl 1 rfl) ?_
                    refine lv_iload_n hx hb dX6_narrowView_139 rfl (lv_at hl 2 rfl) ?_
                    refine q_vS C0 lX6_171 (c_X6_seen l D y L F33 O G (tVh (tTh μ (ltR (inR xv 0 1) 1)) xv (turn (vod μ (vvw μ xv)) xhigh)) xv hC (by omega) (by rw [show vvw (tVh (tTh μ (ltR (inR xv 0 1) 1)) xv (turn (vod μ (vvw μ xv)) xhigh)) xv = vvw μ xv from (by first | rfl | exact iu_s _ _ _)]; exact (hW.2.2.1 xv)) (by rw [show vvl (tVh (tTh μ (ltR (inR xv 0 1) 1)) xv (turn (vod μ (vvw μ xv)) xhigh)) xv = vvl μ xv from (by first | rfl | exact iu_s _ _ _)]; omega) (by rw [show vvh (tVh (tTh μ (ltR (inR xv 0 1) 1)) xv (turn (vod μ (vvw μ xv)) xhigh)) xv = (turn (vod μ (vvw μ xv)) xhigh) from (by first | rfl | exact iu_s _ _ _)]; omega)) ⟨rfl, rfl⟩ rfl hP hC.1.1 hC.1.2 rfl rfl rfl hl rfl (Nat.le_of_ble_eq_true rfl) dX6_narrowView_140 ⟨Nat.zero_le _, Nat.zero_le _⟩ (fun r34 e_r34 => ?_)
                    replace e_r34 : r34 = cntP (vst μ (vvw μ xv)) (vvl μ xv) (turn (vod μ (vvw μ xv)) xhigh) := e_r34.trans (by first | rfl | (rw [show vvw (tVh (tTh μ (ltR (inR xv 0 1) 1)) xv (turn (vod μ (vvw μ xv)) xhigh)) xv = vvw μ xv from (by first | rfl | exact iu_s _ _ _), show vvl (tVh (tTh μ (ltR (inR xv 0 1) 1)) xv (turn (vod μ (vvw μ xv)) xhigh)) xv = vvl μ xv from (by first | rfl | exact iu_s _ _ _), show vvh (tVh (tTh μ (ltR (inR xv 0 1) 1)) xv (turn (vod μ (vvw μ xv)) xhigh)) xv = (turn (vod μ (vvw μ xv)) xhigh) from (by first | rfl | exact iu_s _ _ _)]; done) | (rw [show vvw (tVh (tTh μ (ltR (inR xv 0 1) 1)) xv (turn (vod μ (vvw μ xv)) xhigh)) xv = vvw μ xv from (by first | rfl | exact iu_s _ _ _), show vvl (tVh (tTh μ (ltR (inR xv 0 1) 1)) xv (turn (vod μ (vvw μ xv)) xhigh)) xv = vvl μ xv from (by first | rfl | exact iu_s _ _ _), show vvh (tVh (tTh μ (ltR (inR xv 0 1) 1)) xv (turn (vod μ (vvw μ xv)) xhigh)) xv = (turn (vod μ (vvw μ xv)) xhigh) from (by first | rfl | exact iu_s _ _ _)]; rfl))
                    subst e_r34
                    exact q_retMi C0 hret rfl hlk dX6_narrowView_143 hP hD hS (⟨(by 
    have eN : ¬ (mnRef μ xv xkind xlow xhigh = 1) := by (unfold mnRef; (repeat' split) <;> first | rfl | omega)
    have eL : mnLo μ xv xkind xlow = (vvl μ xv) := by (unfold mnLo; first | (rw [if_pos (by omega)]; done) | (rw [if_neg (by omega)]; done))
    have eH : mnHi μ xv xkind xhigh = (turn (vod μ (vvw μ xv)) xhigh) := by (unfold mnHi; first | (rw [if_pos (by omega)]; done) | (rw [if_neg (by omega)]; done))
    unfold jR_narrowView; rw [if_pos (by omega), if_neg eN, eL, eH]), O, G, MP_eq hC (by 
    have eN : ¬ (mnRef μ xv xkind xlow xhigh = 1) := by (unfold mnRef; (repeat' split) <;> first | rfl | omega)
    have eL : mnLo μ xv xkind xlow = (vvl μ xv) := by (unfold mnLo; first | (rw [if_pos (by omega)]; done) | (rw [if_neg (by omega)]; done))
    have eH : mnHi μ xv xkind xhigh = (turn (vod μ (vvw μ xv)) xhigh) := by (unfold mnHi; first | (rw [if_pos (by omega)]; done) | (rw [if_neg (by omega)]; done))
    have lt_ := ltR_d (inR xv 0 1) 1; 
    unfold jS_narrowView; rw [if_pos (by omega), if_pos (by omega), if_neg eN, eL, eH, show ltR (inR xv 0 1) 1 = 0 by omega]; first | (exfalso; omega) | (rw [if_pos (by omega)]; done) | (rw [if_neg (by omega), if_pos (by omega)]; done) | (rw [if_neg (by omega), if_neg (by omega)]; done)), rfl, Ext0 hO⟩)
                · refine lv_aload_n hx hb dX6_narrowView_108 rfl (lv_at hl 1 rfl) ?_
                  refine q_get C0 iX6 hP hC.1.1 hC.1.2 rfl 3 (by decide) flX6_21 rfl (v := .ref ((uaf G))) rfl dX6_narrowView_109 ?_
                  refine lv_iload_n hx hb dX6_narrowView_112 rfl (lv_at hl 2 rfl) ?_
                  refine lv_aload hx hb dX6_narrowView_113 (lv_at hl 0 rfl) ?_
                  refine lv_iload_n hx hb dX6_narrowView_115 rfl (lv_at hl 4 rfl) ?_
                  refine q_vS C0 lX6_93 (c_X5_rank l D y L F22 (urh G (vvw μ xv)) (urw G (vvw μ xv)) (vod μ (vvw μ xv)) (vst μ (vvw μ xv)) xlow (MP_r hC (hW.2.2.1 xv)) (by omega)) ⟨rfl, rfl⟩ rfl hP (MP_r hC (hW.2.2.1 xv)).1 (MP_r hC (hW.2.2.1 xv)).2.1 rfl rfl rfl hl rfl (Nat.le_of_ble_eq_true rfl) dX6_narrowView_116 ⟨Nat.zero_le _, Nat.zero_le _⟩ (fun r35 e_r35 => ?_)
                  subst e_r35
                  have b_36 := @turn_b (vod μ (vvw μ xv)) xlow (by omega)
                  refine q_iast C0 hP hD hS hC.2.2.2.2.1.1 hC.2.2.2.2.1.2 (i := xv) (v := (turn (vod μ (vvw μ xv)) xlow)) (by omega) (by decide) dX6_narrowView_119 (fun H locs hP hD hS => ?_)
                  obtain ⟨F37, eF37⟩ : ∃ z, z = va_up F22 (uaf G) (arrI (y 0) 2 (iu (vvl μ) xv (turn (vod μ (vvw μ xv)) xlow))) := ⟨_, rfl⟩
                  have hP : va_P D vwCl (va_pl L F37) H := by rw [eF37]; exact hP
                  have hD : va_D (AL L sz) (va_pl L F37) := by rw [eF37]; exact hD
                  have hO : OE O F F37 := by rw [eF37]; exact hO.tr (OE1 (MP_O hC).2.2.2.2.1)
                  have hC : MP y L F37 O G (tVl (tTh μ (ltR (inR xv 0 1) 1)) xv (turn (vod μ (vvw μ xv)) xlow)) := by rw [eF37]; exact MP_vl hC (va_up_self _ _ _) (fun q hq => va_up_ne _ _ hq)
                  refine lv_iload_n hx hb dX6_narrowView_120 rfl (lv_at hl 3 rfl) ?_
                  refine q_iconst hx hb dX6_narrowView_121 ?_
                  refine q_icmp_eq hx hb dX6_narrowView_122 (tgt := 138) (by decide) (by omega) (by omega) (fun c38 => ?_) (fun c38 => ?_)
                  · refine lv_aload_n hx hb dX6_narrowView_138 rfl (lv_at hl 1 rfl) ?_
                    refine lv_iload_n hx hb dX6_narrowView_139 rfl (lv_at hl 2 rfl) ?_
                    refine q_vS C0 lX6_171 (c_X6_seen l D y L F37 O G (tVl (tTh μ (ltR (inR xv 0 1) 1)) xv (turn (vod μ (vvw μ xv)) xlow)) xv hC (by omega) (by rw [show vvw (tVl (tTh μ (ltR (inR xv 0 1) 1)) xv (turn (vod μ (vvw μ xv)) xlow)) xv = vvw μ xv from (by first | rfl | exact iu_s _ _ _)]; exact (hW.2.2.1 xv)) (by rw [show vvl (tVl (tTh μ (ltR (inR xv 0 1) 1)) xv (turn (vod μ (vvw μ xv)) xlow)) xv = (turn (vod μ (vvw μ xv)) xlow) from (by first | rfl | exact iu_s _ _ _)]; omega) (by rw [show vvh (tVl (tTh μ (ltR (inR xv 0 1) 1)) xv (turn (vod μ (vvw μ xv)) xlow)) xv = vvh μ xv from (by first | rfl | exact iu_s _ _ _)]; omega)) ⟨rfl, rfl⟩ rfl hP hC.1.1 hC.1.2 rfl rfl rfl hl rfl (Nat.le_of_ble_eq_true rfl) dX6_narrowView_140 ⟨Nat.zero_le _, Nat.zero_le _⟩ (fun r39 e_r39 => ?_)
                    replace e_r39 : r39 = cntP (vst μ (vvw μ xv)) (turn (vod μ (vvw μ xv)) xlow) (vvh μ xv) := e_r39.trans (by first | rfl | (rw [show vvw (tVl (tTh μ (ltR (inR xv 0 1) 1)) xv (turn (vod μ (vvw μ xv)) xlow)) xv = vvw μ xv from (by first | rfl | exact iu_s _ _ _), show vvl (tVl (tTh μ (ltR (inR xv 0 1) 1)) xv (turn (vod μ (vvw μ xv)) xlow)) xv = (turn (vod μ (vvw μ xv)) xlow) from (by first | rfl | exact iu_s _ _ _), show vvh (tVl (tTh μ (ltR (inR xv 0 1) 1)) xv (turn (vod μ (vvw μ xv)) xlow)) xv = vvh μ xv from (by first | rfl | exact iu_s _ _ _)]; done) | (rw [show vvw (tVl (tTh μ (ltR (inR xv 0 1) 1)) xv (turn (vod μ (vvw μ xv)) xlow)) xv = vvw μ xv from (by first | rfl | exact iu_s _ _ _), show vvl (tVl (tTh μ (ltR (inR xv 0 1) 1)) xv (turn (vod μ (vvw μ xv)) xlow)) xv = (turn (vod μ (vvw μ xv)) xlow) from (by first | rfl | exact iu_s _ _ _), show vvh (tVl (tTh μ (ltR (inR xv 0 1) 1)) xv (turn (vod μ (vvw μ xv)) xlow)) xv = vvh μ xv from (by first | rfl | exact iu_s _ _ _)]; rfl))
                    subst e_r39
                    exact q_retMi C0 hret rfl hlk dX6_narrowView_143 hP hD hS (⟨(by 
    have eN : ¬ (mnRef μ xv xkind xlow xhigh = 1) := by (unfold mnRef; (repeat' split) <;> first | rfl | omega)
    have eL : mnLo μ xv xkind xlow = (turn (vod μ (vvw μ xv)) xlow) := by (unfold mnLo; first | (rw [if_pos (by omega)]; done) | (rw [if_neg (by omega)]; done))
    have eH : mnHi μ xv xkind xhigh = (vvh μ xv) := by (unfold mnHi; first | (rw [if_pos (by omega)]; done) | (rw [if_neg (by omega)]; done))
    unfold jR_narrowView; rw [if_pos (by omega), if_neg eN, eL, eH]), O, G, MP_eq hC (by 
    have eN : ¬ (mnRef μ xv xkind xlow xhigh = 1) := by (unfold mnRef; (repeat' split) <;> first | rfl | omega)
    have eL : mnLo μ xv xkind xlow = (turn (vod μ (vvw μ xv)) xlow) := by (unfold mnLo; first | (rw [if_pos (by omega)]; done) | (rw [if_neg (by omega)]; done))
    have eH : mnHi μ xv xkind xhigh = (vvh μ xv) := by (unfold mnHi; first | (rw [if_pos (by omega)]; done) | (rw [if_neg (by omega)]; done))
    have lt_ := ltR_d (inR xv 0 1) 1; 
    unfold jS_narrowView; rw [if_pos (by omega), if_pos (by omega), if_neg eN, eL, eH, show ltR (inR xv 0 1) 1 = 0 by omega]; first | (exfalso; omega) | (rw [if_pos (by omega)]; done) | (rw [if_neg (by omega), if_pos (by omega)]; done) | (rw [if_neg (by omega), if_neg (by omega)]; done)), rfl, Ext0 hO⟩)
                  · refine lv_aload_n hx hb dX6_narrowView_125 rfl (lv_at hl 1 rfl) ?_
                    refine q_get C0 iX6 hP hC.1.1 hC.1.2 rfl 4 (by decide) flX6_25 rfl (v := .ref ((uat G))) rfl dX6_narrowView_126 ?_
                    refine lv_iload_n hx hb dX6_narrowView_129 rfl (lv_at hl 2 rfl) ?_
                    refine lv_aload hx hb dX6_narrowView_130 (lv_at hl 0 rfl) ?_
                    refine lv_iload hx hb dX6_narrowView_132 (lv_at hl 5 rfl) ?_
                    refine q_vS C0 lX6_93 (c_X5_rank l D y L F37 (urh G (vvw μ xv)) (urw G (vvw μ xv)) (vod μ (vvw μ xv)) (vst μ (vvw μ xv)) xhigh (MP_r hC (hW.2.2.1 xv)) (by omega)) ⟨rfl, rfl⟩ rfl hP (MP_r hC (hW.2.2.1 xv)).1 (MP_r hC (hW.2.2.1 xv)).2.1 rfl rfl rfl hl rfl (Nat.le_of_ble_eq_true rfl) dX6_narrowView_134 ⟨Nat.zero_le _, Nat.zero_le _⟩ (fun r40 e_r40 => ?_)
                    subst e_r40
                    have b_41 := @turn_b (vod μ (vvw μ xv)) xhigh (by omega)
                    refine q_iast C0 hP hD hS hC.2.2.2.2.2.1.1 hC.2.2.2.2.2.1.2 (i := xv) (v := (turn (vod μ (vvw μ xv)) xhigh)) (by omega) (by decide) dX6_narrowView_137 (fun H locs hP hD hS => ?_)
                    obtain ⟨F42, eF42⟩ : ∃ z, z = va_up F37 (uat G) (arrI (y 0) 2 (iu (vvh μ) xv (turn (vod μ (vvw μ xv)) xhigh))) := ⟨_, rfl⟩
                    have hP : va_P D vwCl (va_pl L F42) H := by rw [eF42]; exact hP
                    have hD : va_D (AL L sz) (va_pl L F42) := by rw [eF42]; exact hD
                    have hO : OE O F F42 := by rw [eF42]; exact hO.tr (OE1 (MP_O hC).2.2.2.2.2.1)
                    have hC : MP y L F42 O G (tVh (tVl (tTh μ (ltR (inR xv 0 1) 1)) xv (turn (vod μ (vvw μ xv)) xlow)) xv (turn (vod μ (vvw μ xv)) xhigh)) := by rw [eF42]; exact MP_vh hC (va_up_self _ _ _) (fun q hq => va_up_ne _ _ hq)
                    refine lv_aload_n hx hb dX6_narrowView_138 rfl (lv_at hl 1 rfl) ?_
                    refine lv_iload_n hx hb dX6_narrowView_139 rfl (lv_at hl 2 rfl) ?_
                    refine q_vS C0 lX6_171 (c_X6_seen l D y L F42 O G (tVh (tVl (tTh μ (ltR (inR xv 0 1) 1)) xv (turn (vod μ (vvw μ xv)) xlow)) xv (turn (vod μ (vvw μ xv)) xhigh)) xv hC (by omega) (by rw [show vvw (tVh (tVl (tTh μ (ltR (inR xv 0 1) 1)) xv (turn (vod μ (vvw μ xv)) xlow)) xv (turn (vod μ (vvw μ xv)) xhigh)) xv = vvw μ xv from (by first | rfl | exact iu_s _ _ _)]; exact (hW.2.2.1 xv)) (by rw [show vvl (tVh (tVl (tTh μ (ltR (inR xv 0 1) 1)) xv (turn (vod μ (vvw μ xv)) xlow)) xv (turn (vod μ (vvw μ xv)) xhigh)) xv = (turn (vod μ (vvw μ xv)) xlow) from (by first | rfl | exact iu_s _ _ _)]; omega) (by rw [show vvh (tVh (tVl (tTh μ (ltR (inR xv 0 1) 1)) xv (turn (vod μ (vvw μ xv)) xlow)) xv (turn (vod μ (vvw μ xv)) xhigh)) xv = (turn (vod μ (vvw μ xv)) xhigh) from (by first | rfl | exact iu_s _ _ _)]; omega)) ⟨rfl, rfl⟩ rfl hP hC.1.1 hC.1.2 rfl rfl rfl hl rfl (Nat.le_of_ble_eq_true rfl) dX6_narrowView_140 ⟨Nat.zero_le _, Nat.zero_le _⟩ (fun r43 e_r43 => ?_)
                    replace e_r43 : r43 = cntP (vst μ (vvw μ xv)) (turn (vod μ (vvw μ xv)) xlow) (turn (vod μ (vvw μ xv)) xhigh) := e_r43.trans (by first | rfl | (rw [show vvw (tVh (tVl (tTh μ (ltR (inR xv 0 1) 1)) xv (turn (vod μ (vvw μ xv)) xlow)) xv (turn (vod μ (vvw μ xv)) xhigh)) xv = vvw μ xv from (by first | rfl | exact iu_s _ _ _), show vvl (tVh (tVl (tTh μ (ltR (inR xv 0 1) 1)) xv (turn (vod μ (vvw μ xv)) xlow)) xv (turn (vod μ (vvw μ xv)) xhigh)) xv = (turn (vod μ (vvw μ xv)) xlow) from (by first | rfl | exact iu_s _ _ _), show vvh (tVh (tVl (tTh μ (ltR (inR xv 0 1) 1)) xv (turn (vod μ (vvw μ xv)) xlow)) xv (turn (vod μ (vvw μ xv)) xhigh)) xv = (turn (vod μ (vvw μ xv)) xhigh) from (by first | rfl | exact iu_s _ _ _)]; done) | (rw [show vvw (tVh (tVl (tTh μ (ltR (inR xv 0 1) 1)) xv (turn (vod μ (vvw μ xv)) xlow)) xv (turn (vod μ (vvw μ xv)) xhigh)) xv = vvw μ xv from (by first | rfl | exact iu_s _ _ _), show vvl (tVh (tVl (tTh μ (ltR (inR xv 0 1) 1)) xv (turn (vod μ (vvw μ xv)) xlow)) xv (turn (vod μ (vvw μ xv)) xhigh)) xv = (turn (vod μ (vvw μ xv)) xlow) from (by first | rfl | exact iu_s _ _ _), show vvh (tVh (tVl (tTh μ (ltR (inR xv 0 1) 1)) xv (turn (vod μ (vvw μ xv)) xlow)) xv (turn (vod μ (vvw μ xv)) xhigh)) xv = (turn (vod μ (vvw μ xv)) xhigh) from (by first | rfl | exact iu_s _ _ _)]; rfl))
                    subst e_r43
                    exact q_retMi C0 hret rfl hlk dX6_narrowView_143 hP hD hS (⟨(by 
    have eN : ¬ (mnRef μ xv xkind xlow xhigh = 1) := by (unfold mnRef; (repeat' split) <;> first | rfl | omega)
    have eL : mnLo μ xv xkind xlow = (turn (vod μ (vvw μ xv)) xlow) := by (unfold mnLo; first | (rw [if_pos (by omega)]; done) | (rw [if_neg (by omega)]; done))
    have eH : mnHi μ xv xkind xhigh = (turn (vod μ (vvw μ xv)) xhigh) := by (unfold mnHi; first | (rw [if_pos (by omega)]; done) | (rw [if_neg (by omega)]; done))
    unfold jR_narrowView; rw [if_pos (by omega), if_neg eN, eL, eH]), O, G, MP_eq hC (by 
    have eN : ¬ (mnRef μ xv xkind xlow xhigh = 1) := by (unfold mnRef; (repeat' split) <;> first | rfl | omega)
    have eL : mnLo μ xv xkind xlow = (turn (vod μ (vvw μ xv)) xlow) := by (unfold mnLo; first | (rw [if_pos (by omega)]; done) | (rw [if_neg (by omega)]; done))
    have eH : mnHi μ xv xkind xhigh = (turn (vod μ (vvw μ xv)) xhigh) := by (unfold mnHi; first | (rw [if_pos (by omega)]; done) | (rw [if_neg (by omega)]; done))
    have lt_ := ltR_d (inR xv 0 1) 1; 
    unfold jS_narrowView; rw [if_pos (by omega), if_pos (by omega), if_neg eN, eL, eH, show ltR (inR xv 0 1) 1 = 0 by omega]; first | (exfalso; omega) | (rw [if_pos (by omega)]; done) | (rw [if_neg (by omega), if_pos (by omega)]; done) | (rw [if_neg (by omega), if_neg (by omega)]; done)), rfl, Ext0 hO⟩)
              · refine lv_aload hx hb dX6_narrowView_83 (lv_at hl 0 rfl) ?_
                refine lv_iload_n hx hb dX6_narrowView_85 rfl (lv_at hl 4 rfl) ?_
                refine q_vS C0 lX6_93 (c_X5_rank l D y L F22 (urh G (vvw μ xv)) (urw G (vvw μ xv)) (vod μ (vvw μ xv)) (vst μ (vvw μ xv)) xlow (MP_r hC (hW.2.2.1 xv)) (by omega)) ⟨rfl, rfl⟩ rfl hP (MP_r hC (hW.2.2.1 xv)).1 (MP_r hC (hW.2.2.1 xv)).2.1 rfl rfl rfl hl rfl (Nat.le_of_ble_eq_true rfl) dX6_narrowView_86 ⟨Nat.zero_le _, Nat.zero_le _⟩ (fun r44 e_r44 => ?_)
                subst e_r44
                have b_45 := @turn_b (vod μ (vvw μ xv)) xlow (by omega)
                refine lv_aload hx hb dX6_narrowView_89 (lv_at hl 0 rfl) ?_
                refine lv_iload hx hb dX6_narrowView_91 (lv_at hl 5 rfl) ?_
                refine q_vS C0 lX6_93 (c_X5_rank l D y L F22 (urh G (vvw μ xv)) (urw G (vvw μ xv)) (vod μ (vvw μ xv)) (vst μ (vvw μ xv)) xhigh (MP_r hC (hW.2.2.1 xv)) (by omega)) ⟨rfl, rfl⟩ rfl hP (MP_r hC (hW.2.2.1 xv)).1 (MP_r hC (hW.2.2.1 xv)).2.1 rfl rfl rfl hl rfl (Nat.le_of_ble_eq_true rfl) dX6_narrowView_93 ⟨Nat.zero_le _, Nat.zero_le _⟩ (fun r46 e_r46 => ?_)
                subst e_r46
                have b_47 := @turn_b (vod μ (vvw μ xv)) xhigh (by omega)
                refine q_icmp_le hx hb dX6_narrowView_96 (tgt := 104) (by decide) (by omega) (by omega) (fun c48 => ?_) (fun c48 => ?_)
                · refine lv_iload_n hx hb dX6_narrowView_104 rfl (lv_at hl 3 rfl) ?_
                  refine q_if_le hx hb dX6_narrowView_105 (tgt := 120) (by decide) (by omega) (fun c49 => ?_) (fun c49 => ?_)
                  · refine lv_iload_n hx hb dX6_narrowView_120 rfl (lv_at hl 3 rfl) ?_
                    refine q_iconst hx hb dX6_narrowView_121 ?_
                    refine q_icmp_eq hx hb dX6_narrowView_122 (tgt := 138) (by decide) (by omega) (by omega) (fun c50 => ?_) (fun c50 => ?_)
                    · refine lv_aload_n hx hb dX6_narrowView_138 rfl (lv_at hl 1 rfl) ?_
                      refine lv_iload_n hx hb dX6_narrowView_139 rfl (lv_at hl 2 rfl) ?_
                      refine q_vS C0 lX6_171 (c_X6_seen l D y L F22 O G (tTh μ (ltR (inR xv 0 1) 1)) xv hC (by omega) (hW.2.2.1 xv) ⟨(hW.2.2.2.2.1 xv).1, (hW.2.2.2.2.1 xv).2.1⟩ (hW.2.2.2.2.1 xv).2.2) ⟨rfl, rfl⟩ rfl hP hC.1.1 hC.1.2 rfl rfl rfl hl rfl (Nat.le_of_ble_eq_true rfl) dX6_narrowView_140 ⟨Nat.zero_le _, Nat.zero_le _⟩ (fun r51 e_r51 => ?_)
                      replace e_r51 : r51 = cntP (vst μ (vvw μ xv)) (vvl μ xv) (vvh μ xv) := e_r51.trans (by first | rfl | (rw [show vvw (tTh μ (ltR (inR xv 0 1) 1)) xv = vvw μ xv from (by first | rfl | exact iu_s _ _ _), show vvl (tTh μ (ltR (inR xv 0 1) 1)) xv = vvl μ xv from (by first | rfl | exact iu_s _ _ _), show vvh (tTh μ (ltR (inR xv 0 1) 1)) xv = vvh μ xv from (by first | rfl | exact iu_s _ _ _)]; done) | (rw [show vvw (tTh μ (ltR (inR xv 0 1) 1)) xv = vvw μ xv from (by first | rfl | exact iu_s _ _ _), show vvl (tTh μ (ltR (inR xv 0 1) 1)) xv = vvl μ xv from (by first | rfl | exact iu_s _ _ _), show vvh (tTh μ (ltR (inR xv 0 1) 1)) xv = vvh μ xv from (by first | rfl | exact iu_s _ _ _)]; rfl))
                      subst e_r51
                      exact q_retMi C0 hret rfl hlk dX6_narrowView_143 hP hD hS (⟨(by 
    have eN : ¬ (mnRef μ xv xkind xlow xhigh = 1) := by (unfold mnRef; (repeat' split) <;> first | rfl | omega)
    have eL : mnLo μ xv xkind xlow = (vvl μ xv) := by (unfold mnLo; first | (rw [if_pos (by omega)]; done) | (rw [if_neg (by omega)]; done))
    have eH : mnHi μ xv xkind xhigh = (vvh μ xv) := by (unfold mnHi; first | (rw [if_pos (by omega)]; done) | (rw [if_neg (by omega)]; done))
    unfold jR_narrowView; rw [if_pos (by omega), if_neg eN, eL, eH]), O, G, MP_eq hC (by 
    have eN : ¬ (mnRef μ xv xkind xlow xhigh = 1) := by (unfold mnRef; (repeat' split) <;> first | rfl | omega)
    have eL : mnLo μ xv xkind xlow = (vvl μ xv) := by (unfold mnLo; first | (rw [if_pos (by omega)]; done) | (rw [if_neg (by omega)]; done))
    have eH : mnHi μ xv xkind xhigh = (vvh μ xv) := by (unfold mnHi; first | (rw [if_pos (by omega)]; done) | (rw [if_neg (by omega)]; done))
    have lt_ := ltR_d (inR xv 0 1) 1; 
    unfold jS_narrowView; rw [if_pos (by omega), if_pos (by omega), if_neg eN, eL, eH, show ltR (inR xv 0 1) 1 = 0 by omega]; first | (exfalso; omega) | (rw [if_pos (by omega)]; done) | (rw [if_neg (by omega), if_pos (by omega)]; done) | (rw [if_neg (by omega), if_neg (by omega)]; done)), rfl, Ext0 hO⟩)
                    · refine lv_aload_n hx hb dX6_narrowView_125 rfl (lv_at hl 1 rfl) ?_
                      refine q_get C0 iX6 hP hC.1.1 hC.1.2 rfl 4 (by decide) flX6_25 rfl (v := .ref ((uat G))) rfl dX6_narrowView_126 ?_
                      refine lv_iload_n hx hb dX6_narrowView_129 rfl (lv_at hl 2 rfl) ?_
                      refine lv_aload hx hb dX6_narrowView_130 (lv_at hl 0 rfl) ?_
                      refine lv_iload hx hb dX6_narrowView_132 (lv_at hl 5 rfl) ?_
                      refine q_vS C0 lX6_93 (c_X5_rank l D y L F22 (urh G (vvw μ xv)) (urw G (vvw μ xv)) (vod μ (vvw μ xv)) (vst μ (vvw μ xv)) xhigh (MP_r hC (hW.2.2.1 xv)) (by omega)) ⟨rfl, rfl⟩ rfl hP (MP_r hC (hW.2.2.1 xv)).1 (MP_r hC (hW.2.2.1 xv)).2.1 rfl rfl rfl hl rfl (Nat.le_of_ble_eq_true rfl) dX6_narrowView_134 ⟨Nat.zero_le _, Nat.zero_le _⟩ (fun r52 e_r52 => ?_)
                      subst e_r52
                      have b_53 := @turn_b (vod μ (vvw μ xv)) xhigh (by omega)
                      refine q_iast C0 hP hD hS hC.2.2.2.2.2.1.1 hC.2.2.2.2.2.1.2 (i := xv) (v := (turn (vod μ (vvw μ xv)) xhigh)) (by omega) (by decide) dX6_narrowView_137 (fun H locs hP hD hS => ?_)
                      obtain ⟨F54, eF54⟩ : ∃ z, z = va_up F22 (uat G) (arrI (y 0) 2 (iu (vvh μ) xv (turn (vod μ (vvw μ xv)) xhigh))) := ⟨_, rfl⟩
                      have hP : va_P D vwCl (va_pl L F54) H := by rw [eF54]; exact hP
                      have hD : va_D (AL L sz) (va_pl L F54) := by rw [eF54]; exact hD
                      have hO : OE O F F54 := by rw [eF54]; exact hO.tr (OE1 (MP_O hC).2.2.2.2.2.1)
                      have hC : MP y L F54 O G (tVh (tTh μ (ltR (inR xv 0 1) 1)) xv (turn (vod μ (vvw μ xv)) xhigh)) := by rw [eF54]; exact MP_vh hC (va_up_self _ _ _) (fun q hq => va_up_ne _ _ hq)
                      refine lv_aload_n hx hb dX6_narrowView_138 rfl (lv_at hl 1 rfl) ?_
                      refine lv_iload_n hx hb dX6_narrowView_139 rfl (lv_at hl 2 rfl) ?_
                      refine q_vS C0 lX6_171 (c_X6_seen l D y L F54 O G (tVh (tTh μ (ltR (inR xv 0 1) 1)) xv (turn (vod μ (vvw μ xv)) xhigh)) xv hC (by omega) (by rw [show vvw (tVh (tTh μ (ltR (inR xv 0 1) 1)) xv (turn (vod μ (vvw μ xv)) xhigh)) xv = vvw μ xv from (by first | rfl | exact iu_s _ _ _)]; exact (hW.2.2.1 xv)) (by rw [show vvl (tVh (tTh μ (ltR (inR xv 0 1) 1)) xv (turn (vod μ (vvw μ xv)) xhigh)) xv = vvl μ xv from (by first | rfl | exact iu_s _ _ _)]; omega) (by rw [show vvh (tVh (tTh μ (ltR (inR xv 0 1) 1)) xv (turn (vod μ (vvw μ xv)) xhigh)) xv = (turn (vod μ (vvw μ xv)) xhigh) from (by first | rfl | exact iu_s _ _ _)]; omega)) ⟨rfl, rfl⟩ rfl hP hC.1.1 hC.1.2 rfl rfl rfl hl rfl (Nat.le_of_ble_eq_true rfl) dX6_narrowView_140 ⟨Nat.zero_le _, Nat.zero_le _⟩ (fun r55 e_r55 => ?_)
                      replace e_r55 : r55 = cntP (vst μ (vvw μ xv)) (vvl μ xv) (turn (vod μ (vvw μ xv)) xhigh) := e_r55.trans (by first | rfl | (rw [show vvw (tVh (tTh μ (ltR (inR xv 0 1) 1)) xv (turn (vod μ (vvw μ xv)) xhigh)) xv = vvw μ xv from (by first | rfl | exact iu_s _ _ _), show vvl (tVh (tTh μ (ltR (inR xv 0 1) 1)) xv (turn (vod μ (vvw μ xv)) xhigh)) xv = vvl μ xv from (by first | rfl | exact iu_s _ _ _), show vvh (tVh (tTh μ (ltR (inR xv 0 1) 1)) xv (turn (vod μ (vvw μ xv)) xhigh)) xv = (turn (vod μ (vvw μ xv)) xhigh) from (by first | rfl | exact iu_s _ _ _)]; done) | (rw [show vvw (tVh (tTh μ (ltR (inR xv 0 1) 1)) xv (turn (vod μ (vvw μ xv)) xhigh)) xv = vvw μ xv from (by first | rfl | exact iu_s _ _ _), show vvl (tVh (tTh μ (ltR (inR xv 0 1) 1)) xv (turn (vod μ (vvw μ xv)) xhigh)) xv = vvl μ xv from (by first | rfl | exact iu_s _ _ _), show vvh (tVh (tTh μ (ltR (inR xv 0 1) 1)) xv (turn (vod μ (vvw μ xv)) xhigh)) xv = (turn (vod μ (vvw μ xv)) xhigh) from (by first | rfl | exact iu_s _ _ _)]; rfl))
                      subst e_r55
                      exact q_retMi C0 hret rfl hlk dX6_narrowView_143 hP hD hS (⟨(by 
    have eN : ¬ (mnRef μ xv xkind xlow xhigh = 1) := by (unfold mnRef; (repeat' split) <;> first | rfl | omega)
    have eL : mnLo μ xv xkind xlow = (vvl μ xv) := by (unfold mnLo; first | (rw [if_pos (by omega)]; done) | (rw [if_neg (by omega)]; done))
    have eH : mnHi μ xv xkind xhigh = (turn (vod μ (vvw μ xv)) xhigh) := by (unfold mnHi; first | (rw [if_pos (by omega)]; done) | (rw [if_neg (by omega)]; done))
    unfold jR_narrowView; rw [if_pos (by omega), if_neg eN, eL, eH]), O, G, MP_eq hC (by 
    have eN : ¬ (mnRef μ xv xkind xlow xhigh = 1) := by (unfold mnRef; (repeat' split) <;> first | rfl | omega)
    have eL : mnLo μ xv xkind xlow = (vvl μ xv) := by (unfold mnLo; first | (rw [if_pos (by omega)]; done) | (rw [if_neg (by omega)]; done))
    have eH : mnHi μ xv xkind xhigh = (turn (vod μ (vvw μ xv)) xhigh) := by (unfold mnHi; first | (rw [if_pos (by omega)]; done) | (rw [if_neg (by omega)]; done))
    have lt_ := ltR_d (inR xv 0 1) 1; 
    unfold jS_narrowView; rw [if_pos (by omega), if_pos (by omega), if_neg eN, eL, eH, show ltR (inR xv 0 1) 1 = 0 by omega]; first | (exfalso; omega) | (rw [if_pos (by omega)]; done) | (rw [if_neg (by omega), if_pos (by omega)]; done) | (rw [if_neg (by omega), if_neg (by omega)]; done)), rfl, Ext0 hO⟩)
                  · refine lv_aload_n hx hb dX6_narrowView_108 rfl (lv_at hl 1 rfl) ?_
                    refine q_get C0 iX6 hP hC.1.1 hC.1.2 rfl 3 (by decide) flX6_21 rfl (v := .ref ((uaf G))) rfl dX6_narrowView_109 ?_
                    refine lv_iload_n hx hb dX6_narrowView_112 rfl (lv_at hl 2 rfl) ?_
                    refine lv_aload hx hb dX6_narrowView_113 (lv_at hl 0 rfl) ?_
                    refine lv_iload_n hx hb dX6_narrowView_115 rfl (lv_at hl 4 rfl) ?_
                    refine q_vS C0 lX6_93 (c_X5_rank l D y L F22 (urh G (vvw μ xv)) (urw G (vvw μ xv)) (vod μ (vvw μ xv)) (vst μ (vvw μ xv)) xlow (MP_r hC (hW.2.2.1 xv)) (by omega)) ⟨rfl, rfl⟩ rfl hP (MP_r hC (hW.2.2.1 xv)).1 (MP_r hC (hW.2.2.1 xv)).2.1 rfl rfl rfl hl rfl (Nat.le_of_ble_eq_true rfl) dX6_narrowView_116 ⟨Nat.zero_le _, Nat.zero_le _⟩ (fun r56 e_r56 => ?_)
                    subst e_r56
                    have b_57 := @turn_b (vod μ (vvw μ xv)) xlow (by omega)
                    refine q_iast C0 hP hD hS hC.2.2.2.2.1.1 hC.2.2.2.2.1.2 (i := xv) (v := (turn (vod μ (vvw μ xv)) xlow)) (by omega) (by decide) dX6_narrowView_119 (fun H locs hP hD hS => ?_)
                    obtain ⟨F58, eF58⟩ : ∃ z, z = va_up F22 (uaf G) (arrI (y 0) 2 (iu (vvl μ) xv (turn (vod μ (vvw μ xv)) xlow))) := ⟨_, rfl⟩
                    have hP : va_P D vwCl (va_pl L F58) H := by rw [eF58]; exact hP
                    have hD : va_D (AL L sz) (va_pl L F58) := by rw [eF58]; exact hD
                    have hO : OE O F F58 := by rw [eF58]; exact hO.tr (OE1 (MP_O hC).2.2.2.2.1)
                    have hC : MP y L F58 O G (tVl (tTh μ (ltR (inR xv 0 1) 1)) xv (turn (vod μ (vvw μ xv)) xlow)) := by rw [eF58]; exact MP_vl hC (va_up_self _ _ _) (fun q hq => va_up_ne _ _ hq)
                    refine lv_iload_n hx hb dX6_narrowView_120 rfl (lv_at hl 3 rfl) ?_
                    refine q_iconst hx hb dX6_narrowView_121 ?_
                    refine q_icmp_eq hx hb dX6_narrowView_122 (tgt := 138) (by decide) (by omega) (by omega) (fun c59 => ?_) (fun c59 => ?_)
                    · refine lv_aload_n hx hb dX6_narrowView_138 rfl (lv_at hl 1 rfl) ?_
                      refine lv_iload_n hx hb dX6_narrowView_139 rfl (lv_at hl 2 rfl) ?_
                      refine q_vS C0 lX6_171 (c_X6_seen l D y L F58 O G (tVl (tTh μ (ltR (inR xv 0 1) 1)) xv (turn (vod μ (vvw μ xv)) xlow)) xv hC (by omega) (by rw [show vvw (tVl (tTh μ (ltR (inR xv 0 1) 1)) xv (turn (vod μ (vvw μ xv)) xlow)) xv = vvw μ xv from (by first | rfl | exact iu_s _ _ _)]; exact (hW.2.2.1 xv)) (by rw [show vvl (tVl (tTh μ (ltR (inR xv 0 1) 1)) xv (turn (vod μ (vvw μ xv)) xlow)) xv = (turn (vod μ (vvw μ xv)) xlow) from (by first | rfl | exact iu_s _ _ _)]; omega) (by rw [show vvh (tVl (tTh μ (ltR (inR xv 0 1) 1)) xv (turn (vod μ (vvw μ xv)) xlow)) xv = vvh μ xv from (by first | rfl | exact iu_s _ _ _)]; omega)) ⟨rfl, rfl⟩ rfl hP hC.1.1 hC.1.2 rfl rfl rfl hl rfl (Nat.le_of_ble_eq_true rfl) dX6_narrowView_140 ⟨Nat.zero_le _, Nat.zero_le _⟩ (fun r60 e_r60 => ?_)
                      replace e_r60 : r60 = cntP (vst μ (vvw μ xv)) (turn (vod μ (vvw μ xv)) xlow) (vvh μ xv) := e_r60.trans (by first | rfl | (rw [show vvw (tVl (tTh μ (ltR (inR xv 0 1) 1)) xv (turn (vod μ (vvw μ xv)) xlow)) xv = vvw μ xv from (by first | rfl | exact iu_s _ _ _), show vvl (tVl (tTh μ (ltR (inR xv 0 1) 1)) xv (turn (vod μ (vvw μ xv)) xlow)) xv = (turn (vod μ (vvw μ xv)) xlow) from (by first | rfl | exact iu_s _ _ _), show vvh (tVl (tTh μ (ltR (inR xv 0 1) 1)) xv (turn (vod μ (vvw μ xv)) xlow)) xv = vvh μ xv from (by first | rfl | exact iu_s _ _ _)]; done) | (rw [show vvw (tVl (tTh μ (ltR (inR xv 0 1) 1)) xv (turn (vod μ (vvw μ xv)) xlow)) xv = vvw μ xv from (by first | rfl | exact iu_s _ _ _), show vvl (tVl (tTh μ (ltR (inR xv 0 1) 1)) xv (turn (vod μ (vvw μ xv)) xlow)) xv = (turn (vod μ (vvw μ xv)) xlow) from (by first | rfl | exact iu_s _ _ _), show vvh (tVl (tTh μ (ltR (inR xv 0 1) 1)) xv (turn (vod μ (vvw μ xv)) xlow)) xv = vvh μ xv from (by first | rfl | exact iu_s _ _ _)]; rfl))
                      subst e_r60
                      exact q_retMi C0 hret rfl hlk dX6_narrowView_143 hP hD hS (⟨(by 
    have eN : ¬ (mnRef μ xv xkind xlow xhigh = 1) := by (unfold mnRef; (repeat' split) <;> first | rfl | omega)
    have eL : mnLo μ xv xkind xlow = (turn (vod μ (vvw μ xv)) xlow) := by (unfold mnLo; first | (rw [if_pos (by omega)]; done) | (rw [if_neg (by omega)]; done))
    have eH : mnHi μ xv xkind xhigh = (vvh μ xv) := by (unfold mnHi; first | (rw [if_pos (by omega)]; done) | (rw [if_neg (by omega)]; done))
    unfold jR_narrowView; rw [if_pos (by omega), if_neg eN, eL, eH]), O, G, MP_eq hC (by 
    have eN : ¬ (mnRef μ xv xkind xlow xhigh = 1) := by (unfold mnRef; (repeat' split) <;> first | rfl | omega)
    have eL : mnLo μ xv xkind xlow = (turn (vod μ (vvw μ xv)) xlow) := by (unfold mnLo; first | (rw [if_pos (by omega)]; done) | (rw [if_neg (by omega)]; done))
    have eH : mnHi μ xv xkind xhigh = (vvh μ xv) := by (unfold mnHi; first | (rw [if_pos (by omega)]; done) | (rw [if_neg (by omega)]; done))
    have lt_ := ltR_d (inR xv 0 1) 1; 
    unfold jS_narrowView; rw [if_pos (by omega), if_pos (by omega), if_neg eN, eL, eH, show ltR (inR xv 0 1) 1 = 0 by omega]; first | (exfalso; omega) | (rw [if_pos (by omega)]; done) | (rw [if_neg (by omega), if_pos (by omega)]; done) | (rw [if_neg (by omega), if_neg (by omega)]; done)), rfl, Ext0 hO⟩)
                    · refine lv_aload_n hx hb dX6_narrowView_125 rfl (lv_at hl 1 rfl) ?_
                      refine q_get C0 iX6 hP hC.1.1 hC.1.2 rfl 4 (by decide) flX6_25 rfl (v := .ref ((uat G))) rfl dX6_narrowView_126 ?_
                      refine lv_iload_n hx hb dX6_narrowView_129 rfl (lv_at hl 2 rfl) ?_
                      refine lv_aload hx hb dX6_narrowView_130 (lv_at hl 0 rfl) ?_
                      refine lv_iload hx hb dX6_narrowView_132 (lv_at hl 5 rfl) ?_
                      refine q_vS C0 lX6_93 (c_X5_rank l D y L F58 (urh G (vvw μ xv)) (urw G (vvw μ xv)) (vod μ (vvw μ xv)) (vst μ (vvw μ xv)) xhigh (MP_r hC (hW.2.2.1 xv)) (by omega)) ⟨rfl, rfl⟩ rfl hP (MP_r hC (hW.2.2.1 xv)).1 (MP_r hC (hW.2.2.1 xv)).2.1 rfl rfl rfl hl rfl (Nat.le_of_ble_eq_true rfl) dX6_narrowView_134 ⟨Nat.zero_le _, Nat.zero_le _⟩ (fun r61 e_r61 => ?_)
                      subst e_r61
                      have b_62 := @turn_b (vod μ (vvw μ xv)) xhigh (by omega)
                      refine q_iast C0 hP hD hS hC.2.2.2.2.2.1.1 hC.2.2.2.2.2.1.2 (i := xv) (v := (turn (vod μ (vvw μ xv)) xhigh)) (by omega) (by decide) dX6_narrowView_137 (fun H locs hP hD hS => ?_)
                      obtain ⟨F63, eF63⟩ : ∃ z, z = va_up F58 (uat G) (arrI (y 0) 2 (iu (vvh μ) xv (turn (vod μ (vvw μ xv)) xhigh))) := ⟨_, rfl⟩
                      have hP : va_P D vwCl (va_pl L F63) H := by rw [eF63]; exact hP
                      have hD : va_D (AL L sz) (va_pl L F63) := by rw [eF63]; exact hD
                      have hO : OE O F F63 := by rw [eF63]; exact hO.tr (OE1 (MP_O hC).2.2.2.2.2.1)
                      have hC : MP y L F63 O G (tVh (tVl (tTh μ (ltR (inR xv 0 1) 1)) xv (turn (vod μ (vvw μ xv)) xlow)) xv (turn (vod μ (vvw μ xv)) xhigh)) := by rw [eF63]; exact MP_vh hC (va_up_self _ _ _) (fun q hq => va_up_ne _ _ hq)
                      refine lv_aload_n hx hb dX6_narrowView_138 rfl (lv_at hl 1 rfl) ?_
                      refine lv_iload_n hx hb dX6_narrowView_139 rfl (lv_at hl 2 rfl) ?_
                      refine q_vS C0 lX6_171 (c_X6_seen l D y L F63 O G (tVh (tVl (tTh μ (ltR (inR xv 0 1) 1)) xv (turn (vod μ (vvw μ xv)) xlow)) xv (turn (vod μ (vvw μ xv)) xhigh)) xv hC (by omega) (by rw [show vvw (tVh (tVl (tTh μ (ltR (inR xv 0 1) 1)) xv (turn (vod μ (vvw μ xv)) xlow)) xv (turn (vod μ (vvw μ xv)) xhigh)) xv = vvw μ xv from (by first | rfl | exact iu_s _ _ _)]; exact (hW.2.2.1 xv)) (by rw [show vvl (tVh (tVl (tTh μ (ltR (inR xv 0 1) 1)) xv (turn (vod μ (vvw μ xv)) xlow)) xv (turn (vod μ (vvw μ xv)) xhigh)) xv = (turn (vod μ (vvw μ xv)) xlow) from (by first | rfl | exact iu_s _ _ _)]; omega) (by rw [show vvh (tVh (tVl (tTh μ (ltR (inR xv 0 1) 1)) xv (turn (vod μ (vvw μ xv)) xlow)) xv (turn (vod μ (vvw μ xv)) xhigh)) xv = (turn (vod μ (vvw μ xv)) xhigh) from (by first | rfl | exact iu_s _ _ _)]; omega)) ⟨rfl, rfl⟩ rfl hP hC.1.1 hC.1.2 rfl rfl rfl hl rfl (Nat.le_of_ble_eq_true rfl) dX6_narrowView_140 ⟨Nat.zero_le _, Nat.zero_le _⟩ (fun r64 e_r64 => ?_)
                      replace e_r64 : r64 = cntP (vst μ (vvw μ xv)) (turn (vod μ (vvw μ xv)) xlow) (turn (vod μ (vvw μ xv)) xhigh) := e_r64.trans (by first | rfl | (rw [show vvw (tVh (tVl (tTh μ (ltR (inR xv 0 1) 1)) xv (turn (vod μ (vvw μ xv)) xlow)) xv (turn (vod μ (vvw μ xv)) xhigh)) xv = vvw μ xv from (by first | rfl | exact iu_s _ _ _), show vvl (tVh (tVl (tTh μ (ltR (inR xv 0 1) 1)) xv (turn (vod μ (vvw μ xv)) xlow)) xv (turn (vod μ (vvw μ xv)) xhigh)) xv = (turn (vod μ (vvw μ xv)) xlow) from (by first | rfl | exact iu_s _ _ _), show vvh (tVh (tVl (tTh μ (ltR (inR xv 0 1) 1)) xv (turn (vod μ (vvw μ xv)) xlow)) xv (turn (vod μ (vvw μ xv)) xhigh)) xv = (turn (vod μ (vvw μ xv)) xhigh) from (by first | rfl | exact iu_s _ _ _)]; done) | (rw [show vvw (tVh (tVl (tTh μ (ltR (inR xv 0 1) 1)) xv (turn (vod μ (vvw μ xv)) xlow)) xv (turn (vod μ (vvw μ xv)) xhigh)) xv = vvw μ xv from (by first | rfl | exact iu_s _ _ _), show vvl (tVh (tVl (tTh μ (ltR (inR xv 0 1) 1)) xv (turn (vod μ (vvw μ xv)) xlow)) xv (turn (vod μ (vvw μ xv)) xhigh)) xv = (turn (vod μ (vvw μ xv)) xlow) from (by first | rfl | exact iu_s _ _ _), show vvh (tVh (tVl (tTh μ (ltR (inR xv 0 1) 1)) xv (turn (vod μ (vvw μ xv)) xlow)) xv (turn (vod μ (vvw μ xv)) xhigh)) xv = (turn (vod μ (vvw μ xv)) xhigh) from (by first | rfl | exact iu_s _ _ _)]; rfl))
                      subst e_r64
                      exact q_retMi C0 hret rfl hlk dX6_narrowView_143 hP hD hS (⟨(by 
    have eN : ¬ (mnRef μ xv xkind xlow xhigh = 1) := by (unfold mnRef; (repeat' split) <;> first | rfl | omega)
    have eL : mnLo μ xv xkind xlow = (turn (vod μ (vvw μ xv)) xlow) := by (unfold mnLo; first | (rw [if_pos (by omega)]; done) | (rw [if_neg (by omega)]; done))
    have eH : mnHi μ xv xkind xhigh = (turn (vod μ (vvw μ xv)) xhigh) := by (unfold mnHi; first | (rw [if_pos (by omega)]; done) | (rw [if_neg (by omega)]; done))
    unfold jR_narrowView; rw [if_pos (by omega), if_neg eN, eL, eH]), O, G, MP_eq hC (by 
    have eN : ¬ (mnRef μ xv xkind xlow xhigh = 1) := by (unfold mnRef; (repeat' split) <;> first | rfl | omega)
    have eL : mnLo μ xv xkind xlow = (turn (vod μ (vvw μ xv)) xlow) := by (unfold mnLo; first | (rw [if_pos (by omega)]; done) | (rw [if_neg (by omega)]; done))
    have eH : mnHi μ xv xkind xhigh = (turn (vod μ (vvw μ xv)) xhigh) := by (unfold mnHi; first | (rw [if_pos (by omega)]; done) | (rw [if_neg (by omega)]; done))
    have lt_ := ltR_d (inR xv 0 1) 1; 
    unfold jS_narrowView; rw [if_pos (by omega), if_pos (by omega), if_neg eN, eL, eH, show ltR (inR xv 0 1) 1 = 0 by omega]; first | (exfalso; omega) | (rw [if_pos (by omega)]; done) | (rw [if_neg (by omega), if_pos (by omega)]; done) | (rw [if_neg (by omega), if_neg (by omega)]; done)), rfl, Ext0 hO⟩)
                · refine lv_aload_n hx hb dX6_narrowView_99 rfl (lv_at hl 1 rfl) ?_
                  refine q_vMi C0 lX6_89 (c_X6_refuse l D y L F22 _ O G (tTh μ (ltR (inR xv 0 1) 1)) hC) ⟨rfl, rfl⟩ rfl hP hD hS hA hC.1.1 hC.1.2 rfl rfl rfl hl rfl (Nat.le_of_ble_eq_true rfl) dX6_narrowView_100 ⟨Nat.le_of_ble_eq_true rfl, Nat.le_of_ble_eq_true rfl⟩ (fun r65 H locs L66 F66 hP hD hS hz66 hp66 => ?_)
                  obtain ⟨eL, hC, er, hO1⟩ := hp66
                  subst eL
                  replace er : (-9) = r65 := er.symm
                  subst er
                  have hO := hO.tr hO1
                  exact q_retMi C0 hret rfl hlk dX6_narrowView_103 hP hD hS (⟨(by 
    have eN : mnRef μ xv xkind xlow xhigh = 1 := by (unfold mnRef; (repeat' split) <;> first | rfl | omega)
    unfold jR_narrowView; rw [if_pos (by omega), if_pos eN]), O, G, MP_eq hC (by 
    have eN : mnRef μ xv xkind xlow xhigh = 1 := by (unfold mnRef; (repeat' split) <;> first | rfl | omega)
    have lt_ := ltR_d (inR xv 0 1) 1; 
    unfold jS_narrowView; rw [if_pos (by omega), if_pos (by omega), if_pos eN, show ltR (inR xv 0 1) 1 = 0 by omega]), rfl, Ext0 hO⟩)
            · refine lv_aload_n hx hb dX6_narrowView_68 rfl (lv_at hl 1 rfl) ?_
              refine lv_iload_n hx hb dX6_narrowView_69 rfl (lv_at hl 2 rfl) ?_
              refine lv_iload hx hb dX6_narrowView_70 (lv_at hl 5 rfl) ?_
              refine q_vS C0 lX6_174 (c_X6_isWithin l D y L F22 O G (tTh μ (ltR (inR xv 0 1) 1)) xv xhigh hC (by omega) (hW.2.2.1 xv) ⟨(hW.2.2.2.2.1 xv).1, (hW.2.2.2.2.1 xv).2.1⟩ (hW.2.2.2.2.1 xv).2.2 (by omega)) ⟨rfl, rfl⟩ rfl hP hC.1.1 hC.1.2 rfl rfl rfl hl rfl (Nat.le_of_ble_eq_true rfl) dX6_narrowView_72 ⟨Nat.zero_le _, Nat.zero_le _⟩ (fun r67 e_r67 => ?_)
              replace e_r67 : r67 = inR (turn (vod μ (vvw μ xv)) xhigh) (vvl μ xv) (vvh μ xv) := e_r67.trans (by first | rfl | (rw [show vvw (tTh μ (ltR (inR xv 0 1) 1)) xv = vvw μ xv from (by first | rfl | exact iu_s _ _ _), show vvl (tTh μ (ltR (inR xv 0 1) 1)) xv = vvl μ xv from (by first | rfl | exact iu_s _ _ _), show vvh (tTh μ (ltR (inR xv 0 1) 1)) xv = vvh μ xv from (by first | rfl | exact iu_s _ _ _)]; done) | (rw [show vvw (tTh μ (ltR (inR xv 0 1) 1)) xv = vvw μ xv from (by first | rfl | exact iu_s _ _ _), show vvl (tTh μ (ltR (inR xv 0 1) 1)) xv = vvl μ xv from (by first | rfl | exact iu_s _ _ _), show vvh (tTh μ (ltR (inR xv 0 1) 1)) xv = vvh μ xv from (by first | rfl | exact iu_s _ _ _)]; rfl))
              subst e_r67
              have b_68 := inR_d (turn (vod μ (vvw μ xv)) xhigh) (vvl μ xv) (vvh μ xv)
              refine q_if_eq hx hb dX6_narrowView_75 (tgt := 99) (by decide) (by omega) (fun c69 => ?_) (fun c69 => ?_)
              · refine lv_aload_n hx hb dX6_narrowView_99 rfl (lv_at hl 1 rfl) ?_
                refine q_vMi C0 lX6_89 (c_X6_refuse l D y L F22 _ O G (tTh μ (ltR (inR xv 0 1) 1)) hC) ⟨rfl, rfl⟩ rfl hP hD hS hA hC.1.1 hC.1.2 rfl rfl rfl hl rfl (Nat.le_of_ble_eq_true rfl) dX6_narrowView_100 ⟨Nat.le_of_ble_eq_true rfl, Nat.le_of_ble_eq_true rfl⟩ (fun r70 H locs L71 F71 hP hD hS hz71 hp71 => ?_)
                obtain ⟨eL, hC, er, hO1⟩ := hp71
                subst eL
                replace er : (-9) = r70 := er.symm
                subst er
                have hO := hO.tr hO1
                exact q_retMi C0 hret rfl hlk dX6_narrowView_103 hP hD hS (⟨(by 
    have eN : mnRef μ xv xkind xlow xhigh = 1 := by (unfold mnRef; (repeat' split) <;> first | rfl | omega)
    unfold jR_narrowView; rw [if_pos (by omega), if_pos eN]), O, G, MP_eq hC (by 
    have eN : mnRef μ xv xkind xlow xhigh = 1 := by (unfold mnRef; (repeat' split) <;> first | rfl | omega)
    have lt_ := ltR_d (inR xv 0 1) 1; 
    unfold jS_narrowView; rw [if_pos (by omega), if_pos (by omega), if_pos eN, show ltR (inR xv 0 1) 1 = 0 by omega]), rfl, Ext0 hO⟩)
              · refine lv_iload_n hx hb dX6_narrowView_78 rfl (lv_at hl 3 rfl) ?_
                refine q_iconst hx hb dX6_narrowView_79 ?_
                refine q_icmp_ne hx hb dX6_narrowView_80 (tgt := 104) (by decide) (by omega) (by omega) (fun c72 => ?_) (fun c72 => ?_)
                · refine lv_iload_n hx hb dX6_narrowView_104 rfl (lv_at hl 3 rfl) ?_
                  refine q_if_le hx hb dX6_narrowView_105 (tgt := 120) (by decide) (by omega) (fun c73 => ?_) (fun c73 => ?_)
                  · refine lv_iload_n hx hb dX6_narrowView_120 rfl (lv_at hl 3 rfl) ?_
                    refine q_iconst hx hb dX6_narrowView_121 ?_
                    refine q_icmp_eq hx hb dX6_narrowView_122 (tgt := 138) (by decide) (by omega) (by omega) (fun c74 => ?_) (fun c74 => ?_)
                    · refine lv_aload_n hx hb dX6_narrowView_138 rfl (lv_at hl 1 rfl) ?_
                      refine lv_iload_n hx hb dX6_narrowView_139 rfl (lv_at hl 2 rfl) ?_
                      refine q_vS C0 lX6_171 (c_X6_seen l D y L F22 O G (tTh μ (ltR (inR xv 0 1) 1)) xv hC (by omega) (hW.2.2.1 xv) ⟨(hW.2.2.2.2.1 xv).1, (hW.2.2.2.2.1 xv).2.1⟩ (hW.2.2.2.2.1 xv).2.2) ⟨rfl, rfl⟩ rfl hP hC.1.1 hC.1.2 rfl rfl rfl hl rfl (Nat.le_of_ble_eq_true rfl) dX6_narrowView_140 ⟨Nat.zero_le _, Nat.zero_le _⟩ (fun r75 e_r75 => ?_)
                      replace e_r75 : r75 = cntP (vst μ (vvw μ xv)) (vvl μ xv) (vvh μ xv) := e_r75.trans (by first | rfl | (rw [show vvw (tTh μ (ltR (inR xv 0 1) 1)) xv = vvw μ xv from (by first | rfl | exact iu_s _ _ _), show vvl (tTh μ (ltR (inR xv 0 1) 1)) xv = vvl μ xv from (by first | rfl | exact iu_s _ _ _), show vvh (tTh μ (ltR (inR xv 0 1) 1)) xv = vvh μ xv from (by first | rfl | exact iu_s _ _ _)]; done) | (rw [show vvw (tTh μ (ltR (inR xv 0 1) 1)) xv = vvw μ xv from (by first | rfl | exact iu_s _ _ _), show vvl (tTh μ (ltR (inR xv 0 1) 1)) xv = vvl μ xv from (by first | rfl | exact iu_s _ _ _), show vvh (tTh μ (ltR (inR xv 0 1) 1)) xv = vvh μ xv from (by first | rfl | exact iu_s _ _ _)]; rfl))
                      subst e_r75
                      exact q_retMi C0 hret rfl hlk dX6_narrowView_143 hP hD hS (⟨(by 
    have eN : ¬ (mnRef μ xv xkind xlow xhigh = 1) := by (unfold mnRef; (repeat' split) <;> first | rfl | omega)
    have eL : mnLo μ xv xkind xlow = (vvl μ xv) := by (unfold mnLo; first | (rw [if_pos (by omega)]; done) | (rw [if_neg (by omega)]; done))
    have eH : mnHi μ xv xkind xhigh = (vvh μ xv) := by (unfold mnHi; first | (rw [if_pos (by omega)]; done) | (rw [if_neg (by omega)]; done))
    unfold jR_narrowView; rw [if_pos (by omega), if_neg eN, eL, eH]), O, G, MP_eq hC (by 
    have eN : ¬ (mnRef μ xv xkind xlow xhigh = 1) := by (unfold mnRef; (repeat' split) <;> first | rfl | omega)
    have eL : mnLo μ xv xkind xlow = (vvl μ xv) := by (unfold mnLo; first | (rw [if_pos (by omega)]; done) | (rw [if_neg (by omega)]; done))
    have eH : mnHi μ xv xkind xhigh = (vvh μ xv) := by (unfold mnHi; first | (rw [if_pos (by omega)]; done) | (rw [if_neg (by omega)]; done))
    have lt_ := ltR_d (inR xv 0 1) 1; 
    unfold jS_narrowView; rw [if_pos (by omega), if_pos (by omega), if_neg eN, eL, eH, show ltR (inR xv 0 1) 1 = 0 by omega]; first | (exfalso; omega) | (rw [if_pos (by omega)]; done) | (rw [if_neg (by omega), if_pos (by omega)]; done) | (rw [if_neg (by omega), if_neg (by omega)]; done)), rfl, Ext0 hO⟩)
                    · refine lv_aload_n hx hb dX6_narrowView_125 rfl (lv_at hl 1 rfl) ?_
                      refine q_get C0 iX6 hP hC.1.1 hC.1.2 rfl 4 (by decide) flX6_25 rfl (v := .ref ((uat G))) rfl dX6_narrowView_126 ?_
                      refine lv_iload_n hx hb dX6_narrowView_129 rfl (lv_at hl 2 rfl) ?_
                      refine lv_aload hx hb dX6_narrowView_130 (lv_at hl 0 rfl) ?_
                      refine lv_iload hx hb dX6_narrowView_132 (lv_at hl 5 rfl) ?_
                      refine q_vS C0 lX6_93 (c_X5_rank l D y L F22 (urh G (vvw μ xv)) (urw G (vvw μ xv)) (vod μ (vvw μ xv)) (vst μ (vvw μ xv)) xhigh (MP_r hC (hW.2.2.1 xv)) (by omega)) ⟨rfl, rfl⟩ rfl hP (MP_r hC (hW.2.2.1 xv)).1 (MP_r hC (hW.2.2.1 xv)).2.1 rfl rfl rfl hl rfl (Nat.le_of_ble_eq_true rfl) dX6_narrowView_134 ⟨Nat.zero_le _, Nat.zero_le _⟩ (fun r76 e_r76 => ?_)
                      subst e_r76
                      have b_77 := @turn_b (vod μ (vvw μ xv)) xhigh (by omega)
                      refine q_iast C0 hP hD hS hC.2.2.2.2.2.1.1 hC.2.2.2.2.2.1.2 (i := xv) (v := (turn (vod μ (vvw μ xv)) xhigh)) (by omega) (by decide) dX6_narrowView_137 (fun H locs hP hD hS => ?_)
                      obtain ⟨F78, eF78⟩ : ∃ z, z = va_up F22 (uat G) (arrI (y 0) 2 (iu (vvh μ) xv (turn (vod μ (vvw μ xv)) xhigh))) := ⟨_, rfl⟩
                      have hP : va_P D vwCl (va_pl L F78) H := by rw [eF78]; exact hP
                      have hD : va_D (AL L sz) (va_pl L F78) := by rw [eF78]; exact hD
                      have hO : OE O F F78 := by rw [eF78]; exact hO.tr (OE1 (MP_O hC).2.2.2.2.2.1)
                      have hC : MP y L F78 O G (tVh (tTh μ (ltR (inR xv 0 1) 1)) xv (turn (vod μ (vvw μ xv)) xhigh)) := by rw [eF78]; exact MP_vh hC (va_up_self _ _ _) (fun q hq => va_up_ne _ _ hq)
                      refine lv_aload_n hx hb dX6_narrowView_138 rfl (lv_at hl 1 rfl) ?_
                      refine lv_iload_n hx hb dX6_narrowView_139 rfl (lv_at hl 2 rfl) ?_
                      refine q_vS C0 lX6_171 (c_X6_seen l D y L F78 O G (tVh (tTh μ (ltR (inR xv 0 1) 1)) xv (turn (vod μ (vvw μ xv)) xhigh)) xv hC (by omega) (by rw [show vvw (tVh (tTh μ (ltR (inR xv 0 1) 1)) xv (turn (vod μ (vvw μ xv)) xhigh)) xv = vvw μ xv from (by first | rfl | exact iu_s _ _ _)]; exact (hW.2.2.1 xv)) (by rw [show vvl (tVh (tTh μ (ltR (inR xv 0 1) 1)) xv (turn (vod μ (vvw μ xv)) xhigh)) xv = vvl μ xv from (by first | rfl | exact iu_s _ _ _)]; omega) (by rw [show vvh (tVh (tTh μ (ltR (inR xv 0 1) 1)) xv (turn (vod μ (vvw μ xv)) xhigh)) xv = (turn (vod μ (vvw μ xv)) xhigh) from (by first | rfl | exact iu_s _ _ _)]; omega)) ⟨rfl, rfl⟩ rfl hP hC.1.1 hC.1.2 rfl rfl rfl hl rfl (Nat.le_of_ble_eq_true rfl) dX6_narrowView_140 ⟨Nat.zero_le _, Nat.zero_le _⟩ (fun r79 e_r79 => ?_)
                      replace e_r79 : r79 = cntP (vst μ (vvw μ xv)) (vvl μ xv) (turn (vod μ (vvw μ xv)) xhigh) := e_r79.trans (by first | rfl | (rw [show vvw (tVh (tTh μ (ltR (inR xv 0 1) 1)) xv (turn (vod μ (vvw μ xv)) xhigh)) xv = vvw μ xv from (by first | rfl | exact iu_s _ _ _), show vvl (tVh (tTh μ (ltR (inR xv 0 1) 1)) xv (turn (vod μ (vvw μ xv)) xhigh)) xv = vvl μ xv from (by first | rfl | exact iu_s _ _ _), show vvh (tVh (tTh μ (ltR (inR xv 0 1) 1)) xv (turn (vod μ (vvw μ xv)) xhigh)) xv = (turn (vod μ (vvw μ xv)) xhigh) from (by first | rfl | exact iu_s _ _ _)]; done) | (rw [show vvw (tVh (tTh μ (ltR (inR xv 0 1) 1)) xv (turn (vod μ (vvw μ xv)) xhigh)) xv = vvw μ xv from (by first | rfl | exact iu_s _ _ _), show vvl (tVh (tTh μ (ltR (inR xv 0 1) 1)) xv (turn (vod μ (vvw μ xv)) xhigh)) xv = vvl μ xv from (by first | rfl | exact iu_s _ _ _), show vvh (tVh (tTh μ (ltR (inR xv 0 1) 1)) xv (turn (vod μ (vvw μ xv)) xhigh)) xv = (turn (vod μ (vvw μ xv)) xhigh) from (by first | rfl | exact iu_s _ _ _)]; rfl))
                      subst e_r79
                      exact q_retMi C0 hret rfl hlk dX6_narrowView_143 hP hD hS (⟨(by 
    have eN : ¬ (mnRef μ xv xkind xlow xhigh = 1) := by (unfold mnRef; (repeat' split) <;> first | rfl | omega)
    have eL : mnLo μ xv xkind xlow = (vvl μ xv) := by (unfold mnLo; first | (rw [if_pos (by omega)]; done) | (rw [if_neg (by omega)]; done))
    have eH : mnHi μ xv xkind xhigh = (turn (vod μ (vvw μ xv)) xhigh) := by (unfold mnHi; first | (rw [if_pos (by omega)]; done) | (rw [if_neg (by omega)]; done))
    unfold jR_narrowView; rw [if_pos (by omega), if_neg eN, eL, eH]), O, G, MP_eq hC (by 
    have eN : ¬ (mnRef μ xv xkind xlow xhigh = 1) := by (unfold mnRef; (repeat' split) <;> first | rfl | omega)
    have eL : mnLo μ xv xkind xlow = (vvl μ xv) := by (unfold mnLo; first | (rw [if_pos (by omega)]; done) | (rw [if_neg (by omega)]; done))
    have eH : mnHi μ xv xkind xhigh = (turn (vod μ (vvw μ xv)) xhigh) := by (unfold mnHi; first | (rw [if_pos (by omega)]; done) | (rw [if_neg (by omega)]; done))
    have lt_ := ltR_d (inR xv 0 1) 1; 
    unfold jS_narrowView; rw [if_pos (by omega), if_pos (by omega), if_neg eN, eL, eH, show ltR (inR xv 0 1) 1 = 0 by omega]; first | (exfalso; omega) | (rw [if_pos (by omega)]; done) | (rw [if_neg (by omega), if_pos (by omega)]; done) | (rw [if_neg (by omega), if_neg (by omega)]; done)), rfl, Ext0 hO⟩)
                  · refine lv_aload_n hx hb dX6_narrowView_108 rfl (lv_at hl 1 rfl) ?_
                    refine q_get C0 iX6 hP hC.1.1 hC.1.2 rfl 3 (by decide) flX6_21 rfl (v := .ref ((uaf G))) rfl dX6_narrowView_109 ?_
                    refine lv_iload_n hx hb dX6_narrowView_112 rfl (lv_at hl 2 rfl) ?_
                    refine lv_aload hx hb dX6_narrowView_113 (lv_at hl 0 rfl) ?_
                    refine lv_iload_n hx hb dX6_narrowView_115 rfl (lv_at hl 4 rfl) ?_
                    refine q_vS C0 lX6_93 (c_X5_rank l D y L F22 (urh G (vvw μ xv)) (urw G (vvw μ xv)) (vod μ (vvw μ xv)) (vst μ (vvw μ xv)) xlow (MP_r hC (hW.2.2.1 xv)) (by omega)) ⟨rfl, rfl⟩ rfl hP (MP_r hC (hW.2.2.1 xv)).1 (MP_r hC (hW.2.2.1 xv)).2.1 rfl rfl rfl hl rfl (Nat.le_of_ble_eq_true rfl) dX6_narrowView_116 ⟨Nat.zero_le _, Nat.zero_le _⟩ (fun r80 e_r80 => ?_)
                    subst e_r80
                    have b_81 := @turn_b (vod μ (vvw μ xv)) xlow (by omega)
                    refine q_iast C0 hP hD hS hC.2.2.2.2.1.1 hC.2.2.2.2.1.2 (i := xv) (v := (turn (vod μ (vvw μ xv)) xlow)) (by omega) (by decide) dX6_narrowView_119 (fun H locs hP hD hS => ?_)
                    obtain ⟨F82, eF82⟩ : ∃ z, z = va_up F22 (uaf G) (arrI (y 0) 2 (iu (vvl μ) xv (turn (vod μ (vvw μ xv)) xlow))) := ⟨_, rfl⟩
                    have hP : va_P D vwCl (va_pl L F82) H := by rw [eF82]; exact hP
                    have hD : va_D (AL L sz) (va_pl L F82) := by rw [eF82]; exact hD
                    have hO : OE O F F82 := by rw [eF82]; exact hO.tr (OE1 (MP_O hC).2.2.2.2.1)
                    have hC : MP y L F82 O G (tVl (tTh μ (ltR (inR xv 0 1) 1)) xv (turn (vod μ (vvw μ xv)) xlow)) := by rw [eF82]; exact MP_vl hC (va_up_self _ _ _) (fun q hq => va_up_ne _ _ hq)
                    refine lv_iload_n hx hb dX6_narrowView_120 rfl (lv_at hl 3 rfl) ?_
                    refine q_iconst hx hb dX6_narrowView_121 ?_
                    refine q_icmp_eq hx hb dX6_narrowView_122 (tgt := 138) (by decide) (by omega) (by omega) (fun c83 => ?_) (fun c83 => ?_)
                    · refine lv_aload_n hx hb dX6_narrowView_138 rfl (lv_at hl 1 rfl) ?_
                      refine lv_iload_n hx hb dX6_narrowView_139 rfl (lv_at hl 2 rfl) ?_
                      refine q_vS C0 lX6_171 (c_X6_seen l D y L F82 O G (tVl (tTh μ (ltR (inR xv 0 1) 1)) xv (turn (vod μ (vvw μ xv)) xlow)) xv hC (by omega) (by rw [show vvw (tVl (tTh μ (ltR (inR xv 0 1) 1)) xv (turn (vod μ (vvw μ xv)) xlow)) xv = vvw μ xv from (by first | rfl | exact iu_s _ _ _)]; exact (hW.2.2.1 xv)) (by rw [show vvl (tVl (tTh μ (ltR (inR xv 0 1) 1)) xv (turn (vod μ (vvw μ xv)) xlow)) xv = (turn (vod μ (vvw μ xv)) xlow) from (by first | rfl | exact iu_s _ _ _)]; omega) (by rw [show vvh (tVl (tTh μ (ltR (inR xv 0 1) 1)) xv (turn (vod μ (vvw μ xv)) xlow)) xv = vvh μ xv from (by first | rfl | exact iu_s _ _ _)]; omega)) ⟨rfl, rfl⟩ rfl hP hC.1.1 hC.1.2 rfl rfl rfl hl rfl (Nat.le_of_ble_eq_true rfl) dX6_narrowView_140 ⟨Nat.zero_le _, Nat.zero_le _⟩ (fun r84 e_r84 => ?_)
                      replace e_r84 : r84 = cntP (vst μ (vvw μ xv)) (turn (vod μ (vvw μ xv)) xlow) (vvh μ xv) := e_r84.trans (by first | rfl | (rw [show vvw (tVl (tTh μ (ltR (inR xv 0 1) 1)) xv (turn (vod μ (vvw μ xv)) xlow)) xv = vvw μ xv from (by first | rfl | exact iu_s _ _ _), show vvl (tVl (tTh μ (ltR (inR xv 0 1) 1)) xv (turn (vod μ (vvw μ xv)) xlow)) xv = (turn (vod μ (vvw μ xv)) xlow) from (by first | rfl | exact iu_s _ _ _), show vvh (tVl (tTh μ (ltR (inR xv 0 1) 1)) xv (turn (vod μ (vvw μ xv)) xlow)) xv = vvh μ xv from (by first | rfl | exact iu_s _ _ _)]; done) | (rw [show vvw (tVl (tTh μ (ltR (inR xv 0 1) 1)) xv (turn (vod μ (vvw μ xv)) xlow)) xv = vvw μ xv from (by first | rfl | exact iu_s _ _ _), show vvl (tVl (tTh μ (ltR (inR xv 0 1) 1)) xv (turn (vod μ (vvw μ xv)) xlow)) xv = (turn (vod μ (vvw μ xv)) xlow) from (by first | rfl | exact iu_s _ _ _), show vvh (tVl (tTh μ (ltR (inR xv 0 1) 1)) xv (turn (vod μ (vvw μ xv)) xlow)) xv = vvh μ xv from (by first | rfl | exact iu_s _ _ _)]; rfl))
                      subst e_r84
                      exact q_retMi C0 hret rfl hlk dX6_narrowView_143 hP hD hS (⟨(by 
    have eN : ¬ (mnRef μ xv xkind xlow xhigh = 1) := by (unfold mnRef; (repeat' split) <;> first | rfl | omega)
    have eL : mnLo μ xv xkind xlow = (turn (vod μ (vvw μ xv)) xlow) := by (unfold mnLo; first | (rw [if_pos (by omega)]; done) | (rw [if_neg (by omega)]; done))
    have eH : mnHi μ xv xkind xhigh = (vvh μ xv) := by (unfold mnHi; first | (rw [if_pos (by omega)]; done) | (rw [if_neg (by omega)]; done))
    unfold jR_narrowView; rw [if_pos (by omega), if_neg eN, eL, eH]), O, G, MP_eq hC (by 
    have eN : ¬ (mnRef μ xv xkind xlow xhigh = 1) := by (unfold mnRef; (repeat' split) <;> first | rfl | omega)
    have eL : mnLo μ xv xkind xlow = (turn (vod μ (vvw μ xv)) xlow) := by (unfold mnLo; first | (rw [if_pos (by omega)]; done) | (rw [if_neg (by omega)]; done))
    have eH : mnHi μ xv xkind xhigh = (vvh μ xv) := by (unfold mnHi; first | (rw [if_pos (by omega)]; done) | (rw [if_neg (by omega)]; done))
    have lt_ := ltR_d (inR xv 0 1) 1; 
    unfold jS_narrowView; rw [if_pos (by omega), if_pos (by omega), if_neg eN, eL, eH, show ltR (inR xv 0 1) 1 = 0 by omega]; first | (exfalso; omega) | (rw [if_pos (by omega)]; done) | (rw [if_neg (by omega), if_pos (by omega)]; done) | (rw [if_neg (by omega), if_neg (by omega)]; done)), rfl, Ext0 hO⟩)
                    · refine lv_aload_n hx hb dX6_narrowView_125 rfl (lv_at hl 1 rfl) ?_
                      refine q_get C0 iX6 hP hC.1.1 hC.1.2 rfl 4 (by decide) flX6_25 rfl (v := .ref ((uat G))) rfl dX6_narrowView_126 ?_
                      refine lv_iload_n hx hb dX6_narrowView_129 rfl (lv_at hl 2 rfl) ?_
                      refine lv_aload hx hb dX6_narrowView_130 (lv_at hl 0 rfl) ?_
                      refine lv_iload hx hb dX6_narrowView_132 (lv_at hl 5 rfl) ?_
                      refine q_vS C0 lX6_93 (c_X5_rank l D y L F82 (urh G (vvw μ xv)) (urw G (vvw μ xv)) (vod μ (vvw μ xv)) (vst μ (vvw μ xv)) xhigh (MP_r hC (hW.2.2.1 xv)) (by omega)) ⟨rfl, rfl⟩ rfl hP (MP_r hC (hW.2.2.1 xv)).1 (MP_r hC (hW.2.2.1 xv)).2.1 rfl rfl rfl hl rfl (Nat.le_of_ble_eq_true rfl) dX6_narrowView_134 ⟨Nat.zero_le _, Nat.zero_le _⟩ (fun r85 e_r85 => ?_)
                      subst e_r85
                      have b_86 := @turn_b (vod μ (vvw μ xv)) xhigh (by omega)
                      refine q_iast C0 hP hD hS hC.2.2.2.2.2.1.1 hC.2.2.2.2.2.1.2 (i := xv) (v := (turn (vod μ (vvw μ xv)) xhigh)) (by omega) (by decide) dX6_narrowView_137 (fun H locs hP hD hS => ?_)
                      obtain ⟨F87, eF87⟩ : ∃ z, z = va_up F82 (uat G) (arrI (y 0) 2 (iu (vvh μ) xv (turn (vod μ (vvw μ xv)) xhigh))) := ⟨_, rfl⟩
                      have hP : va_P D vwCl (va_pl L F87) H := by rw [eF87]; exact hP
                      have hD : va_D (AL L sz) (va_pl L F87) := by rw [eF87]; exact hD
                      have hO : OE O F F87 := by rw [eF87]; exact hO.tr (OE1 (MP_O hC).2.2.2.2.2.1)
                      have hC : MP y L F87 O G (tVh (tVl (tTh μ (ltR (inR xv 0 1) 1)) xv (turn (vod μ (vvw μ xv)) xlow)) xv (turn (vod μ (vvw μ xv)) xhigh)) := by rw [eF87]; exact MP_vh hC (va_up_self _ _ _) (fun q hq => va_up_ne _ _ hq)
                      refine lv_aload_n hx hb dX6_narrowView_138 rfl (lv_at hl 1 rfl) ?_
                      refine lv_iload_n hx hb dX6_narrowView_139 rfl (lv_at hl 2 rfl) ?_
                      refine q_vS C0 lX6_171 (c_X6_seen l D y L F87 O G (tVh (tVl (tTh μ (ltR (inR xv 0 1) 1)) xv (turn (vod μ (vvw μ xv)) xlow)) xv (turn (vod μ (vvw μ xv)) xhigh)) xv hC (by omega) (by rw [show vvw (tVh (tVl (tTh μ (ltR (inR xv 0 1) 1)) xv (turn (vod μ (vvw μ xv)) xlow)) xv (turn (vod μ (vvw μ xv)) xhigh)) xv = vvw μ xv from (by first | rfl | exact iu_s _ _ _)]; exact (hW.2.2.1 xv)) (by rw [show vvl (tVh (tVl (tTh μ (ltR (inR xv 0 1) 1)) xv (turn (vod μ (vvw μ xv)) xlow)) xv (turn (vod μ (vvw μ xv)) xhigh)) xv = (turn (vod μ (vvw μ xv)) xlow) from (by first | rfl | exact iu_s _ _ _)]; omega) (by rw [show vvh (tVh (tVl (tTh μ (ltR (inR xv 0 1) 1)) xv (turn (vod μ (vvw μ xv)) xlow)) xv (turn (vod μ (vvw μ xv)) xhigh)) xv = (turn (vod μ (vvw μ xv)) xhigh) from (by first | rfl | exact iu_s _ _ _)]; omega)) ⟨rfl, rfl⟩ rfl hP hC.1.1 hC.1.2 rfl rfl rfl hl rfl (Nat.le_of_ble_eq_true rfl) dX6_narrowView_140 ⟨Nat.zero_le _, Nat.zero_le _⟩ (fun r88 e_r88 => ?_)
                      replace e_r88 : r88 = cntP (vst μ (vvw μ xv)) (turn (vod μ (vvw μ xv)) xlow) (turn (vod μ (vvw μ xv)) xhigh) := e_r88.trans (by first | rfl | (rw [show vvw (tVh (tVl (tTh μ (ltR (inR xv 0 1) 1)) xv (turn (vod μ (vvw μ xv)) xlow)) xv (turn (vod μ (vvw μ xv)) xhigh)) xv = vvw μ xv from (by first | rfl | exact iu_s _ _ _), show vvl (tVh (tVl (tTh μ (ltR (inR xv 0 1) 1)) xv (turn (vod μ (vvw μ xv)) xlow)) xv (turn (vod μ (vvw μ xv)) xhigh)) xv = (turn (vod μ (vvw μ xv)) xlow) from (by first | rfl | exact iu_s _ _ _), show vvh (tVh (tVl (tTh μ (ltR (inR xv 0 1) 1)) xv (turn (vod μ (vvw μ xv)) xlow)) xv (turn (vod μ (vvw μ xv)) xhigh)) xv = (turn (vod μ (vvw μ xv)) xhigh) from (by first | rfl | exact iu_s _ _ _)]; done) | (rw [show vvw (tVh (tVl (tTh μ (ltR (inR xv 0 1) 1)) xv (turn (vod μ (vvw μ xv)) xlow)) xv (turn (vod μ (vvw μ xv)) xhigh)) xv = vvw μ xv from (by first | rfl | exact iu_s _ _ _), show vvl (tVh (tVl (tTh μ (ltR (inR xv 0 1) 1)) xv (turn (vod μ (vvw μ xv)) xlow)) xv (turn (vod μ (vvw μ xv)) xhigh)) xv = (turn (vod μ (vvw μ xv)) xlow) from (by first | rfl | exact iu_s _ _ _), show vvh (tVh (tVl (tTh μ (ltR (inR xv 0 1) 1)) xv (turn (vod μ (vvw μ xv)) xlow)) xv (turn (vod μ (vvw μ xv)) xhigh)) xv = (turn (vod μ (vvw μ xv)) xhigh) from (by first | rfl | exact iu_s _ _ _)]; rfl))
                      subst e_r88
                      exact q_retMi C0 hret rfl hlk dX6_narrowView_143 hP hD hS (⟨(by 
    have eN : ¬ (mnRef μ xv xkind xlow xhigh = 1) := by (unfold mnRef; (repeat' split) <;> first | rfl | omega)
    have eL : mnLo μ xv xkind xlow = (turn (vod μ (vvw μ xv)) xlow) := by (unfold mnLo; first | (rw [if_pos (by omega)]; done) | (rw [if_neg (by omega)]; done))
    have eH : mnHi μ xv xkind xhigh = (turn (vod μ (vvw μ xv)) xhigh) := by (unfold mnHi; first | (rw [if_pos (by omega)]; done) | (rw [if_neg (by omega)]; done))
    unfold jR_narrowView; rw [if_pos (by omega), if_neg eN, eL, eH]), O, G, MP_eq hC (by 
    have eN : ¬ (mnRef μ xv xkind xlow xhigh = 1) := by (unfold mnRef; (repeat' split) <;> first | rfl | omega)
    have eL : mnLo μ xv xkind xlow = (turn (vod μ (vvw μ xv)) xlow) := by (unfold mnLo; first | (rw [if_pos (by omega)]; done) | (rw [if_neg (by omega)]; done))
    have eH : mnHi μ xv xkind xhigh = (turn (vod μ (vvw μ xv)) xhigh) := by (unfold mnHi; first | (rw [if_pos (by omega)]; done) | (rw [if_neg (by omega)]; done))
    have lt_ := ltR_d (inR xv 0 1) 1; 
    unfold jS_narrowView; rw [if_pos (by omega), if_pos (by omega), if_neg eN, eL, eH, show ltR (inR xv 0 1) 1 = 0 by omega]; first | (exfalso; omega) | (rw [if_pos (by omega)]; done) | (rw [if_neg (by omega), if_pos (by omega)]; done) | (rw [if_neg (by omega), if_neg (by omega)]; done)), rfl, Ext0 hO⟩)
                · refine lv_aload hx hb dX6_narrowView_83 (lv_at hl 0 rfl) ?_
                  refine lv_iload_n hx hb dX6_narrowView_85 rfl (lv_at hl 4 rfl) ?_
                  refine q_vS C0 lX6_93 (c_X5_rank l D y L F22 (urh G (vvw μ xv)) (urw G (vvw μ xv)) (vod μ (vvw μ xv)) (vst μ (vvw μ xv)) xlow (MP_r hC (hW.2.2.1 xv)) (by omega)) ⟨rfl, rfl⟩ rfl hP (MP_r hC (hW.2.2.1 xv)).1 (MP_r hC (hW.2.2.1 xv)).2.1 rfl rfl rfl hl rfl (Nat.le_of_ble_eq_true rfl) dX6_narrowView_86 ⟨Nat.zero_le _, Nat.zero_le _⟩ (fun r89 e_r89 => ?_)
                  subst e_r89
                  have b_90 := @turn_b (vod μ (vvw μ xv)) xlow (by omega)
                  refine lv_aload hx hb dX6_narrowView_89 (lv_at hl 0 rfl) ?_
                  refine lv_iload hx hb dX6_narrowView_91 (lv_at hl 5 rfl) ?_
                  refine q_vS C0 lX6_93 (c_X5_rank l D y L F22 (urh G (vvw μ xv)) (urw G (vvw μ xv)) (vod μ (vvw μ xv)) (vst μ (vvw μ xv)) xhigh (MP_r hC (hW.2.2.1 xv)) (by omega)) ⟨rfl, rfl⟩ rfl hP (MP_r hC (hW.2.2.1 xv)).1 (MP_r hC (hW.2.2.1 xv)).2.1 rfl rfl rfl hl rfl (Nat.le_of_ble_eq_true rfl) dX6_narrowView_93 ⟨Nat.zero_le _, Nat.zero_le _⟩ (fun r91 e_r91 => ?_)
                  subst e_r91
                  have b_92 := @turn_b (vod μ (vvw μ xv)) xhigh (by omega)
                  refine q_icmp_le hx hb dX6_narrowView_96 (tgt := 104) (by decide) (by omega) (by omega) (fun c93 => ?_) (fun c93 => ?_)
                  · refine lv_iload_n hx hb dX6_narrowView_104 rfl (lv_at hl 3 rfl) ?_
                    refine q_if_le hx hb dX6_narrowView_105 (tgt := 120) (by decide) (by omega) (fun c94 => ?_) (fun c94 => ?_)
                    · refine lv_iload_n hx hb dX6_narrowView_120 rfl (lv_at hl 3 rfl) ?_
                      refine q_iconst hx hb dX6_narrowView_121 ?_
                      refine q_icmp_eq hx hb dX6_narrowView_122 (tgt := 138) (by decide) (by omega) (by omega) (fun c95 => ?_) (fun c95 => ?_)
                      · refine lv_aload_n hx hb dX6_narrowView_138 rfl (lv_at hl 1 rfl) ?_
                        refine lv_iload_n hx hb dX6_narrowView_139 rfl (lv_at hl 2 rfl) ?_
                        refine q_vS C0 lX6_171 (c_X6_seen l D y L F22 O G (tTh μ (ltR (inR xv 0 1) 1)) xv hC (by omega) (hW.2.2.1 xv) ⟨(hW.2.2.2.2.1 xv).1, (hW.2.2.2.2.1 xv).2.1⟩ (hW.2.2.2.2.1 xv).2.2) ⟨rfl, rfl⟩ rfl hP hC.1.1 hC.1.2 rfl rfl rfl hl rfl (Nat.le_of_ble_eq_true rfl) dX6_narrowView_140 ⟨Nat.zero_le _, Nat.zero_le _⟩ (fun r96 e_r96 => ?_)
                        replace e_r96 : r96 = cntP (vst μ (vvw μ xv)) (vvl μ xv) (vvh μ xv) := e_r96.trans (by first | rfl | (rw [show vvw (tTh μ (ltR (inR xv 0 1) 1)) xv = vvw μ xv from (by first | rfl | exact iu_s _ _ _), show vvl (tTh μ (ltR (inR xv 0 1) 1)) xv = vvl μ xv from (by first | rfl | exact iu_s _ _ _), show vvh (tTh μ (ltR (inR xv 0 1) 1)) xv = vvh μ xv from (by first | rfl | exact iu_s _ _ _)]; done) | (rw [show vvw (tTh μ (ltR (inR xv 0 1) 1)) xv = vvw μ xv from (by first | rfl | exact iu_s _ _ _), show vvl (tTh μ (ltR (inR xv 0 1) 1)) xv = vvl μ xv from (by first | rfl | exact iu_s _ _ _), show vvh (tTh μ (ltR (inR xv 0 1) 1)) xv = vvh μ xv from (by first | rfl | exact iu_s _ _ _)]; rfl))
                        subst e_r96
                        exact q_retMi C0 hret rfl hlk dX6_narrowView_143 hP hD hS (⟨(by 
    have eN : ¬ (mnRef μ xv xkind xlow xhigh = 1) := by (unfold mnRef; (repeat' split) <;> first | rfl | omega)
    have eL : mnLo μ xv xkind xlow = (vvl μ xv) := by (unfold mnLo; first | (rw [if_pos (by omega)]; done) | (rw [if_neg (by omega)]; done))
    have eH : mnHi μ xv xkind xhigh = (vvh μ xv) := by (unfold mnHi; first | (rw [if_pos (by omega)]; done) | (rw [if_neg (by omega)]; done))
    unfold jR_narrowView; rw [if_pos (by omega), if_neg eN, eL, eH]), O, G, MP_eq hC (by 
    have eN : ¬ (mnRef μ xv xkind xlow xhigh = 1) := by (unfold mnRef; (repeat' split) <;> first | rfl | omega)
    have eL : mnLo μ xv xkind xlow = (vvl μ xv) := by (unfold mnLo; first | (rw [if_pos (by omega)]; done) | (rw [if_neg (by omega)]; done))
    have eH : mnHi μ xv xkind xhigh = (vvh μ xv) := by (unfold mnHi; first | (rw [if_pos (by omega)]; done) | (rw [if_neg (by omega)]; done))
    have lt_ := ltR_d (inR xv 0 1) 1; 
    unfold jS_narrowView; rw [if_pos (by omega), if_pos (by omega), if_neg eN, eL, eH, show ltR (inR xv 0 1) 1 = 0 by omega]; first | (exfalso; omega) | (rw [if_pos (by omega)]; done) | (rw [if_neg (by omega), if_pos (by omega)]; done) | (rw [if_neg (by omega), if_neg (by omega)]; done)), rfl, Ext0 hO⟩)
                      · refine lv_aload_n hx hb dX6_narrowView_125 rfl (lv_at hl 1 rfl) ?_
                        refine q_get C0 iX6 hP hC.1.1 hC.1.2 rfl 4 (by decide) flX6_25 rfl (v := .ref ((uat G))) rfl dX6_narrowView_126 ?_
                        refine lv_iload_n hx hb dX6_narrowView_129 rfl (lv_at hl 2 rfl) ?_
                        refine lv_aload hx hb dX6_narrowView_130 (lv_at hl 0 rfl) ?_
                        refine lv_iload hx hb dX6_narrowView_132 (lv_at hl 5 rfl) ?_
                        refine q_vS C0 lX6_93 (c_X5_rank l D y L F22 (urh G (vvw μ xv)) (urw G (vvw μ xv)) (vod μ (vvw μ xv)) (vst μ (vvw μ xv)) xhigh (MP_r hC (hW.2.2.1 xv)) (by omega)) ⟨rfl, rfl⟩ rfl hP (MP_r hC (hW.2.2.1 xv)).1 (MP_r hC (hW.2.2.1 xv)).2.1 rfl rfl rfl hl rfl (Nat.le_of_ble_eq_true rfl) dX6_narrowView_134 ⟨Nat.zero_le _, Nat.zero_le _⟩ (fun r97 e_r97 => ?_)
                        subst e_r97
                        have b_98 := @turn_b (vod μ (vvw μ xv)) xhigh (by omega)
                        refine q_iast C0 hP hD hS hC.2.2.2.2.2.1.1 hC.2.2.2.2.2.1.2 (i := xv) (v := (turn (vod μ (vvw μ xv)) xhigh)) (by omega) (by decide) dX6_narrowView_137 (fun H locs hP hD hS => ?_)
                        obtain ⟨F99, eF99⟩ : ∃ z, z = va_up F22 (uat G) (arrI (y 0) 2 (iu (vvh μ) xv (turn (vod μ (vvw μ xv)) xhigh))) := ⟨_, rfl⟩
                        have hP : va_P D vwCl (va_pl L F99) H := by rw [eF99]; exact hP
                        have hD : va_D (AL L sz) (va_pl L F99) := by rw [eF99]; exact hD
                        have hO : OE O F F99 := by rw [eF99]; exact hO.tr (OE1 (MP_O hC).2.2.2.2.2.1)
                        have hC : MP y L F99 O G (tVh (tTh μ (ltR (inR xv 0 1) 1)) xv (turn (vod μ (vvw μ xv)) xhigh)) := by rw [eF99]; exact MP_vh hC (va_up_self _ _ _) (fun q hq => va_up_ne _ _ hq)
                        refine lv_aload_n hx hb dX6_narrowView_138 rfl (lv_at hl 1 rfl) ?_
                        refine lv_iload_n hx hb dX6_narrowView_139 rfl (lv_at hl 2 rfl) ?_
                        refine q_vS C0 lX6_171 (c_X6_seen l D y L F99 O G (tVh (tTh μ (ltR (inR xv 0 1) 1)) xv (turn (vod μ (vvw μ xv)) xhigh)) xv hC (by omega) (by rw [show vvw (tVh (tTh μ (ltR (inR xv 0 1) 1)) xv (turn (vod μ (vvw μ xv)) xhigh)) xv = vvw μ xv from (by first | rfl | exact iu_s _ _ _)]; exact (hW.2.2.1 xv)) (by rw [show vvl (tVh (tTh μ (ltR (inR xv 0 1) 1)) xv (turn (vod μ (vvw μ xv)) xhigh)) xv = vvl μ xv from (by first | rfl | exact iu_s _ _ _)]; omega) (by rw [show vvh (tVh (tTh μ (ltR (inR xv 0 1) 1)) xv (turn (vod μ (vvw μ xv)) xhigh)) xv = (turn (vod μ (vvw μ xv)) xhigh) from (by first | rfl | exact iu_s _ _ _)]; omega)) ⟨rfl, rfl⟩ rfl hP hC.1.1 hC.1.2 rfl rfl rfl hl rfl (Nat.le_of_ble_eq_true rfl) dX6_narrowView_140 ⟨Nat.zero_le _, Nat.zero_le _⟩ (fun r100 e_r100 => ?_)
                        replace e_r100 : r100 = cntP (vst μ (vvw μ xv)) (vvl μ xv) (turn (vod μ (vvw μ xv)) xhigh) := e_r100.trans (by first | rfl | (rw [show vvw (tVh (tTh μ (ltR (inR xv 0 1) 1)) xv (turn (vod μ (vvw μ xv)) xhigh)) xv = vvw μ xv from (by first | rfl | exact iu_s _ _ _), show vvl (tVh (tTh μ (ltR (inR xv 0 1) 1)) xv (turn (vod μ (vvw μ xv)) xhigh)) xv = vvl μ xv from (by first | rfl | exact iu_s _ _ _), show vvh (tVh (tTh μ (ltR (inR xv 0 1) 1)) xv (turn (vod μ (vvw μ xv)) xhigh)) xv = (turn (vod μ (vvw μ xv)) xhigh) from (by first | rfl | exact iu_s _ _ _)]; done) | (rw [show vvw (tVh (tTh μ (ltR (inR xv 0 1) 1)) xv (turn (vod μ (vvw μ xv)) xhigh)) xv = vvw μ xv from (by first | rfl | exact iu_s _ _ _), show vvl (tVh (tTh μ (ltR (inR xv 0 1) 1)) xv (turn (vod μ (vvw μ xv)) xhigh)) xv = vvl μ xv from (by first | rfl | exact iu_s _ _ _), show vvh (tVh (tTh μ (ltR (inR xv 0 1) 1)) xv (turn (vod μ (vvw μ xv)) xhigh)) xv = (turn (vod μ (vvw μ xv)) xhigh) from (by first | rfl | exact iu_s _ _ _)]; rfl))
                        subst e_r100
                        exact q_retMi C0 hret rfl hlk dX6_narrowView_143 hP hD hS (⟨(by 
    have eN : ¬ (mnRef μ xv xkind xlow xhigh = 1) := by (unfold mnRef; (repeat' split) <;> first | rfl | omega)
    have eL : mnLo μ xv xkind xlow = (vvl μ xv) := by (unfold mnLo; first | (rw [if_pos (by omega)]; done) | (rw [if_neg (by omega)]; done))
    have eH : mnHi μ xv xkind xhigh = (turn (vod μ (vvw μ xv)) xhigh) := by (unfold mnHi; first | (rw [if_pos (by omega)]; done) | (rw [if_neg (by omega)]; done))
    unfold jR_narrowView; rw [if_pos (by omega), if_neg eN, eL, eH]), O, G, MP_eq hC (by 
    have eN : ¬ (mnRef μ xv xkind xlow xhigh = 1) := by (unfold mnRef; (repeat' split) <;> first | rfl | omega)
    have eL : mnLo μ xv xkind xlow = (vvl μ xv) := by (unfold mnLo; first | (rw [if_pos (by omega)]; done) | (rw [if_neg (by omega)]; done))
    have eH : mnHi μ xv xkind xhigh = (turn (vod μ (vvw μ xv)) xhigh) := by (unfold mnHi; first | (rw [if_pos (by omega)]; done) | (rw [if_neg (by omega)]; done))
    have lt_ := ltR_d (inR xv 0 1) 1; 
    unfold jS_narrowView; rw [if_pos (by omega), if_pos (by omega), if_neg eN, eL, eH, show ltR (inR xv 0 1) 1 = 0 by omega]; first | (exfalso; omega) | (rw [if_pos (by omega)]; done) | (rw [if_neg (by omega), if_pos (by omega)]; done) | (rw [if_neg (by omega), if_neg (by omega)]; done)), rfl, Ext0 hO⟩)
                    · refine lv_aload_n hx hb dX6_narrowView_108 rfl (lv_at hl 1 rfl) ?_
                      refine q_get C0 iX6 hP hC.1.1 hC.1.2 rfl 3 (by decide) flX6_21 rfl (v := .ref ((uaf G))) rfl dX6_narrowView_109 ?_
                      refine lv_iload_n hx hb dX6_narrowView_112 rfl (lv_at hl 2 rfl) ?_
                      refine lv_aload hx hb dX6_narrowView_113 (lv_at hl 0 rfl) ?_
                      refine lv_iload_n hx hb dX6_narrowView_115 rfl (lv_at hl 4 rfl) ?_
                      refine q_vS C0 lX6_93 (c_X5_rank l D y L F22 (urh G (vvw μ xv)) (urw G (vvw μ xv)) (vod μ (vvw μ xv)) (vst μ (vvw μ xv)) xlow (MP_r hC (hW.2.2.1 xv)) (by omega)) ⟨rfl, rfl⟩ rfl hP (MP_r hC (hW.2.2.1 xv)).1 (MP_r hC (hW.2.2.1 xv)).2.1 rfl rfl rfl hl rfl (Nat.le_of_ble_eq_true rfl) dX6_narrowView_116 ⟨Nat.zero_le _, Nat.zero_le _⟩ (fun r101 e_r101 => ?_)
                      subst e_r101
                      have b_102 := @turn_b (vod μ (vvw μ xv)) xlow (by omega)
                      refine q_iast C0 hP hD hS hC.2.2.2.2.1.1 hC.2.2.2.2.1.2 (i := xv) (v := (turn (vod μ (vvw μ xv)) xlow)) (by omega) (by decide) dX6_narrowView_119 (fun H locs hP hD hS => ?_)
                      obtain ⟨F103, eF103⟩ : ∃ z, z = va_up F22 (uaf G) (arrI (y 0) 2 (iu (vvl μ) xv (turn (vod μ (vvw μ xv)) xlow))) := ⟨_, rfl⟩
                      have hP : va_P D vwCl (va_pl L F103) H := by rw [eF103]; exact hP
                      have hD : va_D (AL L sz) (va_pl L F103) := by rw [eF103]; exact hD
                      have hO : OE O F F103 := by rw [eF103]; exact hO.tr (OE1 (MP_O hC).2.2.2.2.1)
                      have hC : MP y L F103 O G (tVl (tTh μ (ltR (inR xv 0 1) 1)) xv (turn (vod μ (vvw μ xv)) xlow)) := by rw [eF103]; exact MP_vl hC (va_up_self _ _ _) (fun q hq => va_up_ne _ _ hq)
                      refine lv_iload_n hx hb dX6_narrowView_120 rfl (lv_at hl 3 rfl) ?_
                      refine q_iconst hx hb dX6_narrowView_121 ?_
                      refine q_icmp_eq hx hb dX6_narrowView_122 (tgt := 138) (by decide) (by omega) (by omega) (fun c104 => ?_) (fun c104 => ?_)
                      · refine lv_aload_n hx hb dX6_narrowView_138 rfl (lv_at hl 1 rfl) ?_
                        refine lv_iload_n hx hb dX6_narrowView_139 rfl (lv_at hl 2 rfl) ?_
                        refine q_vS C0 lX6_171 (c_X6_seen l D y L F103 O G (tVl (tTh μ (ltR (inR xv 0 1) 1)) xv (turn (vod μ (vvw μ xv)) xlow)) xv hC (by omega) (by rw [show vvw (tVl (tTh μ (ltR (inR xv 0 1) 1)) xv (turn (vod μ (vvw μ xv)) xlow)) xv = vvw μ xv from (by first | rfl | exact iu_s _ _ _)]; exact (hW.2.2.1 xv)) (by rw [show vvl (tVl (tTh μ (ltR (inR xv 0 1) 1)) xv (turn (vod μ (vvw μ xv)) xlow)) xv = (turn (vod μ (vvw μ xv)) xlow) from (by first | rfl | exact iu_s _ _ _)]; omega) (by rw [show vvh (tVl (tTh μ (ltR (inR xv 0 1) 1)) xv (turn (vod μ (vvw μ xv)) xlow)) xv = vvh μ xv from (by first | rfl | exact iu_s _ _ _)]; omega)) ⟨rfl, rfl⟩ rfl hP hC.1.1 hC.1.2 rfl rfl rfl hl rfl (Nat.le_of_ble_eq_true rfl) dX6_narrowView_140 ⟨Nat.zero_le _, Nat.zero_le _⟩ (fun r105 e_r105 => ?_)
                        replace e_r105 : r105 = cntP (vst μ (vvw μ xv)) (turn (vod μ (vvw μ xv)) xlow) (vvh μ xv) := e_r105.trans (by first | rfl | (rw [show vvw (tVl (tTh μ (ltR (inR xv 0 1) 1)) xv (turn (vod μ (vvw μ xv)) xlow)) xv = vvw μ xv from (by first | rfl | exact iu_s _ _ _), show vvl (tVl (tTh μ (ltR (inR xv 0 1) 1)) xv (turn (vod μ (vvw μ xv)) xlow)) xv = (turn (vod μ (vvw μ xv)) xlow) from (by first | rfl | exact iu_s _ _ _), show vvh (tVl (tTh μ (ltR (inR xv 0 1) 1)) xv (turn (vod μ (vvw μ xv)) xlow)) xv = vvh μ xv from (by first | rfl | exact iu_s _ _ _)]; done) | (rw [show vvw (tVl (tTh μ (ltR (inR xv 0 1) 1)) xv (turn (vod μ (vvw μ xv)) xlow)) xv = vvw μ xv from (by first | rfl | exact iu_s _ _ _), show vvl (tVl (tTh μ (ltR (inR xv 0 1) 1)) xv (turn (vod μ (vvw μ xv)) xlow)) xv = (turn (vod μ (vvw μ xv)) xlow) from (by first | rfl | exact iu_s _ _ _), show vvh (tVl (tTh μ (ltR (inR xv 0 1) 1)) xv (turn (vod μ (vvw μ xv)) xlow)) xv = vvh μ xv from (by first | rfl | exact iu_s _ _ _)]; rfl))
                        subst e_r105
                        exact q_retMi C0 hret rfl hlk dX6_narrowView_143 hP hD hS (⟨(by 
    have eN : ¬ (mnRef μ xv xkind xlow xhigh = 1) := by (unfold mnRef; (repeat' split) <;> first | rfl | omega)
    have eL : mnLo μ xv xkind xlow = (turn (vod μ (vvw μ xv)) xlow) := by (unfold mnLo; first | (rw [if_pos (by omega)]; done) | (rw [if_neg (by omega)]; done))
    have eH : mnHi μ xv xkind xhigh = (vvh μ xv) := by (unfold mnHi; first | (rw [if_pos (by omega)]; done) | (rw [if_neg (by omega)]; done))
    unfold jR_narrowView; rw [if_pos (by omega), if_neg eN, eL, eH]), O, G, MP_eq hC (by 
    have eN : ¬ (mnRef μ xv xkind xlow xhigh = 1) := by (unfold mnRef; (repeat' split) <;> first | rfl | omega)
    have eL : mnLo μ xv xkind xlow = (turn (vod μ (vvw μ xv)) xlow) := by (unfold mnLo; first | (rw [if_pos (by omega)]; done) | (rw [if_neg (by omega)]; done))
    have eH : mnHi μ xv xkind xhigh = (vvh μ xv) := by (unfold mnHi; first | (rw [if_pos (by omega)]; done) | (rw [if_neg (by omega)]; done))
    have lt_ := ltR_d (inR xv 0 1) 1; 
    unfold jS_narrowView; rw [if_pos (by omega), if_pos (by omega), if_neg eN, eL, eH, show ltR (inR xv 0 1) 1 = 0 by omega]; first | (exfalso; omega) | (rw [if_pos (by omega)]; done) | (rw [if_neg (by omega), if_pos (by omega)]; done) | (rw [if_neg (by omega), if_neg (by omega)]; done)), rfl, Ext0 hO⟩)
                      · refine lv_aload_n hx hb dX6_narrowView_125 rfl (lv_at hl 1 rfl) ?_
                        refine q_get C0 iX6 hP hC.1.1 hC.1.2 rfl 4 (by decide) flX6_25 rfl (v := .ref ((uat G))) rfl dX6_narrowView_126 ?_
                        refine lv_iload_n hx hb dX6_narrowView_129 rfl (lv_at hl 2 rfl) ?_
                        refine lv_aload hx hb dX6_narrowView_130 (lv_at hl 0 rfl) ?_
                        refine lv_iload hx hb dX6_narrowView_132 (lv_at hl 5 rfl) ?_
                        refine q_vS C0 lX6_93 (c_X5_rank l D y L F103 (urh G (vvw μ xv)) (urw G (vvw μ xv)) (vod μ (vvw μ xv)) (vst μ (vvw μ xv)) xhigh (MP_r hC (hW.2.2.1 xv)) (by omega)) ⟨rfl, rfl⟩ rfl hP (MP_r hC (hW.2.2.1 xv)).1 (MP_r hC (hW.2.2.1 xv)).2.1 rfl rfl rfl hl rfl (Nat.le_of_ble_eq_true rfl) dX6_narrowView_134 ⟨Nat.zero_le _, Nat.zero_le _⟩ (fun r106 e_r106 => ?_)
                        subst e_r106
                        have b_107 := @turn_b (vod μ (vvw μ xv)) xhigh (by omega)
                        refine q_iast C0 hP hD hS hC.2.2.2.2.2.1.1 hC.2.2.2.2.2.1.2 (i := xv) (v := (turn (vod μ (vvw μ xv)) xhigh)) (by omega) (by decide) dX6_narrowView_137 (fun H locs hP hD hS => ?_)
                        obtain ⟨F108, eF108⟩ : ∃ z, z = va_up F103 (uat G) (arrI (y 0) 2 (iu (vvh μ) xv (turn (vod μ (vvw μ xv)) xhigh))) := ⟨_, rfl⟩
                        have hP : va_P D vwCl (va_pl L F108) H := by rw [eF108]; exact hP
                        have hD : va_D (AL L sz) (va_pl L F108) := by rw [eF108]; exact hD
                        have hO : OE O F F108 := by rw [eF108]; exact hO.tr (OE1 (MP_O hC).2.2.2.2.2.1)
                        have hC : MP y L F108 O G (tVh (tVl (tTh μ (ltR (inR xv 0 1) 1)) xv (turn (vod μ (vvw μ xv)) xlow)) xv (turn (vod μ (vvw μ xv)) xhigh)) := by rw [eF108]; exact MP_vh hC (va_up_self _ _ _) (fun q hq => va_up_ne _ _ hq)
                        refine lv_aload_n hx hb dX6_narrowView_138 rfl (lv_at hl 1 rfl) ?_
                        refine lv_iload_n hx hb dX6_narrowView_139 rfl (lv_at hl 2 rfl) ?_
                        refine q_vS C0 lX6_171 (c_X6_seen l D y L F108 O G (tVh (tVl (tTh μ (ltR (inR xv 0 1) 1)) xv (turn (vod μ (vvw μ xv)) xlow)) xv (turn (vod μ (vvw μ xv)) xhigh)) xv hC (by omega) (by rw [show vvw (tVh (tVl (tTh μ (ltR (inR xv 0 1) 1)) xv (turn (vod μ (vvw μ xv)) xlow)) xv (turn (vod μ (vvw μ xv)) xhigh)) xv = vvw μ xv from (by first | rfl | exact iu_s _ _ _)]; exact (hW.2.2.1 xv)) (by rw [show vvl (tVh (tVl (tTh μ (ltR (inR xv 0 1) 1)) xv (turn (vod μ (vvw μ xv)) xlow)) xv (turn (vod μ (vvw μ xv)) xhigh)) xv = (turn (vod μ (vvw μ xv)) xlow) from (by first | rfl | exact iu_s _ _ _)]; omega) (by rw [show vvh (tVh (tVl (tTh μ (ltR (inR xv 0 1) 1)) xv (turn (vod μ (vvw μ xv)) xlow)) xv (turn (vod μ (vvw μ xv)) xhigh)) xv = (turn (vod μ (vvw μ xv)) xhigh) from (by first | rfl | exact iu_s _ _ _)]; omega)) ⟨rfl, rfl⟩ rfl hP hC.1.1 hC.1.2 rfl rfl rfl hl rfl (Nat.le_of_ble_eq_true rfl) dX6_narrowView_140 ⟨Nat.zero_le _, Nat.zero_le _⟩ (fun r109 e_r109 => ?_)
                        replace e_r109 : r109 = cntP (vst μ (vvw μ xv)) (turn (vod μ (vvw μ xv)) xlow) (turn (vod μ (vvw μ xv)) xhigh) := e_r109.trans (by first | rfl | (rw [show vvw (tVh (tVl (tTh μ (ltR (inR xv 0 1) 1)) xv (turn (vod μ (vvw μ xv)) xlow)) xv (turn (vod μ (vvw μ xv)) xhigh)) xv = vvw μ xv from (by first | rfl | exact iu_s _ _ _), show vvl (tVh (tVl (tTh μ (ltR (inR xv 0 1) 1)) xv (turn (vod μ (vvw μ xv)) xlow)) xv (turn (vod μ (vvw μ xv)) xhigh)) xv = (turn (vod μ (vvw μ xv)) xlow) from (by first | rfl | exact iu_s _ _ _), show vvh (tVh (tVl (tTh μ (ltR (inR xv 0 1) 1)) xv (turn (vod μ (vvw μ xv)) xlow)) xv (turn (vod μ (vvw μ xv)) xhigh)) xv = (turn (vod μ (vvw μ xv)) xhigh) from (by first | rfl | exact iu_s _ _ _)]; done) | (rw [show vvw (tVh (tVl (tTh μ (ltR (inR xv 0 1) 1)) xv (turn (vod μ (vvw μ xv)) xlow)) xv (turn (vod μ (vvw μ xv)) xhigh)) xv = vvw μ xv from (by first | rfl | exact iu_s _ _ _), show vvl (tVh (tVl (tTh μ (ltR (inR xv 0 1) 1)) xv (turn (vod μ (vvw μ xv)) xlow)) xv (turn (vod μ (vvw μ xv)) xhigh)) xv = (turn (vod μ (vvw μ xv)) xlow) from (by first | rfl | exact iu_s _ _ _), show vvh (tVh (tVl (tTh μ (ltR (inR xv 0 1) 1)) xv (turn (vod μ (vvw μ xv)) xlow)) xv (turn (vod μ (vvw μ xv)) xhigh)) xv = (turn (vod μ (vvw μ xv)) xhigh) from (by first | rfl | exact iu_s _ _ _)]; rfl))
                        subst e_r109
                        exact q_retMi C0 hret rfl hlk dX6_narrowView_143 hP hD hS (⟨(by 
    have eN : ¬ (mnRef μ xv xkind xlow xhigh = 1) := by (unfold mnRef; (repeat' split) <;> first | rfl | omega)
    have eL : mnLo μ xv xkind xlow = (turn (vod μ (vvw μ xv)) xlow) := by (unfold mnLo; first | (rw [if_pos (by omega)]; done) | (rw [if_neg (by omega)]; done))
    have eH : mnHi μ xv xkind xhigh = (turn (vod μ (vvw μ xv)) xhigh) := by (unfold mnHi; first | (rw [if_pos (by omega)]; done) | (rw [if_neg (by omega)]; done))
    unfold jR_narrowView; rw [if_pos (by omega), if_neg eN, eL, eH]), O, G, MP_eq hC (by 
    have eN : ¬ (mnRef μ xv xkind xlow xhigh = 1) := by (unfold mnRef; (repeat' split) <;> first | rfl | omega)
    have eL : mnLo μ xv xkind xlow = (turn (vod μ (vvw μ xv)) xlow) := by (unfold mnLo; first | (rw [if_pos (by omega)]; done) | (rw [if_neg (by omega)]; done))
    have eH : mnHi μ xv xkind xhigh = (turn (vod μ (vvw μ xv)) xhigh) := by (unfold mnHi; first | (rw [if_pos (by omega)]; done) | (rw [if_neg (by omega)]; done))
    have lt_ := ltR_d (inR xv 0 1) 1; 
    unfold jS_narrowView; rw [if_pos (by omega), if_pos (by omega), if_neg eN, eL, eH, show ltR (inR xv 0 1) 1 = 0 by omega]; first | (exfalso; omega) | (rw [if_pos (by omega)]; done) | (rw [if_neg (by omega), if_pos (by omega)]; done) | (rw [if_neg (by omega), if_neg (by omega)]; done)), rfl, Ext0 hO⟩)
                  · refine lv_aload_n hx hb dX6_narrowView_99 rfl (lv_at hl 1 rfl) ?_
                    refine q_vMi C0 lX6_89 (c_X6_refuse l D y L F22 _ O G (tTh μ (ltR (inR xv 0 1) 1)) hC) ⟨rfl, rfl⟩ rfl hP hD hS hA hC.1.1 hC.1.2 rfl rfl rfl hl rfl (Nat.le_of_ble_eq_true rfl) dX6_narrowView_100 ⟨Nat.le_of_ble_eq_true rfl, Nat.le_of_ble_eq_true rfl⟩ (fun r110 H locs L111 F111 hP hD hS hz111 hp111 => ?_)
                    obtain ⟨eL, hC, er, hO1⟩ := hp111
                    subst eL
                    replace er : (-9) = r110 := er.symm
                    subst er
                    have hO := hO.tr hO1
                    exact q_retMi C0 hret rfl hlk dX6_narrowView_103 hP hD hS (⟨(by 
    have eN : mnRef μ xv xkind xlow xhigh = 1 := by (unfold mnRef; (repeat' split) <;> first | rfl | omega)
    unfold jR_narrowView; rw [if_pos (by omega), if_pos eN]), O, G, MP_eq hC (by 
    have eN : mnRef μ xv xkind xlow xhigh = 1 := by (unfold mnRef; (repeat' split) <;> first | rfl | omega)
    have lt_ := ltR_d (inR xv 0 1) 1; 
    unfold jS_narrowView; rw [if_pos (by omega), if_pos (by omega), if_pos eN, show ltR (inR xv 0 1) 1 = 0 by omega]), rfl, Ext0 hO⟩)
          · refine lv_aload_n hx hb dX6_narrowView_54 rfl (lv_at hl 1 rfl) ?_
            refine lv_iload_n hx hb dX6_narrowView_55 rfl (lv_at hl 2 rfl) ?_
            refine lv_iload_n hx hb dX6_narrowView_56 rfl (lv_at hl 4 rfl) ?_
            refine q_vS C0 lX6_174 (c_X6_isWithin l D y L F22 O G (tTh μ (ltR (inR xv 0 1) 1)) xv xlow hC (by omega) (hW.2.2.1 xv) ⟨(hW.2.2.2.2.1 xv).1, (hW.2.2.2.2.1 xv).2.1⟩ (hW.2.2.2.2.1 xv).2.2 (by omega)) ⟨rfl, rfl⟩ rfl hP hC.1.1 hC.1.2 rfl rfl rfl hl rfl (Nat.le_of_ble_eq_true rfl) dX6_narrowView_57 ⟨Nat.zero_le _, Nat.zero_le _⟩ (fun r112 e_r112 => ?_)
            replace e_r112 : r112 = inR (turn (vod μ (vvw μ xv)) xlow) (vvl μ xv) (vvh μ xv) := e_r112.trans (by first | rfl | (rw [show vvw (tTh μ (ltR (inR xv 0 1) 1)) xv = vvw μ xv from (by first | rfl | exact iu_s _ _ _), show vvl (tTh μ (ltR (inR xv 0 1) 1)) xv = vvl μ xv from (by first | rfl | exact iu_s _ _ _), show vvh (tTh μ (ltR (inR xv 0 1) 1)) xv = vvh μ xv from (by first | rfl | exact iu_s _ _ _)]; done) | (rw [show vvw (tTh μ (ltR (inR xv 0 1) 1)) xv = vvw μ xv from (by first | rfl | exact iu_s _ _ _), show vvl (tTh μ (ltR (inR xv 0 1) 1)) xv = vvl μ xv from (by first | rfl | exact iu_s _ _ _), show vvh (tTh μ (ltR (inR xv 0 1) 1)) xv = vvh μ xv from (by first | rfl | exact iu_s _ _ _)]; rfl))
            subst e_r112
            have b_113 := inR_d (turn (vod μ (vvw μ xv)) xlow) (vvl μ xv) (vvh μ xv)
            refine q_if_eq hx hb dX6_narrowView_60 (tgt := 99) (by decide) (by omega) (fun c114 => ?_) (fun c114 => ?_)
            · refine lv_aload_n hx hb dX6_narrowView_99 rfl (lv_at hl 1 rfl) ?_
              refine q_vMi C0 lX6_89 (c_X6_refuse l D y L F22 _ O G (tTh μ (ltR (inR xv 0 1) 1)) hC) ⟨rfl, rfl⟩ rfl hP hD hS hA hC.1.1 hC.1.2 rfl rfl rfl hl rfl (Nat.le_of_ble_eq_true rfl) dX6_narrowView_100 ⟨Nat.le_of_ble_eq_true rfl, Nat.le_of_ble_eq_true rfl⟩ (fun r115 H locs L116 F116 hP hD hS hz116 hp116 => ?_)
              obtain ⟨eL, hC, er, hO1⟩ := hp116
              subst eL
              replace er : (-9) = r115 := er.symm
              subst er
              have hO := hO.tr hO1
              exact q_retMi C0 hret rfl hlk dX6_narrowView_103 hP hD hS (⟨(by 
    have eN : mnRef μ xv xkind xlow xhigh = 1 := by (unfold mnRef; (repeat' split) <;> first | rfl | omega)
    unfold jR_narrowView; rw [if_pos (by omega), if_pos eN]), O, G, MP_eq hC (by 
    have eN : mnRef μ xv xkind xlow xhigh = 1 := by (unfold mnRef; (repeat' split) <;> first | rfl | omega)
    have lt_ := ltR_d (inR xv 0 1) 1; 
    unfold jS_narrowView; rw [if_pos (by omega), if_pos (by omega), if_pos eN, show ltR (inR xv 0 1) 1 = 0 by omega]), rfl, Ext0 hO⟩)
            · refine lv_iload_n hx hb dX6_narrowView_63 rfl (lv_at hl 3 rfl) ?_
              refine q_iconst hx hb dX6_narrowView_64 ?_
              refine q_icmp_eq hx hb dX6_narrowView_65 (tgt := 78) (by decide) (by omega) (by omega) (fun c117 => ?_) (fun c117 => ?_)
              · refine lv_iload_n hx hb dX6_narrowView_78 rfl (lv_at hl 3 rfl) ?_
                refine q_iconst hx hb dX6_narrowView_79 ?_
                refine q_icmp_ne hx hb dX6_narrowView_80 (tgt := 104) (by decide) (by omega) (by omega) (fun c118 => ?_) (fun c118 => ?_)
                · refine lv_iload_n hx hb dX6_narrowView_104 rfl (lv_at hl 3 rfl) ?_
                  refine q_if_le hx hb dX6_narrowView_105 (tgt := 120) (by decide) (by omega) (fun c119 => ?_) (fun c119 => ?_)
                  · refine lv_iload_n hx hb dX6_narrowView_120 rfl (lv_at hl 3 rfl) ?_
                    refine q_iconst hx hb dX6_narrowView_121 ?_
                    refine q_icmp_eq hx hb dX6_narrowView_122 (tgt := 138) (by decide) (by omega) (by omega) (fun c120 => ?_) (fun c120 => ?_)
                    · refine lv_aload_n hx hb dX6_narrowView_138 rfl (lv_at hl 1 rfl) ?_
                      refine lv_iload_n hx hb dX6_narrowView_139 rfl (lv_at hl 2 rfl) ?_
                      refine q_vS C0 lX6_171 (c_X6_seen l D y L F22 O G (tTh μ (ltR (inR xv 0 1) 1)) xv hC (by omega) (hW.2.2.1 xv) ⟨(hW.2.2.2.2.1 xv).1, (hW.2.2.2.2.1 xv).2.1⟩ (hW.2.2.2.2.1 xv).2.2) ⟨rfl, rfl⟩ rfl hP hC.1.1 hC.1.2 rfl rfl rfl hl rfl (Nat.le_of_ble_eq_true rfl) dX6_narrowView_140 ⟨Nat.zero_le _, Nat.zero_le _⟩ (fun r121 e_r121 => ?_)
                      replace e_r121 : r121 = cntP (vst μ (vvw μ xv)) (vvl μ xv) (vvh μ xv) := e_r121.trans (by first | rfl | (rw [show vvw (tTh μ (ltR (inR xv 0 1) 1)) xv = vvw μ xv from (by first | rfl | exact iu_s _ _ _), show vvl (tTh μ (ltR (inR xv 0 1) 1)) xv = vvl μ xv from (by first | rfl | exact iu_s _ _ _), show vvh (tTh μ (ltR (inR xv 0 1) 1)) xv = vvh μ xv from (by first | rfl | exact iu_s _ _ _)]; done) | (rw [show vvw (tTh μ (ltR (inR xv 0 1) 1)) xv = vvw μ xv from (by first | rfl | exact iu_s _ _ _), show vvl (tTh μ (ltR (inR xv 0 1) 1)) xv = vvl μ xv from (by first | rfl | exact iu_s _ _ _), show vvh (tTh μ (ltR (inR xv 0 1) 1)) xv = vvh μ xv from (by first | rfl | exact iu_s _ _ _)]; rfl))
                      subst e_r121
                      exact q_retMi C0 hret rfl hlk dX6_narrowView_143 hP hD hS (⟨(by 
    have eN : ¬ (mnRef μ xv xkind xlow xhigh = 1) := by (unfold mnRef; (repeat' split) <;> first | rfl | omega)
    have eL : mnLo μ xv xkind xlow = (vvl μ xv) := by (unfold mnLo; first | (rw [if_pos (by omega)]; done) | (rw [if_neg (by omega)]; done))
    have eH : mnHi μ xv xkind xhigh = (vvh μ xv) := by (unfold mnHi; first | (rw [if_pos (by omega)]; done) | (rw [if_neg (by omega)]; done))
    unfold jR_narrowView; rw [if_pos (by omega), if_neg eN, eL, eH]), O, G, MP_eq hC (by 
    have eN : ¬ (mnRef μ xv xkind xlow xhigh = 1) := by (unfold mnRef; (repeat' split) <;> first | rfl | omega)
    have eL : mnLo μ xv xkind xlow = (vvl μ xv) := by (unfold mnLo; first | (rw [if_pos (by omega)]; done) | (rw [if_neg (by omega)]; done))
    have eH : mnHi μ xv xkind xhigh = (vvh μ xv) := by (unfold mnHi; first | (rw [if_pos (by omega)]; done) | (rw [if_neg (by omega)]; done))
    have lt_ := ltR_d (inR xv 0 1) 1; 
    unfold jS_narrowView; rw [if_pos (by omega), if_pos (by omega), if_neg eN, eL, eH, show ltR (inR xv 0 1) 1 = 0 by omega]; first | (exfalso; omega) | (rw [if_pos (by omega)]; done) | (rw [if_neg (by omega), if_pos (by omega)]; done) | (rw [if_neg (by omega), if_neg (by omega)]; done)), rfl, Ext0 hO⟩)
                    · refine lv_aload_n hx hb dX6_narrowView_125 rfl (lv_at hl 1 rfl) ?_
                      refine q_get C0 iX6 hP hC.1.1 hC.1.2 rfl 4 (by decide) flX6_25 rfl (v := .ref ((uat G))) rfl dX6_narrowView_126 ?_
                      refine lv_iload_n hx hb dX6_narrowView_129 rfl (lv_at hl 2 rfl) ?_
                      refine lv_aload hx hb dX6_narrowView_130 (lv_at hl 0 rfl) ?_
                      refine lv_iload hx hb dX6_narrowView_132 (lv_at hl 5 rfl) ?_
                      refine q_vS C0 lX6_93 (c_X5_rank l D y L F22 (urh G (vvw μ xv)) (urw G (vvw μ xv)) (vod μ (vvw μ xv)) (vst μ (vvw μ xv)) xhigh (MP_r hC (hW.2.2.1 xv)) (by omega)) ⟨rfl, rfl⟩ rfl hP (MP_r hC (hW.2.2.1 xv)).1 (MP_r hC (hW.2.2.1 xv)).2.1 rfl rfl rfl hl rfl (Nat.le_of_ble_eq_true rfl) dX6_narrowView_134 ⟨Nat.zero_le _, Nat.zero_le _⟩ (fun r122 e_r122 => ?_)
                      subst e_r122
                      have b_123 := @turn_b (vod μ (vvw μ xv)) xhigh (by omega)
                      refine q_iast C0 hP hD hS hC.2.2.2.2.2.1.1 hC.2.2.2.2.2.1.2 (i := xv) (v := (turn (vod μ (vvw μ xv)) xhigh)) (by omega) (by decide) dX6_narrowView_137 (fun H locs hP hD hS => ?_)
                      obtain ⟨F124, eF124⟩ : ∃ z, z = va_up F22 (uat G) (arrI (y 0) 2 (iu (vvh μ) xv (turn (vod μ (vvw μ xv)) xhigh))) := ⟨_, rfl⟩
                      have hP : va_P D vwCl (va_pl L F124) H := by rw [eF124]; exact hP
                      have hD : va_D (AL L sz) (va_pl L F124) := by rw [eF124]; exact hD
                      have hO : OE O F F124 := by rw [eF124]; exact hO.tr (OE1 (MP_O hC).2.2.2.2.2.1)
                      have hC : MP y L F124 O G (tVh (tTh μ (ltR (inR xv 0 1) 1)) xv (turn (vod μ (vvw μ xv)) xhigh)) := by rw [eF124]; exact MP_vh hC (va_up_self _ _ _) (fun q hq => va_up_ne _ _ hq)
                      refine lv_aload_n hx hb dX6_narrowView_138 rfl (lv_at hl 1 rfl) ?_
                      refine lv_iload_n hx hb dX6_narrowView_139 rfl (lv_at hl 2 rfl) ?_
                      refine q_vS C0 lX6_171 (c_X6_seen l D y L F124 O G (tVh (tTh μ (ltR (inR xv 0 1) 1)) xv (turn (vod μ (vvw μ xv)) xhigh)) xv hC (by omega) (by rw [show vvw (tVh (tTh μ (ltR (inR xv 0 1) 1)) xv (turn (vod μ (vvw μ xv)) xhigh)) xv = vvw μ xv from (by first | rfl | exact iu_s _ _ _)]; exact (hW.2.2.1 xv)) (by rw [show vvl (tVh (tTh μ (ltR (inR xv 0 1) 1)) xv (turn (vod μ (vvw μ xv)) xhigh)) xv = vvl μ xv from (by first | rfl | exact iu_s _ _ _)]; omega) (by rw [show vvh (tVh (tTh μ (ltR (inR xv 0 1) 1)) xv (turn (vod μ (vvw μ xv)) xhigh)) xv = (turn (vod μ (vvw μ xv)) xhigh) from (by first | rfl | exact iu_s _ _ _)]; omega)) ⟨rfl, rfl⟩ rfl hP hC.1.1 hC.1.2 rfl rfl rfl hl rfl (Nat.le_of_ble_eq_true rfl) dX6_narrowView_140 ⟨Nat.zero_le _, Nat.zero_le _⟩ (fun r125 e_r125 => ?_)
                      replace e_r125 : r125 = cntP (vst μ (vvw μ xv)) (vvl μ xv) (turn (vod μ (vvw μ xv)) xhigh) := e_r125.trans (by first | rfl | (rw [show vvw (tVh (tTh μ (ltR (inR xv 0 1) 1)) xv (turn (vod μ (vvw μ xv)) xhigh)) xv = vvw μ xv from (by first | rfl | exact iu_s _ _ _), show vvl (tVh (tTh μ (ltR (inR xv 0 1) 1)) xv (turn (vod μ (vvw μ xv)) xhigh)) xv = vvl μ xv from (by first | rfl | exact iu_s _ _ _), show vvh (tVh (tTh μ (ltR (inR xv 0 1) 1)) xv (turn (vod μ (vvw μ xv)) xhigh)) xv = (turn (vod μ (vvw μ xv)) xhigh) from (by first | rfl | exact iu_s _ _ _)]; done) | (rw [show vvw (tVh (tTh μ (ltR (inR xv 0 1) 1)) xv (turn (vod μ (vvw μ xv)) xhigh)) xv = vvw μ xv from (by first | rfl | exact iu_s _ _ _), show vvl (tVh (tTh μ (ltR (inR xv 0 1) 1)) xv (turn (vod μ (vvw μ xv)) xhigh)) xv = vvl μ xv from (by first | rfl | exact iu_s _ _ _), show vvh (tVh (tTh μ (ltR (inR xv 0 1) 1)) xv (turn (vod μ (vvw μ xv)) xhigh)) xv = (turn (vod μ (vvw μ xv)) xhigh) from (by first | rfl | exact iu_s _ _ _)]; rfl))
                      subst e_r125
                      exact q_retMi C0 hret rfl hlk dX6_narrowView_143 hP hD hS (⟨(by 
    have eN : ¬ (mnRef μ xv xkind xlow xhigh = 1) := by (unfold mnRef; (repeat' split) <;> first | rfl | omega)
    have eL : mnLo μ xv xkind xlow = (vvl μ xv) := by (unfold mnLo; first | (rw [if_pos (by omega)]; done) | (rw [if_neg (by omega)]; done))
    have eH : mnHi μ xv xkind xhigh = (turn (vod μ (vvw μ xv)) xhigh) := by (unfold mnHi; first | (rw [if_pos (by omega)]; done) | (rw [if_neg (by omega)]; done))
    unfold jR_narrowView; rw [if_pos (by omega), if_neg eN, eL, eH]), O, G, MP_eq hC (by 
    have eN : ¬ (mnRef μ xv xkind xlow xhigh = 1) := by (unfold mnRef; (repeat' split) <;> first | rfl | omega)
    have eL : mnLo μ xv xkind xlow = (vvl μ xv) := by (unfold mnLo; first | (rw [if_pos (by omega)]; done) | (rw [if_neg (by omega)]; done))
    have eH : mnHi μ xv xkind xhigh = (turn (vod μ (vvw μ xv)) xhigh) := by (unfold mnHi; first | (rw [if_pos (by omega)]; done) | (rw [if_neg (by omega)]; done))
    have lt_ := ltR_d (inR xv 0 1) 1; 
    unfold jS_narrowView; rw [if_pos (by omega), if_pos (by omega), if_neg eN, eL, eH, show ltR (inR xv 0 1) 1 = 0 by omega]; first | (exfalso; omega) | (rw [if_pos (by omega)]; done) | (rw [if_neg (by omega), if_pos (by omega)]; done) | (rw [if_neg (by omega), if_neg (by omega)]; done)), rfl, Ext0 hO⟩)
                  · refine lv_aload_n hx hb dX6_narrowView_108 rfl (lv_at hl 1 rfl) ?_
                    refine q_get C0 iX6 hP hC.1.1 hC.1.2 rfl 3 (by decide) flX6_21 rfl (v := .ref ((uaf G))) rfl dX6_narrowView_109 ?_
                    refine lv_iload_n hx hb dX6_narrowView_112 rfl (lv_at hl 2 rfl) ?_
                    refine lv_aload hx hb dX6_narrowView_113 (lv_at hl 0 rfl) ?_
                    refine lv_iload_n hx hb dX6_narrowView_115 rfl (lv_at hl 4 rfl) ?_
                    refine q_vS C0 lX6_93 (c_X5_rank l D y L F22 (urh G (vvw μ xv)) (urw G (vvw μ xv)) (vod μ (vvw μ xv)) (vst μ (vvw μ xv)) xlow (MP_r hC (hW.2.2.1 xv)) (by omega)) ⟨rfl, rfl⟩ rfl hP (MP_r hC (hW.2.2.1 xv)).1 (MP_r hC (hW.2.2.1 xv)).2.1 rfl rfl rfl hl rfl (Nat.le_of_ble_eq_true rfl) dX6_narrowView_116 ⟨Nat.zero_le _, Nat.zero_le _⟩ (fun r126 e_r126 => ?_)
                    subst e_r126
                    have b_127 := @turn_b (vod μ (vvw μ xv)) xlow (by omega)
                    refine q_iast C0 hP hD hS hC.2.2.2.2.1.1 hC.2.2.2.2.1.2 (i := xv) (v := (turn (vod μ (vvw μ xv)) xlow)) (by omega) (by decide) dX6_narrowView_119 (fun H locs hP hD hS => ?_)
                    obtain ⟨F128, eF128⟩ : ∃ z, z = va_up F22 (uaf G) (arrI (y 0) 2 (iu (vvl μ) xv (turn (vod μ (vvw μ xv)) xlow))) := ⟨_, rfl⟩
                    have hP : va_P D vwCl (va_pl L F128) H := by rw [eF128]; exact hP
                    have hD : va_D (AL L sz) (va_pl L F128) := by rw [eF128]; exact hD
                    have hO : OE O F F128 := by rw [eF128]; exact hO.tr (OE1 (MP_O hC).2.2.2.2.1)
                    have hC : MP y L F128 O G (tVl (tTh μ (ltR (inR xv 0 1) 1)) xv (turn (vod μ (vvw μ xv)) xlow)) := by rw [eF128]; exact MP_vl hC (va_up_self _ _ _) (fun q hq => va_up_ne _ _ hq)
                    refine lv_iload_n hx hb dX6_narrowView_120 rfl (lv_at hl 3 rfl) ?_
                    refine q_iconst hx hb dX6_narrowView_121 ?_
                    refine q_icmp_eq hx hb dX6_narrowView_122 (tgt := 138) (by decide) (by omega) (by omega) (fun c129 => ?_) (fun c129 => ?_)
                    · refine lv_aload_n hx hb dX6_narrowView_138 rfl (lv_at hl 1 rfl) ?_
                      refine lv_iload_n hx hb dX6_narrowView_139 rfl (lv_at hl 2 rfl) ?_
                      refine q_vS C0 lX6_171 (c_X6_seen l D y L F128 O G (tVl (tTh μ (ltR (inR xv 0 1) 1)) xv (turn (vod μ (vvw μ xv)) xlow)) xv hC (by omega) (by rw [show vvw (tVl (tTh μ (ltR (inR xv 0 1) 1)) xv (turn (vod μ (vvw μ xv)) xlow)) xv = vvw μ xv from (by first | rfl | exact iu_s _ _ _)]; exact (hW.2.2.1 xv)) (by rw [show vvl (tVl (tTh μ (ltR (inR xv 0 1) 1)) xv (turn (vod μ (vvw μ xv)) xlow)) xv = (turn (vod μ (vvw μ xv)) xlow) from (by first | rfl | exact iu_s _ _ _)]; omega) (by rw [show vvh (tVl (tTh μ (ltR (inR xv 0 1) 1)) xv (turn (vod μ (vvw μ xv)) xlow)) xv = vvh μ xv from (by first | rfl | exact iu_s _ _ _)]; omega)) ⟨rfl, rfl⟩ rfl hP hC.1.1 hC.1.2 rfl rfl rfl hl rfl (Nat.le_of_ble_eq_true rfl) dX6_narrowView_140 ⟨Nat.zero_le _, Nat.zero_le _⟩ (fun r130 e_r130 => ?_)
                      replace e_r130 : r130 = cntP (vst μ (vvw μ xv)) (turn (vod μ (vvw μ xv)) xlow) (vvh μ xv) := e_r130.trans (by first | rfl | (rw [show vvw (tVl (tTh μ (ltR (inR xv 0 1) 1)) xv (turn (vod μ (vvw μ xv)) xlow)) xv = vvw μ xv from (by first | rfl | exact iu_s _ _ _), show vvl (tVl (tTh μ (ltR (inR xv 0 1) 1)) xv (turn (vod μ (vvw μ xv)) xlow)) xv = (turn (vod μ (vvw μ xv)) xlow) from (by first | rfl | exact iu_s _ _ _), show vvh (tVl (tTh μ (ltR (inR xv 0 1) 1)) xv (turn (vod μ (vvw μ xv)) xlow)) xv = vvh μ xv from (by first | rfl | exact iu_s _ _ _)]; done) | (rw [show vvw (tVl (tTh μ (ltR (inR xv 0 1) 1)) xv (turn (vod μ (vvw μ xv)) xlow)) xv = vvw μ xv from (by first | rfl | exact iu_s _ _ _), show vvl (tVl (tTh μ (ltR (inR xv 0 1) 1)) xv (turn (vod μ (vvw μ xv)) xlow)) xv = (turn (vod μ (vvw μ xv)) xlow) from (by first | rfl | exact iu_s _ _ _), show vvh (tVl (tTh μ (ltR (inR xv 0 1) 1)) xv (turn (vod μ (vvw μ xv)) xlow)) xv = vvh μ xv from (by first | rfl | exact iu_s _ _ _)]; rfl))
                      subst e_r130
                      exact q_retMi C0 hret rfl hlk dX6_narrowView_143 hP hD hS (⟨(by 
    have eN : ¬ (mnRef μ xv xkind xlow xhigh = 1) := by (unfold mnRef; (repeat' split) <;> first | rfl | omega)
    have eL : mnLo μ xv xkind xlow = (turn (vod μ (vvw μ xv)) xlow) := by (unfold mnLo; first | (rw [if_pos (by omega)]; done) | (rw [if_neg (by omega)]; done))
    have eH : mnHi μ xv xkind xhigh = (vvh μ xv) := by (unfold mnHi; first | (rw [if_pos (by omega)]; done) | (rw [if_neg (by omega)]; done))
    unfold jR_narrowView; rw [if_pos (by omega), if_neg eN, eL, eH]), O, G, MP_eq hC (by 
    have eN : ¬ (mnRef μ xv xkind xlow xhigh = 1) := by (unfold mnRef; (repeat' split) <;> first | rfl | omega)
    have eL : mnLo μ xv xkind xlow = (turn (vod μ (vvw μ xv)) xlow) := by (unfold mnLo; first | (rw [if_pos (by omega)]; done) | (rw [if_neg (by omega)]; done))
    have eH : mnHi μ xv xkind xhigh = (vvh μ xv) := by (unfold mnHi; first | (rw [if_pos (by omega)]; done) | (rw [if_neg (by omega)]; done))
    have lt_ := ltR_d (inR xv 0 1) 1; 
    unfold jS_narrowView; rw [if_pos (by omega), if_pos (by omega), if_neg eN, eL, eH, show ltR (inR xv 0 1) 1 = 0 by omega]; first | (exfalso; omega) | (rw [if_pos (by omega)]; done) | (rw [if_neg (by omega), if_pos (by omega)]; done) | (rw [if_neg (by omega), if_neg (by omega)]; done)), rfl, Ext0 hO⟩)
                    · refine lv_aload_n hx hb dX6_narrowView_125 rfl (lv_at hl 1 rfl) ?_
                      refine q_get C0 iX6 hP hC.1.1 hC.1.2 rfl 4 (by decide) flX6_25 rfl (v := .ref ((uat G))) rfl dX6_narrowView_126 ?_
                      refine lv_iload_n hx hb dX6_narrowView_129 rfl (lv_at hl 2 rfl) ?_
                      refine lv_aload hx hb dX6_narrowView_130 (lv_at hl 0 rfl) ?_
                      refine lv_iload hx hb dX6_narrowView_132 (lv_at hl 5 rfl) ?_
                      refine q_vS C0 lX6_93 (c_X5_rank l D y L F128 (urh G (vvw μ xv)) (urw G (vvw μ xv)) (vod μ (vvw μ xv)) (vst μ (vvw μ xv)) xhigh (MP_r hC (hW.2.2.1 xv)) (by omega)) ⟨rfl, rfl⟩ rfl hP (MP_r hC (hW.2.2.1 xv)).1 (MP_r hC (hW.2.2.1 xv)).2.1 rfl rfl rfl hl rfl (Nat.le_of_ble_eq_true rfl) dX6_narrowView_134 ⟨Nat.zero_le _, Nat.zero_le _⟩ (fun r131 e_r131 => ?_)
                      subst e_r131
                      have b_132 := @turn_b (vod μ (vvw μ xv)) xhigh (by omega)
                      refine q_iast C0 hP hD hS hC.2.2.2.2.2.1.1 hC.2.2.2.2.2.1.2 (i := xv) (v := (turn (vod μ (vvw μ xv)) xhigh)) (by omega) (by decide) dX6_narrowView_137 (fun H locs hP hD hS => ?_)
                      obtain ⟨F133, eF133⟩ : ∃ z, z = va_up F128 (uat G) (arrI (y 0) 2 (iu (vvh μ) xv (turn (vod μ (vvw μ xv)) xhigh))) := ⟨_, rfl⟩
                      have hP : va_P D vwCl (va_pl L F133) H := by rw [eF133]; exact hP
                      have hD : va_D (AL L sz) (va_pl L F133) := by rw [eF133]; exact hD
                      have hO : OE O F F133 := by rw [eF133]; exact hO.tr (OE1 (MP_O hC).2.2.2.2.2.1)
                      have hC : MP y L F133 O G (tVh (tVl (tTh μ (ltR (inR xv 0 1) 1)) xv (turn (vod μ (vvw μ xv)) xlow)) xv (turn (vod μ (vvw μ xv)) xhigh)) := by rw [eF133]; exact MP_vh hC (va_up_self _ _ _) (fun q hq => va_up_ne _ _ hq)
                      refine lv_aload_n hx hb dX6_narrowView_138 rfl (lv_at hl 1 rfl) ?_
                      refine lv_iload_n hx hb dX6_narrowView_139 rfl (lv_at hl 2 rfl) ?_
                      refine q_vS C0 lX6_171 (c_X6_seen l D y L F133 O G (tVh (tVl (tTh μ (ltR (inR xv 0 1) 1)) xv (turn (vod μ (vvw μ xv)) xlow)) xv (turn (vod μ (vvw μ xv)) xhigh)) xv hC (by omega) (by rw [show vvw (tVh (tVl (tTh μ (ltR (inR xv 0 1) 1)) xv (turn (vod μ (vvw μ xv)) xlow)) xv (turn (vod μ (vvw μ xv)) xhigh)) xv = vvw μ xv from (by first | rfl | exact iu_s _ _ _)]; exact (hW.2.2.1 xv)) (by rw [show vvl (tVh (tVl (tTh μ (ltR (inR xv 0 1) 1)) xv (turn (vod μ (vvw μ xv)) xlow)) xv (turn (vod μ (vvw μ xv)) xhigh)) xv = (turn (vod μ (vvw μ xv)) xlow) from (by first | rfl | exact iu_s _ _ _)]; omega) (by rw [show vvh (tVh (tVl (tTh μ (ltR (inR xv 0 1) 1)) xv (turn (vod μ (vvw μ xv)) xlow)) xv (turn (vod μ (vvw μ xv)) xhigh)) xv = (turn (vod μ (vvw μ xv)) xhigh) from (by first | rfl | exact iu_s _ _ _)]; omega)) ⟨rfl, rfl⟩ rfl hP hC.1.1 hC.1.2 rfl rfl rfl hl rfl (Nat.le_of_ble_eq_true rfl) dX6_narrowView_140 ⟨Nat.zero_le _, Nat.zero_le _⟩ (fun r134 e_r134 => ?_)
                      replace e_r134 : r134 = cntP (vst μ (vvw μ xv)) (turn (vod μ (vvw μ xv)) xlow) (turn (vod μ (vvw μ xv)) xhigh) := e_r134.trans (by first | rfl | (rw [show vvw (tVh (tVl (tTh μ (ltR (inR xv 0 1) 1)) xv (turn (vod μ (vvw μ xv)) xlow)) xv (turn (vod μ (vvw μ xv)) xhigh)) xv = vvw μ xv from (by first | rfl | exact iu_s _ _ _), show vvl (tVh (tVl (tTh μ (ltR (inR xv 0 1) 1)) xv (turn (vod μ (vvw μ xv)) xlow)) xv (turn (vod μ (vvw μ xv)) xhigh)) xv = (turn (vod μ (vvw μ xv)) xlow) from (by first | rfl | exact iu_s _ _ _), show vvh (tVh (tVl (tTh μ (ltR (inR xv 0 1) 1)) xv (turn (vod μ (vvw μ xv)) xlow)) xv (turn (vod μ (vvw μ xv)) xhigh)) xv = (turn (vod μ (vvw μ xv)) xhigh) from (by first | rfl | exact iu_s _ _ _)]; done) | (rw [show vvw (tVh (tVl (tTh μ (ltR (inR xv 0 1) 1)) xv (turn (vod μ (vvw μ xv)) xlow)) xv (turn (vod μ (vvw μ xv)) xhigh)) xv = vvw μ xv from (by first | rfl | exact iu_s _ _ _), show vvl (tVh (tVl (tTh μ (ltR (inR xv 0 1) 1)) xv (turn (vod μ (vvw μ xv)) xlow)) xv (turn (vod μ (vvw μ xv)) xhigh)) xv = (turn (vod μ (vvw μ xv)) xlow) from (by first | rfl | exact iu_s _ _ _), show vvh (tVh (tVl (tTh μ (ltR (inR xv 0 1) 1)) xv (turn (vod μ (vvw μ xv)) xlow)) xv (turn (vod μ (vvw μ xv)) xhigh)) xv = (turn (vod μ (vvw μ xv)) xhigh) from (by first | rfl | exact iu_s _ _ _)]; rfl))
                      subst e_r134
                      exact q_retMi C0 hret rfl hlk dX6_narrowView_143 hP hD hS (⟨(by 
    have eN : ¬ (mnRef μ xv xkind xlow xhigh = 1) := by (unfold mnRef; (repeat' split) <;> first | rfl | omega)
    have eL : mnLo μ xv xkind xlow = (turn (vod μ (vvw μ xv)) xlow) := by (unfold mnLo; first | (rw [if_pos (by omega)]; done) | (rw [if_neg (by omega)]; done))
    have eH : mnHi μ xv xkind xhigh = (turn (vod μ (vvw μ xv)) xhigh) := by (unfold mnHi; first | (rw [if_pos (by omega)]; done) | (rw [if_neg (by omega)]; done))
    unfold jR_narrowView; rw [if_pos (by omega), if_neg eN, eL, eH]), O, G, MP_eq hC (by 
    have eN : ¬ (mnRef μ xv xkind xlow xhigh = 1) := by (unfold mnRef; (repeat' split) <;> first | rfl | omega)
    have eL : mnLo μ xv xkind xlow = (turn (vod μ (vvw μ xv)) xlow) := by (unfold mnLo; first | (rw [if_pos (by omega)]; done) | (rw [if_neg (by omega)]; done))
    have eH : mnHi μ xv xkind xhigh = (turn (vod μ (vvw μ xv)) xhigh) := by (unfold mnHi; first | (rw [if_pos (by omega)]; done) | (rw [if_neg (by omega)]; done))
    have lt_ := ltR_d (inR xv 0 1) 1; 
    unfold jS_narrowView; rw [if_pos (by omega), if_pos (by omega), if_neg eN, eL, eH, show ltR (inR xv 0 1) 1 = 0 by omega]; first | (exfalso; omega) | (rw [if_pos (by omega)]; done) | (rw [if_neg (by omega), if_pos (by omega)]; done) | (rw [if_neg (by omega), if_neg (by omega)]; done)), rfl, Ext0 hO⟩)
                · refine lv_aload hx hb dX6_narrowView_83 (lv_at hl 0 rfl) ?_
                  refine lv_iload_n hx hb dX6_narrowView_85 rfl (lv_at hl 4 rfl) ?_
                  refine q_vS C0 lX6_93 (c_X5_rank l D y L F22 (urh G (vvw μ xv)) (urw G (vvw μ xv)) (vod μ (vvw μ xv)) (vst μ (vvw μ xv)) xlow (MP_r hC (hW.2.2.1 xv)) (by omega)) ⟨rfl, rfl⟩ rfl hP (MP_r hC (hW.2.2.1 xv)).1 (MP_r hC (hW.2.2.1 xv)).2.1 rfl rfl rfl hl rfl (Nat.le_of_ble_eq_true rfl) dX6_narrowView_86 ⟨Nat.zero_le _, Nat.zero_le _⟩ (fun r135 e_r135 => ?_)
                  subst e_r135
                  have b_136 := @turn_b (vod μ (vvw μ xv)) xlow (by omega)
                  refine lv_aload hx hb dX6_narrowView_89 (lv_at hl 0 rfl) ?_
                  refine lv_iload hx hb dX6_narrowView_91 (lv_at hl 5 rfl) ?_
                  refine q_vS C0 lX6_93 (c_X5_rank l D y L F22 (urh G (vvw μ xv)) (urw G (vvw μ xv)) (vod μ (vvw μ xv)) (vst μ (vvw μ xv)) xhigh (MP_r hC (hW.2.2.1 xv)) (by omega)) ⟨rfl, rfl⟩ rfl hP (MP_r hC (hW.2.2.1 xv)).1 (MP_r hC (hW.2.2.1 xv)).2.1 rfl rfl rfl hl rfl (Nat.le_of_ble_eq_true rfl) dX6_narrowView_93 ⟨Nat.zero_le _, Nat.zero_le _⟩ (fun r137 e_r137 => ?_)
                  subst e_r137
                  have b_138 := @turn_b (vod μ (vvw μ xv)) xhigh (by omega)
                  refine q_icmp_le hx hb dX6_narrowView_96 (tgt := 104) (by decide) (by omega) (by omega) (fun c139 => ?_) (fun c139 => ?_)
                  · refine lv_iload_n hx hb dX6_narrowView_104 rfl (lv_at hl 3 rfl) ?_
                    refine q_if_le hx hb dX6_narrowView_105 (tgt := 120) (by decide) (by omega) (fun c140 => ?_) (fun c140 => ?_)
                    · refine lv_iload_n hx hb dX6_narrowView_120 rfl (lv_at hl 3 rfl) ?_
                      refine q_iconst hx hb dX6_narrowView_121 ?_
                      refine q_icmp_eq hx hb dX6_narrowView_122 (tgt := 138) (by decide) (by omega) (by omega) (fun c141 => ?_) (fun c141 => ?_)
                      · refine lv_aload_n hx hb dX6_narrowView_138 rfl (lv_at hl 1 rfl) ?_
                        refine lv_iload_n hx hb dX6_narrowView_139 rfl (lv_at hl 2 rfl) ?_
                        refine q_vS C0 lX6_171 (c_X6_seen l D y L F22 O G (tTh μ (ltR (inR xv 0 1) 1)) xv hC (by omega) (hW.2.2.1 xv) ⟨(hW.2.2.2.2.1 xv).1, (hW.2.2.2.2.1 xv).2.1⟩ (hW.2.2.2.2.1 xv).2.2) ⟨rfl, rfl⟩ rfl hP hC.1.1 hC.1.2 rfl rfl rfl hl rfl (Nat.le_of_ble_eq_true rfl) dX6_narrowView_140 ⟨Nat.zero_le _, Nat.zero_le _⟩ (fun r142 e_r142 => ?_)
                        replace e_r142 : r142 = cntP (vst μ (vvw μ xv)) (vvl μ xv) (vvh μ xv) := e_r142.trans (by first | rfl | (rw [show vvw (tTh μ (ltR (inR xv 0 1) 1)) xv = vvw μ xv from (by first | rfl | exact iu_s _ _ _), show vvl (tTh μ (ltR (inR xv 0 1) 1)) xv = vvl μ xv from (by first | rfl | exact iu_s _ _ _), show vvh (tTh μ (ltR (inR xv 0 1) 1)) xv = vvh μ xv from (by first | rfl | exact iu_s _ _ _)]; done) | (rw [show vvw (tTh μ (ltR (inR xv 0 1) 1)) xv = vvw μ xv from (by first | rfl | exact iu_s _ _ _), show vvl (tTh μ (ltR (inR xv 0 1) 1)) xv = vvl μ xv from (by first | rfl | exact iu_s _ _ _), show vvh (tTh μ (ltR (inR xv 0 1) 1)) xv = vvh μ xv from (by first | rfl | exact iu_s _ _ _)]; rfl))
                        subst e_r142
                        exact q_retMi C0 hret rfl hlk dX6_narrowView_143 hP hD hS (⟨(by 
    have eN : ¬ (mnRef μ xv xkind xlow xhigh = 1) := by (unfold mnRef; (repeat' split) <;> first | rfl | omega)
    have eL : mnLo μ xv xkind xlow = (vvl μ xv) := by (unfold mnLo; first | (rw [if_pos (by omega)]; done) | (rw [if_neg (by omega)]; done))
    have eH : mnHi μ xv xkind xhigh = (vvh μ xv) := by (unfold mnHi; first | (rw [if_pos (by omega)]; done) | (rw [if_neg (by omega)]; done))
    unfold jR_narrowView; rw [if_pos (by omega), if_neg eN, eL, eH]), O, G, MP_eq hC (by 
    have eN : ¬ (mnRef μ xv xkind xlow xhigh = 1) := by (unfold mnRef; (repeat' split) <;> first | rfl | omega)
    have eL : mnLo μ xv xkind xlow = (vvl μ xv) := by (unfold mnLo; first | (rw [if_pos (by omega)]; done) | (rw [if_neg (by omega)]; done))
    have eH : mnHi μ xv xkind xhigh = (vvh μ xv) := by (unfold mnHi; first | (rw [if_pos (by omega)]; done) | (rw [if_neg (by omega)]; done))
    have lt_ := ltR_d (inR xv 0 1) 1; 
    unfold jS_narrowView; rw [if_pos (by omega), if_pos (by omega), if_neg eN, eL, eH, show ltR (inR xv 0 1) 1 = 0 by omega]; first | (exfalso; omega) | (rw [if_pos (by omega)]; done) | (rw [if_neg (by omega), if_pos (by omega)]; done) | (rw [if_neg (by omega), if_neg (by omega)]; done)), rfl, Ext0 hO⟩)
                      · refine lv_aload_n hx hb dX6_narrowView_125 rfl (lv_at hl 1 rfl) ?_
                        refine q_get C0 iX6 hP hC.1.1 hC.1.2 rfl 4 (by decide) flX6_25 rfl (v := .ref ((uat G))) rfl dX6_narrowView_126 ?_
                        refine lv_iload_n hx hb dX6_narrowView_129 rfl (lv_at hl 2 rfl) ?_
                        refine lv_aload hx hb dX6_narrowView_130 (lv_at hl 0 rfl) ?_
                        refine lv_iload hx hb dX6_narrowView_132 (lv_at hl 5 rfl) ?_
                        refine q_vS C0 lX6_93 (c_X5_rank l D y L F22 (urh G (vvw μ xv)) (urw G (vvw μ xv)) (vod μ (vvw μ xv)) (vst μ (vvw μ xv)) xhigh (MP_r hC (hW.2.2.1 xv)) (by omega)) ⟨rfl, rfl⟩ rfl hP (MP_r hC (hW.2.2.1 xv)).1 (MP_r hC (hW.2.2.1 xv)).2.1 rfl rfl rfl hl rfl (Nat.le_of_ble_eq_true rfl) dX6_narrowView_134 ⟨Nat.zero_le _, Nat.zero_le _⟩ (fun r143 e_r143 => ?_)
                        subst e_r143
                        have b_144 := @turn_b (vod μ (vvw μ xv)) xhigh (by omega)
                        refine q_iast C0 hP hD hS hC.2.2.2.2.2.1.1 hC.2.2.2.2.2.1.2 (i := xv) (v := (turn (vod μ (vvw μ xv)) xhigh)) (by omega) (by decide) dX6_narrowView_137 (fun H locs hP hD hS => ?_)
                        obtain ⟨F145, eF145⟩ : ∃ z, z = va_up F22 (uat G) (arrI (y 0) 2 (iu (vvh μ) xv (turn (vod μ (vvw μ xv)) xhigh))) := ⟨_, rfl⟩
                        have hP : va_P D vwCl (va_pl L F145) H := by rw [eF145]; exact hP
                        have hD : va_D (AL L sz) (va_pl L F145) := by rw [eF145]; exact hD
                        have hO : OE O F F145 := by rw [eF145]; exact hO.tr (OE1 (MP_O hC).2.2.2.2.2.1)
                        have hC : MP y L F145 O G (tVh (tTh μ (ltR (inR xv 0 1) 1)) xv (turn (vod μ (vvw μ xv)) xhigh)) := by rw [eF145]; exact MP_vh hC (va_up_self _ _ _) (fun q hq => va_up_ne _ _ hq)
                        refine lv_aload_n hx hb dX6_narrowView_138 rfl (lv_at hl 1 rfl) ?_
                        refine lv_iload_n hx hb dX6_narrowView_139 rfl (lv_at hl 2 rfl) ?_
                        refine q_vS C0 lX6_171 (c_X6_seen l D y L F145 O G (tVh (tTh μ (ltR (inR xv 0 1) 1)) xv (turn (vod μ (vvw μ xv)) xhigh)) xv hC (by omega) (by rw [show vvw (tVh (tTh μ (ltR (inR xv 0 1) 1)) xv (turn (vod μ (vvw μ xv)) xhigh)) xv = vvw μ xv from (by first | rfl | exact iu_s _ _ _)]; exact (hW.2.2.1 xv)) (by rw [show vvl (tVh (tTh μ (ltR (inR xv 0 1) 1)) xv (turn (vod μ (vvw μ xv)) xhigh)) xv = vvl μ xv from (by first | rfl | exact iu_s _ _ _)]; omega) (by rw [show vvh (tVh (tTh μ (ltR (inR xv 0 1) 1)) xv (turn (vod μ (vvw μ xv)) xhigh)) xv = (turn (vod μ (vvw μ xv)) xhigh) from (by first | rfl | exact iu_s _ _ _)]; omega)) ⟨rfl, rfl⟩ rfl hP hC.1.1 hC.1.2 rfl rfl rfl hl rfl (Nat.le_of_ble_eq_true rfl) dX6_narrowView_140 ⟨Nat.zero_le _, Nat.zero_le _⟩ (fun r146 e_r146 => ?_)
                        replace e_r146 : r146 = cntP (vst μ (vvw μ xv)) (vvl μ xv) (turn (vod μ (vvw μ xv)) xhigh) := e_r146.trans (by first | rfl | (rw [show vvw (tVh (tTh μ (ltR (inR xv 0 1) 1)) xv (turn (vod μ (vvw μ xv)) xhigh)) xv = vvw μ xv from (by first | rfl | exact iu_s _ _ _), show vvl (tVh (tTh μ (ltR (inR xv 0 1) 1)) xv (turn (vod μ (vvw μ xv)) xhigh)) xv = vvl μ xv from (by first | rfl | exact iu_s _ _ _), show vvh (tVh (tTh μ (ltR (inR xv 0 1) 1)) xv (turn (vod μ (vvw μ xv)) xhigh)) xv = (turn (vod μ (vvw μ xv)) xhigh) from (by first | rfl | exact iu_s _ _ _)]; done) | (rw [show vvw (tVh (tTh μ (ltR (inR xv 0 1) 1)) xv (turn (vod μ (vvw μ xv)) xhigh)) xv = vvw μ xv from (by first | rfl | exact iu_s _ _ _), show vvl (tVh (tTh μ (ltR (inR xv 0 1) 1)) xv (turn (vod μ (vvw μ xv)) xhigh)) xv = vvl μ xv from (by first | rfl | exact iu_s _ _ _), show vvh (tVh (tTh μ (ltR (inR xv 0 1) 1)) xv (turn (vod μ (vvw μ xv)) xhigh)) xv = (turn (vod μ (vvw μ xv)) xhigh) from (by first | rfl | exact iu_s _ _ _)]; rfl))
                        subst e_r146
                        exact q_retMi C0 hret rfl hlk dX6_narrowView_143 hP hD hS (⟨(by 
    have eN : ¬ (mnRef μ xv xkind xlow xhigh = 1) := by (unfold mnRef; (repeat' split) <;> first | rfl | omega)
    have eL : mnLo μ xv xkind xlow = (vvl μ xv) := by (unfold mnLo; first | (rw [if_pos (by omega)]; done) | (rw [if_neg (by omega)]; done))
    have eH : mnHi μ xv xkind xhigh = (turn (vod μ (vvw μ xv)) xhigh) := by (unfold mnHi; first | (rw [if_pos (by omega)]; done) | (rw [if_neg (by omega)]; done))
    unfold jR_narrowView; rw [if_pos (by omega), if_neg eN, eL, eH]), O, G, MP_eq hC (by 
    have eN : ¬ (mnRef μ xv xkind xlow xhigh = 1) := by (unfold mnRef; (repeat' split) <;> first | rfl | omega)
    have eL : mnLo μ xv xkind xlow = (vvl μ xv) := by (unfold mnLo; first | (rw [if_pos (by omega)]; done) | (rw [if_neg (by omega)]; done))
    have eH : mnHi μ xv xkind xhigh = (turn (vod μ (vvw μ xv)) xhigh) := by (unfold mnHi; first | (rw [if_pos (by omega)]; done) | (rw [if_neg (by omega)]; done))
    have lt_ := ltR_d (inR xv 0 1) 1; 
    unfold jS_narrowView; rw [if_pos (by omega), if_pos (by omega), if_neg eN, eL, eH, show ltR (inR xv 0 1) 1 = 0 by omega]; first | (exfalso; omega) | (rw [if_pos (by omega)]; done) | (rw [if_neg (by omega), if_pos (by omega)]; done) | (rw [if_neg (by omega), if_neg (by omega)]; done)), rfl, Ext0 hO⟩)
                    · refine lv_aload_n hx hb dX6_narrowView_108 rfl (lv_at hl 1 rfl) ?_
                      refine q_get C0 iX6 hP hC.1.1 hC.1.2 rfl 3 (by decide) flX6_21 rfl (v := .ref ((uaf G))) rfl dX6_narrowView_109 ?_
                      refine lv_iload_n hx hb dX6_narrowView_112 rfl (lv_at hl 2 rfl) ?_
                      refine lv_aload hx hb dX6_narrowView_113 (lv_at hl 0 rfl) ?_
                      refine lv_iload_n hx hb dX6_narrowView_115 rfl (lv_at hl 4 rfl) ?_
                      refine q_vS C0 lX6_93 (c_X5_rank l D y L F22 (urh G (vvw μ xv)) (urw G (vvw μ xv)) (vod μ (vvw μ xv)) (vst μ (vvw μ xv)) xlow (MP_r hC (hW.2.2.1 xv)) (by omega)) ⟨rfl, rfl⟩ rfl hP (MP_r hC (hW.2.2.1 xv)).1 (MP_r hC (hW.2.2.1 xv)).2.1 rfl rfl rfl hl rfl (Nat.le_of_ble_eq_true rfl) dX6_narrowView_116 ⟨Nat.zero_le _, Nat.zero_le _⟩ (fun r147 e_r147 => ?_)
                      subst e_r147
                      have b_148 := @turn_b (vod μ (vvw μ xv)) xlow (by omega)
                      refine q_iast C0 hP hD hS hC.2.2.2.2.1.1 hC.2.2.2.2.1.2 (i := xv) (v := (turn (vod μ (vvw μ xv)) xlow)) (by omega) (by decide) dX6_narrowView_119 (fun H locs hP hD hS => ?_)
                      obtain ⟨F149, eF149⟩ : ∃ z, z = va_up F22 (uaf G) (arrI (y 0) 2 (iu (vvl μ) xv (turn (vod μ (vvw μ xv)) xlow))) := ⟨_, rfl⟩
                      have hP : va_P D vwCl (va_pl L F149) H := by rw [eF149]; exact hP
                      have hD : va_D (AL L sz) (va_pl L F149) := by rw [eF149]; exact hD
                      have hO : OE O F F149 := by rw [eF149]; exact hO.tr (OE1 (MP_O hC).2.2.2.2.1)
                      have hC : MP y L F149 O G (tVl (tTh μ (ltR (inR xv 0 1) 1)) xv (turn (vod μ (vvw μ xv)) xlow)) := by rw [eF149]; exact MP_vl hC (va_up_self _ _ _) (fun q hq => va_up_ne _ _ hq)
                      refine lv_iload_n hx hb dX6_narrowView_120 rfl (lv_at hl 3 rfl) ?_
                      refine q_iconst hx hb dX6_narrowView_121 ?_
                      refine q_icmp_eq hx hb dX6_narrowView_122 (tgt := 138) (by decide) (by omega) (by omega) (fun c150 => ?_) (fun c150 => ?_)
                      · refine lv_aload_n hx hb dX6_narrowView_138 rfl (lv_at hl 1 rfl) ?_
                        refine lv_iload_n hx hb dX6_narrowView_139 rfl (lv_at hl 2 rfl) ?_
                        refine q_vS C0 lX6_171 (c_X6_seen l D y L F149 O G (tVl (tTh μ (ltR (inR xv 0 1) 1)) xv (turn (vod μ (vvw μ xv)) xlow)) xv hC (by omega) (by rw [show vvw (tVl (tTh μ (ltR (inR xv 0 1) 1)) xv (turn (vod μ (vvw μ xv)) xlow)) xv = vvw μ xv from (by first | rfl | exact iu_s _ _ _)]; exact (hW.2.2.1 xv)) (by rw [show vvl (tVl (tTh μ (ltR (inR xv 0 1) 1)) xv (turn (vod μ (vvw μ xv)) xlow)) xv = (turn (vod μ (vvw μ xv)) xlow) from (by first | rfl | exact iu_s _ _ _)]; omega) (by rw [show vvh (tVl (tTh μ (ltR (inR xv 0 1) 1)) xv (turn (vod μ (vvw μ xv)) xlow)) xv = vvh μ xv from (by first | rfl | exact iu_s _ _ _)]; omega)) ⟨rfl, rfl⟩ rfl hP hC.1.1 hC.1.2 rfl rfl rfl hl rfl (Nat.le_of_ble_eq_true rfl) dX6_narrowView_140 ⟨Nat.zero_le _, Nat.zero_le _⟩ (fun r151 e_r151 => ?_)
                        replace e_r151 : r151 = cntP (vst μ (vvw μ xv)) (turn (vod μ (vvw μ xv)) xlow) (vvh μ xv) := e_r151.trans (by first | rfl | (rw [show vvw (tVl (tTh μ (ltR (inR xv 0 1) 1)) xv (turn (vod μ (vvw μ xv)) xlow)) xv = vvw μ xv from (by first | rfl | exact iu_s _ _ _), show vvl (tVl (tTh μ (ltR (inR xv 0 1) 1)) xv (turn (vod μ (vvw μ xv)) xlow)) xv = (turn (vod μ (vvw μ xv)) xlow) from (by first | rfl | exact iu_s _ _ _), show vvh (tVl (tTh μ (ltR (inR xv 0 1) 1)) xv (turn (vod μ (vvw μ xv)) xlow)) xv = vvh μ xv from (by first | rfl | exact iu_s _ _ _)]; done) | (rw [show vvw (tVl (tTh μ (ltR (inR xv 0 1) 1)) xv (turn (vod μ (vvw μ xv)) xlow)) xv = vvw μ xv from (by first | rfl | exact iu_s _ _ _), show vvl (tVl (tTh μ (ltR (inR xv 0 1) 1)) xv (turn (vod μ (vvw μ xv)) xlow)) xv = (turn (vod μ (vvw μ xv)) xlow) from (by first | rfl | exact iu_s _ _ _), show vvh (tVl (tTh μ (ltR (inR xv 0 1) 1)) xv (turn (vod μ (vvw μ xv)) xlow)) xv = vvh μ xv from (by first | rfl | exact iu_s _ _ _)]; rfl))
                        subst e_r151
                        exact q_retMi C0 hret rfl hlk dX6_narrowView_143 hP hD hS (⟨(by 
    have eN : ¬ (mnRef μ xv xkind xlow xhigh = 1) := by (unfold mnRef; (repeat' split) <;> first | rfl | omega)
    have eL : mnLo μ xv xkind xlow = (turn (vod μ (vvw μ xv)) xlow) := by (unfold mnLo; first | (rw [if_pos (by omega)]; done) | (rw [if_neg (by omega)]; done))
    have eH : mnHi μ xv xkind xhigh = (vvh μ xv) := by (unfold mnHi; first | (rw [if_pos (by omega)]; done) | (rw [if_neg (by omega)]; done))
    unfold jR_narrowView; rw [if_pos (by omega), if_neg eN, eL, eH]), O, G, MP_eq hC (by 
    have eN : ¬ (mnRef μ xv xkind xlow xhigh = 1) := by (unfold mnRef; (repeat' split) <;> first | rfl | omega)
    have eL : mnLo μ xv xkind xlow = (turn (vod μ (vvw μ xv)) xlow) := by (unfold mnLo; first | (rw [if_pos (by omega)]; done) | (rw [if_neg (by omega)]; done))
    have eH : mnHi μ xv xkind xhigh = (vvh μ xv) := by (unfold mnHi; first | (rw [if_pos (by omega)]; done) | (rw [if_neg (by omega)]; done))
    have lt_ := ltR_d (inR xv 0 1) 1; 
    unfold jS_narrowView; rw [if_pos (by omega), if_pos (by omega), if_neg eN, eL, eH, show ltR (inR xv 0 1) 1 = 0 by omega]; first | (exfalso; omega) | (rw [if_pos (by omega)]; done) | (rw [if_neg (by omega), if_pos (by omega)]; done) | (rw [if_neg (by omega), if_neg (by omega)]; done)), rfl, Ext0 hO⟩)
                      · refine lv_aload_n hx hb dX6_narrowView_125 rfl (lv_at hl 1 rfl) ?_
                        refine q_get C0 iX6 hP hC.1.1 hC.1.2 rfl 4 (by decide) flX6_25 rfl (v := .ref ((uat G))) rfl dX6_narrowView_126 ?_
                        refine lv_iload_n hx hb dX6_narrowView_129 rfl (lv_at hl 2 rfl) ?_
                        refine lv_aload hx hb dX6_narrowView_130 (lv_at hl 0 rfl) ?_
                        refine lv_iload hx hb dX6_narrowView_132 (lv_at hl 5 rfl) ?_
                        refine q_vS C0 lX6_93 (c_X5_rank l D y L F149 (urh G (vvw μ xv)) (urw G (vvw μ xv)) (vod μ (vvw μ xv)) (vst μ (vvw μ xv)) xhigh (MP_r hC (hW.2.2.1 xv)) (by omega)) ⟨rfl, rfl⟩ rfl hP (MP_r hC (hW.2.2.1 xv)).1 (MP_r hC (hW.2.2.1 xv)).2.1 rfl rfl rfl hl rfl (Nat.le_of_ble_eq_true rfl) dX6_narrowView_134 ⟨Nat.zero_le _, Nat.zero_le _⟩ (fun r152 e_r152 => ?_)
                        subst e_r152
                        have b_153 := @turn_b (vod μ (vvw μ xv)) xhigh (by omega)
                        refine q_iast C0 hP hD hS hC.2.2.2.2.2.1.1 hC.2.2.2.2.2.1.2 (i := xv) (v := (turn (vod μ (vvw μ xv)) xhigh)) (by omega) (by decide) dX6_narrowView_137 (fun H locs hP hD hS => ?_)
                        obtain ⟨F154, eF154⟩ : ∃ z, z = va_up F149 (uat G) (arrI (y 0) 2 (iu (vvh μ) xv (turn (vod μ (vvw μ xv)) xhigh))) := ⟨_, rfl⟩
                        have hP : va_P D vwCl (va_pl L F154) H := by rw [eF154]; exact hP
                        have hD : va_D (AL L sz) (va_pl L F154) := by rw [eF154]; exact hD
                        have hO : OE O F F154 := by rw [eF154]; exact hO.tr (OE1 (MP_O hC).2.2.2.2.2.1)
                        have hC : MP y L F154 O G (tVh (tVl (tTh μ (ltR (inR xv 0 1) 1)) xv (turn (vod μ (vvw μ xv)) xlow)) xv (turn (vod μ (vvw μ xv)) xhigh)) := by rw [eF154]; exact MP_vh hC (va_up_self _ _ _) (fun q hq => va_up_ne _ _ hq)
                        refine lv_aload_n hx hb dX6_narrowView_138 rfl (lv_at hl 1 rfl) ?_
                        refine lv_iload_n hx hb dX6_narrowView_139 rfl (lv_at hl 2 rfl) ?_
                        refine q_vS C0 lX6_171 (c_X6_seen l D y L F154 O G (tVh (tVl (tTh μ (ltR (inR xv 0 1) 1)) xv (turn (vod μ (vvw μ xv)) xlow)) xv (turn (vod μ (vvw μ xv)) xhigh)) xv hC (by omega) (by rw [show vvw (tVh (tVl (tTh μ (ltR (inR xv 0 1) 1)) xv (turn (vod μ (vvw μ xv)) xlow)) xv (turn (vod μ (vvw μ xv)) xhigh)) xv = vvw μ xv from (by first | rfl | exact iu_s _ _ _)]; exact (hW.2.2.1 xv)) (by rw [show vvl (tVh (tVl (tTh μ (ltR (inR xv 0 1) 1)) xv (turn (vod μ (vvw μ xv)) xlow)) xv (turn (vod μ (vvw μ xv)) xhigh)) xv = (turn (vod μ (vvw μ xv)) xlow) from (by first | rfl | exact iu_s _ _ _)]; omega) (by rw [show vvh (tVh (tVl (tTh μ (ltR (inR xv 0 1) 1)) xv (turn (vod μ (vvw μ xv)) xlow)) xv (turn (vod μ (vvw μ xv)) xhigh)) xv = (turn (vod μ (vvw μ xv)) xhigh) from (by first | rfl | exact iu_s _ _ _)]; omega)) ⟨rfl, rfl⟩ rfl hP hC.1.1 hC.1.2 rfl rfl rfl hl rfl (Nat.le_of_ble_eq_true rfl) dX6_narrowView_140 ⟨Nat.zero_le _, Nat.zero_le _⟩ (fun r155 e_r155 => ?_)
                        replace e_r155 : r155 = cntP (vst μ (vvw μ xv)) (turn (vod μ (vvw μ xv)) xlow) (turn (vod μ (vvw μ xv)) xhigh) := e_r155.trans (by first | rfl | (rw [show vvw (tVh (tVl (tTh μ (ltR (inR xv 0 1) 1)) xv (turn (vod μ (vvw μ xv)) xlow)) xv (turn (vod μ (vvw μ xv)) xhigh)) xv = vvw μ xv from (by first | rfl | exact iu_s _ _ _), show vvl (tVh (tVl (tTh μ (ltR (inR xv 0 1) 1)) xv (turn (vod μ (vvw μ xv)) xlow)) xv (turn (vod μ (vvw μ xv)) xhigh)) xv = (turn (vod μ (vvw μ xv)) xlow) from (by first | rfl | exact iu_s _ _ _), show vvh (tVh (tVl (tTh μ (ltR (inR xv 0 1) 1)) xv (turn (vod μ (vvw μ xv)) xlow)) xv (turn (vod μ (vvw μ xv)) xhigh)) xv = (turn (vod μ (vvw μ xv)) xhigh) from (by first | rfl | exact iu_s _ _ _)]; done) | (rw [show vvw (tVh (tVl (tTh μ (ltR (inR xv 0 1) 1)) xv (turn (vod μ (vvw μ xv)) xlow)) xv (turn (vod μ (vvw μ xv)) xhigh)) xv = vvw μ xv from (by first | rfl | exact iu_s _ _ _), show vvl (tVh (tVl (tTh μ (ltR (inR xv 0 1) 1)) xv (turn (vod μ (vvw μ xv)) xlow)) xv (turn (vod μ (vvw μ xv)) xhigh)) xv = (turn (vod μ (vvw μ xv)) xlow) from (by first | rfl | exact iu_s _ _ _), show vvh (tVh (tVl (tTh μ (ltR (inR xv 0 1) 1)) xv (turn (vod μ (vvw μ xv)) xlow)) xv (turn (vod μ (vvw μ xv)) xhigh)) xv = (turn (vod μ (vvw μ xv)) xhigh) from (by first | rfl | exact iu_s _ _ _)]; rfl))
                        subst e_r155
                        exact q_retMi C0 hret rfl hlk dX6_narrowView_143 hP hD hS (⟨(by 
    have eN : ¬ (mnRef μ xv xkind xlow xhigh = 1) := by (unfold mnRef; (repeat' split) <;> first | rfl | omega)
    have eL : mnLo μ xv xkind xlow = (turn (vod μ (vvw μ xv)) xlow) := by (unfold mnLo; first | (rw [if_pos (by omega)]; done) | (rw [if_neg (by omega)]; done))
    have eH : mnHi μ xv xkind xhigh = (turn (vod μ (vvw μ xv)) xhigh) := by (unfold mnHi; first | (rw [if_pos (by omega)]; done) | (rw [if_neg (by omega)]; done))
    unfold jR_narrowView; rw [if_pos (by omega), if_neg eN, eL, eH]), O, G, MP_eq hC (by 
    have eN : ¬ (mnRef μ xv xkind xlow xhigh = 1) := by (unfold mnRef; (repeat' split) <;> first | rfl | omega)
    have eL : mnLo μ xv xkind xlow = (turn (vod μ (vvw μ xv)) xlow) := by (unfold mnLo; first | (rw [if_pos (by omega)]; done) | (rw [if_neg (by omega)]; done))
    have eH : mnHi μ xv xkind xhigh = (turn (vod μ (vvw μ xv)) xhigh) := by (unfold mnHi; first | (rw [if_pos (by omega)]; done) | (rw [if_neg (by omega)]; done))
    have lt_ := ltR_d (inR xv 0 1) 1; 
    unfold jS_narrowView; rw [if_pos (by omega), if_pos (by omega), if_neg eN, eL, eH, show ltR (inR xv 0 1) 1 = 0 by omega]; first | (exfalso; omega) | (rw [if_pos (by omega)]; done) | (rw [if_neg (by omega), if_pos (by omega)]; done) | (rw [if_neg (by omega), if_neg (by omega)]; done)), rfl, Ext0 hO⟩)
                  · refine lv_aload_n hx hb dX6_narrowView_99 rfl (lv_at hl 1 rfl) ?_
                    refine q_vMi C0 lX6_89 (c_X6_refuse l D y L F22 _ O G (tTh μ (ltR (inR xv 0 1) 1)) hC) ⟨rfl, rfl⟩ rfl hP hD hS hA hC.1.1 hC.1.2 rfl rfl rfl hl rfl (Nat.le_of_ble_eq_true rfl) dX6_narrowView_100 ⟨Nat.le_of_ble_eq_true rfl, Nat.le_of_ble_eq_true rfl⟩ (fun r156 H locs L157 F157 hP hD hS hz157 hp157 => ?_)
                    obtain ⟨eL, hC, er, hO1⟩ := hp157
                    subst eL
                    replace er : (-9) = r156 := er.symm
                    subst er
                    have hO := hO.tr hO1
                    exact q_retMi C0 hret rfl hlk dX6_narrowView_103 hP hD hS (⟨(by 
    have eN : mnRef μ xv xkind xlow xhigh = 1 := by (unfold mnRef; (repeat' split) <;> first | rfl | omega)
    unfold jR_narrowView; rw [if_pos (by omega), if_pos eN]), O, G, MP_eq hC (by 
    have eN : mnRef μ xv xkind xlow xhigh = 1 := by (unfold mnRef; (repeat' split) <;> first | rfl | omega)
    have lt_ := ltR_d (inR xv 0 1) 1; 
    unfold jS_narrowView; rw [if_pos (by omega), if_pos (by omega), if_pos eN, show ltR (inR xv 0 1) 1 = 0 by omega]), rfl, Ext0 hO⟩)
              · refine lv_aload_n hx hb dX6_narrowView_68 rfl (lv_at hl 1 rfl) ?_
                refine lv_iload_n hx hb dX6_narrowView_69 rfl (lv_at hl 2 rfl) ?_
                refine lv_iload hx hb dX6_narrowView_70 (lv_at hl 5 rfl) ?_
                refine q_vS C0 lX6_174 (c_X6_isWithin l D y L F22 O G (tTh μ (ltR (inR xv 0 1) 1)) xv xhigh hC (by omega) (hW.2.2.1 xv) ⟨(hW.2.2.2.2.1 xv).1, (hW.2.2.2.2.1 xv).2.1⟩ (hW.2.2.2.2.1 xv).2.2 (by omega)) ⟨rfl, rfl⟩ rfl hP hC.1.1 hC.1.2 rfl rfl rfl hl rfl (Nat.le_of_ble_eq_true rfl) dX6_narrowView_72 ⟨Nat.zero_le _, Nat.zero_le _⟩ (fun r158 e_r158 => ?_)
                replace e_r158 : r158 = inR (turn (vod μ (vvw μ xv)) xhigh) (vvl μ xv) (vvh μ xv) := e_r158.trans (by first | rfl | (rw [show vvw (tTh μ (ltR (inR xv 0 1) 1)) xv = vvw μ xv from (by first | rfl | exact iu_s _ _ _), show vvl (tTh μ (ltR (inR xv 0 1) 1)) xv = vvl μ xv from (by first | rfl | exact iu_s _ _ _), show vvh (tTh μ (ltR (inR xv 0 1) 1)) xv = vvh μ xv from (by first | rfl | exact iu_s _ _ _)]; done) | (rw [show vvw (tTh μ (ltR (inR xv 0 1) 1)) xv = vvw μ xv from (by first | rfl | exact iu_s _ _ _), show vvl (tTh μ (ltR (inR xv 0 1) 1)) xv = vvl μ xv from (by first | rfl | exact iu_s _ _ _), show vvh (tTh μ (ltR (inR xv 0 1) 1)) xv = vvh μ xv from (by first | rfl | exact iu_s _ _ _)]; rfl))
                subst e_r158
                have b_159 := inR_d (turn (vod μ (vvw μ xv)) xhigh) (vvl μ xv) (vvh μ xv)
                refine q_if_eq hx hb dX6_narrowView_75 (tgt := 99) (by decide) (by omega) (fun c160 => ?_) (fun c160 => ?_)
                · refine lv_aload_n hx hb dX6_narrowView_99 rfl (lv_at hl 1 rfl) ?_
                  refine q_vMi C0 lX6_89 (c_X6_refuse l D y L F22 _ O G (tTh μ (ltR (inR xv 0 1) 1)) hC) ⟨rfl, rfl⟩ rfl hP hD hS hA hC.1.1 hC.1.2 rfl rfl rfl hl rfl (Nat.le_of_ble_eq_true rfl) dX6_narrowView_100 ⟨Nat.le_of_ble_eq_true rfl, Nat.le_of_ble_eq_true rfl⟩ (fun r161 H locs L162 F162 hP hD hS hz162 hp162 => ?_)
                  obtain ⟨eL, hC, er, hO1⟩ := hp162
                  subst eL
                  replace er : (-9) = r161 := er.symm
                  subst er
                  have hO := hO.tr hO1
                  exact q_retMi C0 hret rfl hlk dX6_narrowView_103 hP hD hS (⟨(by 
    have eN : mnRef μ xv xkind xlow xhigh = 1 := by (unfold mnRef; (repeat' split) <;> first | rfl | omega)
    unfold jR_narrowView; rw [if_pos (by omega), if_pos eN]), O, G, MP_eq hC (by 
    have eN : mnRef μ xv xkind xlow xhigh = 1 := by (unfold mnRef; (repeat' split) <;> first | rfl | omega)
    have lt_ := ltR_d (inR xv 0 1) 1; 
    unfold jS_narrowView; rw [if_pos (by omega), if_pos (by omega), if_pos eN, show ltR (inR xv 0 1) 1 = 0 by omega]), rfl, Ext0 hO⟩)
                · refine lv_iload_n hx hb dX6_narrowView_78 rfl (lv_at hl 3 rfl) ?_
                  refine q_iconst hx hb dX6_narrowView_79 ?_
                  refine q_icmp_ne hx hb dX6_narrowView_80 (tgt := 104) (by decide) (by omega) (by omega) (fun c163 => ?_) (fun c163 => ?_)
                  · refine lv_iload_n hx hb dX6_narrowView_104 rfl (lv_at hl 3 rfl) ?_
                    refine q_if_le hx hb dX6_narrowView_105 (tgt := 120) (by decide) (by omega) (fun c164 => ?_) (fun c164 => ?_)
                    · refine lv_iload_n hx hb dX6_narrowView_120 rfl (lv_at hl 3 rfl) ?_
                      refine q_iconst hx hb dX6_narrowView_121 ?_
                      refine q_icmp_eq hx hb dX6_narrowView_122 (tgt := 138) (by decide) (by omega) (by omega) (fun c165 => ?_) (fun c165 => ?_)
                      · refine lv_aload_n hx hb dX6_narrowView_138 rfl (lv_at hl 1 rfl) ?_
                        refine lv_iload_n hx hb dX6_narrowView_139 rfl (lv_at hl 2 rfl) ?_
                        refine q_vS C0 lX6_171 (c_X6_seen l D y L F22 O G (tTh μ (ltR (inR xv 0 1) 1)) xv hC (by omega) (hW.2.2.1 xv) ⟨(hW.2.2.2.2.1 xv).1, (hW.2.2.2.2.1 xv).2.1⟩ (hW.2.2.2.2.1 xv).2.2) ⟨rfl, rfl⟩ rfl hP hC.1.1 hC.1.2 rfl rfl rfl hl rfl (Nat.le_of_ble_eq_true rfl) dX6_narrowView_140 ⟨Nat.zero_le _, Nat.zero_le _⟩ (fun r166 e_r166 => ?_)
                        replace e_r166 : r166 = cntP (vst μ (vvw μ xv)) (vvl μ xv) (vvh μ xv) := e_r166.trans (by first | rfl | (rw [show vvw (tTh μ (ltR (inR xv 0 1) 1)) xv = vvw μ xv from (by first | rfl | exact iu_s _ _ _), show vvl (tTh μ (ltR (inR xv 0 1) 1)) xv = vvl μ xv from (by first | rfl | exact iu_s _ _ _), show vvh (tTh μ (ltR (inR xv 0 1) 1)) xv = vvh μ xv from (by first | rfl | exact iu_s _ _ _)]; done) | (rw [show vvw (tTh μ (ltR (inR xv 0 1) 1)) xv = vvw μ xv from (by first | rfl | exact iu_s _ _ _), show vvl (tTh μ (ltR (inR xv 0 1) 1)) xv = vvl μ xv from (by first | rfl | exact iu_s _ _ _), show vvh (tTh μ (ltR (inR xv 0 1) 1)) xv = vvh μ xv from (by first | rfl | exact iu_s _ _ _)]; rfl))
                        subst e_r166
                        exact q_retMi C0 hret rfl hlk dX6_narrowView_143 hP hD hS (⟨(by 
    have eN : ¬ (mnRef μ xv xkind xlow xhigh = 1) := by (unfold mnRef; (repeat' split) <;> first | rfl | omega)
    have eL : mnLo μ xv xkind xlow = (vvl μ xv) := by (unfold mnLo; first | (rw [if_pos (by omega)]; done) | (rw [if_neg (by omega)]; done))
    have eH : mnHi μ xv xkind xhigh = (vvh μ xv) := by (unfold mnHi; first | (rw [if_pos (by omega)]; done) | (rw [if_neg (by omega)]; done))
    unfold jR_narrowView; rw [if_pos (by omega), if_neg eN, eL, eH]), O, G, MP_eq hC (by 
    have eN : ¬ (mnRef μ xv xkind xlow xhigh = 1) := by (unfold mnRef; (repeat' split) <;> first | rfl | omega)
    have eL : mnLo μ xv xkind xlow = (vvl μ xv) := by (unfold mnLo; first | (rw [if_pos (by omega)]; done) | (rw [if_neg (by omega)]; done))
    have eH : mnHi μ xv xkind xhigh = (vvh μ xv) := by (unfold mnHi; first | (rw [if_pos (by omega)]; done) | (rw [if_neg (by omega)]; done))
    have lt_ := ltR_d (inR xv 0 1) 1; 
    unfold jS_narrowView; rw [if_pos (by omega), if_pos (by omega), if_neg eN, eL, eH, show ltR (inR xv 0 1) 1 = 0 by omega]; first | (exfalso; omega) | (rw [if_pos (by omega)]; done) | (rw [if_neg (by omega), if_pos (by omega)]; done) | (rw [if_neg (by omega), if_neg (by omega)]; done)), rfl, Ext0 hO⟩)
                      · refine lv_aload_n hx hb dX6_narrowView_125 rfl (lv_at hl 1 rfl) ?_
                        refine q_get C0 iX6 hP hC.1.1 hC.1.2 rfl 4 (by decide) flX6_25 rfl (v := .ref ((uat G))) rfl dX6_narrowView_126 ?_
                        refine lv_iload_n hx hb dX6_narrowView_129 rfl (lv_at hl 2 rfl) ?_
                        refine lv_aload hx hb dX6_narrowView_130 (lv_at hl 0 rfl) ?_
                        refine lv_iload hx hb dX6_narrowView_132 (lv_at hl 5 rfl) ?_
                        refine q_vS C0 lX6_93 (c_X5_rank l D y L F22 (urh G (vvw μ xv)) (urw G (vvw μ xv)) (vod μ (vvw μ xv)) (vst μ (vvw μ xv)) xhigh (MP_r hC (hW.2.2.1 xv)) (by omega)) ⟨rfl, rfl⟩ rfl hP (MP_r hC (hW.2.2.1 xv)).1 (MP_r hC (hW.2.2.1 xv)).2.1 rfl rfl rfl hl rfl (Nat.le_of_ble_eq_true rfl) dX6_narrowView_134 ⟨Nat.zero_le _, Nat.zero_le _⟩ (fun r167 e_r167 => ?_)
                        subst e_r167
                        have b_168 := @turn_b (vod μ (vvw μ xv)) xhigh (by omega)
                        refine q_iast C0 hP hD hS hC.2.2.2.2.2.1.1 hC.2.2.2.2.2.1.2 (i := xv) (v := (turn (vod μ (vvw μ xv)) xhigh)) (by omega) (by decide) dX6_narrowView_137 (fun H locs hP hD hS => ?_)
                        obtain ⟨F169, eF169⟩ : ∃ z, z = va_up F22 (uat G) (arrI (y 0) 2 (iu (vvh μ) xv (turn (vod μ (vvw μ xv)) xhigh))) := ⟨_, rfl⟩
                        have hP : va_P D vwCl (va_pl L F169) H := by rw [eF169]; exact hP
                        have hD : va_D (AL L sz) (va_pl L F169) := by rw [eF169]; exact hD
                        have hO : OE O F F169 := by rw [eF169]; exact hO.tr (OE1 (MP_O hC).2.2.2.2.2.1)
                        have hC : MP y L F169 O G (tVh (tTh μ (ltR (inR xv 0 1) 1)) xv (turn (vod μ (vvw μ xv)) xhigh)) := by rw [eF169]; exact MP_vh hC (va_up_self _ _ _) (fun q hq => va_up_ne _ _ hq)
                        refine lv_aload_n hx hb dX6_narrowView_138 rfl (lv_at hl 1 rfl) ?_
                        refine lv_iload_n hx hb dX6_narrowView_139 rfl (lv_at hl 2 rfl) ?_
                        refine q_vS C0 lX6_171 (c_X6_seen l D y L F169 O G (tVh (tTh μ (ltR (inR xv 0 1) 1)) xv (turn (vod μ (vvw μ xv)) xhigh)) xv hC (by omega) (by rw [show vvw (tVh (tTh μ (ltR (inR xv 0 1) 1)) xv (turn (vod μ (vvw μ xv)) xhigh)) xv = vvw μ xv from (by first | rfl | exact iu_s _ _ _)]; exact (hW.2.2.1 xv)) (by rw [show vvl (tVh (tTh μ (ltR (inR xv 0 1) 1)) xv (turn (vod μ (vvw μ xv)) xhigh)) xv = vvl μ xv from (by first | rfl | exact iu_s _ _ _)]; omega) (by rw [show vvh (tVh (tTh μ (ltR (inR xv 0 1) 1)) xv (turn (vod μ (vvw μ xv)) xhigh)) xv = (turn (vod μ (vvw μ xv)) xhigh) from (by first | rfl | exact iu_s _ _ _)]; omega)) ⟨rfl, rfl⟩ rfl hP hC.1.1 hC.1.2 rfl rfl rfl hl rfl (Nat.le_of_ble_eq_true rfl) dX6_narrowView_140 ⟨Nat.zero_le _, Nat.zero_le _⟩ (fun r170 e_r170 => ?_)
                        replace e_r170 : r170 = cntP (vst μ (vvw μ xv)) (vvl μ xv) (turn (vod μ (vvw μ xv)) xhigh) := e_r170.trans (by first | rfl | (rw [show vvw (tVh (tTh μ (ltR (inR xv 0 1) 1)) xv (turn (vod μ (vvw μ xv)) xhigh)) xv = vvw μ xv from (by first | rfl | exact iu_s _ _ _), show vvl (tVh (tTh μ (ltR (inR xv 0 1) 1)) xv (turn (vod μ (vvw μ xv)) xhigh)) xv = vvl μ xv from (by first | rfl | exact iu_s _ _ _), show vvh (tVh (tTh μ (ltR (inR xv 0 1) 1)) xv (turn (vod μ (vvw μ xv)) xhigh)) xv = (turn (vod μ (vvw μ xv)) xhigh) from (by first | rfl | exact iu_s _ _ _)]; done) | (rw [show vvw (tVh (tTh μ (ltR (inR xv 0 1) 1)) xv (turn (vod μ (vvw μ xv)) xhigh)) xv = vvw μ xv from (by first | rfl | exact iu_s _ _ _), show vvl (tVh (tTh μ (ltR (inR xv 0 1) 1)) xv (turn (vod μ (vvw μ xv)) xhigh)) xv = vvl μ xv from (by first | rfl | exact iu_s _ _ _), show vvh (tVh (tTh μ (ltR (inR xv 0 1) 1)) xv (turn (vod μ (vvw μ xv)) xhigh)) xv = (turn (vod μ (vvw μ xv)) xhigh) from (by first | rfl | exact iu_s _ _ _)]; rfl))
                        subst e_r170
                        exact q_retMi C0 hret rfl hlk dX6_narrowView_143 hP hD hS (⟨(by 
    have eN : ¬ (mnRef μ xv xkind xlow xhigh = 1) := by (unfold mnRef; (repeat' split) <;> first | rfl | omega)
    have eL : mnLo μ xv xkind xlow = (vvl μ xv) := by (unfold mnLo; first | (rw [if_pos (by omega)]; done) | (rw [if_neg (by omega)]; done))
    have eH : mnHi μ xv xkind xhigh = (turn (vod μ (vvw μ xv)) xhigh) := by (unfold mnHi; first | (rw [if_pos (by omega)]; done) | (rw [if_neg (by omega)]; done))
    unfold jR_narrowView; rw [if_pos (by omega), if_neg eN, eL, eH]), O, G, MP_eq hC (by 
    have eN : ¬ (mnRef μ xv xkind xlow xhigh = 1) := by (unfold mnRef; (repeat' split) <;> first | rfl | omega)
    have eL : mnLo μ xv xkind xlow = (vvl μ xv) := by (unfold mnLo; first | (rw [if_pos (by omega)]; done) | (rw [if_neg (by omega)]; done))
    have eH : mnHi μ xv xkind xhigh = (turn (vod μ (vvw μ xv)) xhigh) := by (unfold mnHi; first | (rw [if_pos (by omega)]; done) | (rw [if_neg (by omega)]; done))
    have lt_ := ltR_d (inR xv 0 1) 1; 
    unfold jS_narrowView; rw [if_pos (by omega), if_pos (by omega), if_neg eN, eL, eH, show ltR (inR xv 0 1) 1 = 0 by omega]; first | (exfalso; omega) | (rw [if_pos (by omega)]; done) | (rw [if_neg (by omega), if_pos (by omega)]; done) | (rw [if_neg (by omega), if_neg (by omega)]; done)), rfl, Ext0 hO⟩)
                    · refine lv_aload_n hx hb dX6_narrowView_108 rfl (lv_at hl 1 rfl) ?_
                      refine q_get C0 iX6 hP hC.1.1 hC.1.2 rfl 3 (by decide) flX6_21 rfl (v := .ref ((uaf G))) rfl dX6_narrowView_109 ?_
                      refine lv_iload_n hx hb dX6_narrowView_112 rfl (lv_at hl 2 rfl) ?_
                      refine lv_aload hx hb dX6_narrowView_113 (lv_at hl 0 rfl) ?_
                      refine lv_iload_n hx hb dX6_narrowView_115 rfl (lv_at hl 4 rfl) ?_
                      refine q_vS C0 lX6_93 (c_X5_rank l D y L F22 (urh G (vvw μ xv)) (urw G (vvw μ xv)) (vod μ (vvw μ xv)) (vst μ (vvw μ xv)) xlow (MP_r hC (hW.2.2.1 xv)) (by omega)) ⟨rfl, rfl⟩ rfl hP (MP_r hC (hW.2.2.1 xv)).1 (MP_r hC (hW.2.2.1 xv)).2.1 rfl rfl rfl hl rfl (Nat.le_of_ble_eq_true rfl) dX6_narrowView_116 ⟨Nat.zero_le _, Nat.zero_le _⟩ (fun r171 e_r171 => ?_)
                      subst e_r171
                      have b_172 := @turn_b (vod μ (vvw μ xv)) xlow (by omega)
                      refine q_iast C0 hP hD hS hC.2.2.2.2.1.1 hC.2.2.2.2.1.2 (i := xv) (v := (turn (vod μ (vvw μ xv)) xlow)) (by omega) (by decide) dX6_narrowView_119 (fun H locs hP hD hS => ?_)
                      obtain ⟨F173, eF173⟩ : ∃ z, z = va_up F22 (uaf G) (arrI (y 0) 2 (iu (vvl μ) xv (turn (vod μ (vvw μ xv)) xlow))) := ⟨_, rfl⟩
                      have hP : va_P D vwCl (va_pl L F173) H := by rw [eF173]; exact hP
                      have hD : va_D (AL L sz) (va_pl L F173) := by rw [eF173]; exact hD
                      have hO : OE O F F173 := by rw [eF173]; exact hO.tr (OE1 (MP_O hC).2.2.2.2.1)
                      have hC : MP y L F173 O G (tVl (tTh μ (ltR (inR xv 0 1) 1)) xv (turn (vod μ (vvw μ xv)) xlow)) := by rw [eF173]; exact MP_vl hC (va_up_self _ _ _) (fun q hq => va_up_ne _ _ hq)
                      refine lv_iload_n hx hb dX6_narrowView_120 rfl (lv_at hl 3 rfl) ?_
                      refine q_iconst hx hb dX6_narrowView_121 ?_
                      refine q_icmp_eq hx hb dX6_narrowView_122 (tgt := 138) (by decide) (by omega) (by omega) (fun c174 => ?_) (fun c174 => ?_)
                      · refine lv_aload_n hx hb dX6_narrowView_138 rfl (lv_at hl 1 rfl) ?_
                        refine lv_iload_n hx hb dX6_narrowView_139 rfl (lv_at hl 2 rfl) ?_
                        refine q_vS C0 lX6_171 (c_X6_seen l D y L F173 O G (tVl (tTh μ (ltR (inR xv 0 1) 1)) xv (turn (vod μ (vvw μ xv)) xlow)) xv hC (by omega) (by rw [show vvw (tVl (tTh μ (ltR (inR xv 0 1) 1)) xv (turn (vod μ (vvw μ xv)) xlow)) xv = vvw μ xv from (by first | rfl | exact iu_s _ _ _)]; exact (hW.2.2.1 xv)) (by rw [show vvl (tVl (tTh μ (ltR (inR xv 0 1) 1)) xv (turn (vod μ (vvw μ xv)) xlow)) xv = (turn (vod μ (vvw μ xv)) xlow) from (by first | rfl | exact iu_s _ _ _)]; omega) (by rw [show vvh (tVl (tTh μ (ltR (inR xv 0 1) 1)) xv (turn (vod μ (vvw μ xv)) xlow)) xv = vvh μ xv from (by first | rfl | exact iu_s _ _ _)]; omega)) ⟨rfl, rfl⟩ rfl hP hC.1.1 hC.1.2 rfl rfl rfl hl rfl (Nat.le_of_ble_eq_true rfl) dX6_narrowView_140 ⟨Nat.zero_le _, Nat.zero_le _⟩ (fun r175 e_r175 => ?_)
                        replace e_r175 : r175 = cntP (vst μ (vvw μ xv)) (turn (vod μ (vvw μ xv)) xlow) (vvh μ xv) := e_r175.trans (by first | rfl | (rw [show vvw (tVl (tTh μ (ltR (inR xv 0 1) 1)) xv (turn (vod μ (vvw μ xv)) xlow)) xv = vvw μ xv from (by first | rfl | exact iu_s _ _ _), show vvl (tVl (tTh μ (ltR (inR xv 0 1) 1)) xv (turn (vod μ (vvw μ xv)) xlow)) xv = (turn (vod μ (vvw μ xv)) xlow) from (by first | rfl | exact iu_s _ _ _), show vvh (tVl (tTh μ (ltR (inR xv 0 1) 1)) xv (turn (vod μ (vvw μ xv)) xlow)) xv = vvh μ xv from (by first | rfl | exact iu_s _ _ _)]; done) | (rw [show vvw (tVl (tTh μ (ltR (inR xv 0 1) 1)) xv (turn (vod μ (vvw μ xv)) xlow)) xv = vvw μ xv from (by first | rfl | exact iu_s _ _ _), show vvl (tVl (tTh μ (ltR (inR xv 0 1) 1)) xv (turn (vod μ (vvw μ xv)) xlow)) xv = (turn (vod μ (vvw μ xv)) xlow) from (by first | rfl | exact iu_s _ _ _), show vvh (tVl (tTh μ (ltR (inR xv 0 1) 1)) xv (turn (vod μ (vvw μ xv)) xlow)) xv = vvh μ xv from (by first | rfl | exact iu_s _ _ _)]; rfl))
                        subst e_r175
                        exact q_retMi C0 hret rfl hlk dX6_narrowView_143 hP hD hS (⟨(by 
    have eN : ¬ (mnRef μ xv xkind xlow xhigh = 1) := by (unfold mnRef; (repeat' split) <;> first | rfl | omega)
    have eL : mnLo μ xv xkind xlow = (turn (vod μ (vvw μ xv)) xlow) := by (unfold mnLo; first | (rw [if_pos (by omega)]; done) | (rw [if_neg (by omega)]; done))
    have eH : mnHi μ xv xkind xhigh = (vvh μ xv) := by (unfold mnHi; first | (rw [if_pos (by omega)]; done) | (rw [if_neg (by omega)]; done))
    unfold jR_narrowView; rw [if_pos (by omega), if_neg eN, eL, eH]), O, G, MP_eq hC (by 
    have eN : ¬ (mnRef μ xv xkind xlow xhigh = 1) := by (unfold mnRef; (repeat' split) <;> first | rfl | omega)
    have eL : mnLo μ xv xkind xlow = (turn (vod μ (vvw μ xv)) xlow) := by (unfold mnLo; first | (rw [if_pos (by omega)]; done) | (rw [if_neg (by omega)]; done))
    have eH : mnHi μ xv xkind xhigh = (vvh μ xv) := by (unfold mnHi; first | (rw [if_pos (by omega)]; done) | (rw [if_neg (by omega)]; done))
    have lt_ := ltR_d (inR xv 0 1) 1; 
    unfold jS_narrowView; rw [if_pos (by omega), if_pos (by omega), if_neg eN, eL, eH, show ltR (inR xv 0 1) 1 = 0 by omega]; first | (exfalso; omega) | (rw [if_pos (by omega)]; done) | (rw [if_neg (by omega), if_pos (by omega)]; done) | (rw [if_neg (by omega), if_neg (by omega)]; done)), rfl, Ext0 hO⟩)
                      · refine lv_aload_n hx hb dX6_narrowView_125 rfl (lv_at hl 1 rfl) ?_
                        refine q_get C0 iX6 hP hC.1.1 hC.1.2 rfl 4 (by decide) flX6_25 rfl (v := .ref ((uat G))) rfl dX6_narrowView_126 ?_
                        refine lv_iload_n hx hb dX6_narrowView_129 rfl (lv_at hl 2 rfl) ?_
                        refine lv_aload hx hb dX6_narrowView_130 (lv_at hl 0 rfl) ?_
                        refine lv_iload hx hb dX6_narrowView_132 (lv_at hl 5 rfl) ?_
                        refine q_vS C0 lX6_93 (c_X5_rank l D y L F173 (urh G (vvw μ xv)) (urw G (vvw μ xv)) (vod μ (vvw μ xv)) (vst μ (vvw μ xv)) xhigh (MP_r hC (hW.2.2.1 xv)) (by omega)) ⟨rfl, rfl⟩ rfl hP (MP_r hC (hW.2.2.1 xv)).1 (MP_r hC (hW.2.2.1 xv)).2.1 rfl rfl rfl hl rfl (Nat.le_of_ble_eq_true rfl) dX6_narrowView_134 ⟨Nat.zero_le _, Nat.zero_le _⟩ (fun r176 e_r176 => ?_)
                        subst e_r176
                        have b_177 := @turn_b (vod μ (vvw μ xv)) xhigh (by omega)
                        refine q_iast C0 hP hD hS hC.2.2.2.2.2.1.1 hC.2.2.2.2.2.1.2 (i := xv) (v := (turn (vod μ (vvw μ xv)) xhigh)) (by omega) (by decide) dX6_narrowView_137 (fun H locs hP hD hS => ?_)
                        obtain ⟨F178, eF178⟩ : ∃ z, z = va_up F173 (uat G) (arrI (y 0) 2 (iu (vvh μ) xv (turn (vod μ (vvw μ xv)) xhigh))) := ⟨_, rfl⟩
                        have hP : va_P D vwCl (va_pl L F178) H := by rw [eF178]; exact hP
                        have hD : va_D (AL L sz) (va_pl L F178) := by rw [eF178]; exact hD
                        have hO : OE O F F178 := by rw [eF178]; exact hO.tr (OE1 (MP_O hC).2.2.2.2.2.1)
                        have hC : MP y L F178 O G (tVh (tVl (tTh μ (ltR (inR xv 0 1) 1)) xv (turn (vod μ (vvw μ xv)) xlow)) xv (turn (vod μ (vvw μ xv)) xhigh)) := by rw [eF178]; exact MP_vh hC (va_up_self _ _ _) (fun q hq => va_up_ne _ _ hq)
                        refine lv_aload_n hx hb dX6_narrowView_138 rfl (lv_at hl 1 rfl) ?_
                        refine lv_iload_n hx hb dX6_narrowView_139 rfl (lv_at hl 2 rfl) ?_
                        refine q_vS C0 lX6_171 (c_X6_seen l D y L F178 O G (tVh (tVl (tTh μ (ltR (inR xv 0 1) 1)) xv (turn (vod μ (vvw μ xv)) xlow)) xv (turn (vod μ (vvw μ xv)) xhigh)) xv hC (by omega) (by rw [show vvw (tVh (tVl (tTh μ (ltR (inR xv 0 1) 1)) xv (turn (vod μ (vvw μ xv)) xlow)) xv (turn (vod μ (vvw μ xv)) xhigh)) xv = vvw μ xv from (by first | rfl | exact iu_s _ _ _)]; exact (hW.2.2.1 xv)) (by rw [show vvl (tVh (tVl (tTh μ (ltR (inR xv 0 1) 1)) xv (turn (vod μ (vvw μ xv)) xlow)) xv (turn (vod μ (vvw μ xv)) xhigh)) xv = (turn (vod μ (vvw μ xv)) xlow) from (by first | rfl | exact iu_s _ _ _)]; omega) (by rw [show vvh (tVh (tVl (tTh μ (ltR (inR xv 0 1) 1)) xv (turn (vod μ (vvw μ xv)) xlow)) xv (turn (vod μ (vvw μ xv)) xhigh)) xv = (turn (vod μ (vvw μ xv)) xhigh) from (by first | rfl | exact iu_s _ _ _)]; omega)) ⟨rfl, rfl⟩ rfl hP hC.1.1 hC.1.2 rfl rfl rfl hl rfl (Nat.le_of_ble_eq_true rfl) dX6_narrowView_140 ⟨Nat.zero_le _, Nat.zero_le _⟩ (fun r179 e_r179 => ?_)
                        replace e_r179 : r179 = cntP (vst μ (vvw μ xv)) (turn (vod μ (vvw μ xv)) xlow) (turn (vod μ (vvw μ xv)) xhigh) := e_r179.trans (by first | rfl | (rw [show vvw (tVh (tVl (tTh μ (ltR (inR xv 0 1) 1)) xv (turn (vod μ (vvw μ xv)) xlow)) xv (turn (vod μ (vvw μ xv)) xhigh)) xv = vvw μ xv from (by first | rfl | exact iu_s _ _ _), show vvl (tVh (tVl (tTh μ (ltR (inR xv 0 1) 1)) xv (turn (vod μ (vvw μ xv)) xlow)) xv (turn (vod μ (vvw μ xv)) xhigh)) xv = (turn (vod μ (vvw μ xv)) xlow) from (by first | rfl | exact iu_s _ _ _), show vvh (tVh (tVl (tTh μ (ltR (inR xv 0 1) 1)) xv (turn (vod μ (vvw μ xv)) xlow)) xv (turn (vod μ (vvw μ xv)) xhigh)) xv = (turn (vod μ (vvw μ xv)) xhigh) from (by first | rfl | exact iu_s _ _ _)]; done) | (rw [show vvw (tVh (tVl (tTh μ (ltR (inR xv 0 1) 1)) xv (turn (vod μ (vvw μ xv)) xlow)) xv (turn (vod μ (vvw μ xv)) xhigh)) xv = vvw μ xv from (by first | rfl | exact iu_s _ _ _), show vvl (tVh (tVl (tTh μ (ltR (inR xv 0 1) 1)) xv (turn (vod μ (vvw μ xv)) xlow)) xv (turn (vod μ (vvw μ xv)) xhigh)) xv = (turn (vod μ (vvw μ xv)) xlow) from (by first | rfl | exact iu_s _ _ _), show vvh (tVh (tVl (tTh μ (ltR (inR xv 0 1) 1)) xv (turn (vod μ (vvw μ xv)) xlow)) xv (turn (vod μ (vvw μ xv)) xhigh)) xv = (turn (vod μ (vvw μ xv)) xhigh) from (by first | rfl | exact iu_s _ _ _)]; rfl))
                        subst e_r179
                        exact q_retMi C0 hret rfl hlk dX6_narrowView_143 hP hD hS (⟨(by 
    have eN : ¬ (mnRef μ xv xkind xlow xhigh = 1) := by (unfold mnRef; (repeat' split) <;> first | rfl | omega)
    have eL : mnLo μ xv xkind xlow = (turn (vod μ (vvw μ xv)) xlow) := by (unfold mnLo; first | (rw [if_pos (by omega)]; done) | (rw [if_neg (by omega)]; done))
    have eH : mnHi μ xv xkind xhigh = (turn (vod μ (vvw μ xv)) xhigh) := by (unfold mnHi; first | (rw [if_pos (by omega)]; done) | (rw [if_neg (by omega)]; done))
    unfold jR_narrowView; rw [if_pos (by omega), if_neg eN, eL, eH]), O, G, MP_eq hC (by 
    have eN : ¬ (mnRef μ xv xkind xlow xhigh = 1) := by (unfold mnRef; (repeat' split) <;> first | rfl | omega)
    have eL : mnLo μ xv xkind xlow = (turn (vod μ (vvw μ xv)) xlow) := by (unfold mnLo; first | (rw [if_pos (by omega)]; done) | (rw [if_neg (by omega)]; done))
    have eH : mnHi μ xv xkind xhigh = (turn (vod μ (vvw μ xv)) xhigh) := by (unfold mnHi; first | (rw [if_pos (by omega)]; done) | (rw [if_neg (by omega)]; done))
    have lt_ := ltR_d (inR xv 0 1) 1; 
    unfold jS_narrowView; rw [if_pos (by omega), if_pos (by omega), if_neg eN, eL, eH, show ltR (inR xv 0 1) 1 = 0 by omega]; first | (exfalso; omega) | (rw [if_pos (by omega)]; done) | (rw [if_neg (by omega), if_pos (by omega)]; done) | (rw [if_neg (by omega), if_neg (by omega)]; done)), rfl, Ext0 hO⟩)
                  · refine lv_aload hx hb dX6_narrowView_83 (lv_at hl 0 rfl) ?_
                    refine lv_iload_n hx hb dX6_narrowView_85 rfl (lv_at hl 4 rfl) ?_
                    refine q_vS C0 lX6_93 (c_X5_rank l D y L F22 (urh G (vvw μ xv)) (urw G (vvw μ xv)) (vod μ (vvw μ xv)) (vst μ (vvw μ xv)) xlow (MP_r hC (hW.2.2.1 xv)) (by omega)) ⟨rfl, rfl⟩ rfl hP (MP_r hC (hW.2.2.1 xv)).1 (MP_r hC (hW.2.2.1 xv)).2.1 rfl rfl rfl hl rfl (Nat.le_of_ble_eq_true rfl) dX6_narrowView_86 ⟨Nat.zero_le _, Nat.zero_le _⟩ (fun r180 e_r180 => ?_)
                    subst e_r180
                    have b_181 := @turn_b (vod μ (vvw μ xv)) xlow (by omega)
                    refine lv_aload hx hb dX6_narrowView_89 (lv_at hl 0 rfl) ?_
                    refine lv_iload hx hb dX6_narrowView_91 (lv_at hl 5 rfl) ?_
                    refine q_vS C0 lX6_93 (c_X5_rank l D y L F22 (urh G (vvw μ xv)) (urw G (vvw μ xv)) (vod μ (vvw μ xv)) (vst μ (vvw μ xv)) xhigh (MP_r hC (hW.2.2.1 xv)) (by omega)) ⟨rfl, rfl⟩ rfl hP (MP_r hC (hW.2.2.1 xv)).1 (MP_r hC (hW.2.2.1 xv)).2.1 rfl rfl rfl hl rfl (Nat.le_of_ble_eq_true rfl) dX6_narrowView_93 ⟨Nat.zero_le _, Nat.zero_le _⟩ (fun r182 e_r182 => ?_)
                    subst e_r182
                    have b_183 := @turn_b (vod μ (vvw μ xv)) xhigh (by omega)
                    refine q_icmp_le hx hb dX6_narrowView_96 (tgt := 104) (by decide) (by omega) (by omega) (fun c184 => ?_) (fun c184 => ?_)
                    · refine lv_iload_n hx hb dX6_narrowView_104 rfl (lv_at hl 3 rfl) ?_
                      refine q_if_le hx hb dX6_narrowView_105 (tgt := 120) (by decide) (by omega) (fun c185 => ?_) (fun c185 => ?_)
                      · refine lv_iload_n hx hb dX6_narrowView_120 rfl (lv_at hl 3 rfl) ?_
                        refine q_iconst hx hb dX6_narrowView_121 ?_
                        refine q_icmp_eq hx hb dX6_narrowView_122 (tgt := 138) (by decide) (by omega) (by omega) (fun c186 => ?_) (fun c186 => ?_)
                        · refine lv_aload_n hx hb dX6_narrowView_138 rfl (lv_at hl 1 rfl) ?_
                          refine lv_iload_n hx hb dX6_narrowView_139 rfl (lv_at hl 2 rfl) ?_
                          refine q_vS C0 lX6_171 (c_X6_seen l D y L F22 O G (tTh μ (ltR (inR xv 0 1) 1)) xv hC (by omega) (hW.2.2.1 xv) ⟨(hW.2.2.2.2.1 xv).1, (hW.2.2.2.2.1 xv).2.1⟩ (hW.2.2.2.2.1 xv).2.2) ⟨rfl, rfl⟩ rfl hP hC.1.1 hC.1.2 rfl rfl rfl hl rfl (Nat.le_of_ble_eq_true rfl) dX6_narrowView_140 ⟨Nat.zero_le _, Nat.zero_le _⟩ (fun r187 e_r187 => ?_)
                          replace e_r187 : r187 = cntP (vst μ (vvw μ xv)) (vvl μ xv) (vvh μ xv) := e_r187.trans (by first | rfl | (rw [show vvw (tTh μ (ltR (inR xv 0 1) 1)) xv = vvw μ xv from (by first | rfl | exact iu_s _ _ _), show vvl (tTh μ (ltR (inR xv 0 1) 1)) xv = vvl μ xv from (by first | rfl | exact iu_s _ _ _), show vvh (tTh μ (ltR (inR xv 0 1) 1)) xv = vvh μ xv from (by first | rfl | exact iu_s _ _ _)]; done) | (rw [show vvw (tTh μ (ltR (inR xv 0 1) 1)) xv = vvw μ xv from (by first | rfl | exact iu_s _ _ _), show vvl (tTh μ (ltR (inR xv 0 1) 1)) xv = vvl μ xv from (by first | rfl | exact iu_s _ _ _), show vvh (tTh μ (ltR (inR xv 0 1) 1)) xv = vvh μ xv from (by first | rfl | exact iu_s _ _ _)]; rfl))
                          subst e_r187
                          exact q_retMi C0 hret rfl hlk dX6_narrowView_143 hP hD hS (⟨(by 
    have eN : ¬ (mnRef μ xv xkind xlow xhigh = 1) := by (unfold mnRef; (repeat' split) <;> first | rfl | omega)
    have eL : mnLo μ xv xkind xlow = (vvl μ xv) := by (unfold mnLo; first | (rw [if_pos (by omega)]; done) | (rw [if_neg (by omega)]; done))
    have eH : mnHi μ xv xkind xhigh = (vvh μ xv) := by (unfold mnHi; first | (rw [if_pos (by omega)]; done) | (rw [if_neg (by omega)]; done))
    unfold jR_narrowView; rw [if_pos (by omega), if_neg eN, eL, eH]), O, G, MP_eq hC (by 
    have eN : ¬ (mnRef μ xv xkind xlow xhigh = 1) := by (unfold mnRef; (repeat' split) <;> first | rfl | omega)
    have eL : mnLo μ xv xkind xlow = (vvl μ xv) := by (unfold mnLo; first | (rw [if_pos (by omega)]; done) | (rw [if_neg (by omega)]; done))
    have eH : mnHi μ xv xkind xhigh = (vvh μ xv) := by (unfold mnHi; first | (rw [if_pos (by omega)]; done) | (rw [if_neg (by omega)]; done))
    have lt_ := ltR_d (inR xv 0 1) 1; 
    unfold jS_narrowView; rw [if_pos (by omega), if_pos (by omega), if_neg eN, eL, eH, show ltR (inR xv 0 1) 1 = 0 by omega]; first | (exfalso; omega) | (rw [if_pos (by omega)]; done) | (rw [if_neg (by omega), if_pos (by omega)]; done) | (rw [if_neg (by omega), if_neg (by omega)]; done)), rfl, Ext0 hO⟩)
                        · refine lv_aload_n hx hb dX6_narrowView_125 rfl (lv_at hl 1 rfl) ?_
                          refine q_get C0 iX6 hP hC.1.1 hC.1.2 rfl 4 (by decide) flX6_25 rfl (v := .ref ((uat G))) rfl dX6_narrowView_126 ?_
                          refine lv_iload_n hx hb dX6_narrowView_129 rfl (lv_at hl 2 rfl) ?_
                          refine lv_aload hx hb dX6_narrowView_130 (lv_at hl 0 rfl) ?_
                          refine lv_iload hx hb dX6_narrowView_132 (lv_at hl 5 rfl) ?_
                          refine q_vS C0 lX6_93 (c_X5_rank l D y L F22 (urh G (vvw μ xv)) (urw G (vvw μ xv)) (vod μ (vvw μ xv)) (vst μ (vvw μ xv)) xhigh (MP_r hC (hW.2.2.1 xv)) (by omega)) ⟨rfl, rfl⟩ rfl hP (MP_r hC (hW.2.2.1 xv)).1 (MP_r hC (hW.2.2.1 xv)).2.1 rfl rfl rfl hl rfl (Nat.le_of_ble_eq_true rfl) dX6_narrowView_134 ⟨Nat.zero_le _, Nat.zero_le _⟩ (fun r188 e_r188 => ?_)
                          subst e_r188
                          have b_189 := @turn_b (vod μ (vvw μ xv)) xhigh (by omega)
                          refine q_iast C0 hP hD hS hC.2.2.2.2.2.1.1 hC.2.2.2.2.2.1.2 (i := xv) (v := (turn (vod μ (vvw μ xv)) xhigh)) (by omega) (by decide) dX6_narrowView_137 (fun H locs hP hD hS => ?_)
                          obtain ⟨F190, eF190⟩ : ∃ z, z = va_up F22 (uat G) (arrI (y 0) 2 (iu (vvh μ) xv (turn (vod μ (vvw μ xv)) xhigh))) := ⟨_, rfl⟩
                          have hP : va_P D vwCl (va_pl L F190) H := by rw [eF190]; exact hP
                          have hD : va_D (AL L sz) (va_pl L F190) := by rw [eF190]; exact hD
                          have hO : OE O F F190 := by rw [eF190]; exact hO.tr (OE1 (MP_O hC).2.2.2.2.2.1)
                          have hC : MP y L F190 O G (tVh (tTh μ (ltR (inR xv 0 1) 1)) xv (turn (vod μ (vvw μ xv)) xhigh)) := by rw [eF190]; exact MP_vh hC (va_up_self _ _ _) (fun q hq => va_up_ne _ _ hq)
                          refine lv_aload_n hx hb dX6_narrowView_138 rfl (lv_at hl 1 rfl) ?_
                          refine lv_iload_n hx hb dX6_narrowView_139 rfl (lv_at hl 2 rfl) ?_
                          refine q_vS C0 lX6_171 (c_X6_seen l D y L F190 O G (tVh (tTh μ (ltR (inR xv 0 1) 1)) xv (turn (vod μ (vvw μ xv)) xhigh)) xv hC (by omega) (by rw [show vvw (tVh (tTh μ (ltR (inR xv 0 1) 1)) xv (turn (vod μ (vvw μ xv)) xhigh)) xv = vvw μ xv from (by first | rfl | exact iu_s _ _ _)]; exact (hW.2.2.1 xv)) (by rw [show vvl (tVh (tTh μ (ltR (inR xv 0 1) 1)) xv (turn (vod μ (vvw μ xv)) xhigh)) xv = vvl μ xv from (by first | rfl | exact iu_s _ _ _)]; omega) (by rw [show vvh (tVh (tTh μ (ltR (inR xv 0 1) 1)) xv (turn (vod μ (vvw μ xv)) xhigh)) xv = (turn (vod μ (vvw μ xv)) xhigh) from (by first | rfl | exact iu_s _ _ _)]; omega)) ⟨rfl, rfl⟩ rfl hP hC.1.1 hC.1.2 rfl rfl rfl hl rfl (Nat.le_of_ble_eq_true rfl) dX6_narrowView_140 ⟨Nat.zero_le _, Nat.zero_le _⟩ (fun r191 e_r191 => ?_)
                          replace e_r191 : r191 = cntP (vst μ (vvw μ xv)) (vvl μ xv) (turn (vod μ (vvw μ xv)) xhigh) := e_r191.trans (by first | rfl | (rw [show vvw (tVh (tTh μ (ltR (inR xv 0 1) 1)) xv (turn (vod μ (vvw μ xv)) xhigh)) xv = vvw μ xv from (by first | rfl | exact iu_s _ _ _), show vvl (tVh (tTh μ (ltR (inR xv 0 1) 1)) xv (turn (vod μ (vvw μ xv)) xhigh)) xv = vvl μ xv from (by first | rfl | exact iu_s _ _ _), show vvh (tVh (tTh μ (ltR (inR xv 0 1) 1)) xv (turn (vod μ (vvw μ xv)) xhigh)) xv = (turn (vod μ (vvw μ xv)) xhigh) from (by first | rfl | exact iu_s _ _ _)]; done) | (rw [show vvw (tVh (tTh μ (ltR (inR xv 0 1) 1)) xv (turn (vod μ (vvw μ xv)) xhigh)) xv = vvw μ xv from (by first | rfl | exact iu_s _ _ _), show vvl (tVh (tTh μ (ltR (inR xv 0 1) 1)) xv (turn (vod μ (vvw μ xv)) xhigh)) xv = vvl μ xv from (by first | rfl | exact iu_s _ _ _), show vvh (tVh (tTh μ (ltR (inR xv 0 1) 1)) xv (turn (vod μ (vvw μ xv)) xhigh)) xv = (turn (vod μ (vvw μ xv)) xhigh) from (by first | rfl | exact iu_s _ _ _)]; rfl))
                          subst e_r191
                          exact q_retMi C0 hret rfl hlk dX6_narrowView_143 hP hD hS (⟨(by 
    have eN : ¬ (mnRef μ xv xkind xlow xhigh = 1) := by (unfold mnRef; (repeat' split) <;> first | rfl | omega)
    have eL : mnLo μ xv xkind xlow = (vvl μ xv) := by (unfold mnLo; first | (rw [if_pos (by omega)]; done) | (rw [if_neg (by omega)]; done))
    have eH : mnHi μ xv xkind xhigh = (turn (vod μ (vvw μ xv)) xhigh) := by (unfold mnHi; first | (rw [if_pos (by omega)]; done) | (rw [if_neg (by omega)]; done))
    unfold jR_narrowView; rw [if_pos (by omega), if_neg eN, eL, eH]), O, G, MP_eq hC (by 
    have eN : ¬ (mnRef μ xv xkind xlow xhigh = 1) := by (unfold mnRef; (repeat' split) <;> first | rfl | omega)
    have eL : mnLo μ xv xkind xlow = (vvl μ xv) := by (unfold mnLo; first | (rw [if_pos (by omega)]; done) | (rw [if_neg (by omega)]; done))
    have eH : mnHi μ xv xkind xhigh = (turn (vod μ (vvw μ xv)) xhigh) := by (unfold mnHi; first | (rw [if_pos (by omega)]; done) | (rw [if_neg (by omega)]; done))
    have lt_ := ltR_d (inR xv 0 1) 1; 
    unfold jS_narrowView; rw [if_pos (by omega), if_pos (by omega), if_neg eN, eL, eH, show ltR (inR xv 0 1) 1 = 0 by omega]; first | (exfalso; omega) | (rw [if_pos (by omega)]; done) | (rw [if_neg (by omega), if_pos (by omega)]; done) | (rw [if_neg (by omega), if_neg (by omega)]; done)), rfl, Ext0 hO⟩)
                      · refine lv_aload_n hx hb dX6_narrowView_108 rfl (lv_at hl 1 rfl) ?_
                        refine q_get C0 iX6 hP hC.1.1 hC.1.2 rfl 3 (by decide) flX6_21 rfl (v := .ref ((uaf G))) rfl dX6_narrowView_109 ?_
                        refine lv_iload_n hx hb dX6_narrowView_112 rfl (lv_at hl 2 rfl) ?_
                        refine lv_aload hx hb dX6_narrowView_113 (lv_at hl 0 rfl) ?_
                        refine lv_iload_n hx hb dX6_narrowView_115 rfl (lv_at hl 4 rfl) ?_
                        refine q_vS C0 lX6_93 (c_X5_rank l D y L F22 (urh G (vvw μ xv)) (urw G (vvw μ xv)) (vod μ (vvw μ xv)) (vst μ (vvw μ xv)) xlow (MP_r hC (hW.2.2.1 xv)) (by omega)) ⟨rfl, rfl⟩ rfl hP (MP_r hC (hW.2.2.1 xv)).1 (MP_r hC (hW.2.2.1 xv)).2.1 rfl rfl rfl hl rfl (Nat.le_of_ble_eq_true rfl) dX6_narrowView_116 ⟨Nat.zero_le _, Nat.zero_le _⟩ (fun r192 e_r192 => ?_)
                        subst e_r192
                        have b_193 := @turn_b (vod μ (vvw μ xv)) xlow (by omega)
                        refine q_iast C0 hP hD hS hC.2.2.2.2.1.1 hC.2.2.2.2.1.2 (i := xv) (v := (turn (vod μ (vvw μ xv)) xlow)) (by omega) (by decide) dX6_narrowView_119 (fun H locs hP hD hS => ?_)
                        obtain ⟨F194, eF194⟩ : ∃ z, z = va_up F22 (uaf G) (arrI (y 0) 2 (iu (vvl μ) xv (turn (vod μ (vvw μ xv)) xlow))) := ⟨_, rfl⟩
                        have hP : va_P D vwCl (va_pl L F194) H := by rw [eF194]; exact hP
                        have hD : va_D (AL L sz) (va_pl L F194) := by rw [eF194]; exact hD
                        have hO : OE O F F194 := by rw [eF194]; exact hO.tr (OE1 (MP_O hC).2.2.2.2.1)
                        have hC : MP y L F194 O G (tVl (tTh μ (ltR (inR xv 0 1) 1)) xv (turn (vod μ (vvw μ xv)) xlow)) := by rw [eF194]; exact MP_vl hC (va_up_self _ _ _) (fun q hq => va_up_ne _ _ hq)
                        refine lv_iload_n hx hb dX6_narrowView_120 rfl (lv_at hl 3 rfl) ?_
                        refine q_iconst hx hb dX6_narrowView_121 ?_
                        refine q_icmp_eq hx hb dX6_narrowView_122 (tgt := 138) (by decide) (by omega) (by omega) (fun c195 => ?_) (fun c195 => ?_)
                        · refine lv_aload_n hx hb dX6_narrowView_138 rfl (lv_at hl 1 rfl) ?_
                          refine lv_iload_n hx hb dX6_narrowView_139 rfl (lv_at hl 2 rfl) ?_
                          refine q_vS C0 lX6_171 (c_X6_seen l D y L F194 O G (tVl (tTh μ (ltR (inR xv 0 1) 1)) xv (turn (vod μ (vvw μ xv)) xlow)) xv hC (by omega) (by rw [show vvw (tVl (tTh μ (ltR (inR xv 0 1) 1)) xv (turn (vod μ (vvw μ xv)) xlow)) xv = vvw μ xv from (by first | rfl | exact iu_s _ _ _)]; exact (hW.2.2.1 xv)) (by rw [show vvl (tVl (tTh μ (ltR (inR xv 0 1) 1)) xv (turn (vod μ (vvw μ xv)) xlow)) xv = (turn (vod μ (vvw μ xv)) xlow) from (by first | rfl | exact iu_s _ _ _)]; omega) (by rw [show vvh (tVl (tTh μ (ltR (inR xv 0 1) 1)) xv (turn (vod μ (vvw μ xv)) xlow)) xv = vvh μ xv from (by first | rfl | exact iu_s _ _ _)]; omega)) ⟨rfl, rfl⟩ rfl hP hC.1.1 hC.1.2 rfl rfl rfl hl rfl (Nat.le_of_ble_eq_true rfl) dX6_narrowView_140 ⟨Nat.zero_le _, Nat.zero_le _⟩ (fun r196 e_r196 => ?_)
                          replace e_r196 : r196 = cntP (vst μ (vvw μ xv)) (turn (vod μ (vvw μ xv)) xlow) (vvh μ xv) := e_r196.trans (by first | rfl | (rw [show vvw (tVl (tTh μ (ltR (inR xv 0 1) 1)) xv (turn (vod μ (vvw μ xv)) xlow)) xv = vvw μ xv from (by first | rfl | exact iu_s _ _ _), show vvl (tVl (tTh μ (ltR (inR xv 0 1) 1)) xv (turn (vod μ (vvw μ xv)) xlow)) xv = (turn (vod μ (vvw μ xv)) xlow) from (by first | rfl | exact iu_s _ _ _), show vvh (tVl (tTh μ (ltR (inR xv 0 1) 1)) xv (turn (vod μ (vvw μ xv)) xlow)) xv = vvh μ xv from (by first | rfl | exact iu_s _ _ _)]; done) | (rw [show vvw (tVl (tTh μ (ltR (inR xv 0 1) 1)) xv (turn (vod μ (vvw μ xv)) xlow)) xv = vvw μ xv from (by first | rfl | exact iu_s _ _ _), show vvl (tVl (tTh μ (ltR (inR xv 0 1) 1)) xv (turn (vod μ (vvw μ xv)) xlow)) xv = (turn (vod μ (vvw μ xv)) xlow) from (by first | rfl | exact iu_s _ _ _), show vvh (tVl (tTh μ (ltR (inR xv 0 1) 1)) xv (turn (vod μ (vvw μ xv)) xlow)) xv = vvh μ xv from (by first | rfl | exact iu_s _ _ _)]; rfl))
                          subst e_r196
                          exact q_retMi C0 hret rfl hlk dX6_narrowView_143 hP hD hS (⟨(by 
    have eN : ¬ (mnRef μ xv xkind xlow xhigh = 1) := by (unfold mnRef; (repeat' split) <;> first | rfl | omega)
    have eL : mnLo μ xv xkind xlow = (turn (vod μ (vvw μ xv)) xlow) := by (unfold mnLo; first | (rw [if_pos (by omega)]; done) | (rw [if_neg (by omega)]; done))
    have eH : mnHi μ xv xkind xhigh = (vvh μ xv) := by (unfold mnHi; first | (rw [if_pos (by omega)]; done) | (rw [if_neg (by omega)]; done))
    unfold jR_narrowView; rw [if_pos (by omega), if_neg eN, eL, eH]), O, G, MP_eq hC (by 
    have eN : ¬ (mnRef μ xv xkind xlow xhigh = 1) := by (unfold mnRef; (repeat' split) <;> first | rfl | omega)
    have eL : mnLo μ xv xkind xlow = (turn (vod μ (vvw μ xv)) xlow) := by (unfold mnLo; first | (rw [if_pos (by omega)]; done) | (rw [if_neg (by omega)]; done))
    have eH : mnHi μ xv xkind xhigh = (vvh μ xv) := by (unfold mnHi; first | (rw [if_pos (by omega)]; done) | (rw [if_neg (by omega)]; done))
    have lt_ := ltR_d (inR xv 0 1) 1; 
    unfold jS_narrowView; rw [if_pos (by omega), if_pos (by omega), if_neg eN, eL, eH, show ltR (inR xv 0 1) 1 = 0 by omega]; first | (exfalso; omega) | (rw [if_pos (by omega)]; done) | (rw [if_neg (by omega), if_pos (by omega)]; done) | (rw [if_neg (by omega), if_neg (by omega)]; done)), rfl, Ext0 hO⟩)
                        · refine lv_aload_n hx hb dX6_narrowView_125 rfl (lv_at hl 1 rfl) ?_
                          refine q_get C0 iX6 hP hC.1.1 hC.1.2 rfl 4 (by decide) flX6_25 rfl (v := .ref ((uat G))) rfl dX6_narrowView_126 ?_
                          refine lv_iload_n hx hb dX6_narrowView_129 rfl (lv_at hl 2 rfl) ?_
                          refine lv_aload hx hb dX6_narrowView_130 (lv_at hl 0 rfl) ?_
                          refine lv_iload hx hb dX6_narrowView_132 (lv_at hl 5 rfl) ?_
                          refine q_vS C0 lX6_93 (c_X5_rank l D y L F194 (urh G (vvw μ xv)) (urw G (vvw μ xv)) (vod μ (vvw μ xv)) (vst μ (vvw μ xv)) xhigh (MP_r hC (hW.2.2.1 xv)) (by omega)) ⟨rfl, rfl⟩ rfl hP (MP_r hC (hW.2.2.1 xv)).1 (MP_r hC (hW.2.2.1 xv)).2.1 rfl rfl rfl hl rfl (Nat.le_of_ble_eq_true rfl) dX6_narrowView_134 ⟨Nat.zero_le _, Nat.zero_le _⟩ (fun r197 e_r197 => ?_)
                          subst e_r197
                          have b_198 := @turn_b (vod μ (vvw μ xv)) xhigh (by omega)
                          refine q_iast C0 hP hD hS hC.2.2.2.2.2.1.1 hC.2.2.2.2.2.1.2 (i := xv) (v := (turn (vod μ (vvw μ xv)) xhigh)) (by omega) (by decide) dX6_narrowView_137 (fun H locs hP hD hS => ?_)
                          obtain ⟨F199, eF199⟩ : ∃ z, z = va_up F194 (uat G) (arrI (y 0) 2 (iu (vvh μ) xv (turn (vod μ (vvw μ xv)) xhigh))) := ⟨_, rfl⟩
                          have hP : va_P D vwCl (va_pl L F199) H := by rw [eF199]; exact hP
                          have hD : va_D (AL L sz) (va_pl L F199) := by rw [eF199]; exact hD
                          have hO : OE O F F199 := by rw [eF199]; exact hO.tr (OE1 (MP_O hC).2.2.2.2.2.1)
                          have hC : MP y L F199 O G (tVh (tVl (tTh μ (ltR (inR xv 0 1) 1)) xv (turn (vod μ (vvw μ xv)) xlow)) xv (turn (vod μ (vvw μ xv)) xhigh)) := by rw [eF199]; exact MP_vh hC (va_up_self _ _ _) (fun q hq => va_up_ne _ _ hq)
                          refine lv_aload_n hx hb dX6_narrowView_138 rfl (lv_at hl 1 rfl) ?_
                          refine lv_iload_n hx hb dX6_narrowView_139 rfl (lv_at hl 2 rfl) ?_
                          refine q_vS C0 lX6_171 (c_X6_seen l D y L F199 O G (tVh (tVl (tTh μ (ltR (inR xv 0 1) 1)) xv (turn (vod μ (vvw μ xv)) xlow)) xv (turn (vod μ (vvw μ xv)) xhigh)) xv hC (by omega) (by rw [show vvw (tVh (tVl (tTh μ (ltR (inR xv 0 1) 1)) xv (turn (vod μ (vvw μ xv)) xlow)) xv (turn (vod μ (vvw μ xv)) xhigh)) xv = vvw μ xv from (by first | rfl | exact iu_s _ _ _)]; exact (hW.2.2.1 xv)) (by rw [show vvl (tVh (tVl (tTh μ (ltR (inR xv 0 1) 1)) xv (turn (vod μ (vvw μ xv)) xlow)) xv (turn (vod μ (vvw μ xv)) xhigh)) xv = (turn (vod μ (vvw μ xv)) xlow) from (by first | rfl | exact iu_s _ _ _)]; omega) (by rw [show vvh (tVh (tVl (tTh μ (ltR (inR xv 0 1) 1)) xv (turn (vod μ (vvw μ xv)) xlow)) xv (turn (vod μ (vvw μ xv)) xhigh)) xv = (turn (vod μ (vvw μ xv)) xhigh) from (by first | rfl | exact iu_s _ _ _)]; omega)) ⟨rfl, rfl⟩ rfl hP hC.1.1 hC.1.2 rfl rfl rfl hl rfl (Nat.le_of_ble_eq_true rfl) dX6_narrowView_140 ⟨Nat.zero_le _, Nat.zero_le _⟩ (fun r200 e_r200 => ?_)
                          replace e_r200 : r200 = cntP (vst μ (vvw μ xv)) (turn (vod μ (vvw μ xv)) xlow) (turn (vod μ (vvw μ xv)) xhigh) := e_r200.trans (by first | rfl | (rw [show vvw (tVh (tVl (tTh μ (ltR (inR xv 0 1) 1)) xv (turn (vod μ (vvw μ xv)) xlow)) xv (turn (vod μ (vvw μ xv)) xhigh)) xv = vvw μ xv from (by first | rfl | exact iu_s _ _ _), show vvl (tVh (tVl (tTh μ (ltR (inR xv 0 1) 1)) xv (turn (vod μ (vvw μ xv)) xlow)) xv (turn (vod μ (vvw μ xv)) xhigh)) xv = (turn (vod μ (vvw μ xv)) xlow) from (by first | rfl | exact iu_s _ _ _), show vvh (tVh (tVl (tTh μ (ltR (inR xv 0 1) 1)) xv (turn (vod μ (vvw μ xv)) xlow)) xv (turn (vod μ (vvw μ xv)) xhigh)) xv = (turn (vod μ (vvw μ xv)) xhigh) from (by first | rfl | exact iu_s _ _ _)]; done) | (rw [show vvw (tVh (tVl (tTh μ (ltR (inR xv 0 1) 1)) xv (turn (vod μ (vvw μ xv)) xlow)) xv (turn (vod μ (vvw μ xv)) xhigh)) xv = vvw μ xv from (by first | rfl | exact iu_s _ _ _), show vvl (tVh (tVl (tTh μ (ltR (inR xv 0 1) 1)) xv (turn (vod μ (vvw μ xv)) xlow)) xv (turn (vod μ (vvw μ xv)) xhigh)) xv = (turn (vod μ (vvw μ xv)) xlow) from (by first | rfl | exact iu_s _ _ _), show vvh (tVh (tVl (tTh μ (ltR (inR xv 0 1) 1)) xv (turn (vod μ (vvw μ xv)) xlow)) xv (turn (vod μ (vvw μ xv)) xhigh)) xv = (turn (vod μ (vvw μ xv)) xhigh) from (by first | rfl | exact iu_s _ _ _)]; rfl))
                          subst e_r200
                          exact q_retMi C0 hret rfl hlk dX6_narrowView_143 hP hD hS (⟨(by 
    have eN : ¬ (mnRef μ xv xkind xlow xhigh = 1) := by (unfold mnRef; (repeat' split) <;> first | rfl | omega)
    have eL : mnLo μ xv xkind xlow = (turn (vod μ (vvw μ xv)) xlow) := by (unfold mnLo; first | (rw [if_pos (by omega)]; done) | (rw [if_neg (by omega)]; done))
    have eH : mnHi μ xv xkind xhigh = (turn (vod μ (vvw μ xv)) xhigh) := by (unfold mnHi; first | (rw [if_pos (by omega)]; done) | (rw [if_neg (by omega)]; done))
    unfold jR_narrowView; rw [if_pos (by omega), if_neg eN, eL, eH]), O, G, MP_eq hC (by 
    have eN : ¬ (mnRef μ xv xkind xlow xhigh = 1) := by (unfold mnRef; (repeat' split) <;> first | rfl | omega)
    have eL : mnLo μ xv xkind xlow = (turn (vod μ (vvw μ xv)) xlow) := by (unfold mnLo; first | (rw [if_pos (by omega)]; done) | (rw [if_neg (by omega)]; done))
    have eH : mnHi μ xv xkind xhigh = (turn (vod μ (vvw μ xv)) xhigh) := by (unfold mnHi; first | (rw [if_pos (by omega)]; done) | (rw [if_neg (by omega)]; done))
    have lt_ := ltR_d (inR xv 0 1) 1; 
    unfold jS_narrowView; rw [if_pos (by omega), if_pos (by omega), if_neg eN, eL, eH, show ltR (inR xv 0 1) 1 = 0 by omega]; first | (exfalso; omega) | (rw [if_pos (by omega)]; done) | (rw [if_neg (by omega), if_pos (by omega)]; done) | (rw [if_neg (by omega), if_neg (by omega)]; done)), rfl, Ext0 hO⟩)
                    · refine lv_aload_n hx hb dX6_narrowView_99 rfl (lv_at hl 1 rfl) ?_
                      refine q_vMi C0 lX6_89 (c_X6_refuse l D y L F22 _ O G (tTh μ (ltR (inR xv 0 1) 1)) hC) ⟨rfl, rfl⟩ rfl hP hD hS hA hC.1.1 hC.1.2 rfl rfl rfl hl rfl (Nat.le_of_ble_eq_true rfl) dX6_narrowView_100 ⟨Nat.le_of_ble_eq_true rfl, Nat.le_of_ble_eq_true rfl⟩ (fun r201 H locs L202 F202 hP hD hS hz202 hp202 => ?_)
                      obtain ⟨eL, hC, er, hO1⟩ := hp202
                      subst eL
                      replace er : (-9) = r201 := er.symm
                      subst er
                      have hO := hO.tr hO1
                      exact q_retMi C0 hret rfl hlk dX6_narrowView_103 hP hD hS (⟨(by 
    have eN : mnRef μ xv xkind xlow xhigh = 1 := by (unfold mnRef; (repeat' split) <;> first | rfl | omega)
    unfold jR_narrowView; rw [if_pos (by omega), if_pos eN]), O, G, MP_eq hC (by 
    have eN : mnRef μ xv xkind xlow xhigh = 1 := by (unfold mnRef; (repeat' split) <;> first | rfl | omega)
    have lt_ := ltR_d (inR xv 0 1) 1; 
    unfold jS_narrowView; rw [if_pos (by omega), if_pos (by omega), if_pos eN, show ltR (inR xv 0 1) 1 = 0 by omega]), rfl, Ext0 hO⟩)
        · replace k_23 := k_23.resolve_left (fun h => absurd (h.1.symm.trans c24) (by decide))
          refine q_iconst hx hb dX6_narrowView_40 ?_
          exact q_retMi C0 hret rfl hlk dX6_narrowView_41 hP hD hS (⟨(by unfold jR_narrowView; rw [if_neg (by omega)]), O, G, MP_eq hC (by have lt_ := ltR_d (inR xv 0 1) 1; unfold jS_narrowView; rcases lt_ with lt_ | lt_ | lt_ <;> first | (rw [if_neg (by omega), lt_.1]; done) | (rw [if_pos (by omega), if_neg (by omega), lt_.1]; done) | (exfalso; omega)), rfl, Ext0 hO⟩)
