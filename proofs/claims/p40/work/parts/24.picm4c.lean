set_option maxHeartbeats 3000000 in
set_option maxRecDepth 100000 in
theorem c_X6_narrowView (l : Launch) (D : va_G) (y : Nat → ClassId) (L : List Nat) (F : Nat → va_E) (sz : Nat) (O : Nat → Prop) (G : MG) (μ : MS) (xv : Int) (xkind : Int) (xlow : Int) (xhigh : Int) (hC : MP y L F O G μ) (hW : MW μ) (h_xv : -2147483648 ≤ xv ∧ xv ≤ 2147483647) (h_xkind : -2147483648 ≤ xkind ∧ xkind ≤ 2147483647) (h_xlow : -2147483648 ≤ xlow ∧ xlow ≤ 2147483647) (h_xhigh : -2147483648 ≤ xhigh ∧ xhigh ≤ 2147483647) : Met l yX6_narrowView (.code yX6_narrowView cX6_narrowView 6 (some .int) :: Tt) ({ frames := 3, cells := 0, slots := 0, locals := 66 }) (PcM D y L F sz [.ref ((ubg G)), .int (iI xv), .int (iI xkind), .int (iI xlow), .int (iI xhigh)]) (cMi D (AL L sz) (fun r L1 F1 => r = jR_narrowView μ xv xkind xlow xhigh ∧ ∃ (O1 : Nat → Prop) (G1 : MG), MP y L1 F1 O1 G1 (jS_narrowView μ xv xkind xlow xhigh) ∧ ubg G1 = ubg G ∧ Ext O O1 L L1 F F1)) 0 0 (AL L sz) := by
  have hO : OE O F F := fun _ _ => rfl
  have hw5 := hW.2.2.2.2.2.1
  have hw6 := hW.2.2.2.2.2.2.1
  have hw7 := hW.2.2.2.2.2.2.2.1
  have vb_ := hW.2.2.2.2.1 xv
  refine q_ofM (lv := [(0, .ref ((ubg G))), (1, .int (iI xv)), (2, .int (iI xkind)), (3, .int (iI xlow)), (4, .int (iI xhigh))]) (by decide) (Nat.le_of_ble_eq_true rfl) rfl (fun p e s m below meth c C0 hret hlk hnm hA hP hD hS ls hl => ?_)
  have hx := C0.1.1
  have hb := C0.1.2.1
  have hts := C0.1.2.2.2.2
  refine lv_aload_n hx hb dX6_narrowView_0 rfl (lv_at hl 0 rfl) ?_
  refine lv_iload_n hx hb dX6_narrowView_1 rfl (lv_at hl 1 rfl) ?_
  refine q_sS C0 lX6_168 (c_X6_isView l D y L F xv (by omega)) ⟨rfl, rfl⟩ rfl hP rfl hl rfl (Nat.le_of_ble_eq_true rfl) dX6_narrowView_2 ⟨Nat.zero_le _, Nat.zero_le _⟩ (fun r1 e_r1 => ?_)
  subst e_r1
  have b_2 := inR_d xv 0 1
  refine lv_iload_n hx hb dX6_narrowView_5 rfl (lv_at hl 2 rfl) ?_
  refine q_iconst hx hb dX6_narrowView_6 ?_
  refine q_iconst hx hb dX6_narrowView_7 ?_
  refine q_sS C0 lX6_41 (c_X6_isIn l D y L F xkind 0 2 (by omega) (by omega) (by omega)) ⟨rfl, rfl⟩ rfl hP rfl hl rfl (Nat.le_of_ble_eq_true rfl) dX6_narrowView_8 ⟨Nat.zero_le _, Nat.zero_le _⟩ (fun r3 e_r3 => ?_)
  subst e_r3
  have b_4 := inR_d xkind 0 2
  refine q_if_eq hx hb dX6_narrowView_11 (tgt := 33) (by decide) (by omega) (fun c5 => ?_) (fun c5 => ?_)
  · replace b_4 := b_4.resolve_left (fun h => absurd (h.1.symm.trans c5) (by decide))
    refine q_iconst hx hb dX6_narrowView_33 ?_
    refine q_vMi C0 lX6_63 (c_X6_isLet l D y L F _ O G μ (inR xv 0 1) 0 hC (by omega) (by omega)) ⟨rfl, rfl⟩ rfl hP hD hS hA hC.1.1 hC.1.2 rfl rfl rfl hl rfl (Nat.le_of_ble_eq_true rfl) dX6_narrowView_34 ⟨Nat.le_of_ble_eq_true rfl, Nat.le_of_ble_eq_true rfl⟩ (fun r6 H locs L7 F7 hP hD hS hz7 hp7 => ?_)
    obtain ⟨eL, hC, er, hO1⟩ := hp7
    subst eL
    replace er := (er.trans (okR_z _)).symm
    subst er
    have hO := hO.tr hO1
    refine q_if_ne hx hb dX6_narrowView_37 (tgt := 42) (by decide) (by omega) (fun c8 => absurd c8 (by omega)) (fun c8 => ?_)
    refine q_iconst hx hb dX6_narrowView_40 ?_
    exact q_retMi C0 hret rfl hlk dX6_narrowView_41 hP hD hS (⟨(by unfold jR_narrowView; rw [if_neg (by omega)]), O, G, MP_eq hC (by have lt_ := ltR_d (inR xv 0 1) 0; unfold jS_narrowView; rcases lt_ with lt_ | lt_ | lt_ <;> first | (rw [if_neg (by omega), lt_.1]; done) | (rw [if_pos (by omega), if_neg (by omega), lt_.1]; done) | (exfalso; omega)), rfl, Ext0 hO⟩)
  · replace b_4 := b_4.resolve_right (fun h => c5 h.1)
    refine lv_iload_n hx hb dX6_narrowView_14 rfl (lv_at hl 3 rfl) ?_
    refine q_sS C0 lX6_86 (c_X6_isKey l D y L F xlow (by omega)) ⟨rfl, rfl⟩ rfl hP rfl hl rfl (Nat.le_of_ble_eq_true rfl) dX6_narrowView_15 ⟨Nat.zero_le _, Nat.zero_le _⟩ (fun r9 e_r9 => ?_)
    subst e_r9
    have b_10 := inR_d xlow 0 99
    refine q_if_eq hx hb dX6_narrowView_18 (tgt := 33) (by decide) (by omega) (fun c11 => ?_) (fun c11 => ?_)
    · replace b_10 := b_10.resolve_left (fun h => absurd (h.1.symm.trans c11) (by decide))
      refine q_iconst hx hb dX6_narrowView_33 ?_
      refine q_vMi C0 lX6_63 (c_X6_isLet l D y L F _ O G μ (inR xv 0 1) 0 hC (by omega) (by omega)) ⟨rfl, rfl⟩ rfl hP hD hS hA hC.1.1 hC.1.2 rfl rfl rfl hl rfl (Nat.le_of_ble_eq_true rfl) dX6_narrowView_34 ⟨Nat.le_of_ble_eq_true rfl, Nat.le_of_ble_eq_true rfl⟩ (fun r12 H locs L13 F13 hP hD hS hz13 hp13 => ?_)
      obtain ⟨eL, hC, er, hO1⟩ := hp13
      subst eL
      replace er := (er.trans (okR_z _)).symm
      subst er
      have hO := hO.tr hO1
      refine q_if_ne hx hb dX6_narrowView_37 (tgt := 42) (by decide) (by omega) (fun c14 => absurd c14 (by omega)) (fun c14 => ?_)
      refine q_iconst hx hb dX6_narrowView_40 ?_
      exact q_retMi C0 hret rfl hlk dX6_narrowView_41 hP hD hS (⟨(by unfold jR_narrowView; rw [if_neg (by omega)]), O, G, MP_eq hC (by have lt_ := ltR_d (inR xv 0 1) 0; unfold jS_narrowView; rcases lt_ with lt_ | lt_ | lt_ <;> first | (rw [if_neg (by omega), lt_.1]; done) | (rw [if_pos (by omega), if_neg (by omega), lt_.1]; done) | (exfalso; omega)), rfl, Ext0 hO⟩)
    · replace b_10 := b_10.resolve_right (fun h => c11 h.1)
      refine lv_iload hx hb dX6_narrowView_21 (lv_at hl 4 rfl) ?_
      refine q_sS C0 lX6_86 (c_X6_isKey l D y L F xhigh (by omega)) ⟨rfl, rfl⟩ rfl hP rfl hl rfl (Nat.le_of_ble_eq_true rfl) dX6_narrowView_23 ⟨Nat.zero_le _, Nat.zero_le _⟩ (fun r15 e_r15 => ?_)
      subst e_r15
      have b_16 := inR_d xhigh 0 99
      refine q_if_eq hx hb dX6_narrowView_26 (tgt := 33) (by decide) (by omega) (fun c17 => ?_) (fun c17 => ?_)
      · replace b_16 := b_16.resolve_left (fun h => absurd (h.1.symm.trans c17) (by decide))
        refine q_iconst hx hb dX6_narrowView_33 ?_
        refine q_vMi C0 lX6_63 (c_X6_isLet l D y L F _ O G μ (inR xv 0 1) 0 hC (by omega) (by omega)) ⟨rfl, rfl⟩ rfl hP hD hS hA hC.1.1 hC.1.2 rfl rfl rfl hl rfl (Nat.le_of_ble_eq_true rfl) dX6_narrowView_34 ⟨Nat.le_of_ble_eq_true rfl, Nat.le_of_ble_eq_true rfl⟩ (fun r18 H locs L19 F19 hP hD hS hz19 hp19 => ?_)
        obtain ⟨eL, hC, er, hO1⟩ := hp19
        subst eL
        replace er := (er.trans (okR_z _)).symm
        subst er
        have hO := hO.tr hO1
        refine q_if_ne hx hb dX6_narrowView_37 (tgt := 42) (by decide) (by omega) (fun c20 => absurd c20 (by omega)) (fun c20 => ?_)
        refine q_iconst hx hb dX6_narrowView_40 ?_
        exact q_retMi C0 hret rfl hlk dX6_narrowView_41 hP hD hS (⟨(by unfold jR_narrowView; rw [if_neg (by omega)]), O, G, MP_eq hC (by have lt_ := ltR_d (inR xv 0 1) 0; unfold jS_narrowView; rcases lt_ with lt_ | lt_ | lt_ <;> first | (rw [if_neg (by omega), lt_.1]; done) | (rw [if_pos (by omega), if_neg (by omega), lt_.1]; done) | (exfalso; omega)), rfl, Ext0 hO⟩)
      · replace b_16 := b_16.resolve_right (fun h => c17 h.1)
        refine q_iconst hx hb dX6_narrowView_29 ?_
        refine lv_goto (tgt := 34) hx hb dX6_narrowView_30 (by decide) ?_
        refine q_vMi C0 lX6_63 (c_X6_isLet l D y L F _ O G μ (inR xv 0 1) 1 hC (by omega) (by omega)) ⟨rfl, rfl⟩ rfl hP hD hS hA hC.1.1 hC.1.2 rfl rfl rfl hl rfl (Nat.le_of_ble_eq_true rfl) dX6_narrowView_34 ⟨Nat.le_of_ble_eq_true rfl, Nat.le_of_ble_eq_true rfl⟩ (fun r21 H locs L22 F22 hP hD hS hz22 hp22 => ?_)
        obtain ⟨eL, hC, er, hO1⟩ := hp22
        subst eL
        replace er := er.symm
        subst er
        have hO := hO.tr hO1
        have k_23 := okR_d (inR xv 0 1) 1
        refine q_if_ne hx hb dX6_narrowView_37 (tgt := 42) (by decide) (by omega) (fun c24 => ?_) (fun c24 => ?_)
        · replace k_23 := k_23.resolve_right (fun h => c24 h.1)
          refine lv_aload_n hx hb dX6_narrowView_42 rfl (lv_at hl 0 rfl) ?_
          refine q_get C0 iX6 hP hC.1.1 hC.1.2 rfl 2 (by decide) flX6_18 rfl (v := .ref ((uav G))) rfl dX6_narrowView_43 ?_
          refine lv_iload_n hx hb dX6_narrowView_46 rfl (lv_at hl 1 rfl) ?_
          refine q_aald C0 hP hC.2.2.2.1.1 hC.2.2.2.1.2 (t := 3) rfl (by omega) (by decide) (v := .ref ((urh G (vvw μ xv)))) rfl dX6_narrowView_47 ?_
          refine lv_astore (lv' := [(5, .ref ((urh G (vvw μ xv)))), (0, .ref ((ubg G))), (1, .int (iI xv)), (2, .int (iI xkind)), (3, .int (iI xlow)), (4, .int (iI xhigh))]) hx hb dX6_narrowView_48 hl (by decide) rfl (fun ls hl => ?_)
          refine lv_iload_n hx hb dX6_narrowView_50 rfl (lv_at hl 3 rfl) ?_
          refine q_if_le hx hb dX6_narrowView_51 (tgt := 63) (by decide) (by omega) (fun c25 => ?_) (fun c25 => ?_)
          · refine lv_iload_n hx hb dX6_narrowView_63 rfl (lv_at hl 3 rfl) ?_
            refine q_iconst hx hb dX6_narrowView_64 ?_
            refine q_icmp_eq hx hb dX6_narrowView_65 (tgt := 78) (by decide) (by omega) (by omega) (fun c26 => ?_) (fun c26 => ?_)
            · refine lv_iload_n hx hb dX6_narrowView_78 rfl (lv_at hl 3 rfl) ?_
              refine q_iconst hx hb dX6_narrowView_79 ?_
              refine q_icmp_ne hx hb dX6_narrowView_80 (tgt := 104) (by decide) (by omega) (by omega) (fun c27 => ?_) (fun c27 => absurd c27 (by omega))
              refine lv_iload_n hx hb dX6_narrowView_104 rfl (lv_at hl 3 rfl) ?_
              refine q_if_le hx hb dX6_narrowView_105 (tgt := 120) (by decide) (by omega) (fun c28 => ?_) (fun c28 => ?_)
              · refine lv_iload_n hx hb dX6_narrowView_120 rfl (lv_at hl 3 rfl) ?_
                refine q_iconst hx hb dX6_narrowView_121 ?_
                refine q_icmp_eq hx hb dX6_narrowView_122 (tgt := 138) (by decide) (by omega) (by omega) (fun c29 => ?_) (fun c29 => absurd c29 (by omega))
                refine lv_aload_n hx hb dX6_narrowView_138 rfl (lv_at hl 1 rfl) ?_
                refine lv_iload_n hx hb dX6_narrowView_139 rfl (lv_at hl 2 rfl) ?_
                refine q_vS C0 lX6_171 (c_X6_seen l D y L F22 O G (tTh μ (ltR (inR xv 0 1) 1)) xv hC (by omega) (hW.2.2.1 xv) ⟨(hW.2.2.2.2.1 xv).1, (hW.2.2.2.2.1 xv).2.1⟩ (hW.2.2.2.2.1 xv).2.2) ⟨rfl, rfl⟩ rfl hP hC.1.1 hC.1.2 rfl rfl rfl hl rfl (Nat.le_of_ble_eq_true rfl) dX6_narrowView_140 ⟨Nat.zero_le _, Nat.zero_le _⟩ (fun r30 e_r30 => ?_)
                replace e_r30 : r30 = cntP (vst μ (vvw μ xv)) (vvl μ xv) (vvh μ xv) := e_r30.trans (by first | rfl | (rw [show vvw (tTh μ (ltR (inR xv 0 1) 1)) xv = vvw μ xv from (by first | rfl | exact iu_s _ _ _), show vvl (tTh μ (ltR (inR xv 0 1) 1)) xv = vvl μ xv from (by first | rfl | exact iu_s _ _ _), show vvh (tTh μ (ltR (inR xv 0 1) 1)) xv = vvh μ xv from (by first | rfl | exact iu_s _ _ _)]; done) | (rw [show vvw (tTh μ (ltR (inR xv 0 1) 1)) xv = vvw μ xv from (by first | rfl | exact iu_s _ _ _), show vvl (tTh μ (ltR (inR xv 0 1) 1)) xv = vvl μ xv from (by first | rfl | exact iu_s _ _ _), show vvh (tTh μ (ltR (inR xv 0 1) 1)) xv = vvh μ xv from (by first | rfl | exact iu_s _ _ _)]; rfl))
                subst e_r30
                exact q_retMi C0 hret rfl hlk dX6_narrowView_143 hP hD hS (⟨(by 
    have eN : ¬ (mnRef μ xv xkind xlow xhigh = 1) := by (unfold mnRef; (repeat' split) <;> first | rfl | omega)
    have eL : mnLo μ xv xkind xlow = (vvl μ xv) := by (unfold mnLo; first | (rw [if_pos (by omega)]; done) | (rw [if_neg (by omega)]; done))
    have eH : mnHi μ xv xkind xhigh = (vvh μ xv) := by (unfold mnHi; first | (rw [if_pos (by omega)]; done) | (rw [if_neg (by omega)]; done))
    unfold jR_narrowView; rw [if_pos (by omega), if_neg eN, eL, eH]), O, G, MP_eq hC (by 
    have eN : ¬ (mnRef μ xv xkind xlow xhigh = 1) := by (unfold mnRef; (repeat' split) <;> first | rfl | omega)
    have eL : mnLo μ xv xkind xlow = (vvl μ xv) := by (unfold mnLo; first | (rw [if_pos (by omega)]; done) | (rw [if_neg (by omega)]; done))
    have eH : mnHi μ xv xkind xhigh = (vvh μ xv) := by (unfold mnHi; first | (rw [if_pos (by omega)]; done) | (rw [if_neg (by omega)]; done))
    have lt_ := ltR_d (inR xv 0 1) 1; 
    unfold jS_narrowView; rw [if_pos (by omega), if_pos (by omega), if_neg eN, eL, eH, show ltR (inR xv 0 1) 1 = 0 by omega]; first | (exfalso; omega) | (rw [if_pos (by omega)]; done) | (rw [if_neg (by omega), if_pos (by omega)]; done) | (rw [if_neg (by omega), if_neg (by omega)]; done)), rfl, Ext0 hO⟩)
              · refine lv_aload_n hx hb dX6_narrowView_108 rfl (lv_at hl 1 rfl) ?_
                refine q_get C0 iX6 hP hC.1.1 hC.1.2 rfl 3 (by decide) flX6_21 rfl (v := .ref ((uaf G))) rfl dX6_narrowView_109 ?_
                refine lv_iload_n hx hb dX6_narrowView_112 rfl (lv_at hl 2 rfl) ?_
                refine lv_aload hx hb dX6_narrowView_113 (lv_at hl 0 rfl) ?_
                refine lv_iload_n hx hb dX6_narrowView_115 rfl (lv_at hl 4 rfl) ?_
                refine q_vS C0 lX6_93 (c_X5_rank l D y L F22 (urh G (vvw μ xv)) (urw G (vvw μ xv)) (vod μ (vvw μ xv)) (vst μ (vvw μ xv)) xlow (MP_r hC (hW.2.2.1 xv)) (by omega)) ⟨rfl, rfl⟩ rfl hP (MP_r hC (hW.2.2.1 xv)).1 (MP_r hC (hW.2.2.1 xv)).2.1 rfl rfl rfl hl rfl (Nat.le_of_ble_eq_true rfl) dX6_narrowView_116 ⟨Nat.zero_le _, Nat.zero_le _⟩ (fun r31 e_r31 => ?_)
                subst e_r31
                have b_32 := @turn_b (vod μ (vvw μ xv)) xlow (by omega)
                refine q_iast C0 hP hD hS hC.2.2.2.2.1.1 hC.2.2.2.2.1.2 (i := xv) (v := (turn (vod μ (vvw μ xv)) xlow)) (by omega) (by decide) dX6_narrowView_119 (fun H locs hP hD hS => ?_)
                obtain ⟨F33, eF33⟩ : ∃ z, z = va_up F22 (uaf G) (arrI (y 0) 2 (iu (vvl μ) xv (turn (vod μ (vvw μ xv)) xlow))) := ⟨_, rfl⟩
                have hP : va_P D vwCl (va_pl L F33) H := by rw [eF33]; exact hP
                have hD : va_D (AL L sz) (va_pl L F33) := by rw [eF33]; exact hD
                have hO : OE O F F33 := by rw [eF33]; exact hO.tr (OE1 (MP_O hC).2.2.2.2.1)
                have hC : MP y L F33 O G (tVl (tTh μ (ltR (inR xv 0 1) 1)) xv (turn (vod μ (vvw μ xv)) xlow)) := by rw [eF33]; exact MP_vl hC (va_up_self _ _ _) (fun q hq => va_up_ne _ _ hq)
                refine lv_iload_n hx hb dX6_narrowView_120 rfl (lv_at hl 3 rfl) ?_
                refine q_iconst hx hb dX6_narrowView_121 ?_
                refine q_icmp_eq hx hb dX6_narrowView_122 (tgt := 138) (by decide) (by omega) (by omega) (fun c34 => ?_) (fun c34 => absurd c34 (by omega))
                refine lv_aload_n hx hb dX6_narrowView_138 rfl (lv_at hl 1 rfl) ?_
                refine lv_iload_n hx hb dX6_narrowView_139 rfl (lv_at hl 2 rfl) ?_
                refine q_vS C0 lX6_171 (c_X6_seen l D y L F33 O G (tVl (tTh μ (ltR (inR xv 0 1) 1)) xv (turn (vod μ (vvw μ xv)) xlow)) xv hC (by omega) (by rw [show vvw (tVl (tTh μ (ltR (inR xv 0 1) 1)) xv (turn (vod μ (vvw μ xv)) xlow)) xv = vvw μ xv from (by first | rfl | exact iu_s _ _ _)]; exact (hW.2.2.1 xv)) (by rw [show vvl (tVl (tTh μ (ltR (inR xv 0 1) 1)) xv (turn (vod μ (vvw μ xv)) xlow)) xv = (turn (vod μ (vvw μ xv)) xlow) from (by first | rfl | exact iu_s _ _ _)]; omega) (by rw [show vvh (tVl (tTh μ (ltR (inR xv 0 1) 1)) xv (turn (vod μ (vvw μ xv)) xlow)) xv = vvh μ xv from (by first | rfl | exact iu_s _ _ _)]; omega)) ⟨rfl, rfl⟩ rfl hP hC.1.1 hC.1.2 rfl rfl rfl hl rfl (Nat.le_of_ble_eq_true rfl) dX6_narrowView_140 ⟨Nat.zero_le _, Nat.zero_le _⟩ (fun r35 e_r35 => ?_)
                replace e_r35 : r35 = cntP (vst μ (vvw μ xv)) (turn (vod μ (vvw μ xv)) xlow) (vvh μ xv) := e_r35.trans (by first | rfl | (rw [show vvw (tVl (tTh μ (ltR (inR xv 0 1) 1)) xv (turn (vod μ (vvw μ xv)) xlow)) xv = vvw μ xv from (by first | rfl | exact iu_s _ _ _), show vvl (tVl (tTh μ (ltR (inR xv 0 1) 1)) xv (turn (vod μ (vvw μ xv)) xlow)) xv = (turn (vod μ (vvw μ xv)) xlow) from (by first | rfl | exact iu_s _ _ _), show vvh (tVl (tTh μ (ltR (inR xv 0 1) 1)) xv (turn (vod μ (vvw μ xv)) xlow)) xv = vvh μ xv from (by first | rfl | exact iu_s _ _ _)]; done) | (rw [show vvw (tVl (tTh μ (ltR (inR xv 0 1) 1)) xv (turn (vod μ (vvw μ xv)) xlow)) xv = vvw μ xv from (by first | rfl | exact iu_s _ _ _), show vvl (tVl (tTh μ (ltR (inR xv 0 1) 1)) xv (turn (vod μ (vvw μ xv)) xlow)) xv = (turn (vod μ (vvw μ xv)) xlow) from (by first | rfl | exact iu_s _ _ _), show vvh (tVl (tTh μ (ltR (inR xv 0 1) 1)) xv (turn (vod μ (vvw μ xv)) xlow)) xv = vvh μ xv from (by first | rfl | exact iu_s _ _ _)]; rfl))
                subst e_r35
                exact q_retMi C0 hret rfl hlk dX6_narrowView_143 hP hD hS (⟨(by 
    have eN : ¬ (mnRef μ xv xkind xlow xhigh = 1) := by (unfold mnRef; (repeat' split) <;> first | rfl | omega)
    have eL : mnLo μ xv xkind xlow = (turn (vod μ (vvw μ xv)) xlow) := by (unfold mnLo; first | (rw [if_pos (by omega)]; done) | (rw [if_neg (by omega)]; done))
    have eH : mnHi μ xv xkind xhigh = (vvh μ xv) := by (unfold mnHi; first | (rw [if_pos (by omega)]; done) | (rw [if_neg (by omega)]; done))
    unfold jR_narrowView; rw [if_pos (by omega), if_neg eN, eL, eH]), O, G, MP_eq hC (by 
    have eN : ¬ (mnRef μ xv xkind xlow xhigh = 1) := by (unfold mnRef; (repeat' split) <;> first | rfl | omega)
    have eL : mnLo μ xv xkind xlow = (turn (vod μ (vvw μ xv)) xlow) := by (unfold mnLo; first | (rw [if_pos (by omega)]; done) | (rw [if_neg (by omega)]; done))
    have eH : mnHi μ xv xkind xhigh = (vvh μ xv) := by (unfold mnHi; first | (rw [if_pos (by omega)]; done) | (rw [if_neg (by omega)]; done))
    have lt_ := ltR_d (inR xv 0 1) 1; 
    unfold jS_narrowView; rw [if_pos (by omega), if_pos (by omega), if_neg eN, eL, eH, show ltR (inR xv 0 1) 1 = 0 by omega]; first | (exfalso; omega) | (rw [if_pos (by omega)]; done) | (rw [if_neg (by omega), if_pos (by omega)]; done) | (rw [if_neg (by omega), if_neg (by omega)]; done)), rfl, Ext0 hO⟩)
            · refine lv_aload_n hx hb dX6_narrowView_68 rfl (lv_at hl 1 rfl) ?_
              refine lv_iload_n hx hb dX6_narrowView_69 rfl (lv_at hl 2 rfl) ?_
              refine lv_iload hx hb dX6_narrowView_70 (lv_at hl 5 rfl) ?_
              refine q_vS C0 lX6_174 (c_X6_isWithin l D y L F22 O G (tTh μ (ltR (inR xv 0 1) 1)) xv xhigh hC (by omega) (hW.2.2.1 xv) ⟨(hW.2.2.2.2.1 xv).1, (hW.2.2.2.2.1 xv).2.1⟩ (hW.2.2.2.2.1 xv).2.2 (by omega)) ⟨rfl, rfl⟩ rfl hP hC.1.1 hC.1.2 rfl rfl rfl hl rfl (Nat.le_of_ble_eq_true rfl) dX6_narrowView_72 ⟨Nat.zero_le _, Nat.zero_le _⟩ (fun r36 e_r36 => ?_)
              replace e_r36 : r36 = inR (turn (vod μ (vvw μ xv)) xhigh) (vvl μ xv) (vvh μ xv) := e_r36.trans (by first | rfl | (rw [show vvw (tTh μ (ltR (inR xv 0 1) 1)) xv = vvw μ xv from (by first | rfl | exact iu_s _ _ _), show vvl (tTh μ (ltR (inR xv 0 1) 1)) xv = vvl μ xv from (by first | rfl | exact iu_s _ _ _), show vvh (tTh μ (ltR (inR xv 0 1) 1)) xv = vvh μ xv from (by first | rfl | exact iu_s _ _ _)]; done) | (rw [show vvw (tTh μ (ltR (inR xv 0 1) 1)) xv = vvw μ xv from (by first | rfl | exact iu_s _ _ _), show vvl (tTh μ (ltR (inR xv 0 1) 1)) xv = vvl μ xv from (by first | rfl | exact iu_s _ _ _), show vvh (tTh μ (ltR (inR xv 0 1) 1)) xv = vvh μ xv from (by first | rfl | exact iu_s _ _ _)]; rfl))
              subst e_r36
              have b_37 := inR_d (turn (vod μ (vvw μ xv)) xhigh) (vvl μ xv) (vvh μ xv)
              refine q_if_eq hx hb dX6_narrowView_75 (tgt := 99) (by decide) (by omega) (fun c38 => ?_) (fun c38 => ?_)
              · refine lv_aload_n hx hb dX6_narrowView_99 rfl (lv_at hl 1 rfl) ?_
                refine q_vMi C0 lX6_89 (c_X6_refuse l D y L F22 _ O G (tTh μ (ltR (inR xv 0 1) 1)) hC) ⟨rfl, rfl⟩ rfl hP hD hS hA hC.1.1 hC.1.2 rfl rfl rfl hl rfl (Nat.le_of_ble_eq_true rfl) dX6_narrowView_100 ⟨Nat.le_of_ble_eq_true rfl, Nat.le_of_ble_eq_true rfl⟩ (fun r39 H locs L40 F40 hP hD hS hz40 hp40 => ?_)
                obtain ⟨eL, hC, er, hO1⟩ := hp40
                subst eL
                replace er : (-9) = r39 := er.symm
                subst er
                have hO := hO.tr hO1
                exact q_retMi C0 hret rfl hlk dX6_narrowView_103 hP hD hS (⟨(by 
    have eN : mnRef μ xv xkind xlow xhigh = 1 := by (unfold mnRef; (repeat' split) <;> first | rfl | omega)
    unfold jR_narrowView; rw [if_pos (by omega), if_pos eN]), O, G, MP_eq hC (by 
    have eN : mnRef μ xv xkind xlow xhigh = 1 := by (unfold mnRef; (repeat' split) <;> first | rfl | omega)
    have lt_ := ltR_d (inR xv 0 1) 1; 
    unfold jS_narrowView; rw [if_pos (by omega), if_pos (by omega), if_pos eN, show ltR (inR xv 0 1) 1 = 0 by omega]), rfl, Ext0 hO⟩)
              · refine lv_iload_n hx hb dX6_narrowView_78 rfl (lv_at hl 3 rfl) ?_
                refine q_iconst hx hb dX6_narrowView_79 ?_
                refine q_icmp_ne hx hb dX6_narrowView_80 (tgt := 104) (by decide) (by omega) (by omega) (fun c41 => ?_) (fun c41 => ?_)
                · refine lv_iload_n hx hb dX6_narrowView_104 rfl (lv_at hl 3 rfl) ?_
                  refine q_if_le hx hb dX6_narrowView_105 (tgt := 120) (by decide) (by omega) (fun c42 => ?_) (fun c42 => ?_)
                  · refine lv_iload_n hx hb dX6_narrowView_120 rfl (lv_at hl 3 rfl) ?_
                    refine q_iconst hx hb dX6_narrowView_121 ?_
                    refine q_icmp_eq hx hb dX6_narrowView_122 (tgt := 138) (by decide) (by omega) (by omega) (fun c43 => absurd c43 (by omega)) (fun c43 => ?_)
                    refine lv_aload_n hx hb dX6_narrowView_125 rfl (lv_at hl 1 rfl) ?_
                    refine q_get C0 iX6 hP hC.1.1 hC.1.2 rfl 4 (by decide) flX6_25 rfl (v := .ref ((uat G))) rfl dX6_narrowView_126 ?_
                    refine lv_iload_n hx hb dX6_narrowView_129 rfl (lv_at hl 2 rfl) ?_
                    refine lv_aload hx hb dX6_narrowView_130 (lv_at hl 0 rfl) ?_
                    refine lv_iload hx hb dX6_narrowView_132 (lv_at hl 5 rfl) ?_
                    refine q_vS C0 lX6_93 (c_X5_rank l D y L F22 (urh G (vvw μ xv)) (urw G (vvw μ xv)) (vod μ (vvw μ xv)) (vst μ (vvw μ xv)) xhigh (MP_r hC (hW.2.2.1 xv)) (by omega)) ⟨rfl, rfl⟩ rfl hP (MP_r hC (hW.2.2.1 xv)).1 (MP_r hC (hW.2.2.1 xv)).2.1 rfl rfl rfl hl rfl (Nat.le_of_ble_eq_true rfl) dX6_narrowView_134 ⟨Nat.zero_le _, Nat.zero_le _⟩ (fun r44 e_r44 => ?_)
                    subst e_r44
                    have b_45 := @turn_b (vod μ (vvw μ xv)) xhigh (by omega)
                    refine q_iast C0 hP hD hS hC.2.2.2.2.2.1.1 hC.2.2.2.2.2.1.2 (i := xv) (v := (turn (vod μ (vvw μ xv)) xhigh)) (by omega) (by decide) dX6_narrowView_137 (fun H locs hP hD hS => ?_)
                    obtain ⟨F46, eF46⟩ : ∃ z, z = va_up F22 (uat G) (arrI (y 0) 2 (iu (vvh μ) xv (turn (vod μ (vvw μ xv)) xhigh))) := ⟨_, rfl⟩
                    have hP : va_P D vwCl (va_pl L F46) H := by rw [eF46]; exact hP
                    have hD : va_D (AL L sz) (va_pl L F46) := by rw [eF46]; exact hD
                    have hO : OE O F F46 := by rw [eF46]; exact hO.tr (OE1 (MP_O hC).2.2.2.2.2.1)
                    have hC : MP y L F46 O G (tVh (tTh μ (ltR (inR xv 0 1) 1)) xv (turn (vod μ (vvw μ xv)) xhigh)) := by rw [eF46]; exact MP_vh hC (va_up_self _ _ _) (fun q hq => va_up_ne _ _ hq)
                    refine lv_aload_n hx hb dX6_narrowView_138 rfl (lv_at hl 1 rfl) ?_
                    refine lv_iload_n hx hb dX6_narrowView_139 rfl (lv_at hl 2 rfl) ?_
                    refine q_vS C0 lX6_171 (c_X6_seen l D y L F46 O G (tVh (tTh μ (ltR (inR xv 0 1) 1)) xv (turn (vod μ (vvw μ xv)) xhigh)) xv hC (by omega) (by rw [show vvw (tVh (tTh μ (ltR (inR xv 0 1) 1)) xv (turn (vod μ (vvw μ xv)) xhigh)) xv = vvw μ xv from (by first | rfl | exact iu_s _ _ _)]; exact (hW.2.2.1 xv)) (by rw [show vvl (tVh (tTh μ (ltR (inR xv 0 1) 1)) xv (turn (vod μ (vvw μ xv)) xhigh)) xv = vvl μ xv from (by first | rfl | exact iu_s _ _ _)]; omega) (by rw [show vvh (tVh (tTh μ (ltR (inR xv 0 1) 1)) xv (turn (vod μ (vvw μ xv)) xhigh)) xv = (turn (vod μ (vvw μ xv)) xhigh) from (by first | rfl | exact iu_s _ _ _)]; omega)) ⟨rfl, rfl⟩ rfl hP hC.1.1 hC.1.2 rfl rfl rfl hl rfl (Nat.le_of_ble_eq_true rfl) dX6_narrowView_140 ⟨Nat.zero_le _, Nat.zero_le _⟩ (fun r47 e_r47 => ?_)
                    replace e_r47 : r47 = cntP (vst μ (vvw μ xv)) (vvl μ xv) (turn (vod μ (vvw μ xv)) xhigh) := e_r47.trans (by first | rfl | (rw [show vvw (tVh (tTh μ (ltR (inR xv 0 1) 1)) xv (turn (vod μ (vvw μ xv)) xhigh)) xv = vvw μ xv from (by first | rfl | exact iu_s _ _ _), show vvl (tVh (tTh μ (ltR (inR xv 0 1) 1)) xv (turn (vod μ (vvw μ xv)) xhigh)) xv = vvl μ xv from (by first | rfl | exact iu_s _ _ _), show vvh (tVh (tTh μ (ltR (inR xv 0 1) 1)) xv (turn (vod μ (vvw μ xv)) xhigh)) xv = (turn (vod μ (vvw μ xv)) xhigh) from (by first | rfl | exact iu_s _ _ _)]; done) | (rw [show vvw (tVh (tTh μ (ltR (inR xv 0 1) 1)) xv (turn (vod μ (vvw μ xv)) xhigh)) xv = vvw μ xv from (by first | rfl | exact iu_s _ _ _), show vvl (tVh (tTh μ (ltR (inR xv 0 1) 1)) xv (turn (vod μ (vvw μ xv)) xhigh)) xv = vvl μ xv from (by first | rfl | exact iu_s _ _ _), show vvh (tVh (tTh μ (ltR (inR xv 0 1) 1)) xv (turn (vod μ (vvw μ xv)) xhigh)) xv = (turn (vod μ (vvw μ xv)) xhigh) from (by first | rfl | exact iu_s _ _ _)]; rfl))
                    subst e_r47
                    exact q_retMi C0 hret rfl hlk dX6_narrowView_143 hP hD hS (⟨(by 
    have eN : ¬ (mnRef μ xv xkind xlow xhigh = 1) := by (unfold mnRef; (repeat' split) <;> first | rfl | omega)
    have eL : mnLo μ xv xkind xlow = (vvl μ xv) := by (unfold mnLo; first | (rw [if_pos (by omega)]; done) | (rw [if_neg (by omega)]; done))
    have eH : mnHi μ xv xkind xhigh = (turn (vod μ (vvw μ xv)) xhigh) := by (unfold mnHi; first | (rw [if_pos (by omega)]; done) | (rw [if_neg (by omega)]; done))
    unfold jR_narrowView; rw [if_pos (by omega), if_neg eN, eL, eH]), O, G, MP_eq hC (by 
    have eN : ¬ (mnRef μ xv xkind xlow xhigh = 1) := by (unfold mnRef; (repeat' split) <;> first | rfl | omega)
    have eL : mnLo μ xv xkind xlow = (vvl μ xv) := by (unfold mnLo; first | (rw [if_pos (by omega)]; done) | (rw [if_neg (by omega)]; done))
    have eH : mnHi μ xv xkind xhigh = (turn (vod μ (vvw μ xv)) xhigh) := by (unfold mnHi; first | (rw [if_pos (by omega)]; done) | (rw [if_neg (by omega)]; done))
    have lt_ := ltR_d (inR xv 0 1) 1; 
    unfold jS_narrowView; rw [if_pos (by omega), if_pos (by omega), if_neg eN, eL, eH, show ltR (inR xv 0 1) 1 = 0 by omega]; first | (exfalso; omega) | (rw [if_pos (by omega)]; done) | (rw [if_neg (by omega), if_pos (by omega)]; done) | (rw [if_neg (by omega), if_neg (by omega)]; done)), rfl, Ext0 hO⟩)
                  · refine lv_aload_n hx hb dX6_narrowView_108 rfl (lv_at hl 1 rfl) ?_
                    refine q_get C0 iX6 hP hC.1.1 hC.1.2 rfl 3 (by decide) flX6_21 rfl (v := .ref ((uaf G))) rfl dX6_narrowView_109 ?_
                    refine lv_iload_n hx hb dX6_narrowView_112 rfl (lv_at hl 2 rfl) ?_
                    refine lv_aload hx hb dX6_narrowView_113 (lv_at hl 0 rfl) ?_
                    refine lv_iload_n hx hb dX6_narrowView_115 rfl (lv_at hl 4 rfl) ?_
                    refine q_vS C0 lX6_93 (c_X5_rank l D y L F22 (urh G (vvw μ xv)) (urw G (vvw μ xv)) (vod μ (vvw μ xv)) (vst μ (vvw μ xv)) xlow (MP_r hC (hW.2.2.1 xv)) (by omega)) ⟨rfl, rfl⟩ rfl hP (MP_r hC (hW.2.2.1 xv)).1 (MP_r hC (hW.2.2.1 xv)).2.1 rfl rfl rfl hl rfl (Nat.le_of_ble_eq_true rfl) dX6_narrowView_116 ⟨Nat.zero_le _, Nat.zero_le _⟩ (fun r48 e_r48 => ?_)
                    subst e_r48
                    have b_49 := @turn_b (vod μ (vvw μ xv)) xlow (by omega)
                    refine q_iast C0 hP hD hS hC.2.2.2.2.1.1 hC.2.2.2.2.1.2 (i := xv) (v := (turn (vod μ (vvw μ xv)) xlow)) (by omega) (by decide) dX6_narrowView_119 (fun H locs hP hD hS => ?_)
                    obtain ⟨F50, eF50⟩ : ∃ z, z = va_up F22 (uaf G) (arrI (y 0) 2 (iu (vvl μ) xv (turn (vod μ (vvw μ xv)) xlow))) := ⟨_, rfl⟩
                    have hP : va_P D vwCl (va_pl L F50) H := by rw [eF50]; exact hP
                    have hD : va_D (AL L sz) (va_pl L F50) := by rw [eF50]; exact hD
                    have hO : OE O F F50 := by rw [eF50]; exact hO.tr (OE1 (MP_O hC).2.2.2.2.1)
                    have hC : MP y L F50 O G (tVl (tTh μ (ltR (inR xv 0 1) 1)) xv (turn (vod μ (vvw μ xv)) xlow)) := by rw [eF50]; exact MP_vl hC (va_up_self _ _ _) (fun q hq => va_up_ne _ _ hq)
                    refine lv_iload_n hx hb dX6_narrowView_120 rfl (lv_at hl 3 rfl) ?_
                    refine q_iconst hx hb dX6_narrowView_121 ?_
                    refine q_icmp_eq hx hb dX6_narrowView_122 (tgt := 138) (by decide) (by omega) (by omega) (fun c51 => absurd c51 (by omega)) (fun c51 => ?_)
                    refine lv_aload_n hx hb dX6_narrowView_125 rfl (lv_at hl 1 rfl) ?_
                    refine q_get C0 iX6 hP hC.1.1 hC.1.2 rfl 4 (by decide) flX6_25 rfl (v := .ref ((uat G))) rfl dX6_narrowView_126 ?_
                    refine lv_iload_n hx hb dX6_narrowView_129 rfl (lv_at hl 2 rfl) ?_
                    refine lv_aload hx hb dX6_narrowView_130 (lv_at hl 0 rfl) ?_
                    refine lv_iload hx hb dX6_narrowView_132 (lv_at hl 5 rfl) ?_
                    refine q_vS C0 lX6_93 (c_X5_rank l D y L F50 (urh G (vvw μ xv)) (urw G (vvw μ xv)) (vod μ (vvw μ xv)) (vst μ (vvw μ xv)) xhigh (MP_r hC (hW.2.2.1 xv)) (by omega)) ⟨rfl, rfl⟩ rfl hP (MP_r hC (hW.2.2.1 xv)).1 (MP_r hC (hW.2.2.1 xv)).2.1 rfl rfl rfl hl rfl (Nat.le_of_ble_eq_true rfl) dX6_narrowView_134 ⟨Nat.zero_le _, Nat.zero_le _⟩ (fun r52 e_r52 => ?_)
                    subst e_r52
                    have b_53 := @turn_b (vod μ (vvw μ xv)) xhigh (by omega)
                    refine q_iast C0 hP hD hS hC.2.2.2.2.2.1.1 hC.2.2.2.2.2.1.2 (i := xv) (v := (turn (vod μ (vvw μ xv)) xhigh)) (by omega) (by decide) dX6_narrowView_137 (fun H locs hP hD hS => ?_)
                    obtain ⟨F54, eF54⟩ : ∃ z, z = va_up F50 (uat G) (arrI (y 0) 2 (iu (vvh μ) xv (turn (vod μ (vvw μ xv)) xhigh))) := ⟨_, rfl⟩
                    have hP : va_P D vwCl (va_pl L F54) H := by rw [eF54]; exact hP
                    have hD : va_D (AL L sz) (va_pl L F54) := by rw [eF54]; exact hD
                    have hO : OE O F F54 := by rw [eF54]; exact hO.tr (OE1 (MP_O hC).2.2.2.2.2.1)
                    have hC : MP y L F54 O G (tVh (tVl (tTh μ (ltR (inR xv 0 1) 1)) xv (turn (vod μ (vvw μ xv)) xlow)) xv (turn (vod μ (vvw μ xv)) xhigh)) := by rw [eF54]; exact MP_vh hC (va_up_self _ _ _) (fun q hq => va_up_ne _ _ hq)
                    refine lv_aload_n hx hb dX6_narrowView_138 rfl (lv_at hl 1 rfl) ?_
                    refine lv_iload_n hx hb dX6_narrowView_139 rfl (lv_at hl 2 rfl) ?_
                    refine q_vS C0 lX6_171 (c_X6_seen l D y L F54 O G (tVh (tVl (tTh μ (ltR (inR xv 0 1) 1)) xv (turn (vod μ (vvw μ xv)) xlow)) xv (turn (vod μ (vvw μ xv)) xhigh)) xv hC (by omega) (by rw [show vvw (tVh (tVl (tTh μ (ltR (inR xv 0 1) 1)) xv (turn (vod μ (vvw μ xv)) xlow)) xv (turn (vod μ (vvw μ xv)) xhigh)) xv = vvw μ xv from (by first | rfl | exact iu_s _ _ _)]; exact (hW.2.2.1 xv)) (by rw [show vvl (tVh (tVl (tTh μ (ltR (inR xv 0 1) 1)) xv (turn (vod μ (vvw μ xv)) xlow)) xv (turn (vod μ (vvw μ xv)) xhigh)) xv = (turn (vod μ (vvw μ xv)) xlow) from (by first | rfl | exact iu_s _ _ _)]; omega) (by rw [show vvh (tVh (tVl (tTh μ (ltR (inR xv 0 1) 1)) xv (turn (vod μ (vvw μ xv)) xlow)) xv (turn (vod μ (vvw μ xv)) xhigh)) xv = (turn (vod μ (vvw μ xv)) xhigh) from (by first | rfl | exact iu_s _ _ _)]; omega)) ⟨rfl, rfl⟩ rfl hP hC.1.1 hC.1.2 rfl rfl rfl hl rfl (Nat.le_of_ble_eq_true rfl) dX6_narrowView_140 ⟨Nat.zero_le _, Nat.zero_le _⟩ (fun r55 e_r55 => ?_)
                    replace e_r55 : r55 = cntP (vst μ (vvw μ xv)) (turn (vod μ (vvw μ xv)) xlow) (turn (vod μ (vvw μ xv)) xhigh) := e_r55.trans (by first | rfl | (rw [show vvw (tVh (tVl (tTh μ (ltR (inR xv 0 1) 1)) xv (turn (vod μ (vvw μ xv)) xlow)) xv (turn (vod μ (vvw μ xv)) xhigh)) xv = vvw μ xv from (by first | rfl | exact iu_s _ _ _), show vvl (tVh (tVl (tTh μ (ltR (inR xv 0 1) 1)) xv (turn (vod μ (vvw μ xv)) xlow)) xv (turn (vod μ (vvw μ xv)) xhigh)) xv = (turn (vod μ (vvw μ xv)) xlow) from (by first | rfl | exact iu_s _ _ _), show vvh (tVh (tVl (tTh μ (ltR (inR xv 0 1) 1)) xv (turn (vod μ (vvw μ xv)) xlow)) xv (turn (vod μ (vvw μ xv)) xhigh)) xv = (turn (vod μ (vvw μ xv)) xhigh) from (by first | rfl | exact iu_s _ _ _)]; done) | (rw [show vvw (tVh (tVl (tTh μ (ltR (inR xv 0 1) 1)) xv (turn (vod μ (vvw μ xv)) xlow)) xv (turn (vod μ (vvw μ xv)) xhigh)) xv = vvw μ xv from (by first | rfl | exact iu_s _ _ _), show vvl (tVh (tVl (tTh μ (ltR (inR xv 0 1) 1)) xv (turn (vod μ (vvw μ xv)) xlow)) xv (turn (vod μ (vvw μ xv)) xhigh)) xv = (turn (vod μ (vvw μ xv)) xlow) from (by first | rfl | exact iu_s _ _ _), show vvh (tVh (tVl (tTh μ (ltR (inR xv 0 1) 1)) xv (turn (vod μ (vvw μ xv)) xlow)) xv (turn (vod μ (vvw μ xv)) xhigh)) xv = (turn (vod μ (vvw μ xv)) xhigh) from (by first | rfl | exact iu_s _ _ _)]; rfl))
                    subst e_r55
                    exact q_retMi C0 hret rfl hlk dX6_narrowView_143 hP hD hS (⟨(by 
    have eN : ¬ (mnRef μ xv xkind xlow xhigh = 1) := by (unfold mnRef; (repeat' split) <;> first | rfl | omega)
    have eL : mnLo μ xv xkind xlow = (turn (vod μ (vvw μ xv)) xlow) := by (unfold mnLo; first | (rw [if_pos (by omega)]; done) | (rw [if_neg (by omega)]; done))
    have eH : mnHi μ xv xkind xhigh = (turn (vod μ (vvw μ xv)) xhigh) := by (unfold mnHi; first | (rw [if_pos (by omega)]; done) | (rw [if_neg (by omega)]; done))
    unfold jR_narrowView; rw [if_pos (by omega), if_neg eN, eL, eH]), O, G, MP_eq hC (by 
    have eN : ¬ (mnRef μ xv xkind xlow xhigh = 1) := by (unfold mnRef; (repeat' split) <;> first | rfl | omega)
    have eL : mnLo μ xv xkind xlow = (turn (vod μ (vvw μ xv)) xlow) := by (unfold mnLo; first | (rw [if_pos (by omega)]; done) | (rw [if_neg (by omega)]; done))
    have eH : mnHi μ xv xkind xhigh = (turn (vod μ (vvw μ xv)) xhigh) := by (unfold mnHi; first | (rw [if_pos (by omega)]; done) | (rw [if_neg (by omega)]; done))
    have lt_ := ltR_d (inR xv 0 1) 1; 
    unfold jS_narrowView; rw [if_pos (by omega), if_pos (by omega), if_neg eN, eL, eH, show ltR (inR xv 0 1) 1 = 0 by omega]; first | (exfalso; omega) | (rw [if_pos (by omega)]; done) | (rw [if_neg (by omega), if_pos (by omega)]; done) | (rw [if_neg (by omega), if_neg (by omega)]; done)), rfl, Ext0 hO⟩)
                · refine lv_aload hx hb dX6_narrowView_83 (lv_at hl 0 rfl) ?_
                  refine lv_iload_n hx hb dX6_narrowView_85 rfl (lv_at hl 4 rfl) ?_
                  refine q_vS C0 lX6_93 (c_X5_rank l D y L F22 (urh G (vvw μ xv)) (urw G (vvw μ xv)) (vod μ (vvw μ xv)) (vst μ (vvw μ xv)) xlow (MP_r hC (hW.2.2.1 xv)) (by omega)) ⟨rfl, rfl⟩ rfl hP (MP_r hC (hW.2.2.1 xv)).1 (MP_r hC (hW.2.2.1 xv)).2.1 rfl rfl rfl hl rfl (Nat.le_of_ble_eq_true rfl) dX6_narrowView_86 ⟨Nat.zero_le _, Nat.zero_le _⟩ (fun r56 e_r56 => ?_)
                  subst e_r56
                  have b_57 := @turn_b (vod μ (vvw μ xv)) xlow (by omega)
                  refine lv_aload hx hb dX6_narrowView_89 (lv_at hl 0 rfl) ?_
                  refine lv_iload hx hb dX6_narrowView_91 (lv_at hl 5 rfl) ?_
                  refine q_vS C0 lX6_93 (c_X5_rank l D y L F22 (urh G (vvw μ xv)) (urw G (vvw μ xv)) (vod μ (vvw μ xv)) (vst μ (vvw μ xv)) xhigh (MP_r hC (hW.2.2.1 xv)) (by omega)) ⟨rfl, rfl⟩ rfl hP (MP_r hC (hW.2.2.1 xv)).1 (MP_r hC (hW.2.2.1 xv)).2.1 rfl rfl rfl hl rfl (Nat.le_of_ble_eq_true rfl) dX6_narrowView_93 ⟨Nat.zero_le _, Nat.zero_le _⟩ (fun r58 e_r58 => ?_)
                  subst e_r58
                  have b_59 := @turn_b (vod μ (vvw μ xv)) xhigh (by omega)
                  refine q_icmp_le hx hb dX6_narrowView_96 (tgt := 104) (by decide) (by omega) (by omega) (fun c60 => ?_) (fun c60 => ?_)
                  · refine lv_iload_n hx hb dX6_narrowView_104 rfl (lv_at hl 3 rfl) ?_
                    refine q_if_le hx hb dX6_narrowView_105 (tgt := 120) (by decide) (by omega) (fun c61 => ?_) (fun c61 => ?_)
                    · refine lv_iload_n hx hb dX6_narrowView_120 rfl (lv_at hl 3 rfl) ?_
                      refine q_iconst hx hb dX6_narrowView_121 ?_
                      refine q_icmp_eq hx hb dX6_narrowView_122 (tgt := 138) (by decide) (by omega) (by omega) (fun c62 => absurd c62 (by omega)) (fun c62 => ?_)
                      refine lv_aload_n hx hb dX6_narrowView_125 rfl (lv_at hl 1 rfl) ?_
                      refine q_get C0 iX6 hP hC.1.1 hC.1.2 rfl 4 (by decide) flX6_25 rfl (v := .ref ((uat G))) rfl dX6_narrowView_126 ?_
                      refine lv_iload_n hx hb dX6_narrowView_129 rfl (lv_at hl 2 rfl) ?_
                      refine lv_aload hx hb dX6_narrowView_130 (lv_at hl 0 rfl) ?_
                      refine lv_iload hx hb dX6_narrowView_132 (lv_at hl 5 rfl) ?_
                      refine q_vS C0 lX6_93 (c_X5_rank l D y L F22 (urh G (vvw μ xv)) (urw G (vvw μ xv)) (vod μ (vvw μ xv)) (vst μ (vvw μ xv)) xhigh (MP_r hC (hW.2.2.1 xv)) (by omega)) ⟨rfl, rfl⟩ rfl hP (MP_r hC (hW.2.2.1 xv)).1 (MP_r hC (hW.2.2.1 xv)).2.1 rfl rfl rfl hl rfl (Nat.le_of_ble_eq_true rfl) dX6_narrowView_134 ⟨Nat.zero_le _, Nat.zero_le _⟩ (fun r63 e_r63 => ?_)
                      subst e_r63
                      have b_64 := @turn_b (vod μ (vvw μ xv)) xhigh (by omega)
                      refine q_iast C0 hP hD hS hC.2.2.2.2.2.1.1 hC.2.2.2.2.2.1.2 (i := xv) (v := (turn (vod μ (vvw μ xv)) xhigh)) (by omega) (by decide) dX6_narrowView_137 (fun H locs hP hD hS => ?_)
                      obtain ⟨F65, eF65⟩ : ∃ z, z = va_up F22 (uat G) (arrI (y 0) 2 (iu (vvh μ) xv (turn (vod μ (vvw μ xv)) xhigh))) := ⟨_, rfl⟩
                      have hP : va_P D vwCl (va_pl L F65) H := by rw [eF65]; exact hP
                      have hD : va_D (AL L sz) (va_pl L F65) := by rw [eF65]; exact hD
                      have hO : OE O F F65 := by rw [eF65]; exact hO.tr (OE1 (MP_O hC).2.2.2.2.2.1)
                      have hC : MP y L F65 O G (tVh (tTh μ (ltR (inR xv 0 1) 1)) xv (turn (vod μ (vvw μ xv)) xhigh)) := by rw [eF65]; exact MP_vh hC (va_up_self _ _ _) (fun q hq => va_up_ne _ _ hq)
                      refine lv_aload_n hx hb dX6_narrowView_138 rfl (lv_at hl 1 rfl) ?_
                      refine lv_iload_n hx hb dX6_narrowView_139 rfl (lv_at hl 2 rfl) ?_
                      refine q_vS C0 lX6_171 (c_X6_seen l D y L F65 O G (tVh (tTh μ (ltR (inR xv 0 1) 1)) xv (turn (vod μ (vvw μ xv)) xhigh)) xv hC (by omega) (by rw [show vvw (tVh (tTh μ (ltR (inR xv 0 1) 1)) xv (turn (vod μ (vvw μ xv)) xhigh)) xv = vvw μ xv from (by first | rfl | exact iu_s _ _ _)]; exact (hW.2.2.1 xv)) (by rw [show vvl (tVh (tTh μ (ltR (inR xv 0 1) 1)) xv (turn (vod μ (vvw μ xv)) xhigh)) xv = vvl μ xv from (by first | rfl | exact iu_s _ _ _)]; omega) (by rw [show vvh (tVh (tTh μ (ltR (inR xv 0 1) 1)) xv (turn (vod μ (vvw μ xv)) xhigh)) xv = (turn (vod μ (vvw μ xv)) xhigh) from (by first | rfl | exact iu_s _ _ _)]; omega)) ⟨rfl, rfl⟩ rfl hP hC.1.1 hC.1.2 rfl rfl rfl hl rfl (Nat.le_of_ble_eq_true rfl) dX6_narrowView_140 ⟨Nat.zero_le _, Nat.zero_le _⟩ (fun r66 e_r66 => ?_)
                      replace e_r66 : r66 = cntP (vst μ (vvw μ xv)) (vvl μ xv) (turn (vod μ (vvw μ xv)) xhigh) := e_r66.trans (by first | rfl | (rw [show vvw (tVh (tTh μ (ltR (inR xv 0 1) 1)) xv (turn (vod μ (vvw μ xv)) xhigh)) xv = vvw μ xv from (by first | rfl | exact iu_s _ _ _), show vvl (tVh (tTh μ (ltR (inR xv 0 1) 1)) xv (turn (vod μ (vvw μ xv)) xhigh)) xv = vvl μ xv from (by first | rfl | exact iu_s _ _ _), show vvh (tVh (tTh μ (ltR (inR xv 0 1) 1)) xv (turn (vod μ (vvw μ xv)) xhigh)) xv = (turn (vod μ (vvw μ xv)) xhigh) from (by first | rfl | exact iu_s _ _ _)]; done) | (rw [show vvw (tVh (tTh μ (ltR (inR xv 0 1) 1)) xv (turn (vod μ (vvw μ xv)) xhigh)) xv = vvw μ xv from (by first | rfl | exact iu_s _ _ _), show vvl (tVh (tTh μ (ltR (inR xv 0 1) 1)) xv (turn (vod μ (vvw μ xv)) xhigh)) xv = vvl μ xv from (by first | rfl | exact iu_s _ _ _), show vvh (tVh (tTh μ (ltR (inR xv 0 1) 1)) xv (turn (vod μ (vvw μ xv)) xhigh)) xv = (turn (vod μ (vvw μ xv)) xhigh) from (by first | rfl | exact iu_s _ _ _)]; rfl))
                      subst e_r66
                      exact q_retMi C0 hret rfl hlk dX6_narrowView_143 hP hD hS (⟨(by 
    have eN : ¬ (mnRef μ xv xkind xlow xhigh = 1) := by (unfold mnRef; (repeat' split) <;> first | rfl | omega)
    have eL : mnLo μ xv xkind xlow = (vvl μ xv) := by (unfold mnLo; first | (rw [if_pos (by omega)]; done) | (rw [if_neg (by omega)]; done))
    have eH : mnHi μ xv xkind xhigh = (turn (vod μ (vvw μ xv)) xhigh) := by (unfold mnHi; first | (rw [if_pos (by omega)]; done) | (rw [if_neg (by omega)]; done))
    unfold jR_narrowView; rw [if_pos (by omega), if_neg eN, eL, eH]), O, G, MP_eq hC (by 
    have eN : ¬ (mnRef μ xv xkind xlow xhigh = 1) := by (unfold mnRef; (repeat' split) <;> first | rfl | omega)
    have eL : mnLo μ xv xkind xlow = (vvl μ xv) := by (unfold mnLo; first | (rw [if_pos (by omega)]; done) | (rw [if_neg (by omega)]; done))
    have eH : mnHi μ xv xkind xhigh = (turn (vod μ (vvw μ xv)) xhigh) := by (unfold mnHi; first | (rw [if_pos (by omega)]; done) | (rw [if_neg (by omega)]; done))
    have lt_ := ltR_d (inR xv 0 1) 1; 
    unfold jS_narrowView; rw [if_pos (by omega), if_pos (by omega), if_neg eN, eL, eH, show ltR (inR xv 0 1) 1 = 0 by omega]; first | (exfalso; omega) | (rw [if_pos (by omega)]; done) | (rw [if_neg (by omega), if_pos (by omega)]; done) | (rw [if_neg (by omega), if_neg (by omega)]; done)), rfl, Ext0 hO⟩)
                    · refine lv_aload_n hx hb dX6_narrowView_108 rfl (lv_at hl 1 rfl) ?_
                      refine q_get C0 iX6 hP hC.1.1 hC.1.2 rfl 3 (by decide) flX6_21 rfl (v := .ref ((uaf G))) rfl dX6_narrowView_109 ?_
                      refine lv_iload_n hx hb dX6_narrowView_112 rfl (lv_at hl 2 rfl) ?_
                      refine lv_aload hx hb dX6_narrowView_113 (lv_at hl 0 rfl) ?_
                      refine lv_iload_n hx hb dX6_narrowView_115 rfl (lv_at hl 4 rfl) ?_
                      refine q_vS C0 lX6_93 (c_X5_rank l D y L F22 (urh G (vvw μ xv)) (urw G (vvw μ xv)) (vod μ (vvw μ xv)) (vst μ (vvw μ xv)) xlow (MP_r hC (hW.2.2.1 xv)) (by omega)) ⟨rfl, rfl⟩ rfl hP (MP_r hC (hW.2.2.1 xv)).1 (MP_r hC (hW.2.2.1 xv)).2.1 rfl rfl rfl hl rfl (Nat.le_of_ble_eq_true rfl) dX6_narrowView_116 ⟨Nat.zero_le _, Nat.zero_le _⟩ (fun r67 e_r67 => ?_)
                      subst e_r67
                      have b_68 := @turn_b (vod μ (vvw μ xv)) xlow (by omega)
                      refine q_iast C0 hP hD hS hC.2.2.2.2.1.1 hC.2.2.2.2.1.2 (i := xv) (v := (turn (vod μ (vvw μ xv)) xlow)) (by omega) (by decide) dX6_narrowView_119 (fun H locs hP hD hS => ?_)
                      obtain ⟨F69, eF69⟩ : ∃ z, z = va_up F22 (uaf G) (arrI (y 0) 2 (iu (vvl μ) xv (turn (vod μ (vvw μ xv)) xlow))) := ⟨_, rfl⟩
                      have hP : va_P D vwCl (va_pl L F69) H := by rw [eF69]; exact hP
                      have hD : va_D (AL L sz) (va_pl L F69) := by rw [eF69]; exact hD
                      have hO : OE O F F69 := by rw [eF69]; exact hO.tr (OE1 (MP_O hC).2.2.2.2.1)
                      have hC : MP y L F69 O G (tVl (tTh μ (ltR (inR xv 0 1) 1)) xv (turn (vod μ (vvw μ xv)) xlow)) := by rw [eF69]; exact MP_vl hC (va_up_self _ _ _) (fun q hq => va_up_ne _ _ hq)
                      refine lv_iload_n hx hb dX6_narrowView_120 rfl (lv_at hl 3 rfl) ?_
                      refine q_iconst hx hb dX6_narrowView_121 ?_
                      refine q_icmp_eq hx hb dX6_narrowView_122 (tgt := 138) (by decide) (by omega) (by omega) (fun c70 => absurd c70 (by omega)) (fun c70 => ?_)
                      refine lv_aload_n hx hb dX6_narrowView_125 rfl (lv_at hl 1 rfl) ?_
                      refine q_get C0 iX6 hP hC.1.1 hC.1.2 rfl 4 (by decide) flX6_25 rfl (v := .ref ((uat G))) rfl dX6_narrowView_126 ?_
                      refine lv_iload_n hx hb dX6_narrowView_129 rfl (lv_at hl 2 rfl) ?_
                      refine lv_aload hx hb dX6_narrowView_130 (lv_at hl 0 rfl) ?_
                      refine lv_iload hx hb dX6_narrowView_132 (lv_at hl 5 rfl) ?_
                      refine q_vS C0 lX6_93 (c_X5_rank l D y L F69 (urh G (vvw μ xv)) (urw G (vvw μ xv)) (vod μ (vvw μ xv)) (vst μ (vvw μ xv)) xhigh (MP_r hC (hW.2.2.1 xv)) (by omega)) ⟨rfl, rfl⟩ rfl hP (MP_r hC (hW.2.2.1 xv)).1 (MP_r hC (hW.2.2.1 xv)).2.1 rfl rfl rfl hl rfl (Nat.le_of_ble_eq_true rfl) dX6_narrowView_134 ⟨Nat.zero_le _, Nat.zero_le _⟩ (fun r71 e_r71 => ?_)
                      subst e_r71
                      have b_72 := @turn_b (vod μ (vvw μ xv)) xhigh (by omega)
                      refine q_iast C0 hP hD hS hC.2.2.2.2.2.1.1 hC.2.2.2.2.2.1.2 (i := xv) (v := (turn (vod μ (vvw μ xv)) xhigh)) (by omega) (by decide) dX6_narrowView_137 (fun H locs hP hD hS => ?_)
                      obtain ⟨F73, eF73⟩ : ∃ z, z = va_up F69 (uat G) (arrI (y 0) 2 (iu (vvh μ) xv (turn (vod μ (vvw μ xv)) xhigh))) := ⟨_, rfl⟩
                      have hP : va_P D vwCl (va_pl L F73) H := by rw [eF73]; exact hP
                      have hD : va_D (AL L sz) (va_pl L F73) := by rw [eF73]; exact hD
                      have hO : OE O F F73 := by rw [eF73]; exact hO.tr (OE1 (MP_O hC).2.2.2.2.2.1)
                      have hC : MP y L F73 O G (tVh (tVl (tTh μ (ltR (inR xv 0 1) 1)) xv (turn (vod μ (vvw μ xv)) xlow)) xv (turn (vod μ (vvw μ xv)) xhigh)) := by rw [eF73]; exact MP_vh hC (va_up_self _ _ _) (fun q hq => va_up_ne _ _ hq)
                      refine lv_aload_n hx hb dX6_narrowView_138 rfl (lv_at hl 1 rfl) ?_
                      refine lv_iload_n hx hb dX6_narrowView_139 rfl (lv_at hl 2 rfl) ?_
                      refine q_vS C0 lX6_171 (c_X6_seen l D y L F73 O G (tVh (tVl (tTh μ (ltR (inR xv 0 1) 1)) xv (turn (vod μ (vvw μ xv)) xlow)) xv (turn (vod μ (vvw μ xv)) xhigh)) xv hC (by omega) (by rw [show vvw (tVh (tVl (tTh μ (ltR (inR xv 0 1) 1)) xv (turn (vod μ (vvw μ xv)) xlow)) xv (turn (vod μ (vvw μ xv)) xhigh)) xv = vvw μ xv from (by first | rfl | exact iu_s _ _ _)]; exact (hW.2.2.1 xv)) (by rw [show vvl (tVh (tVl (tTh μ (ltR (inR xv 0 1) 1)) xv (turn (vod μ (vvw μ xv)) xlow)) xv (turn (vod μ (vvw μ xv)) xhigh)) xv = (turn (vod μ (vvw μ xv)) xlow) from (by first | rfl | exact iu_s _ _ _)]; omega) (by rw [show vvh (tVh (tVl (tTh μ (ltR (inR xv 0 1) 1)) xv (turn (vod μ (vvw μ xv)) xlow)) xv (turn (vod μ (vvw μ xv)) xhigh)) xv = (turn (vod μ (vvw μ xv)) xhigh) from (by first | rfl | exact iu_s _ _ _)]; omega)) ⟨rfl, rfl⟩ rfl hP hC.1.1 hC.1.2 rfl rfl rfl hl rfl (Nat.le_of_ble_eq_true rfl) dX6_narrowView_140 ⟨Nat.zero_le _, Nat.zero_le _⟩ (fun r74 e_r74 => ?_)
                      replace e_r74 : r74 = cntP (vst μ (vvw μ xv)) (turn (vod μ (vvw μ xv)) xlow) (turn (vod μ (vvw μ xv)) xhigh) := e_r74.trans (by first | rfl | (rw [show vvw (tVh (tVl (tTh μ (ltR (inR xv 0 1) 1)) xv (turn (vod μ (vvw μ xv)) xlow)) xv (turn (vod μ (vvw μ xv)) xhigh)) xv = vvw μ xv from (by first | rfl | exact iu_s _ _ _), show vvl (tVh (tVl (tTh μ (ltR (inR xv 0 1) 1)) xv (turn (vod μ (vvw μ xv)) xlow)) xv (turn (vod μ (vvw μ xv)) xhigh)) xv = (turn (vod μ (vvw μ xv)) xlow) from (by first | rfl | exact iu_s _ _ _), show vvh (tVh (tVl (tTh μ (ltR (inR xv 0 1) 1)) xv (turn (vod μ (vvw μ xv)) xlow)) xv (turn (vod μ (vvw μ xv)) xhigh)) xv = (turn (vod μ (vvw μ xv)) xhigh) from (by first | rfl | exact iu_s _ _ _)]; done) | (rw [show vvw (tVh (tVl (tTh μ (ltR (inR xv 0 1) 1)) xv (turn (vod μ (vvw μ xv)) xlow)) xv (turn (vod μ (vvw μ xv)) xhigh)) xv = vvw μ xv from (by first | rfl | exact iu_s _ _ _), show vvl (tVh (tVl (tTh μ (ltR (inR xv 0 1) 1)) xv (turn (vod μ (vvw μ xv)) xlow)) xv (turn (vod μ (vvw μ xv)) xhigh)) xv = (turn (vod μ (vvw μ xv)) xlow) from (by first | rfl | exact iu_s _ _ _), show vvh (tVh (tVl (tTh μ (ltR (inR xv 0 1) 1)) xv (turn (vod μ (vvw μ xv)) xlow)) xv (turn (vod μ (vvw μ xv)) xhigh)) xv = (turn (vod μ (vvw μ xv)) xhigh) from (by first | rfl | exact iu_s _ _ _)]; rfl))
                      subst e_r74
                      exact q_retMi C0 hret rfl hlk dX6_narrowView_143 hP hD hS (⟨(by 
    have eN : ¬ (mnRef μ xv xkind xlow xhigh = 1) := by (unfold mnRef; (repeat' split) <;> first | rfl | omega)
    have eL : mnLo μ xv xkind xlow = (turn (vod μ (vvw μ xv)) xlow) := by (unfold mnLo; first | (rw [if_pos (by omega)]; done) | (rw [if_neg (by omega)]; done))
    have eH : mnHi μ xv xkind xhigh = (turn (vod μ (vvw μ xv)) xhigh) := by (unfold mnHi; first | (rw [if_pos (by omega)]; done) | (rw [if_neg (by omega)]; done))
    unfold jR_narrowView; rw [if_pos (by omega), if_neg eN, eL, eH]), O, G, MP_eq hC (by 
    have eN : ¬ (mnRef μ xv xkind xlow xhigh = 1) := by (unfold mnRef; (repeat' split) <;> first | rfl | omega)
    have eL : mnLo μ xv xkind xlow = (turn (vod μ (vvw μ xv)) xlow) := by (unfold mnLo; first | (rw [if_pos (by omega)]; done) | (rw [if_neg (by omega)]; done))
    have eH : mnHi μ xv xkind xhigh = (turn (vod μ (vvw μ xv)) xhigh) := by (unfold mnHi; first | (rw [if_pos (by omega)]; done) | (rw [if_neg (by omega)]; done))
    have lt_ := ltR_d (inR xv 0 1) 1; 
    unfold jS_narrowView; rw [if_pos (by omega), if_pos (by omega), if_neg eN, eL, eH, show ltR (inR xv 0 1) 1 = 0 by omega]; first | (exfalso; omega) | (rw [if_pos (by omega)]; done) | (rw [if_neg (by omega), if_pos (by omega)]; done) | (rw [if_neg (by omega), if_neg (by omega)]; done)), rfl, Ext0 hO⟩)
                  · refine lv_aload_n hx hb dX6_narrowView_99 rfl (lv_at hl 1 rfl) ?_
                    refine q_vMi C0 lX6_89 (c_X6_refuse l D y L F22 _ O G (tTh μ (ltR (inR xv 0 1) 1)) hC) ⟨rfl, rfl⟩ rfl hP hD hS hA hC.1.1 hC.1.2 rfl rfl rfl hl rfl (Nat.le_of_ble_eq_true rfl) dX6_narrowView_100 ⟨Nat.le_of_ble_eq_true rfl, Nat.le_of_ble_eq_true rfl⟩ (fun r75 H locs L76 F76 hP hD hS hz76 hp76 => ?_)
                    obtain ⟨eL, hC, er, hO1⟩ := hp76
                    subst eL
                    replace er : (-9) = r75 := er.symm
                    subst er
                    have hO := hO.tr hO1
                    exact q_retMi C0 hret rfl hlk dX6_narrowView_103 hP hD hS (⟨(by 
    have eN : mnRef μ xv xkind xlow xhigh = 1 := by (unfold mnRef; (repeat' split) <;> first | rfl | omega)
    unfold jR_narrowView; rw [if_pos (by omega), if_pos eN]), O, G, MP_eq hC (by 
    have eN : mnRef μ xv xkind xlow xhigh = 1 := by (unfold mnRef; (repeat' split) <;> first | rfl | omega)
    have lt_ := ltR_d (inR xv 0 1) 1; 
    unfold jS_narrowView; rw [if_pos (by omega), if_pos (by omega), if_pos eN, show ltR (inR xv 0 1) 1 = 0 by omega]), rfl, Ext0 hO⟩)
          · refine lv_aload_n hx hb dX6_narrowView_54 rfl (lv_at hl 1 rfl) ?_
            refine lv_iload_n hx hb dX6_narrowView_55 rfl (lv_at hl 2 rfl) ?_
            refine lv_iload_n hx hb dX6_narrowView_56 rfl (lv_at hl 4 rfl) ?_
            refine q_vS C0 lX6_174 (c_X6_isWithin l D y L F22 O G (tTh μ (ltR (inR xv 0 1) 1)) xv xlow hC (by omega) (hW.2.2.1 xv) ⟨(hW.2.2.2.2.1 xv).1, (hW.2.2.2.2.1 xv).2.1⟩ (hW.2.2.2.2.1 xv).2.2 (by omega)) ⟨rfl, rfl⟩ rfl hP hC.1.1 hC.1.2 rfl rfl rfl hl rfl (Nat.le_of_ble_eq_true rfl) dX6_narrowView_57 ⟨Nat.zero_le _, Nat.zero_le _⟩ (fun r77 e_r77 => ?_)
            replace e_r77 : r77 = inR (turn (vod μ (vvw μ xv)) xlow) (vvl μ xv) (vvh μ xv) := e_r77.trans (by first | rfl | (rw [show vvw (tTh μ (ltR (inR xv 0 1) 1)) xv = vvw μ xv from (by first | rfl | exact iu_s _ _ _), show vvl (tTh μ (ltR (inR xv 0 1) 1)) xv = vvl μ xv from (by first | rfl | exact iu_s _ _ _), show vvh (tTh μ (ltR (inR xv 0 1) 1)) xv = vvh μ xv from (by first | rfl | exact iu_s _ _ _)]; done) | (rw [show vvw (tTh μ (ltR (inR xv 0 1) 1)) xv = vvw μ xv from (by first | rfl | exact iu_s _ _ _), show vvl (tTh μ (ltR (inR xv 0 1) 1)) xv = vvl μ xv from (by first | rfl | exact iu_s _ _ _), show vvh (tTh μ (ltR (inR xv 0 1) 1)) xv = vvh μ xv from (by first | rfl | exact iu_s _ _ _)]; rfl))
            subst e_r77
            have b_78 := inR_d (turn (vod μ (vvw μ xv)) xlow) (vvl μ xv) (vvh μ xv)
            refine q_if_eq hx hb dX6_narrowView_60 (tgt := 99) (by decide) (by omega) (fun c79 => ?_) (fun c79 => ?_)
            · refine lv_aload_n hx hb dX6_narrowView_99 rfl (lv_at hl 1 rfl) ?_
              refine q_vMi C0 lX6_89 (c_X6_refuse l D y L F22 _ O G (tTh μ (ltR (inR xv 0 1) 1)) hC) ⟨rfl, rfl⟩ rfl hP hD hS hA hC.1.1 hC.1.2 rfl rfl rfl hl rfl (Nat.le_of_ble_eq_true rfl) dX6_narrowView_100 ⟨Nat.le_of_ble_eq_true rfl, Nat.le_of_ble_eq_true rfl⟩ (fun r80 H locs L81 F81 hP hD hS hz81 hp81 => ?_)
              obtain ⟨eL, hC, er, hO1⟩ := hp81
              subst eL
              replace er : (-9) = r80 := er.symm
              subst er
              have hO := hO.tr hO1
              exact q_retMi C0 hret rfl hlk dX6_narrowView_103 hP hD hS (⟨(by 
    have eN : mnRef μ xv xkind xlow xhigh = 1 := by (unfold mnRef; (repeat' split) <;> first | rfl | omega)
    unfold jR_narrowView; rw [if_pos (by omega), if_pos eN]), O, G, MP_eq hC (by 
    have eN : mnRef μ xv xkind xlow xhigh = 1 := by (unfold mnRef; (repeat' split) <;> first | rfl | omega)
    have lt_ := ltR_d (inR xv 0 1) 1; 
    unfold jS_narrowView; rw [if_pos (by omega), if_pos (by omega), if_pos eN, show ltR (inR xv 0 1) 1 = 0 by omega]), rfl, Ext0 hO⟩)
            · refine lv_iload_n hx hb dX6_narrowView_63 rfl (lv_at hl 3 rfl) ?_
              refine q_iconst hx hb dX6_narrowView_64 ?_
              refine q_icmp_eq hx hb dX6_narrowView_65 (tgt := 78) (by decide) (by omega) (by omega) (fun c82 => ?_) (fun c82 => ?_)
              · refine lv_iload_n hx hb dX6_narrowView_78 rfl (lv_at hl 3 rfl) ?_
                refine q_iconst hx hb dX6_narrowView_79 ?_
                refine q_icmp_ne hx hb dX6_narrowView_80 (tgt := 104) (by decide) (by omega) (by omega) (fun c83 => ?_) (fun c83 => absurd c83 (by omega))
                refine lv_iload_n hx hb dX6_narrowView_104 rfl (lv_at hl 3 rfl) ?_
                refine q_if_le hx hb dX6_narrowView_105 (tgt := 120) (by decide) (by omega) (fun c84 => ?_) (fun c84 => ?_)
                · refine lv_iload_n hx hb dX6_narrowView_120 rfl (lv_at hl 3 rfl) ?_
                  refine q_iconst hx hb dX6_narrowView_121 ?_
                  refine q_icmp_eq hx hb dX6_narrowView_122 (tgt := 138) (by decide) (by omega) (by omega) (fun c85 => ?_) (fun c85 => absurd c85 (by omega))
                  refine lv_aload_n hx hb dX6_narrowView_138 rfl (lv_at hl 1 rfl) ?_
                  refine lv_iload_n hx hb dX6_narrowView_139 rfl (lv_at hl 2 rfl) ?_
                  refine q_vS C0 lX6_171 (c_X6_seen l D y L F22 O G (tTh μ (ltR (inR xv 0 1) 1)) xv hC (by omega) (hW.2.2.1 xv) ⟨(hW.2.2.2.2.1 xv).1, (hW.2.2.2.2.1 xv).2.1⟩ (hW.2.2.2.2.1 xv).2.2) ⟨rfl, rfl⟩ rfl hP hC.1.1 hC.1.2 rfl rfl rfl hl rfl (Nat.le_of_ble_eq_true rfl) dX6_narrowView_140 ⟨Nat.zero_le _, Nat.zero_le _⟩ (fun r86 e_r86 => ?_)
                  replace e_r86 : r86 = cntP (vst μ (vvw μ xv)) (vvl μ xv) (vvh μ xv) := e_r86.trans (by first | rfl | (rw [show vvw (tTh μ (ltR (inR xv 0 1) 1)) xv = vvw μ xv from (by first | rfl | exact iu_s _ _ _), show vvl (tTh μ (ltR (inR xv 0 1) 1)) xv = vvl μ xv from (by first | rfl | exact iu_s _ _ _), show vvh (tTh μ (ltR (inR xv 0 1) 1)) xv = vvh μ xv from (by first | rfl | exact iu_s _ _ _)]; done) | (rw [show vvw (tTh μ (ltR (inR xv 0 1) 1)) xv = vvw μ xv from (by first | rfl | exact iu_s _ _ _), show vvl (tTh μ (ltR (inR xv 0 1) 1)) xv = vvl μ xv from (by first | rfl | exact iu_s _ _ _), show vvh (tTh μ (ltR (inR xv 0 1) 1)) xv = vvh μ xv from (by first | rfl | exact iu_s _ _ _)]; rfl))
                  subst e_r86
                  exact q_retMi C0 hret rfl hlk dX6_narrowView_143 hP hD hS (⟨(by 
    have eN : ¬ (mnRef μ xv xkind xlow xhigh = 1) := by (unfold mnRef; (repeat' split) <;> first | rfl | omega)
    have eL : mnLo μ xv xkind xlow = (vvl μ xv) := by (unfold mnLo; first | (rw [if_pos (by omega)]; done) | (rw [if_neg (by omega)]; done))
    have eH : mnHi μ xv xkind xhigh = (vvh μ xv) := by (unfold mnHi; first | (rw [if_pos (by omega)]; done) | (rw [if_neg (by omega)]; done))
    unfold jR_narrowView; rw [if_pos (by omega), if_neg eN, eL, eH]), O, G, MP_eq hC (by 
    have eN : ¬ (mnRef μ xv xkind xlow xhigh = 1) := by (unfold mnRef; (repeat' split) <;> first | rfl | omega)
    have eL : mnLo μ xv xkind xlow = (vvl μ xv) := by (unfold mnLo; first | (rw [if_pos (by omega)]; done) | (rw [if_neg (by omega)]; done))
    have eH : mnHi μ xv xkind xhigh = (vvh μ xv) := by (unfold mnHi; first | (rw [if_pos (by omega)]; done) | (rw [if_neg (by omega)]; done))
    have lt_ := ltR_d (inR xv 0 1) 1; 
    unfold jS_narrowView; rw [if_pos (by omega), if_pos (by omega), if_neg eN, eL, eH, show ltR (inR xv 0 1) 1 = 0 by omega]; first | (exfalso; omega) | (rw [if_pos (by omega)]; done) | (rw [if_neg (by omega), if_pos (by omega)]; done) | (rw [if_neg (by omega), if_neg (by omega)]; done)), rfl, Ext0 hO⟩)
                · refine lv_aload_n hx hb dX6_narrowView_108 rfl (lv_at hl 1 rfl) ?_
                  refine q_get C0 iX6 hP hC.1.1 hC.1.2 rfl 3 (by decide) flX6_21 rfl (v := .ref ((uaf G))) rfl dX6_narrowView_109 ?_
                  refine lv_iload_n hx hb dX6_narrowView_112 rfl (lv_at hl 2 rfl) ?_
                  refine lv_aload hx hb dX6_narrowView_113 (lv_at hl 0 rfl) ?_
                  refine lv_iload_n hx hb dX6_narrowView_115 rfl (lv_at hl 4 rfl) ?_
                  refine q_vS C0 lX6_93 (c_X5_rank l D y L F22 (urh G (vvw μ xv)) (urw G (vvw μ xv)) (vod μ (vvw μ xv)) (vst μ (vvw μ xv)) xlow (MP_r hC (hW.2.2.1 xv)) (by omega)) ⟨rfl, rfl⟩ rfl hP (MP_r hC (hW.2.2.1 xv)).1 (MP_r hC (hW.2.2.1 xv)).2.1 rfl rfl rfl hl rfl (Nat.le_of_ble_eq_true rfl) dX6_narrowView_116 ⟨Nat.zero_le _, Nat.zero_le _⟩ (fun r87 e_r87 => ?_)
                  subst e_r87
                  have b_88 := @turn_b (vod μ (vvw μ xv)) xlow (by omega)
                  refine q_iast C0 hP hD hS hC.2.2.2.2.1.1 hC.2.2.2.2.1.2 (i := xv) (v := (turn (vod μ (vvw μ xv)) xlow)) (by omega) (by decide) dX6_narrowView_119 (fun H locs hP hD hS => ?_)
                  obtain ⟨F89, eF89⟩ : ∃ z, z = va_up F22 (uaf G) (arrI (y 0) 2 (iu (vvl μ) xv (turn (vod μ (vvw μ xv)) xlow))) := ⟨_, rfl⟩
                  have hP : va_P D vwCl (va_pl L F89) H := by rw [eF89]; exact hP
                  have hD : va_D (AL L sz) (va_pl L F89) := by rw [eF89]; exact hD
                  have hO : OE O F F89 := by rw [eF89]; exact hO.tr (OE1 (MP_O hC).2.2.2.2.1)
                  have hC : MP y L F89 O G (tVl (tTh μ (ltR (inR xv 0 1) 1)) xv (turn (vod μ (vvw μ xv)) xlow)) := by rw [eF89]; exact MP_vl hC (va_up_self _ _ _) (fun q hq => va_up_ne _ _ hq)
                  refine lv_iload_n hx hb dX6_narrowView_120 rfl (lv_at hl 3 rfl) ?_
                  refine q_iconst hx hb dX6_narrowView_121 ?_
                  refine q_icmp_eq hx hb dX6_narrowView_122 (tgt := 138) (by decide) (by omega) (by omega) (fun c90 => ?_) (fun c90 => absurd c90 (by omega))
                  refine lv_aload_n hx hb dX6_narrowView_138 rfl (lv_at hl 1 rfl) ?_
                  refine lv_iload_n hx hb dX6_narrowView_139 rfl (lv_at hl 2 rfl) ?_
                  refine q_vS C0 lX6_171 (c_X6_seen l D y L F89 O G (tVl (tTh μ (ltR (inR xv 0 1) 1)) xv (turn (vod μ (vvw μ xv)) xlow)) xv hC (by omega) (by rw [show vvw (tVl (tTh μ (ltR (inR xv 0 1) 1)) xv (turn (vod μ (vvw μ xv)) xlow)) xv = vvw μ xv from (by first | rfl | exact iu_s _ _ _)]; exact (hW.2.2.1 xv)) (by rw [show vvl (tVl (tTh μ (ltR (inR xv 0 1) 1)) xv (turn (vod μ (vvw μ xv)) xlow)) xv = (turn (vod μ (vvw μ xv)) xlow) from (by first | rfl | exact iu_s _ _ _)]; omega) (by rw [show vvh (tVl (tTh μ (ltR (inR xv 0 1) 1)) xv (turn (vod μ (vvw μ xv)) xlow)) xv = vvh μ xv from (by first | rfl | exact iu_s _ _ _)]; omega)) ⟨rfl, rfl⟩ rfl hP hC.1.1 hC.1.2 rfl rfl rfl hl rfl (Nat.le_of_ble_eq_true rfl) dX6_narrowView_140 ⟨Nat.zero_le _, Nat.zero_le _⟩ (fun r91 e_r91 => ?_)
                  replace e_r91 : r91 = cntP (vst μ (vvw μ xv)) (turn (vod μ (vvw μ xv)) xlow) (vvh μ xv) := e_r91.trans (by first | rfl | (rw [show vvw (tVl (tTh μ (ltR (inR xv 0 1) 1)) xv (turn (vod μ (vvw μ xv)) xlow)) xv = vvw μ xv from (by first | rfl | exact iu_s _ _ _), show vvl (tVl (tTh μ (ltR (inR xv 0 1) 1)) xv (turn (vod μ (vvw μ xv)) xlow)) xv = (turn (vod μ (vvw μ xv)) xlow) from (by first | rfl | exact iu_s _ _ _), show vvh (tVl (tTh μ (ltR (inR xv 0 1) 1)) xv (turn (vod μ (vvw μ xv)) xlow)) xv = vvh μ xv from (by first | rfl | exact iu_s _ _ _)]; done) | (rw [show vvw (tVl (tTh μ (ltR (inR xv 0 1) 1)) xv (turn (vod μ (vvw μ xv)) xlow)) xv = vvw μ xv from (by first | rfl | exact iu_s _ _ _), show vvl (tVl (tTh μ (ltR (inR xv 0 1) 1)) xv (turn (vod μ (vvw μ xv)) xlow)) xv = (turn (vod μ (vvw μ xv)) xlow) from (by first | rfl | exact iu_s _ _ _), show vvh (tVl (tTh μ (ltR (inR xv 0 1) 1)) xv (turn (vod μ (vvw μ xv)) xlow)) xv = vvh μ xv from (by first | rfl | exact iu_s _ _ _)]; rfl))
                  subst e_r91
                  exact q_retMi C0 hret rfl hlk dX6_narrowView_143 hP hD hS (⟨(by 
    have eN : ¬ (mnRef μ xv xkind xlow xhigh = 1) := by (unfold mnRef; (repeat' split) <;> first | rfl | omega)
    have eL : mnLo μ xv xkind xlow = (turn (vod μ (vvw μ xv)) xlow) := by (unfold mnLo; first | (rw [if_pos (by omega)]; done) | (rw [if_neg (by omega)]; done))
    have eH : mnHi μ xv xkind xhigh = (vvh μ xv) := by (unfold mnHi; first | (rw [if_pos (by omega)]; done) | (rw [if_neg (by omega)]; done))
    unfold jR_narrowView; rw [if_pos (by omega), if_neg eN, eL, eH]), O, G, MP_eq hC (by 
    have eN : ¬ (mnRef μ xv xkind xlow xhigh = 1) := by (unfold mnRef; (repeat' split) <;> first | rfl | omega)
    have eL : mnLo μ xv xkind xlow = (turn (vod μ (vvw μ xv)) xlow) := by (unfold mnLo; first | (rw [if_pos (by omega)]; done) | (rw [if_neg (by omega)]; done))
    have eH : mnHi μ xv xkind xhigh = (vvh μ xv) := by (unfold mnHi; first | (rw [if_pos (by omega)]; done) | (rw [if_neg (by omega)]; done))
    have lt_ := ltR_d (inR xv 0 1) 1; 
    unfold jS_narrowView; rw [if_pos (by omega), if_pos (by omega), if_neg eN, eL, eH, show ltR (inR xv 0 1) 1 = 0 by omega]; first | (exfalso; omega) | (rw [if_pos (by omega)]; done) | (rw [if_neg (by omega), if_pos (by omega)]; done) | (rw [if_neg (by omega), if_neg (by omega)]; done)), rfl, Ext0 hO⟩)
              · refine lv_aload_n hx hb dX6_narrowView_68 rfl (lv_at hl 1 rfl) ?_
                refine lv_iload_n hx hb dX6_narrowView_69 rfl (lv_at hl 2 rfl) ?_
                refine lv_iload hx hb dX6_narrowView_70 (lv_at hl 5 rfl) ?_
                refine q_vS C0 lX6_174 (c_X6_isWithin l D y L F22 O G (tTh μ (ltR (inR xv 0 1) 1)) xv xhigh hC (by omega) (hW.2.2.1 xv) ⟨(hW.2.2.2.2.1 xv).1, (hW.2.2.2.2.1 xv).2.1⟩ (hW.2.2.2.2.1 xv).2.2 (by omega)) ⟨rfl, rfl⟩ rfl hP hC.1.1 hC.1.2 rfl rfl rfl hl rfl (Nat.le_of_ble_eq_true rfl) dX6_narrowView_72 ⟨Nat.zero_le _, Nat.zero_le _⟩ (fun r92 e_r92 => ?_)
                replace e_r92 : r92 = inR (turn (vod μ (vvw μ xv)) xhigh) (vvl μ xv) (vvh μ xv) := e_r92.trans (by first | rfl | (rw [show vvw (tTh μ (ltR (inR xv 0 1) 1)) xv = vvw μ xv from (by first | rfl | exact iu_s _ _ _), show vvl (tTh μ (ltR (inR xv 0 1) 1)) xv = vvl μ xv from (by first | rfl | exact iu_s _ _ _), show vvh (tTh μ (ltR (inR xv 0 1) 1)) xv = vvh μ xv from (by first | rfl | exact iu_s _ _ _)]; done) | (rw [show vvw (tTh μ (ltR (inR xv 0 1) 1)) xv = vvw μ xv from (by first | rfl | exact iu_s _ _ _), show vvl (tTh μ (ltR (inR xv 0 1) 1)) xv = vvl μ xv from (by first | rfl | exact iu_s _ _ _), show vvh (tTh μ (ltR (inR xv 0 1) 1)) xv = vvh μ xv from (by first | rfl | exact iu_s _ _ _)]; rfl))
                subst e_r92
                have b_93 := inR_d (turn (vod μ (vvw μ xv)) xhigh) (vvl μ xv) (vvh μ xv)
                refine q_if_eq hx hb dX6_narrowView_75 (tgt := 99) (by decide) (by omega) (fun c94 => ?_) (fun c94 => ?_)
                · refine lv_aload_n hx hb dX6_narrowView_99 rfl (lv_at hl 1 rfl) ?_
                  refine q_vMi C0 lX6_89 (c_X6_refuse l D y L F22 _ O G (tTh μ (ltR (inR xv 0 1) 1)) hC) ⟨rfl, rfl⟩ rfl hP hD hS hA hC.1.1 hC.1.2 rfl rfl rfl hl rfl (Nat.le_of_ble_eq_true rfl) dX6_narrowView_100 ⟨Nat.le_of_ble_eq_true rfl, Nat.le_of_ble_eq_true rfl⟩ (fun r95 H locs L96 F96 hP hD hS hz96 hp96 => ?_)
                  obtain ⟨eL, hC, er, hO1⟩ := hp96
                  subst eL
                  replace er : (-9) = r95 := er.symm
                  subst er
                  have hO := hO.tr hO1
                  exact q_retMi C0 hret rfl hlk dX6_narrowView_103 hP hD hS (⟨(by 
    have eN : mnRef μ xv xkind xlow xhigh = 1 := by (unfold mnRef; (repeat' split) <;> first | rfl | omega)
    unfold jR_narrowView; rw [if_pos (by omega), if_pos eN]), O, G, MP_eq hC (by 
    have eN : mnRef μ xv xkind xlow xhigh = 1 := by (unfold mnRef; (repeat' split) <;> first | rfl | omega)
    have lt_ := ltR_d (inR xv 0 1) 1; 
    unfold jS_narrowView; rw [if_pos (by omega), if_pos (by omega), if_pos eN, show ltR (inR xv 0 1) 1 = 0 by omega]), rfl, Ext0 hO⟩)
                · refine lv_iload_n hx hb dX6_narrowView_78 rfl (lv_at hl 3 rfl) ?_
                  refine q_iconst hx hb dX6_narrowView_79 ?_
                  refine q_icmp_ne hx hb dX6_narrowView_80 (tgt := 104) (by decide) (by omega) (by omega) (fun c97 => ?_) (fun c97 => ?_)
                  · refine lv_iload_n hx hb dX6_narrowView_104 rfl (lv_at hl 3 rfl) ?_
                    refine q_if_le hx hb dX6_narrowView_105 (tgt := 120) (by decide) (by omega) (fun c98 => ?_) (fun c98 => ?_)
                    · refine lv_iload_n hx hb dX6_narrowView_120 rfl (lv_at hl 3 rfl) ?_
                      refine q_iconst hx hb dX6_narrowView_121 ?_
                      refine q_icmp_eq hx hb dX6_narrowView_122 (tgt := 138) (by decide) (by omega) (by omega) (fun c99 => absurd c99 (by omega)) (fun c99 => ?_)
                      refine lv_aload_n hx hb dX6_narrowView_125 rfl (lv_at hl 1 rfl) ?_
                      refine q_get C0 iX6 hP hC.1.1 hC.1.2 rfl 4 (by decide) flX6_25 rfl (v := .ref ((uat G))) rfl dX6_narrowView_126 ?_
                      refine lv_iload_n hx hb dX6_narrowView_129 rfl (lv_at hl 2 rfl) ?_
                      refine lv_aload hx hb dX6_narrowView_130 (lv_at hl 0 rfl) ?_
                      refine lv_iload hx hb dX6_narrowView_132 (lv_at hl 5 rfl) ?_
                      refine q_vS C0 lX6_93 (c_X5_rank l D y L F22 (urh G (vvw μ xv)) (urw G (vvw μ xv)) (vod μ (vvw μ xv)) (vst μ (vvw μ xv)) xhigh (MP_r hC (hW.2.2.1 xv)) (by omega)) ⟨rfl, rfl⟩ rfl hP (MP_r hC (hW.2.2.1 xv)).1 (MP_r hC (hW.2.2.1 xv)).2.1 rfl rfl rfl hl rfl (Nat.le_of_ble_eq_true rfl) dX6_narrowView_134 ⟨Nat.zero_le _, Nat.zero_le _⟩ (fun r100 e_r100 => ?_)
                      subst e_r100
                      have b_101 := @turn_b (vod μ (vvw μ xv)) xhigh (by omega)
                      refine q_iast C0 hP hD hS hC.2.2.2.2.2.1.1 hC.2.2.2.2.2.1.2 (i := xv) (v := (turn (vod μ (vvw μ xv)) xhigh)) (by omega) (by decide) dX6_narrowView_137 (fun H locs hP hD hS => ?_)
                      obtain ⟨F102, eF102⟩ : ∃ z, z = va_up F22 (uat G) (arrI (y 0) 2 (iu (vvh μ) xv (turn (vod μ (vvw μ xv)) xhigh))) := ⟨_, rfl⟩
                      have hP : va_P D vwCl (va_pl L F102) H := by rw [eF102]; exact hP
                      have hD : va_D (AL L sz) (va_pl L F102) := by rw [eF102]; exact hD
                      have hO : OE O F F102 := by rw [eF102]; exact hO.tr (OE1 (MP_O hC).2.2.2.2.2.1)
                      have hC : MP y L F102 O G (tVh (tTh μ (ltR (inR xv 0 1) 1)) xv (turn (vod μ (vvw μ xv)) xhigh)) := by rw [eF102]; exact MP_vh hC (va_up_self _ _ _) (fun q hq => va_up_ne _ _ hq)
                      refine lv_aload_n hx hb dX6_narrowView_138 rfl (lv_at hl 1 rfl) ?_
                      refine lv_iload_n hx hb dX6_narrowView_139 rfl (lv_at hl 2 rfl) ?_
                      refine q_vS C0 lX6_171 (c_X6_seen l D y L F102 O G (tVh (tTh μ (ltR (inR xv 0 1) 1)) xv (turn (vod μ (vvw μ xv)) xhigh)) xv hC (by omega) (by rw [show vvw (tVh (tTh μ (ltR (inR xv 0 1) 1)) xv (turn (vod μ (vvw μ xv)) xhigh)) xv = vvw μ xv from (by first | rfl | exact iu_s _ _ _)]; exact (hW.2.2.1 xv)) (by rw [show vvl (tVh (tTh μ (ltR (inR xv 0 1) 1)) xv (turn (vod μ (vvw μ xv)) xhigh)) xv = vvl μ xv from (by first | rfl | exact iu_s _ _ _)]; omega) (by rw [show vvh (tVh (tTh μ (ltR (inR xv 0 1) 1)) xv (turn (vod μ (vvw μ xv)) xhigh)) xv = (turn (vod μ (vvw μ xv)) xhigh) from (by first | rfl | exact iu_s _ _ _)]; omega)) ⟨rfl, rfl⟩ rfl hP hC.1.1 hC.1.2 rfl rfl rfl hl rfl (Nat.le_of_ble_eq_true rfl) dX6_narrowView_140 ⟨Nat.zero_le _, Nat.zero_le _⟩ (fun r103 e_r103 => ?_)
                      replace e_r103 : r103 = cntP (vst μ (vvw μ xv)) (vvl μ xv) (turn (vod μ (vvw μ xv)) xhigh) := e_r103.trans (by first | rfl | (rw [show vvw (tVh (tTh μ (ltR (inR xv 0 1) 1)) xv (turn (vod μ (vvw μ xv)) xhigh)) xv = vvw μ xv from (by first | rfl | exact iu_s _ _ _), show vvl (tVh (tTh μ (ltR (inR xv 0 1) 1)) xv (turn (vod μ (vvw μ xv)) xhigh)) xv = vvl μ xv from (by first | rfl | exact iu_s _ _ _), show vvh (tVh (tTh μ (ltR (inR xv 0 1) 1)) xv (turn (vod μ (vvw μ xv)) xhigh)) xv = (turn (vod μ (vvw μ xv)) xhigh) from (by first | rfl | exact iu_s _ _ _)]; done) | (rw [show vvw (tVh (tTh μ (ltR (inR xv 0 1) 1)) xv (turn (vod μ (vvw μ xv)) xhigh)) xv = vvw μ xv from (by first | rfl | exact iu_s _ _ _), show vvl (tVh (tTh μ (ltR (inR xv 0 1) 1)) xv (turn (vod μ (vvw μ xv)) xhigh)) xv = vvl μ xv from (by first | rfl | exact iu_s _ _ _), show vvh (tVh (tTh μ (ltR (inR xv 0 1) 1)) xv (turn (vod μ (vvw μ xv)) xhigh)) xv = (turn (vod μ (vvw μ xv)) xhigh) from (by first | rfl | exact iu_s _ _ _)]; rfl))
                      subst e_r103
                      exact q_retMi C0 hret rfl hlk dX6_narrowView_143 hP hD hS (⟨(by 
    have eN : ¬ (mnRef μ xv xkind xlow xhigh = 1) := by (unfold mnRef; (repeat' split) <;> first | rfl | omega)
    have eL : mnLo μ xv xkind xlow = (vvl μ xv) := by (unfold mnLo; first | (rw [if_pos (by omega)]; done) | (rw [if_neg (by omega)]; done))
    have eH : mnHi μ xv xkind xhigh = (turn (vod μ (vvw μ xv)) xhigh) := by (unfold mnHi; first | (rw [if_pos (by omega)]; done) | (rw [if_neg (by omega)]; done))
    unfold jR_narrowView; rw [if_pos (by omega), if_neg eN, eL, eH]), O, G, MP_eq hC (by 
    have eN : ¬ (mnRef μ xv xkind xlow xhigh = 1) := by (unfold mnRef; (repeat' split) <;> first | rfl | omega)
    have eL : mnLo μ xv xkind xlow = (vvl μ xv) := by (unfold mnLo; first | (rw [if_pos (by omega)]; done) | (rw [if_neg (by omega)]; done))
    have eH : mnHi μ xv xkind xhigh = (turn (vod μ (vvw μ xv)) xhigh) := by (unfold mnHi; first | (rw [if_pos (by omega)]; done) | (rw [if_neg (by omega)]; done))
    have lt_ := ltR_d (inR xv 0 1) 1; 
    unfold jS_narrowView; rw [if_pos (by omega), if_pos (by omega), if_neg eN, eL, eH, show ltR (inR xv 0 1) 1 = 0 by omega]; first | (exfalso; omega) | (rw [if_pos (by omega)]; done) | (rw [if_neg (by omega), if_pos (by omega)]; done) | (rw [if_neg (by omega), if_neg (by omega)]; done)), rfl, Ext0 hO⟩)
                    · refine lv_aload_n hx hb dX6_narrowView_108 rfl (lv_at hl 1 rfl) ?_
                      refine q_get C0 iX6 hP hC.1.1 hC.1.2 rfl 3 (by decide) flX6_21 rfl (v := .ref ((uaf G))) rfl dX6_narrowView_109 ?_
                      refine lv_iload_n hx hb dX6_narrowView_112 rfl (lv_at hl 2 rfl) ?_
                      refine lv_aload hx hb dX6_narrowView_113 (lv_at hl 0 rfl) ?_
                      refine lv_iload_n hx hb dX6_narrowView_115 rfl (lv_at hl 4 rfl) ?_
                      refine q_vS C0 lX6_93 (c_X5_rank l D y L F22 (urh G (vvw μ xv)) (urw G (vvw μ xv)) (vod μ (vvw μ xv)) (vst μ (vvw μ xv)) xlow (MP_r hC (hW.2.2.1 xv)) (by omega)) ⟨rfl, rfl⟩ rfl hP (MP_r hC (hW.2.2.1 xv)).1 (MP_r hC (hW.2.2.1 xv)).2.1 rfl rfl rfl hl rfl (Nat.le_of_ble_eq_true rfl) dX6_narrowView_116 ⟨Nat.zero_le _, Nat.zero_le _⟩ (fun r104 e_r104 => ?_)
                      subst e_r104
                      have b_105 := @turn_b (vod μ (vvw μ xv)) xlow (by omega)
                      refine q_iast C0 hP hD hS hC.2.2.2.2.1.1 hC.2.2.2.2.1.2 (i := xv) (v := (turn (vod μ (vvw μ xv)) xlow)) (by omega) (by decide) dX6_narrowView_119 (fun H locs hP hD hS => ?_)
                      obtain ⟨F106, eF106⟩ : ∃ z, z = va_up F22 (uaf G) (arrI (y 0) 2 (iu (vvl μ) xv (turn (vod μ (vvw μ xv)) xlow))) := ⟨_, rfl⟩
                      have hP : va_P D vwCl (va_pl L F106) H := by rw [eF106]; exact hP
                      have hD : va_D (AL L sz) (va_pl L F106) := by rw [eF106]; exact hD
                      have hO : OE O F F106 := by rw [eF106]; exact hO.tr (OE1 (MP_O hC).2.2.2.2.1)
                      have hC : MP y L F106 O G (tVl (tTh μ (ltR (inR xv 0 1) 1)) xv (turn (vod μ (vvw μ xv)) xlow)) := by rw [eF106]; exact MP_vl hC (va_up_self _ _ _) (fun q hq => va_up_ne _ _ hq)
                      refine lv_iload_n hx hb dX6_narrowView_120 rfl (lv_at hl 3 rfl) ?_
                      refine q_iconst hx hb dX6_narrowView_121 ?_
                      refine q_icmp_eq hx hb dX6_narrowView_122 (tgt := 138) (by decide) (by omega) (by omega) (fun c107 => absurd c107 (by omega)) (fun c107 => ?_)
                      refine lv_aload_n hx hb dX6_narrowView_125 rfl (lv_at hl 1 rfl) ?_
                      refine q_get C0 iX6 hP hC.1.1 hC.1.2 rfl 4 (by decide) flX6_25 rfl (v := .ref ((uat G))) rfl dX6_narrowView_126 ?_
                      refine lv_iload_n hx hb dX6_narrowView_129 rfl (lv_at hl 2 rfl) ?_
                      refine lv_aload hx hb dX6_narrowView_130 (lv_at hl 0 rfl) ?_
                      refine lv_iload hx hb dX6_narrowView_132 (lv_at hl 5 rfl) ?_
                      refine q_vS C0 lX6_93 (c_X5_rank l D y L F106 (urh G (vvw μ xv)) (urw G (vvw μ xv)) (vod μ (vvw μ xv)) (vst μ (vvw μ xv)) xhigh (MP_r hC (hW.2.2.1 xv)) (by omega)) ⟨rfl, rfl⟩ rfl hP (MP_r hC (hW.2.2.1 xv)).1 (MP_r hC (hW.2.2.1 xv)).2.1 rfl rfl rfl hl rfl (Nat.le_of_ble_eq_true rfl) dX6_narrowView_134 ⟨Nat.zero_le _, Nat.zero_le _⟩ (fun r108 e_r108 => ?_)
                      subst e_r108
                      have b_109 := @turn_b (vod μ (vvw μ xv)) xhigh (by omega)
                      refine q_iast C0 hP hD hS hC.2.2.2.2.2.1.1 hC.2.2.2.2.2.1.2 (i := xv) (v := (turn (vod μ (vvw μ xv)) xhigh)) (by omega) (by decide) dX6_narrowView_137 (fun H locs hP hD hS => ?_)
                      obtain ⟨F110, eF110⟩ : ∃ z, z = va_up F106 (uat G) (arrI (y 0) 2 (iu (vvh μ) xv (turn (vod μ (vvw μ xv)) xhigh))) := ⟨_, rfl⟩
                      have hP : va_P D vwCl (va_pl L F110) H := by rw [eF110]; exact hP
                      have hD : va_D (AL L sz) (va_pl L F110) := by rw [eF110]; exact hD
                      have hO : OE O F F110 := by rw [eF110]; exact hO.tr (OE1 (MP_O hC).2.2.2.2.2.1)
                      have hC : MP y L F110 O G (tVh (tVl (tTh μ (ltR (inR xv 0 1) 1)) xv (turn (vod μ (vvw μ xv)) xlow)) xv (turn (vod μ (vvw μ xv)) xhigh)) := by rw [eF110]; exact MP_vh hC (va_up_self _ _ _) (fun q hq => va_up_ne _ _ hq)
                      refine lv_aload_n hx hb dX6_narrowView_138 rfl (lv_at hl 1 rfl) ?_
                      refine lv_iload_n hx hb dX6_narrowView_139 rfl (lv_at hl 2 rfl) ?_
                      refine q_vS C0 lX6_171 (c_X6_seen l D y L F110 O G (tVh (tVl (tTh μ (ltR (inR xv 0 1) 1)) xv (turn (vod μ (vvw μ xv)) xlow)) xv (turn (vod μ (vvw μ xv)) xhigh)) xv hC (by omega) (by rw [show vvw (tVh (tVl (tTh μ (ltR (inR xv 0 1) 1)) xv (turn (vod μ (vvw μ xv)) xlow)) xv (turn (vod μ (vvw μ xv)) xhigh)) xv = vvw μ xv from (by first | rfl | exact iu_s _ _ _)]; exact (hW.2.2.1 xv)) (by rw [show vvl (tVh (tVl (tTh μ (ltR (inR xv 0 1) 1)) xv (turn (vod μ (vvw μ xv)) xlow)) xv (turn (vod μ (vvw μ xv)) xhigh)) xv = (turn (vod μ (vvw μ xv)) xlow) from (by first | rfl | exact iu_s _ _ _)]; omega) (by rw [show vvh (tVh (tVl (tTh μ (ltR (inR xv 0 1) 1)) xv (turn (vod μ (vvw μ xv)) xlow)) xv (turn (vod μ (vvw μ xv)) xhigh)) xv = (turn (vod μ (vvw μ xv)) xhigh) from (by first | rfl | exact iu_s _ _ _)]; omega)) ⟨rfl, rfl⟩ rfl hP hC.1.1 hC.1.2 rfl rfl rfl hl rfl (Nat.le_of_ble_eq_true rfl) dX6_narrowView_140 ⟨Nat.zero_le _, Nat.zero_le _⟩ (fun r111 e_r111 => ?_)
                      replace e_r111 : r111 = cntP (vst μ (vvw μ xv)) (turn (vod μ (vvw μ xv)) xlow) (turn (vod μ (vvw μ xv)) xhigh) := e_r111.trans (by first | rfl | (rw [show vvw (tVh (tVl (tTh μ (ltR (inR xv 0 1) 1)) xv (turn (vod μ (vvw μ xv)) xlow)) xv (turn (vod μ (vvw μ xv)) xhigh)) xv = vvw μ xv from (by first | rfl | exact iu_s _ _ _), show vvl (tVh (tVl (tTh μ (ltR (inR xv 0 1) 1)) xv (turn (vod μ (vvw μ xv)) xlow)) xv (turn (vod μ (vvw μ xv)) xhigh)) xv = (turn (vod μ (vvw μ xv)) xlow) from (by first | rfl | exact iu_s _ _ _), show vvh (tVh (tVl (tTh μ (ltR (inR xv 0 1) 1)) xv (turn (vod μ (vvw μ xv)) xlow)) xv (turn (vod μ (vvw μ xv)) xhigh)) xv = (turn (vod μ (vvw μ xv)) xhigh) from (by first | rfl | exact iu_s _ _ _)]; done) | (rw [show vvw (tVh (tVl (tTh μ (ltR (inR xv 0 1) 1)) xv (turn (vod μ (vvw μ xv)) xlow)) xv (turn (vod μ (vvw μ xv)) xhigh)) xv = vvw μ xv from (by first | rfl | exact iu_s _ _ _), show vvl (tVh (tVl (tTh μ (ltR (inR xv 0 1) 1)) xv (turn (vod μ (vvw μ xv)) xlow)) xv (turn (vod μ (vvw μ xv)) xhigh)) xv = (turn (vod μ (vvw μ xv)) xlow) from (by first | rfl | exact iu_s _ _ _), show vvh (tVh (tVl (tTh μ (ltR (inR xv 0 1) 1)) xv (turn (vod μ (vvw μ xv)) xlow)) xv (turn (vod μ (vvw μ xv)) xhigh)) xv = (turn (vod μ (vvw μ xv)) xhigh) from (by first | rfl | exact iu_s _ _ _)]; rfl))
                      subst e_r111
                      exact q_retMi C0 hret rfl hlk dX6_narrowView_143 hP hD hS (⟨(by 
    have eN : ¬ (mnRef μ xv xkind xlow xhigh = 1) := by (unfold mnRef; (repeat' split) <;> first | rfl | omega)
    have eL : mnLo μ xv xkind xlow = (turn (vod μ (vvw μ xv)) xlow) := by (unfold mnLo; first | (rw [if_pos (by omega)]; done) | (rw [if_neg (by omega)]; done))
    have eH : mnHi μ xv xkind xhigh = (turn (vod μ (vvw μ xv)) xhigh) := by (unfold mnHi; first | (rw [if_pos (by omega)]; done) | (rw [if_neg (by omega)]; done))
    unfold jR_narrowView; rw [if_pos (by omega), if_neg eN, eL, eH]), O, G, MP_eq hC (by 
    have eN : ¬ (mnRef μ xv xkind xlow xhigh = 1) := by (unfold mnRef; (repeat' split) <;> first | rfl | omega)
    have eL : mnLo μ xv xkind xlow = (turn (vod μ (vvw μ xv)) xlow) := by (unfold mnLo; first | (rw [if_pos (by omega)]; done) | (rw [if_neg (by omega)]; done))
    have eH : mnHi μ xv xkind xhigh = (turn (vod μ (vvw μ xv)) xhigh) := by (unfold mnHi; first | (rw [if_pos (by omega)]; done) | (rw [if_neg (by omega)]; done))
    have lt_ := ltR_d (inR xv 0 1) 1; 
    unfold jS_narrowView; rw [if_pos (by omega), if_pos (by omega), if_neg eN, eL, eH, show ltR (inR xv 0 1) 1 = 0 by omega]; first | (exfalso; omega) | (rw [if_pos (by omega)]; done) | (rw [if_neg (by omega), if_pos (by omega)]; done) | (rw [if_neg (by omega), if_neg (by omega)]; done)), rfl, Ext0 hO⟩)
                  · refine lv_aload hx hb dX6_narrowView_83 (lv_at hl 0 rfl) ?_
                    refine lv_iload_n hx hb dX6_narrowView_85 rfl (lv_at hl 4 rfl) ?_
                    refine q_vS C0 lX6_93 (c_X5_rank l D y L F22 (urh G (vvw μ xv)) (urw G (vvw μ xv)) (vod μ (vvw μ xv)) (vst μ (vvw μ xv)) xlow (MP_r hC (hW.2.2.1 xv)) (by omega)) ⟨rfl, rfl⟩ rfl hP (MP_r hC (hW.2.2.1 xv)).1 (MP_r hC (hW.2.2.1 xv)).2.1 rfl rfl rfl hl rfl (Nat.le_of_ble_eq_true rfl) dX6_narrowView_86 ⟨Nat.zero_le _, Nat.zero_le _⟩ (fun r112 e_r112 => ?_)
                    subst e_r112
                    have b_113 := @turn_b (vod μ (vvw μ xv)) xlow (by omega)
                    refine lv_aload hx hb dX6_narrowView_89 (lv_at hl 0 rfl) ?_
                    refine lv_iload hx hb dX6_narrowView_91 (lv_at hl 5 rfl) ?_
                    refine q_vS C0 lX6_93 (c_X5_rank l D y L F22 (urh G (vvw μ xv)) (urw G (vvw μ xv)) (vod μ (vvw μ xv)) (vst μ (vvw μ xv)) xhigh (MP_r hC (hW.2.2.1 xv)) (by omega)) ⟨rfl, rfl⟩ rfl hP (MP_r hC (hW.2.2.1 xv)).1 (MP_r hC (hW.2.2.1 xv)).2.1 rfl rfl rfl hl rfl (Nat.le_of_ble_eq_true rfl) dX6_narrowView_93 ⟨Nat.zero_le _, Nat.zero_le _⟩ (fun r114 e_r114 => ?_)
                    subst e_r114
                    have b_115 := @turn_b (vod μ (vvw μ xv)) xhigh (by omega)
                    refine q_icmp_le hx hb dX6_narrowView_96 (tgt := 104) (by decide) (by omega) (by omega) (fun c116 => ?_) (fun c116 => ?_)
                    · refine lv_iload_n hx hb dX6_narrowView_104 rfl (lv_at hl 3 rfl) ?_
                      refine q_if_le hx hb dX6_narrowView_105 (tgt := 120) (by decide) (by omega) (fun c117 => ?_) (fun c117 => ?_)
                      · refine lv_iload_n hx hb dX6_narrowView_120 rfl (lv_at hl 3 rfl) ?_
                        refine q_iconst hx hb dX6_narrowView_121 ?_
                        refine q_icmp_eq hx hb dX6_narrowView_122 (tgt := 138) (by decide) (by omega) (by omega) (fun c118 => absurd c118 (by omega)) (fun c118 => ?_)
                        refine lv_aload_n hx hb dX6_narrowView_125 rfl (lv_at hl 1 rfl) ?_
                        refine q_get C0 iX6 hP hC.1.1 hC.1.2 rfl 4 (by decide) flX6_25 rfl (v := .ref ((uat G))) rfl dX6_narrowView_126 ?_
                        refine lv_iload_n hx hb dX6_narrowView_129 rfl (lv_at hl 2 rfl) ?_
                        refine lv_aload hx hb dX6_narrowView_130 (lv_at hl 0 rfl) ?_
                        refine lv_iload hx hb dX6_narrowView_132 (lv_at hl 5 rfl) ?_
                        refine q_vS C0 lX6_93 (c_X5_rank l D y L F22 (urh G (vvw μ xv)) (urw G (vvw μ xv)) (vod μ (vvw μ xv)) (vst μ (vvw μ xv)) xhigh (MP_r hC (hW.2.2.1 xv)) (by omega)) ⟨rfl, rfl⟩ rfl hP (MP_r hC (hW.2.2.1 xv)).1 (MP_r hC (hW.2.2.1 xv)).2.1 rfl rfl rfl hl rfl (Nat.le_of_ble_eq_true rfl) dX6_narrowView_134 ⟨Nat.zero_le _, Nat.zero_le _⟩ (fun r119 e_r119 => ?_)
                        subst e_r119
                        have b_120 := @turn_b (vod μ (vvw μ xv)) xhigh (by omega)
                        refine q_iast C0 hP hD hS hC.2.2.2.2.2.1.1 hC.2.2.2.2.2.1.2 (i := xv) (v := (turn (vod μ (vvw μ xv)) xhigh)) (by omega) (by decide) dX6_narrowView_137 (fun H locs hP hD hS => ?_)
                        obtain ⟨F121, eF121⟩ : ∃ z, z = va_up F22 (uat G) (arrI (y 0) 2 (iu (vvh μ) xv (turn (vod μ (vvw μ xv)) xhigh))) := ⟨_, rfl⟩
                        have hP : va_P D vwCl (va_pl L F121) H := by rw [eF121]; exact hP
                        have hD : va_D (AL L sz) (va_pl L F121) := by rw [eF121]; exact hD
                        have hO : OE O F F121 := by rw [eF121]; exact hO.tr (OE1 (MP_O hC).2.2.2.2.2.1)
                        have hC : MP y L F121 O G (tVh (tTh μ (ltR (inR xv 0 1) 1)) xv (turn (vod μ (vvw μ xv)) xhigh)) := by rw [eF121]; exact MP_vh hC (va_up_self _ _ _) (fun q hq => va_up_ne _ _ hq)
                        refine lv_aload_n hx hb dX6_narrowView_138 rfl (lv_at hl 1 rfl) ?_
                        refine lv_iload_n hx hb dX6_narrowView_139 rfl (lv_at hl 2 rfl) ?_
                        refine q_vS C0 lX6_171 (c_X6_seen l D y L F121 O G (tVh (tTh μ (ltR (inR xv 0 1) 1)) xv (turn (vod μ (vvw μ xv)) xhigh)) xv hC (by omega) (by rw [show vvw (tVh (tTh μ (ltR (inR xv 0 1) 1)) xv (turn (vod μ (vvw μ xv)) xhigh)) xv = vvw μ xv from (by first | rfl | exact iu_s _ _ _)]; exact (hW.2.2.1 xv)) (by rw [show vvl (tVh (tTh μ (ltR (inR xv 0 1) 1)) xv (turn (vod μ (vvw μ xv)) xhigh)) xv = vvl μ xv from (by first | rfl | exact iu_s _ _ _)]; omega) (by rw [show vvh (tVh (tTh μ (ltR (inR xv 0 1) 1)) xv (turn (vod μ (vvw μ xv)) xhigh)) xv = (turn (vod μ (vvw μ xv)) xhigh) from (by first | rfl | exact iu_s _ _ _)]; omega)) ⟨rfl, rfl⟩ rfl hP hC.1.1 hC.1.2 rfl rfl rfl hl rfl (Nat.le_of_ble_eq_true rfl) dX6_narrowView_140 ⟨Nat.zero_le _, Nat.zero_le _⟩ (fun r122 e_r122 => ?_)
                        replace e_r122 : r122 = cntP (vst μ (vvw μ xv)) (vvl μ xv) (turn (vod μ (vvw μ xv)) xhigh) := e_r122.trans (by first | rfl | (rw [show vvw (tVh (tTh μ (ltR (inR xv 0 1) 1)) xv (turn (vod μ (vvw μ xv)) xhigh)) xv = vvw μ xv from (by first | rfl | exact iu_s _ _ _), show vvl (tVh (tTh μ (ltR (inR xv 0 1) 1)) xv (turn (vod μ (vvw μ xv)) xhigh)) xv = vvl μ xv from (by first | rfl | exact iu_s _ _ _), show vvh (tVh (tTh μ (ltR (inR xv 0 1) 1)) xv (turn (vod μ (vvw μ xv)) xhigh)) xv = (turn (vod μ (vvw μ xv)) xhigh) from (by first | rfl | exact iu_s _ _ _)]; done) | (rw [show vvw (tVh (tTh μ (ltR (inR xv 0 1) 1)) xv (turn (vod μ (vvw μ xv)) xhigh)) xv = vvw μ xv from (by first | rfl | exact iu_s _ _ _), show vvl (tVh (tTh μ (ltR (inR xv 0 1) 1)) xv (turn (vod μ (vvw μ xv)) xhigh)) xv = vvl μ xv from (by first | rfl | exact iu_s _ _ _), show vvh (tVh (tTh μ (ltR (inR xv 0 1) 1)) xv (turn (vod μ (vvw μ xv)) xhigh)) xv = (turn (vod μ (vvw μ xv)) xhigh) from (by first | rfl | exact iu_s _ _ _)]; rfl))
                        subst e_r122
                        exact q_retMi C0 hret rfl hlk dX6_narrowView_143 hP hD hS (⟨(by 
    have eN : ¬ (mnRef μ xv xkind xlow xhigh = 1) := by (unfold mnRef; (repeat' split) <;> first | rfl | omega)
    have eL : mnLo μ xv xkind xlow = (vvl μ xv) := by (unfold mnLo; first | (rw [if_pos (by omega)]; done) | (rw [if_neg (by omega)]; done))
    have eH : mnHi μ xv xkind xhigh = (turn (vod μ (vvw μ xv)) xhigh) := by (unfold mnHi; first | (rw [if_pos (by omega)]; done) | (rw [if_neg (by omega)]; done))
    unfold jR_narrowView; rw [if_pos (by omega), if_neg eN, eL, eH]), O, G, MP_eq hC (by 
    have eN : ¬ (mnRef μ xv xkind xlow xhigh = 1) := by (unfold mnRef; (repeat' split) <;> first | rfl | omega)
    have eL : mnLo μ xv xkind xlow = (vvl μ xv) := by (unfold mnLo; first | (rw [if_pos (by omega)]; done) | (rw [if_neg (by omega)]; done))
    have eH : mnHi μ xv xkind xhigh = (turn (vod μ (vvw μ xv)) xhigh) := by (unfold mnHi; first | (rw [if_pos (by omega)]; done) | (rw [if_neg (by omega)]; done))
    have lt_ := ltR_d (inR xv 0 1) 1; 
    unfold jS_narrowView; rw [if_pos (by omega), if_pos (by omega), if_neg eN, eL, eH, show ltR (inR xv 0 1) 1 = 0 by omega]; first | (exfalso; omega) | (rw [if_pos (by omega)]; done) | (rw [if_neg (by omega), if_pos (by omega)]; done) | (rw [if_neg (by omega), if_neg (by omega)]; done)), rfl, Ext0 hO⟩)
                      · refine lv_aload_n hx hb dX6_narrowView_108 rfl (lv_at hl 1 rfl) ?_
                        refine q_get C0 iX6 hP hC.1.1 hC.1.2 rfl 3 (by decide) flX6_21 rfl (v := .ref ((uaf G))) rfl dX6_narrowView_109 ?_
                        refine lv_iload_n hx hb dX6_narrowView_112 rfl (lv_at hl 2 rfl) ?_
                        refine lv_aload hx hb dX6_narrowView_113 (lv_at hl 0 rfl) ?_
                        refine lv_iload_n hx hb dX6_narrowView_115 rfl (lv_at hl 4 rfl) ?_
                        refine q_vS C0 lX6_93 (c_X5_rank l D y L F22 (urh G (vvw μ xv)) (urw G (vvw μ xv)) (vod μ (vvw μ xv)) (vst μ (vvw μ xv)) xlow (MP_r hC (hW.2.2.1 xv)) (by omega)) ⟨rfl, rfl⟩ rfl hP (MP_r hC (hW.2.2.1 xv)).1 (MP_r hC (hW.2.2.1 xv)).2.1 rfl rfl rfl hl rfl (Nat.le_of_ble_eq_true rfl) dX6_narrowView_116 ⟨Nat.zero_le _, Nat.zero_le _⟩ (fun r123 e_r123 => ?_)
                        subst e_r123
                        have b_124 := @turn_b (vod μ (vvw μ xv)) xlow (by omega)
                        refine q_iast C0 hP hD hS hC.2.2.2.2.1.1 hC.2.2.2.2.1.2 (i := xv) (v := (turn (vod μ (vvw μ xv)) xlow)) (by omega) (by decide) dX6_narrowView_119 (fun H locs hP hD hS => ?_)
                        obtain ⟨F125, eF125⟩ : ∃ z, z = va_up F22 (uaf G) (arrI (y 0) 2 (iu (vvl μ) xv (turn (vod μ (vvw μ xv)) xlow))) := ⟨_, rfl⟩
                        have hP : va_P D vwCl (va_pl L F125) H := by rw [eF125]; exact hP
                        have hD : va_D (AL L sz) (va_pl L F125) := by rw [eF125]; exact hD
                        have hO : OE O F F125 := by rw [eF125]; exact hO.tr (OE1 (MP_O hC).2.2.2.2.1)
                        have hC : MP y L F125 O G (tVl (tTh μ (ltR (inR xv 0 1) 1)) xv (turn (vod μ (vvw μ xv)) xlow)) := by rw [eF125]; exact MP_vl hC (va_up_self _ _ _) (fun q hq => va_up_ne _ _ hq)
                        refine lv_iload_n hx hb dX6_narrowView_120 rfl (lv_at hl 3 rfl) ?_
                        refine q_iconst hx hb dX6_narrowView_121 ?_
                        refine q_icmp_eq hx hb dX6_narrowView_122 (tgt := 138) (by decide) (by omega) (by omega) (fun c126 => absurd c126 (by omega)) (fun c126 => ?_)
                        refine lv_aload_n hx hb dX6_narrowView_125 rfl (lv_at hl 1 rfl) ?_
                        refine q_get C0 iX6 hP hC.1.1 hC.1.2 rfl 4 (by decide) flX6_25 rfl (v := .ref ((uat G))) rfl dX6_narrowView_126 ?_
                        refine lv_iload_n hx hb dX6_narrowView_129 rfl (lv_at hl 2 rfl) ?_
                        refine lv_aload hx hb dX6_narrowView_130 (lv_at hl 0 rfl) ?_
                        refine lv_iload hx hb dX6_narrowView_132 (lv_at hl 5 rfl) ?_
                        refine q_vS C0 lX6_93 (c_X5_rank l D y L F125 (urh G (vvw μ xv)) (urw G (vvw μ xv)) (vod μ (vvw μ xv)) (vst μ (vvw μ xv)) xhigh (MP_r hC (hW.2.2.1 xv)) (by omega)) ⟨rfl, rfl⟩ rfl hP (MP_r hC (hW.2.2.1 xv)).1 (MP_r hC (hW.2.2.1 xv)).2.1 rfl rfl rfl hl rfl (Nat.le_of_ble_eq_true rfl) dX6_narrowView_134 ⟨Nat.zero_le _, Nat.zero_le _⟩ (fun r127 e_r127 => ?_)
                        subst e_r127
                        have b_128 := @turn_b (vod μ (vvw μ xv)) xhigh (by omega)
                        refine q_iast C0 hP hD hS hC.2.2.2.2.2.1.1 hC.2.2.2.2.2.1.2 (i := xv) (v := (turn (vod μ (vvw μ xv)) xhigh)) (by omega) (by decide) dX6_narrowView_137 (fun H locs hP hD hS => ?_)
                        obtain ⟨F129, eF129⟩ : ∃ z, z = va_up F125 (uat G) (arrI (y 0) 2 (iu (vvh μ) xv (turn (vod μ (vvw μ xv)) xhigh))) := ⟨_, rfl⟩
                        have hP : va_P D vwCl (va_pl L F129) H := by rw [eF129]; exact hP
                        have hD : va_D (AL L sz) (va_pl L F129) := by rw [eF129]; exact hD
                        have hO : OE O F F129 := by rw [eF129]; exact hO.tr (OE1 (MP_O hC).2.2.2.2.2.1)
                        have hC : MP y L F129 O G (tVh (tVl (tTh μ (ltR (inR xv 0 1) 1)) xv (turn (vod μ (vvw μ xv)) xlow)) xv (turn (vod μ (vvw μ xv)) xhigh)) := by rw [eF129]; exact MP_vh hC (va_up_self _ _ _) (fun q hq => va_up_ne _ _ hq)
                        refine lv_aload_n hx hb dX6_narrowView_138 rfl (lv_at hl 1 rfl) ?_
                        refine lv_iload_n hx hb dX6_narrowView_139 rfl (lv_at hl 2 rfl) ?_
                        refine q_vS C0 lX6_171 (c_X6_seen l D y L F129 O G (tVh (tVl (tTh μ (ltR (inR xv 0 1) 1)) xv (turn (vod μ (vvw μ xv)) xlow)) xv (turn (vod μ (vvw μ xv)) xhigh)) xv hC (by omega) (by rw [show vvw (tVh (tVl (tTh μ (ltR (inR xv 0 1) 1)) xv (turn (vod μ (vvw μ xv)) xlow)) xv (turn (vod μ (vvw μ xv)) xhigh)) xv = vvw μ xv from (by first | rfl | exact iu_s _ _ _)]; exact (hW.2.2.1 xv)) (by rw [show vvl (tVh (tVl (tTh μ (ltR (inR xv 0 1) 1)) xv (turn (vod μ (vvw μ xv)) xlow)) xv (turn (vod μ (vvw μ xv)) xhigh)) xv = (turn (vod μ (vvw μ xv)) xlow) from (by first | rfl | exact iu_s _ _ _)]; omega) (by rw [show vvh (tVh (tVl (tTh μ (ltR (inR xv 0 1) 1)) xv (turn (vod μ (vvw μ xv)) xlow)) xv (turn (vod μ (vvw μ xv)) xhigh)) xv = (turn (vod μ (vvw μ xv)) xhigh) from (by first | rfl | exact iu_s _ _ _)]; omega)) ⟨rfl, rfl⟩ rfl hP hC.1.1 hC.1.2 rfl rfl rfl hl rfl (Nat.le_of_ble_eq_true rfl) dX6_narrowView_140 ⟨Nat.zero_le _, Nat.zero_le _⟩ (fun r130 e_r130 => ?_)
                        replace e_r130 : r130 = cntP (vst μ (vvw μ xv)) (turn (vod μ (vvw μ xv)) xlow) (turn (vod μ (vvw μ xv)) xhigh) := e_r130.trans (by first | rfl | (rw [show vvw (tVh (tVl (tTh μ (ltR (inR xv 0 1) 1)) xv (turn (vod μ (vvw μ xv)) xlow)) xv (turn (vod μ (vvw μ xv)) xhigh)) xv = vvw μ xv from (by first | rfl | exact iu_s _ _ _), show vvl (tVh (tVl (tTh μ (ltR (inR xv 0 1) 1)) xv (turn (vod μ (vvw μ xv)) xlow)) xv (turn (vod μ (vvw μ xv)) xhigh)) xv = (turn (vod μ (vvw μ xv)) xlow) from (by first | rfl | exact iu_s _ _ _), show vvh (tVh (tVl (tTh μ (ltR (inR xv 0 1) 1)) xv (turn (vod μ (vvw μ xv)) xlow)) xv (turn (vod μ (vvw μ xv)) xhigh)) xv = (turn (vod μ (vvw μ xv)) xhigh) from (by first | rfl | exact iu_s _ _ _)]; done) | (rw [show vvw (tVh (tVl (tTh μ (ltR (inR xv 0 1) 1)) xv (turn (vod μ (vvw μ xv)) xlow)) xv (turn (vod μ (vvw μ xv)) xhigh)) xv = vvw μ xv from (by first | rfl | exact iu_s _ _ _), show vvl (tVh (tVl (tTh μ (ltR (inR xv 0 1) 1)) xv (turn (vod μ (vvw μ xv)) xlow)) xv (turn (vod μ (vvw μ xv)) xhigh)) xv = (turn (vod μ (vvw μ xv)) xlow) from (by first | rfl | exact iu_s _ _ _), show vvh (tVh (tVl (tTh μ (ltR (inR xv 0 1) 1)) xv (turn (vod μ (vvw μ xv)) xlow)) xv (turn (vod μ (vvw μ xv)) xhigh)) xv = (turn (vod μ (vvw μ xv)) xhigh) from (by first | rfl | exact iu_s _ _ _)]; rfl))
                        subst e_r130
                        exact q_retMi C0 hret rfl hlk dX6_narrowView_143 hP hD hS (⟨(by 
    have eN : ¬ (mnRef μ xv xkind xlow xhigh = 1) := by (unfold mnRef; (repeat' split) <;> first | rfl | omega)
    have eL : mnLo μ xv xkind xlow = (turn (vod μ (vvw μ xv)) xlow) := by (unfold mnLo; first | (rw [if_pos (by omega)]; done) | (rw [if_neg (by omega)]; done))
    have eH : mnHi μ xv xkind xhigh = (turn (vod μ (vvw μ xv)) xhigh) := by (unfold mnHi; first | (rw [if_pos (by omega)]; done) | (rw [if_neg (by omega)]; done))
    unfold jR_narrowView; rw [if_pos (by omega), if_neg eN, eL, eH]), O, G, MP_eq hC (by 
    have eN : ¬ (mnRef μ xv xkind xlow xhigh = 1) := by (unfold mnRef; (repeat' split) <;> first | rfl | omega)
    have eL : mnLo μ xv xkind xlow = (turn (vod μ (vvw μ xv)) xlow) := by (unfold mnLo; first | (rw [if_pos (by omega)]; done) | (rw [if_neg (by omega)]; done))
    have eH : mnHi μ xv xkind xhigh = (turn (vod μ (vvw μ xv)) xhigh) := by (unfold mnHi; first | (rw [if_pos (by omega)]; done) | (rw [if_neg (by omega)]; done))
    have lt_ := ltR_d (inR xv 0 1) 1; 
    unfold jS_narrowView; rw [if_pos (by omega), if_pos (by omega), if_neg eN, eL, eH, show ltR (inR xv 0 1) 1 = 0 by omega]; first | (exfalso; omega) | (rw [if_pos (by omega)]; done) | (rw [if_neg (by omega), if_pos (by omega)]; done) | (rw [if_neg (by omega), if_neg (by omega)]; done)), rfl, Ext0 hO⟩)
                    · refine lv_aload_n hx hb dX6_narrowView_99 rfl (lv_at hl 1 rfl) ?_
                      refine q_vMi C0 lX6_89 (c_X6_refuse l D y L F22 _ O G (tTh μ (ltR (inR xv 0 1) 1)) hC) ⟨rfl, rfl⟩ rfl hP hD hS hA hC.1.1 hC.1.2 rfl rfl rfl hl rfl (Nat.le_of_ble_eq_true rfl) dX6_narrowView_100 ⟨Nat.le_of_ble_eq_true rfl, Nat.le_of_ble_eq_true rfl⟩ (fun r131 H locs L132 F132 hP hD hS hz132 hp132 => ?_)
                      obtain ⟨eL, hC, er, hO1⟩ := hp132
                      subst eL
                      replace er : (-9) = r131 := er.symm
                      subst er
                      have hO := hO.tr hO1
                      exact q_retMi C0 hret rfl hlk dX6_narrowView_103 hP hD hS (⟨(by 
    have eN : mnRef μ xv xkind xlow xhigh = 1 := by (unfold mnRef; (repeat' split) <;> first | rfl | omega)
    unfold jR_narrowView; rw [if_pos (by omega), if_pos eN]), O, G, MP_eq hC (by 
    have eN : mnRef μ xv xkind xlow xhigh = 1 := by (unfold mnRef; (repeat' split) <;> first | rfl | omega)
    have lt_ := ltR_d (inR xv 0 1) 1; 
    unfold jS_narrowView; rw [if_pos (by omega), if_pos (by omega), if_pos eN, show ltR (inR xv 0 1) 1 = 0 by omega]), rfl, Ext0 hO⟩)
        · replace k_23 := k_23.resolve_left (fun h => absurd (h.1.symm.trans c24) (by decide))
          refine q_iconst hx hb dX6_narrowView_40 ?_
          exact q_retMi C0 hret rfl hlk dX6_narrowView_41 hP hD hS (⟨(by unfold jR_narrowView; rw [if_neg (by omega)]), O, G, MP_eq hC (by have lt_ := ltR_d (inR xv 0 1) 1; unfold jS_narrowView; rcases lt_ with lt_ | lt_ | lt_ <;> first | (rw [if_neg (by omega), lt_.1]; done) | (rw [if_pos (by omega), if_neg (by omega), lt_.1]; done) | (exfalso; omega)), rfl, Ext0 hO⟩)
