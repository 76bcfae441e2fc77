set_option maxHeartbeats 3000000 in
set_option maxRecDepth 100000 in
theorem c_X6_openView (l : Launch) (D : va_G) (y : Nat → ClassId) (L : List Nat) (F : Nat → va_E) (sz : Nat) (O : Nat → Prop) (G : MG) (μ : MS) (xv : Int) (xb : Int) (xkind : Int) (xlow : Int) (xhigh : Int) (xends : Int) (hC : MP y L F O G μ) (hW : MW μ) (h_xv : -2147483648 ≤ xv ∧ xv ≤ 2147483647) (h_xb : -2147483648 ≤ xb ∧ xb ≤ 2147483647) (h_xkind : -2147483648 ≤ xkind ∧ xkind ≤ 2147483647) (h_xlow : -2147483648 ≤ xlow ∧ xlow ≤ 2147483647) (h_xhigh : -2147483648 ≤ xhigh ∧ xhigh ≤ 2147483647) (h_xends : -2147483648 ≤ xends ∧ xends ≤ 2147483647) : Met l yX6_openView (.code yX6_openView cX6_openView 8 (some .int) :: Tt) ({ frames := 3, cells := 0, slots := 0, locals := 66 }) (PcM D y L F sz [.ref ((ubg G)), .int (iI xv), .int (iI xb), .int (iI xkind), .int (iI xlow), .int (iI xhigh), .int (iI xends)]) (cMi D (AL L sz) (fun r L1 F1 => r = jR_openView μ xv xb xkind xlow xhigh xends ∧ ∃ (O1 : Nat → Prop) (G1 : MG), MP y L1 F1 O1 G1 (jS_openView μ xv xb xkind xlow xhigh xends) ∧ ubg G1 = ubg G ∧ Ext O O1 L L1 F F1)) 0 0 (AL L sz) := by
  have hO : OE O F F := fun _ _ => rfl
  have hw5 := hW.2.2.2.2.2.1
  have hw6 := hW.2.2.2.2.2.2.1
  have hw7 := hW.2.2.2.2.2.2.2.1
  refine q_ofM (lv := [(0, .ref ((ubg G))), (1, .int (iI xv)), (2, .int (iI xb)), (3, .int (iI xkind)), (4, .int (iI xlow)), (5, .int (iI xhigh)), (6, .int (iI xends))]) (by decide) (Nat.le_of_ble_eq_true rfl) rfl (fun p e s m below meth c C0 hret hlk hnm hA hP hD hS ls hl => ?_)
  have hx := C0.1.1
  have hb := C0.1.2.1
  have hts := C0.1.2.2.2.2
  refine lv_aload_n hx hb dX6_openView_0 rfl (lv_at hl 0 rfl) ?_
  refine lv_iload_n hx hb dX6_openView_1 rfl (lv_at hl 1 rfl) ?_
  refine q_sS C0 lX6_168 (c_X6_isView l D y L F xv (by omega)) ⟨rfl, rfl⟩ rfl hP rfl hl rfl (Nat.le_of_ble_eq_true rfl) dX6_openView_2 ⟨Nat.zero_le _, Nat.zero_le _⟩ (fun r1 e_r1 => ?_)
  subst e_r1
  have b_2 := inR_d xv 0 1
  refine q_if_eq hx hb dX6_openView_5 (tgt := 19) (by decide) (by omega) (fun c3 => ?_) (fun c3 => ?_)
  · replace b_2 := b_2.resolve_left (fun h => absurd (h.1.symm.trans c3) (by decide))
    refine q_iconst hx hb dX6_openView_19 ?_
    refine lv_iload_n hx hb dX6_openView_20 rfl (lv_at hl 3 rfl) ?_
    refine q_iconst hx hb dX6_openView_21 ?_
    refine q_iconst hx hb dX6_openView_22 ?_
    refine q_sS C0 lX6_41 (c_X6_isIn l D y L F xkind 0 2 (by omega) (by omega) (by omega)) ⟨rfl, rfl⟩ rfl hP rfl hl rfl (Nat.le_of_ble_eq_true rfl) dX6_openView_23 ⟨Nat.zero_le _, Nat.zero_le _⟩ (fun r4 e_r4 => ?_)
    subst e_r4
    have b_5 := inR_d xkind 0 2
    refine q_if_eq hx hb dX6_openView_26 (tgt := 59) (by decide) (by omega) (fun c6 => ?_) (fun c6 => ?_)
    · replace b_5 := b_5.resolve_left (fun h => absurd (h.1.symm.trans c6) (by decide))
      refine q_iconst hx hb dX6_openView_59 ?_
      refine q_vMi C0 lX6_63 (c_X6_isLet l D y L F _ O G μ 0 0 hC (by omega) (by omega)) ⟨rfl, rfl⟩ rfl hP hD hS hA hC.1.1 hC.1.2 rfl rfl rfl hl rfl (Nat.le_of_ble_eq_true rfl) dX6_openView_60 ⟨Nat.le_of_ble_eq_true rfl, Nat.le_of_ble_eq_true rfl⟩ (fun r7 H locs L8 F8 hP hD hS hz8 hp8 => ?_)
      obtain ⟨eL, hC, er, hO1⟩ := hp8
      subst eL
      replace er := (er.trans (okR_z _)).symm
      subst er
      have hO := hO.tr hO1
      refine q_if_ne hx hb dX6_openView_63 (tgt := 68) (by decide) (by omega) (fun c9 => absurd c9 (by omega)) (fun c9 => ?_)
      refine q_iconst hx hb dX6_openView_66 ?_
      exact q_retMi C0 hret rfl hlk dX6_openView_67 hP hD hS (⟨(by unfold jR_openView; rw [if_neg (by omega)]), O, G, MP_eq hC (by have lt_ := ltR_d 0 0; unfold jS_openView; rcases lt_ with lt_ | lt_ | lt_ <;> first | (rw [if_neg (by omega), lt_.1]; done) | (rw [if_pos (by omega), if_neg (by omega), lt_.1]; done) | (exfalso; omega)), rfl, Ext0 hO⟩)
    · replace b_5 := b_5.resolve_right (fun h => c6 h.1)
      refine lv_iload hx hb dX6_openView_29 (lv_at hl 4 rfl) ?_
      refine q_sS C0 lX6_86 (c_X6_isKey l D y L F xlow (by omega)) ⟨rfl, rfl⟩ rfl hP rfl hl rfl (Nat.le_of_ble_eq_true rfl) dX6_openView_31 ⟨Nat.zero_le _, Nat.zero_le _⟩ (fun r10 e_r10 => ?_)
      subst e_r10
      have b_11 := inR_d xlow 0 99
      refine q_if_eq hx hb dX6_openView_34 (tgt := 59) (by decide) (by omega) (fun c12 => ?_) (fun c12 => ?_)
      · replace b_11 := b_11.resolve_left (fun h => absurd (h.1.symm.trans c12) (by decide))
        refine q_iconst hx hb dX6_openView_59 ?_
        refine q_vMi C0 lX6_63 (c_X6_isLet l D y L F _ O G μ 0 0 hC (by omega) (by omega)) ⟨rfl, rfl⟩ rfl hP hD hS hA hC.1.1 hC.1.2 rfl rfl rfl hl rfl (Nat.le_of_ble_eq_true rfl) dX6_openView_60 ⟨Nat.le_of_ble_eq_true rfl, Nat.le_of_ble_eq_true rfl⟩ (fun r13 H locs L14 F14 hP hD hS hz14 hp14 => ?_)
        obtain ⟨eL, hC, er, hO1⟩ := hp14
        subst eL
        replace er := (er.trans (okR_z _)).symm
        subst er
        have hO := hO.tr hO1
        refine q_if_ne hx hb dX6_openView_63 (tgt := 68) (by decide) (by omega) (fun c15 => absurd c15 (by omega)) (fun c15 => ?_)
        refine q_iconst hx hb dX6_openView_66 ?_
        exact q_retMi C0 hret rfl hlk dX6_openView_67 hP hD hS (⟨(by unfold jR_openView; rw [if_neg (by omega)]), O, G, MP_eq hC (by have lt_ := ltR_d 0 0; unfold jS_openView; rcases lt_ with lt_ | lt_ | lt_ <;> first | (rw [if_neg (by omega), lt_.1]; done) | (rw [if_pos (by omega), if_neg (by omega), lt_.1]; done) | (exfalso; omega)), rfl, Ext0 hO⟩)
      · replace b_11 := b_11.resolve_right (fun h => c12 h.1)
        refine lv_iload hx hb dX6_openView_37 (lv_at hl 5 rfl) ?_
        refine q_sS C0 lX6_86 (c_X6_isKey l D y L F xhigh (by omega)) ⟨rfl, rfl⟩ rfl hP rfl hl rfl (Nat.le_of_ble_eq_true rfl) dX6_openView_39 ⟨Nat.zero_le _, Nat.zero_le _⟩ (fun r16 e_r16 => ?_)
        subst e_r16
        have b_17 := inR_d xhigh 0 99
        refine q_if_eq hx hb dX6_openView_42 (tgt := 59) (by decide) (by omega) (fun c18 => ?_) (fun c18 => ?_)
        · replace b_17 := b_17.resolve_left (fun h => absurd (h.1.symm.trans c18) (by decide))
          refine q_iconst hx hb dX6_openView_59 ?_
          refine q_vMi C0 lX6_63 (c_X6_isLet l D y L F _ O G μ 0 0 hC (by omega) (by omega)) ⟨rfl, rfl⟩ rfl hP hD hS hA hC.1.1 hC.1.2 rfl rfl rfl hl rfl (Nat.le_of_ble_eq_true rfl) dX6_openView_60 ⟨Nat.le_of_ble_eq_true rfl, Nat.le_of_ble_eq_true rfl⟩ (fun r19 H locs L20 F20 hP hD hS hz20 hp20 => ?_)
          obtain ⟨eL, hC, er, hO1⟩ := hp20
          subst eL
          replace er := (er.trans (okR_z _)).symm
          subst er
          have hO := hO.tr hO1
          refine q_if_ne hx hb dX6_openView_63 (tgt := 68) (by decide) (by omega) (fun c21 => absurd c21 (by omega)) (fun c21 => ?_)
          refine q_iconst hx hb dX6_openView_66 ?_
          exact q_retMi C0 hret rfl hlk dX6_openView_67 hP hD hS (⟨(by unfold jR_openView; rw [if_neg (by omega)]), O, G, MP_eq hC (by have lt_ := ltR_d 0 0; unfold jS_openView; rcases lt_ with lt_ | lt_ | lt_ <;> first | (rw [if_neg (by omega), lt_.1]; done) | (rw [if_pos (by omega), if_neg (by omega), lt_.1]; done) | (exfalso; omega)), rfl, Ext0 hO⟩)
        · replace b_17 := b_17.resolve_right (fun h => c18 h.1)
          refine lv_iload hx hb dX6_openView_45 (lv_at hl 6 rfl) ?_
          refine q_iconst hx hb dX6_openView_47 ?_
          refine q_iconst hx hb dX6_openView_48 ?_
          refine q_sS C0 lX6_41 (c_X6_isIn l D y L F xends 0 3 (by omega) (by omega) (by omega)) ⟨rfl, rfl⟩ rfl hP rfl hl rfl (Nat.le_of_ble_eq_true rfl) dX6_openView_49 ⟨Nat.zero_le _, Nat.zero_le _⟩ (fun r22 e_r22 => ?_)
          subst e_r22
          have b_23 := inR_d xends 0 3
          refine q_if_eq hx hb dX6_openView_52 (tgt := 59) (by decide) (by omega) (fun c24 => ?_) (fun c24 => ?_)
          · replace b_23 := b_23.resolve_left (fun h => absurd (h.1.symm.trans c24) (by decide))
            refine q_iconst hx hb dX6_openView_59 ?_
            refine q_vMi C0 lX6_63 (c_X6_isLet l D y L F _ O G μ 0 0 hC (by omega) (by omega)) ⟨rfl, rfl⟩ rfl hP hD hS hA hC.1.1 hC.1.2 rfl rfl rfl hl rfl (Nat.le_of_ble_eq_true rfl) dX6_openView_60 ⟨Nat.le_of_ble_eq_true rfl, Nat.le_of_ble_eq_true rfl⟩ (fun r25 H locs L26 F26 hP hD hS hz26 hp26 => ?_)
            obtain ⟨eL, hC, er, hO1⟩ := hp26
            subst eL
            replace er := (er.trans (okR_z _)).symm
            subst er
            have hO := hO.tr hO1
            refine q_if_ne hx hb dX6_openView_63 (tgt := 68) (by decide) (by omega) (fun c27 => absurd c27 (by omega)) (fun c27 => ?_)
            refine q_iconst hx hb dX6_openView_66 ?_
            exact q_retMi C0 hret rfl hlk dX6_openView_67 hP hD hS (⟨(by unfold jR_openView; rw [if_neg (by omega)]), O, G, MP_eq hC (by have lt_ := ltR_d 0 0; unfold jS_openView; rcases lt_ with lt_ | lt_ | lt_ <;> first | (rw [if_neg (by omega), lt_.1]; done) | (rw [if_pos (by omega), if_neg (by omega), lt_.1]; done) | (exfalso; omega)), rfl, Ext0 hO⟩)
          · replace b_23 := b_23.resolve_right (fun h => c24 h.1)
            refine q_iconst hx hb dX6_openView_55 ?_
            refine lv_goto (tgt := 60) hx hb dX6_openView_56 (by decide) ?_
            refine q_vMi C0 lX6_63 (c_X6_isLet l D y L F _ O G μ 0 1 hC (by omega) (by omega)) ⟨rfl, rfl⟩ rfl hP hD hS hA hC.1.1 hC.1.2 rfl rfl rfl hl rfl (Nat.le_of_ble_eq_true rfl) dX6_openView_60 ⟨Nat.le_of_ble_eq_true rfl, Nat.le_of_ble_eq_true rfl⟩ (fun r28 H locs L29 F29 hP hD hS hz29 hp29 => ?_)
            obtain ⟨eL, hC, er, hO1⟩ := hp29
            subst eL
            replace er := er.symm
            subst er
            have hO := hO.tr hO1
            have k_30 := okR_d 0 1
            refine q_if_ne hx hb dX6_openView_63 (tgt := 68) (by decide) (by omega) (fun c31 => ?_) (fun c31 => ?_)
            · replace k_30 := k_30.resolve_right (fun h => c31 h.1)
              refine lv_aload_n hx hb dX6_openView_68 rfl (lv_at hl 0 rfl) ?_
              refine q_get C0 iX6 hP hC.1.1 hC.1.2 rfl 0 (by decide) flX6_11 rfl (v := .ref ((uab G))) rfl dX6_openView_69 ?_
              refine lv_iload_n hx hb dX6_openView_72 rfl (lv_at hl 2 rfl) ?_
              refine q_aald C0 hP hC.2.1.1 hC.2.1.2 (t := 3) rfl (by omega) (by decide) (v := .ref ((urh G (vbk μ xb)))) rfl dX6_openView_73 ?_
              refine lv_astore (lv' := [(7, .ref ((urh G (vbk μ xb)))), (0, .ref ((ubg G))), (1, .int (iI xv)), (2, .int (iI xb)), (3, .int (iI xkind)), (4, .int (iI xlow)), (5, .int (iI xhigh)), (6, .int (iI xends))]) hx hb dX6_openView_74 hl (by decide) rfl (fun ls hl => ?_)
              refine lv_iload_n hx hb dX6_openView_76 rfl (lv_at hl 4 rfl) ?_
              refine q_iconst hx hb dX6_openView_77 ?_
              refine q_icmp_ne hx hb dX6_openView_78 (tgt := 103) (by decide) (by omega) (by omega) (fun c32 => ?_) (fun c32 => ?_)
              · refine lv_aload_n hx hb dX6_openView_103 rfl (lv_at hl 1 rfl) ?_
                refine q_get C0 iX6 hP hC.1.1 hC.1.2 rfl 2 (by decide) flX6_18 rfl (v := .ref ((uav G))) rfl dX6_openView_104 ?_
                refine lv_iload_n hx hb dX6_openView_107 rfl (lv_at hl 2 rfl) ?_
                refine lv_aload hx hb dX6_openView_108 (lv_at hl 0 rfl) ?_
                refine q_aast C0 hP hD hS hC.2.2.2.1.1 hC.2.2.2.1.2 (t := 3) (r := (RX5, TX5, 2)) rfl (MP_r hC (hW.1 xb)).1 (MP_r hC (hW.1 xb)).2.1 rfl (by omega) (by decide) dX6_openView_110 (fun H locs hP hD hS => ?_)
                obtain ⟨F33, eF33⟩ : ∃ z, z = va_up F29 (uav G) (arrQ (y 3) 2 (iu (fun j => some (urh G (vvw (tTh μ (ltR 0 1)) j))) xv (some (urh G (vbk μ xb))))) := ⟨_, rfl⟩
                have hP : va_P D vwCl (va_pl L F33) H := by rw [eF33]; exact hP
                have hD : va_D (AL L sz) (va_pl L F33) := by rw [eF33]; exact hD
                have hO : OE O F F33 := by rw [eF33]; exact hO.tr (OE1 (MP_O hC).2.2.2.1)
                have hC : MP y L F33 O G (tVw (tTh μ (ltR 0 1)) xv (vbk μ xb)) := by rw [eF33]; exact MP_vw hC (va_up_self _ _ _) (fun q hq => va_up_ne _ _ hq)
                refine lv_aload_n hx hb dX6_openView_111 rfl (lv_at hl 1 rfl) ?_
                refine q_get C0 iX6 hP hC.1.1 hC.1.2 rfl 3 (by decide) flX6_21 rfl (v := .ref ((uaf G))) rfl dX6_openView_112 ?_
                refine lv_iload_n hx hb dX6_openView_115 rfl (lv_at hl 2 rfl) ?_
                refine lv_iload_n hx hb dX6_openView_116 rfl (lv_at hl 4 rfl) ?_
                refine q_if_ne hx hb dX6_openView_117 (tgt := 124) (by decide) (by omega) (fun c34 => ?_) (fun c34 => ?_)
                · refine lv_aload hx hb dX6_openView_124 (lv_at hl 0 rfl) ?_
                  refine lv_iload hx hb dX6_openView_126 (lv_at hl 5 rfl) ?_
                  refine q_vS C0 lX6_93 (c_X5_rank l D y L F33 (urh G (vbk μ xb)) (urw G (vbk μ xb)) (vod μ (vbk μ xb)) (vst μ (vbk μ xb)) xlow (MP_r hC (hW.1 xb)) (by omega)) ⟨rfl, rfl⟩ rfl hP (MP_r hC (hW.1 xb)).1 (MP_r hC (hW.1 xb)).2.1 rfl rfl rfl hl rfl (Nat.le_of_ble_eq_true rfl) dX6_openView_128 ⟨Nat.zero_le _, Nat.zero_le _⟩ (fun r35 e_r35 => ?_)
                  subst e_r35
                  have b_36 := @turn_b (vod μ (vbk μ xb)) xlow (by omega)
                  refine q_iconst hx hb dX6_openView_131 ?_
                  refine q_iadd hx hb dX6_openView_132 ?_
                  refine lv_iload hx hb dX6_openView_133 (lv_at hl 7 rfl) ?_
                  refine q_iconst hx hb dX6_openView_135 ?_
                  refine q_irem hx hb dX6_openView_136 (by omega) (by omega) ?_
                  refine q_isub hx hb dX6_openView_137 ?_
                  refine q_iast C0 hP hD hS hC.2.2.2.2.1.1 hC.2.2.2.2.1.2 (i := xv) (v := (((turn (vod μ (vbk μ xb)) xlow) + 1) - (xends % 2))) (by omega) (by decide) dX6_openView_138 (fun H locs hP hD hS => ?_)
                  obtain ⟨F37, eF37⟩ : ∃ z, z = va_up F33 (uaf G) (arrI (y 0) 2 (iu (vvl μ) xv (((turn (vod μ (vbk μ xb)) xlow) + 1) - (xends % 2)))) := ⟨_, rfl⟩
                  have hP : va_P D vwCl (va_pl L F37) H := by rw [eF37]; exact hP
                  have hD : va_D (AL L sz) (va_pl L F37) := by rw [eF37]; exact hD
                  have hO : OE O F F37 := by rw [eF37]; exact hO.tr (OE1 (MP_O hC).2.2.2.2.1)
                  have hC : MP y L F37 O G (tVl (tVw (tTh μ (ltR 0 1)) xv (vbk μ xb)) xv (((turn (vod μ (vbk μ xb)) xlow) + 1) - (xends % 2))) := by rw [eF37]; exact MP_vl hC (va_up_self _ _ _) (fun q hq => va_up_ne _ _ hq)
                  refine lv_aload_n hx hb dX6_openView_139 rfl (lv_at hl 1 rfl) ?_
                  refine q_get C0 iX6 hP hC.1.1 hC.1.2 rfl 4 (by decide) flX6_25 rfl (v := .ref ((uat G))) rfl dX6_openView_140 ?_
                  refine lv_iload_n hx hb dX6_openView_143 rfl (lv_at hl 2 rfl) ?_
                  refine lv_iload_n hx hb dX6_openView_144 rfl (lv_at hl 4 rfl) ?_
                  refine q_iconst hx hb dX6_openView_145 ?_
                  refine q_icmp_ne hx hb dX6_openView_146 (tgt := 154) (by decide) (by omega) (by omega) (fun c38 => ?_) (fun c38 => ?_)
                  · refine lv_aload hx hb dX6_openView_154 (lv_at hl 0 rfl) ?_
                    refine lv_iload hx hb dX6_openView_156 (lv_at hl 6 rfl) ?_
                    refine q_vS C0 lX6_93 (c_X5_rank l D y L F37 (urh G (vbk μ xb)) (urw G (vbk μ xb)) (vod μ (vbk μ xb)) (vst μ (vbk μ xb)) xhigh (MP_r hC (hW.1 xb)) (by omega)) ⟨rfl, rfl⟩ rfl hP (MP_r hC (hW.1 xb)).1 (MP_r hC (hW.1 xb)).2.1 rfl rfl rfl hl rfl (Nat.le_of_ble_eq_true rfl) dX6_openView_158 ⟨Nat.zero_le _, Nat.zero_le _⟩ (fun r39 e_r39 => ?_)
                    subst e_r39
                    have b_40 := @turn_b (vod μ (vbk μ xb)) xhigh (by omega)
                    refine q_iconst hx hb dX6_openView_161 ?_
                    refine q_isub hx hb dX6_openView_162 ?_
                    refine lv_iload hx hb dX6_openView_163 (lv_at hl 7 rfl) ?_
                    refine q_iconst hx hb dX6_openView_165 ?_
                    refine q_idiv hx hb dX6_openView_166 (by omega) (by omega) ?_
                    refine q_iadd hx hb dX6_openView_167 ?_
                    refine q_iast C0 hP hD hS hC.2.2.2.2.2.1.1 hC.2.2.2.2.2.1.2 (i := xv) (v := (((turn (vod μ (vbk μ xb)) xhigh) - 1) + (xends / 2))) (by omega) (by decide) dX6_openView_168 (fun H locs hP hD hS => ?_)
                    obtain ⟨F41, eF41⟩ : ∃ z, z = va_up F37 (uat G) (arrI (y 0) 2 (iu (vvh μ) xv (((turn (vod μ (vbk μ xb)) xhigh) - 1) + (xends / 2)))) := ⟨_, rfl⟩
                    have hP : va_P D vwCl (va_pl L F41) H := by rw [eF41]; exact hP
                    have hD : va_D (AL L sz) (va_pl L F41) := by rw [eF41]; exact hD
                    have hO : OE O F F41 := by rw [eF41]; exact hO.tr (OE1 (MP_O hC).2.2.2.2.2.1)
                    have hC : MP y L F41 O G (tVh (tVl (tVw (tTh μ (ltR 0 1)) xv (vbk μ xb)) xv (((turn (vod μ (vbk μ xb)) xlow) + 1) - (xends % 2))) xv (((turn (vod μ (vbk μ xb)) xhigh) - 1) + (xends / 2))) := by rw [eF41]; exact MP_vh hC (va_up_self _ _ _) (fun q hq => va_up_ne _ _ hq)
                    refine lv_aload_n hx hb dX6_openView_169 rfl (lv_at hl 1 rfl) ?_
                    refine lv_iload_n hx hb dX6_openView_170 rfl (lv_at hl 2 rfl) ?_
                    refine q_vS C0 lX6_171 (c_X6_seen l D y L F41 O G (tVh (tVl (tVw (tTh μ (ltR 0 1)) xv (vbk μ xb)) xv (((turn (vod μ (vbk μ xb)) xlow) + 1) - (xends % 2))) xv (((turn (vod μ (vbk μ xb)) xhigh) - 1) + (xends / 2))) xv hC (by omega) (by rw [show vvw (tVh (tVl (tVw (tTh μ (ltR 0 1)) xv (vbk μ xb)) xv (((turn (vod μ (vbk μ xb)) xlow) + 1) - (xends % 2))) xv (((turn (vod μ (vbk μ xb)) xhigh) - 1) + (xends / 2))) xv = (vbk μ xb) from (by first | rfl | exact iu_s _ _ _)]; exact (hW.1 xb)) (by rw [show vvl (tVh (tVl (tVw (tTh μ (ltR 0 1)) xv (vbk μ xb)) xv (((turn (vod μ (vbk μ xb)) xlow) + 1) - (xends % 2))) xv (((turn (vod μ (vbk μ xb)) xhigh) - 1) + (xends / 2))) xv = (((turn (vod μ (vbk μ xb)) xlow) + 1) - (xends % 2)) from (by first | rfl | exact iu_s _ _ _)]; omega) (by rw [show vvh (tVh (tVl (tVw (tTh μ (ltR 0 1)) xv (vbk μ xb)) xv (((turn (vod μ (vbk μ xb)) xlow) + 1) - (xends % 2))) xv (((turn (vod μ (vbk μ xb)) xhigh) - 1) + (xends / 2))) xv = (((turn (vod μ (vbk μ xb)) xhigh) - 1) + (xends / 2)) from (by first | rfl | exact iu_s _ _ _)]; omega)) ⟨rfl, rfl⟩ rfl hP hC.1.1 hC.1.2 rfl rfl rfl hl rfl (Nat.le_of_ble_eq_true rfl) dX6_openView_171 ⟨Nat.zero_le _, Nat.zero_le _⟩ (fun r42 e_r42 => ?_)
                    replace e_r42 : r42 = cntP (vst μ (vbk μ xb)) (((turn (vod μ (vbk μ xb)) xlow) + 1) - (xends % 2)) (((turn (vod μ (vbk μ xb)) xhigh) - 1) + (xends / 2)) := e_r42.trans (by first | rfl | (rw [show vvw (tVh (tVl (tVw (tTh μ (ltR 0 1)) xv (vbk μ xb)) xv (((turn (vod μ (vbk μ xb)) xlow) + 1) - (xends % 2))) xv (((turn (vod μ (vbk μ xb)) xhigh) - 1) + (xends / 2))) xv = (vbk μ xb) from (by first | rfl | exact iu_s _ _ _), show vvl (tVh (tVl (tVw (tTh μ (ltR 0 1)) xv (vbk μ xb)) xv (((turn (vod μ (vbk μ xb)) xlow) + 1) - (xends % 2))) xv (((turn (vod μ (vbk μ xb)) xhigh) - 1) + (xends / 2))) xv = (((turn (vod μ (vbk μ xb)) xlow) + 1) - (xends % 2)) from (by first | rfl | exact iu_s _ _ _), show vvh (tVh (tVl (tVw (tTh μ (ltR 0 1)) xv (vbk μ xb)) xv (((turn (vod μ (vbk μ xb)) xlow) + 1) - (xends % 2))) xv (((turn (vod μ (vbk μ xb)) xhigh) - 1) + (xends / 2))) xv = (((turn (vod μ (vbk μ xb)) xhigh) - 1) + (xends / 2)) from (by first | rfl | exact iu_s _ _ _)]; done) | (rw [show vvw (tVh (tVl (tVw (tTh μ (ltR 0 1)) xv (vbk μ xb)) xv (((turn (vod μ (vbk μ xb)) xlow) + 1) - (xends % 2))) xv (((turn (vod μ (vbk μ xb)) xhigh) - 1) + (xends / 2))) xv = (vbk μ xb) from (by first | rfl | exact iu_s _ _ _), show vvl (tVh (tVl (tVw (tTh μ (ltR 0 1)) xv (vbk μ xb)) xv (((turn (vod μ (vbk μ xb)) xlow) + 1) - (xends % 2))) xv (((turn (vod μ (vbk μ xb)) xhigh) - 1) + (xends / 2))) xv = (((turn (vod μ (vbk μ xb)) xlow) + 1) - (xends % 2)) from (by first | rfl | exact iu_s _ _ _), show vvh (tVh (tVl (tVw (tTh μ (ltR 0 1)) xv (vbk μ xb)) xv (((turn (vod μ (vbk μ xb)) xlow) + 1) - (xends % 2))) xv (((turn (vod μ (vbk μ xb)) xhigh) - 1) + (xends / 2))) xv = (((turn (vod μ (vbk μ xb)) xhigh) - 1) + (xends / 2)) from (by first | rfl | exact iu_s _ _ _)]; rfl))
                    subst e_r42
                    exact q_retMi C0 hret rfl hlk dX6_openView_174 hP hD hS (⟨(by 
    have eL : moLo (vod μ (vbk μ xb)) xkind xlow xends = (((turn (vod μ (vbk μ xb)) xlow) + 1) - (xends % 2)) := by (unfold moLo; first | (rw [if_pos (by omega)]; done) | (rw [if_neg (by omega)]; done))
    have eH : moHi (vod μ (vbk μ xb)) xkind xhigh xends = (((turn (vod μ (vbk μ xb)) xhigh) - 1) + (xends / 2)) := by (unfold moHi; first | (rw [if_pos (by omega)]; done) | (rw [if_neg (by omega)]; done))
    unfold jR_openView; rw [if_pos (by omega), if_neg (by omega), eL, eH]), O, G, MP_eq hC (by 
    have eL : moLo (vod μ (vbk μ xb)) xkind xlow xends = (((turn (vod μ (vbk μ xb)) xlow) + 1) - (xends % 2)) := by (unfold moLo; first | (rw [if_pos (by omega)]; done) | (rw [if_neg (by omega)]; done))
    have eH : moHi (vod μ (vbk μ xb)) xkind xhigh xends = (((turn (vod μ (vbk μ xb)) xhigh) - 1) + (xends / 2)) := by (unfold moHi; first | (rw [if_pos (by omega)]; done) | (rw [if_neg (by omega)]; done))
    have lt_ := ltR_d 0 1; 
    unfold jS_openView; rw [if_pos (by omega), if_pos (by omega), if_neg (by omega), eL, eH, show ltR 0 1 = 0 by omega]), rfl, Ext0 hO⟩)
                  · refine q_bipush hx hb dX6_openView_149 (by decide) ?_
                    refine lv_goto (tgt := 168) hx hb dX6_openView_151 (by decide) ?_
                    refine q_iast C0 hP hD hS hC.2.2.2.2.2.1.1 hC.2.2.2.2.2.1.2 (i := xv) (v := 99) (by omega) (by decide) dX6_openView_168 (fun H locs hP hD hS => ?_)
                    obtain ⟨F43, eF43⟩ : ∃ z, z = va_up F37 (uat G) (arrI (y 0) 2 (iu (vvh μ) xv 99)) := ⟨_, rfl⟩
                    have hP : va_P D vwCl (va_pl L F43) H := by rw [eF43]; exact hP
                    have hD : va_D (AL L sz) (va_pl L F43) := by rw [eF43]; exact hD
                    have hO : OE O F F43 := by rw [eF43]; exact hO.tr (OE1 (MP_O hC).2.2.2.2.2.1)
                    have hC : MP y L F43 O G (tVh (tVl (tVw (tTh μ (ltR 0 1)) xv (vbk μ xb)) xv (((turn (vod μ (vbk μ xb)) xlow) + 1) - (xends % 2))) xv 99) := by rw [eF43]; exact MP_vh hC (va_up_self _ _ _) (fun q hq => va_up_ne _ _ hq)
                    refine lv_aload_n hx hb dX6_openView_169 rfl (lv_at hl 1 rfl) ?_
                    refine lv_iload_n hx hb dX6_openView_170 rfl (lv_at hl 2 rfl) ?_
                    refine q_vS C0 lX6_171 (c_X6_seen l D y L F43 O G (tVh (tVl (tVw (tTh μ (ltR 0 1)) xv (vbk μ xb)) xv (((turn (vod μ (vbk μ xb)) xlow) + 1) - (xends % 2))) xv 99) xv hC (by omega) (by rw [show vvw (tVh (tVl (tVw (tTh μ (ltR 0 1)) xv (vbk μ xb)) xv (((turn (vod μ (vbk μ xb)) xlow) + 1) - (xends % 2))) xv 99) xv = (vbk μ xb) from (by first | rfl | exact iu_s _ _ _)]; exact (hW.1 xb)) (by rw [show vvl (tVh (tVl (tVw (tTh μ (ltR 0 1)) xv (vbk μ xb)) xv (((turn (vod μ (vbk μ xb)) xlow) + 1) - (xends % 2))) xv 99) xv = (((turn (vod μ (vbk μ xb)) xlow) + 1) - (xends % 2)) from (by first | rfl | exact iu_s _ _ _)]; omega) (by rw [show vvh (tVh (tVl (tVw (tTh μ (ltR 0 1)) xv (vbk μ xb)) xv (((turn (vod μ (vbk μ xb)) xlow) + 1) - (xends % 2))) xv 99) xv = 99 from (by first | rfl | exact iu_s _ _ _)]; omega)) ⟨rfl, rfl⟩ rfl hP hC.1.1 hC.1.2 rfl rfl rfl hl rfl (Nat.le_of_ble_eq_true rfl) dX6_openView_171 ⟨Nat.zero_le _, Nat.zero_le _⟩ (fun r44 e_r44 => ?_)
                    replace e_r44 : r44 = cntP (vst μ (vbk μ xb)) (((turn (vod μ (vbk μ xb)) xlow) + 1) - (xends % 2)) 99 := e_r44.trans (by first | rfl | (rw [show vvw (tVh (tVl (tVw (tTh μ (ltR 0 1)) xv (vbk μ xb)) xv (((turn (vod μ (vbk μ xb)) xlow) + 1) - (xends % 2))) xv 99) xv = (vbk μ xb) from (by first | rfl | exact iu_s _ _ _), show vvl (tVh (tVl (tVw (tTh μ (ltR 0 1)) xv (vbk μ xb)) xv (((turn (vod μ (vbk μ xb)) xlow) + 1) - (xends % 2))) xv 99) xv = (((turn (vod μ (vbk μ xb)) xlow) + 1) - (xends % 2)) from (by first | rfl | exact iu_s _ _ _), show vvh (tVh (tVl (tVw (tTh μ (ltR 0 1)) xv (vbk μ xb)) xv (((turn (vod μ (vbk μ xb)) xlow) + 1) - (xends % 2))) xv 99) xv = 99 from (by first | rfl | exact iu_s _ _ _)]; done) | (rw [show vvw (tVh (tVl (tVw (tTh μ (ltR 0 1)) xv (vbk μ xb)) xv (((turn (vod μ (vbk μ xb)) xlow) + 1) - (xends % 2))) xv 99) xv = (vbk μ xb) from (by first | rfl | exact iu_s _ _ _), show vvl (tVh (tVl (tVw (tTh μ (ltR 0 1)) xv (vbk μ xb)) xv (((turn (vod μ (vbk μ xb)) xlow) + 1) - (xends % 2))) xv 99) xv = (((turn (vod μ (vbk μ xb)) xlow) + 1) - (xends % 2)) from (by first | rfl | exact iu_s _ _ _), show vvh (tVh (tVl (tVw (tTh μ (ltR 0 1)) xv (vbk μ xb)) xv (((turn (vod μ (vbk μ xb)) xlow) + 1) - (xends % 2))) xv 99) xv = 99 from (by first | rfl | exact iu_s _ _ _)]; rfl))
                    subst e_r44
                    exact q_retMi C0 hret rfl hlk dX6_openView_174 hP hD hS (⟨(by 
    have eL : moLo (vod μ (vbk μ xb)) xkind xlow xends = (((turn (vod μ (vbk μ xb)) xlow) + 1) - (xends % 2)) := by (unfold moLo; first | (rw [if_pos (by omega)]; done) | (rw [if_neg (by omega)]; done))
    have eH : moHi (vod μ (vbk μ xb)) xkind xhigh xends = 99 := by (unfold moHi; first | (rw [if_pos (by omega)]; done) | (rw [if_neg (by omega)]; done))
    unfold jR_openView; rw [if_pos (by omega), if_neg (by omega), eL, eH]), O, G, MP_eq hC (by 
    have eL : moLo (vod μ (vbk μ xb)) xkind xlow xends = (((turn (vod μ (vbk μ xb)) xlow) + 1) - (xends % 2)) := by (unfold moLo; first | (rw [if_pos (by omega)]; done) | (rw [if_neg (by omega)]; done))
    have eH : moHi (vod μ (vbk μ xb)) xkind xhigh xends = 99 := by (unfold moHi; first | (rw [if_pos (by omega)]; done) | (rw [if_neg (by omega)]; done))
    have lt_ := ltR_d 0 1; 
    unfold jS_openView; rw [if_pos (by omega), if_pos (by omega), if_neg (by omega), eL, eH, show ltR 0 1 = 0 by omega]), rfl, Ext0 hO⟩)
                · refine q_iconst hx hb dX6_openView_120 ?_
                  refine lv_goto (tgt := 138) hx hb dX6_openView_121 (by decide) ?_
                  refine q_iast C0 hP hD hS hC.2.2.2.2.1.1 hC.2.2.2.2.1.2 (i := xv) (v := 0) (by omega) (by decide) dX6_openView_138 (fun H locs hP hD hS => ?_)
                  obtain ⟨F45, eF45⟩ : ∃ z, z = va_up F33 (uaf G) (arrI (y 0) 2 (iu (vvl μ) xv 0)) := ⟨_, rfl⟩
                  have hP : va_P D vwCl (va_pl L F45) H := by rw [eF45]; exact hP
                  have hD : va_D (AL L sz) (va_pl L F45) := by rw [eF45]; exact hD
                  have hO : OE O F F45 := by rw [eF45]; exact hO.tr (OE1 (MP_O hC).2.2.2.2.1)
                  have hC : MP y L F45 O G (tVl (tVw (tTh μ (ltR 0 1)) xv (vbk μ xb)) xv 0) := by rw [eF45]; exact MP_vl hC (va_up_self _ _ _) (fun q hq => va_up_ne _ _ hq)
                  refine lv_aload_n hx hb dX6_openView_139 rfl (lv_at hl 1 rfl) ?_
                  refine q_get C0 iX6 hP hC.1.1 hC.1.2 rfl 4 (by decide) flX6_25 rfl (v := .ref ((uat G))) rfl dX6_openView_140 ?_
                  refine lv_iload_n hx hb dX6_openView_143 rfl (lv_at hl 2 rfl) ?_
                  refine lv_iload_n hx hb dX6_openView_144 rfl (lv_at hl 4 rfl) ?_
                  refine q_iconst hx hb dX6_openView_145 ?_
                  refine q_icmp_ne hx hb dX6_openView_146 (tgt := 154) (by decide) (by omega) (by omega) (fun c46 => ?_) (fun c46 => ?_)
                  · refine lv_aload hx hb dX6_openView_154 (lv_at hl 0 rfl) ?_
                    refine lv_iload hx hb dX6_openView_156 (lv_at hl 6 rfl) ?_
                    refine q_vS C0 lX6_93 (c_X5_rank l D y L F45 (urh G (vbk μ xb)) (urw G (vbk μ xb)) (vod μ (vbk μ xb)) (vst μ (vbk μ xb)) xhigh (MP_r hC (hW.1 xb)) (by omega)) ⟨rfl, rfl⟩ rfl hP (MP_r hC (hW.1 xb)).1 (MP_r hC (hW.1 xb)).2.1 rfl rfl rfl hl rfl (Nat.le_of_ble_eq_true rfl) dX6_openView_158 ⟨Nat.zero_le _, Nat.zero_le _⟩ (fun r47 e_r47 => ?_)
                    subst e_r47
                    have b_48 := @turn_b (vod μ (vbk μ xb)) xhigh (by omega)
                    refine q_iconst hx hb dX6_openView_161 ?_
                    refine q_isub hx hb dX6_openView_162 ?_
                    refine lv_iload hx hb dX6_openView_163 (lv_at hl 7 rfl) ?_
                    refine q_iconst hx hb dX6_openView_165 ?_
                    refine q_idiv hx hb dX6_openView_166 (by omega) (by omega) ?_
                    refine q_iadd hx hb dX6_openView_167 ?_
                    refine q_iast C0 hP hD hS hC.2.2.2.2.2.1.1 hC.2.2.2.2.2.1.2 (i := xv) (v := (((turn (vod μ (vbk μ xb)) xhigh) - 1) + (xends / 2))) (by omega) (by decide) dX6_openView_168 (fun H locs hP hD hS => ?_)
                    obtain ⟨F49, eF49⟩ : ∃ z, z = va_up F45 (uat G) (arrI (y 0) 2 (iu (vvh μ) xv (((turn (vod μ (vbk μ xb)) xhigh) - 1) + (xends / 2)))) := ⟨_, rfl⟩
                    have hP : va_P D vwCl (va_pl L F49) H := by rw [eF49]; exact hP
                    have hD : va_D (AL L sz) (va_pl L F49) := by rw [eF49]; exact hD
                    have hO : OE O F F49 := by rw [eF49]; exact hO.tr (OE1 (MP_O hC).2.2.2.2.2.1)
                    have hC : MP y L F49 O G (tVh (tVl (tVw (tTh μ (ltR 0 1)) xv (vbk μ xb)) xv 0) xv (((turn (vod μ (vbk μ xb)) xhigh) - 1) + (xends / 2))) := by rw [eF49]; exact MP_vh hC (va_up_self _ _ _) (fun q hq => va_up_ne _ _ hq)
                    refine lv_aload_n hx hb dX6_openView_169 rfl (lv_at hl 1 rfl) ?_
                    refine lv_iload_n hx hb dX6_openView_170 rfl (lv_at hl 2 rfl) ?_
                    refine q_vS C0 lX6_171 (c_X6_seen l D y L F49 O G (tVh (tVl (tVw (tTh μ (ltR 0 1)) xv (vbk μ xb)) xv 0) xv (((turn (vod μ (vbk μ xb)) xhigh) - 1) + (xends / 2))) xv hC (by omega) (by rw [show vvw (tVh (tVl (tVw (tTh μ (ltR 0 1)) xv (vbk μ xb)) xv 0) xv (((turn (vod μ (vbk μ xb)) xhigh) - 1) + (xends / 2))) xv = (vbk μ xb) from (by first | rfl | exact iu_s _ _ _)]; exact (hW.1 xb)) (by rw [show vvl (tVh (tVl (tVw (tTh μ (ltR 0 1)) xv (vbk μ xb)) xv 0) xv (((turn (vod μ (vbk μ xb)) xhigh) - 1) + (xends / 2))) xv = 0 from (by first | rfl | exact iu_s _ _ _)]; omega) (by rw [show vvh (tVh (tVl (tVw (tTh μ (ltR 0 1)) xv (vbk μ xb)) xv 0) xv (((turn (vod μ (vbk μ xb)) xhigh) - 1) + (xends / 2))) xv = (((turn (vod μ (vbk μ xb)) xhigh) - 1) + (xends / 2)) from (by first | rfl | exact iu_s _ _ _)]; omega)) ⟨rfl, rfl⟩ rfl hP hC.1.1 hC.1.2 rfl rfl rfl hl rfl (Nat.le_of_ble_eq_true rfl) dX6_openView_171 ⟨Nat.zero_le _, Nat.zero_le _⟩ (fun r50 e_r50 => ?_)
                    replace e_r50 : r50 = cntP (vst μ (vbk μ xb)) 0 (((turn (vod μ (vbk μ xb)) xhigh) - 1) + (xends / 2)) := e_r50.trans (by first | rfl | (rw [show vvw (tVh (tVl (tVw (tTh μ (ltR 0 1)) xv (vbk μ xb)) xv 0) xv (((turn (vod μ (vbk μ xb)) xhigh) - 1) + (xends / 2))) xv = (vbk μ xb) from (by first | rfl | exact iu_s _ _ _), show vvl (tVh (tVl (tVw (tTh μ (ltR 0 1)) xv (vbk μ xb)) xv 0) xv (((turn (vod μ (vbk μ xb)) xhigh) - 1) + (xends / 2))) xv = 0 from (by first | rfl | exact iu_s _ _ _), show vvh (tVh (tVl (tVw (tTh μ (ltR 0 1)) xv (vbk μ xb)) xv 0) xv (((turn (vod μ (vbk μ xb)) xhigh) - 1) + (xends / 2))) xv = (((turn (vod μ (vbk μ xb)) xhigh) - 1) + (xends / 2)) from (by first | rfl | exact iu_s _ _ _)]; done) | (rw [show vvw (tVh (tVl (tVw (tTh μ (ltR 0 1)) xv (vbk μ xb)) xv 0) xv (((turn (vod μ (vbk μ xb)) xhigh) - 1) + (xends / 2))) xv = (vbk μ xb) from (by first | rfl | exact iu_s _ _ _), show vvl (tVh (tVl (tVw (tTh μ (ltR 0 1)) xv (vbk μ xb)) xv 0) xv (((turn (vod μ (vbk μ xb)) xhigh) - 1) + (xends / 2))) xv = 0 from (by first | rfl | exact iu_s _ _ _), show vvh (tVh (tVl (tVw (tTh μ (ltR 0 1)) xv (vbk μ xb)) xv 0) xv (((turn (vod μ (vbk μ xb)) xhigh) - 1) + (xends / 2))) xv = (((turn (vod μ (vbk μ xb)) xhigh) - 1) + (xends / 2)) from (by first | rfl | exact iu_s _ _ _)]; rfl))
                    subst e_r50
                    exact q_retMi C0 hret rfl hlk dX6_openView_174 hP hD hS (⟨(by 
    have eL : moLo (vod μ (vbk μ xb)) xkind xlow xends = 0 := by (unfold moLo; first | (rw [if_pos (by omega)]; done) | (rw [if_neg (by omega)]; done))
    have eH : moHi (vod μ (vbk μ xb)) xkind xhigh xends = (((turn (vod μ (vbk μ xb)) xhigh) - 1) + (xends / 2)) := by (unfold moHi; first | (rw [if_pos (by omega)]; done) | (rw [if_neg (by omega)]; done))
    unfold jR_openView; rw [if_pos (by omega), if_neg (by omega), eL, eH]), O, G, MP_eq hC (by 
    have eL : moLo (vod μ (vbk μ xb)) xkind xlow xends = 0 := by (unfold moLo; first | (rw [if_pos (by omega)]; done) | (rw [if_neg (by omega)]; done))
    have eH : moHi (vod μ (vbk μ xb)) xkind xhigh xends = (((turn (vod μ (vbk μ xb)) xhigh) - 1) + (xends / 2)) := by (unfold moHi; first | (rw [if_pos (by omega)]; done) | (rw [if_neg (by omega)]; done))
    have lt_ := ltR_d 0 1; 
    unfold jS_openView; rw [if_pos (by omega), if_pos (by omega), if_neg (by omega), eL, eH, show ltR 0 1 = 0 by omega]), rfl, Ext0 hO⟩)
                  · refine q_bipush hx hb dX6_openView_149 (by decide) ?_
                    refine lv_goto (tgt := 168) hx hb dX6_openView_151 (by decide) ?_
                    refine q_iast C0 hP hD hS hC.2.2.2.2.2.1.1 hC.2.2.2.2.2.1.2 (i := xv) (v := 99) (by omega) (by decide) dX6_openView_168 (fun H locs hP hD hS => ?_)
                    obtain ⟨F51, eF51⟩ : ∃ z, z = va_up F45 (uat G) (arrI (y 0) 2 (iu (vvh μ) xv 99)) := ⟨_, rfl⟩
                    have hP : va_P D vwCl (va_pl L F51) H := by rw [eF51]; exact hP
                    have hD : va_D (AL L sz) (va_pl L F51) := by rw [eF51]; exact hD
                    have hO : OE O F F51 := by rw [eF51]; exact hO.tr (OE1 (MP_O hC).2.2.2.2.2.1)
                    have hC : MP y L F51 O G (tVh (tVl (tVw (tTh μ (ltR 0 1)) xv (vbk μ xb)) xv 0) xv 99) := by rw [eF51]; exact MP_vh hC (va_up_self _ _ _) (fun q hq => va_up_ne _ _ hq)
                    refine lv_aload_n hx hb dX6_openView_169 rfl (lv_at hl 1 rfl) ?_
                    refine lv_iload_n hx hb dX6_openView_170 rfl (lv_at hl 2 rfl) ?_
                    refine q_vS C0 lX6_171 (c_X6_seen l D y L F51 O G (tVh (tVl (tVw (tTh μ (ltR 0 1)) xv (vbk μ xb)) xv 0) xv 99) xv hC (by omega) (by rw [show vvw (tVh (tVl (tVw (tTh μ (ltR 0 1)) xv (vbk μ xb)) xv 0) xv 99) xv = (vbk μ xb) from (by first | rfl | exact iu_s _ _ _)]; exact (hW.1 xb)) (by rw [show vvl (tVh (tVl (tVw (tTh μ (ltR 0 1)) xv (vbk μ xb)) xv 0) xv 99) xv = 0 from (by first | rfl | exact iu_s _ _ _)]; omega) (by rw [show vvh (tVh (tVl (tVw (tTh μ (ltR 0 1)) xv (vbk μ xb)) xv 0) xv 99) xv = 99 from (by first | rfl | exact iu_s _ _ _)]; omega)) ⟨rfl, rfl⟩ rfl hP hC.1.1 hC.1.2 rfl rfl rfl hl rfl (Nat.le_of_ble_eq_true rfl) dX6_openView_171 ⟨Nat.zero_le _, Nat.zero_le _⟩ (fun r52 e_r52 => ?_)
                    replace e_r52 : r52 = cntP (vst μ (vbk μ xb)) 0 99 := e_r52.trans (by first | rfl | (rw [show vvw (tVh (tVl (tVw (tTh μ (ltR 0 1)) xv (vbk μ xb)) xv 0) xv 99) xv = (vbk μ xb) from (by first | rfl | exact iu_s _ _ _), show vvl (tVh (tVl (tVw (tTh μ (ltR 0 1)) xv (vbk μ xb)) xv 0) xv 99) xv = 0 from (by first | rfl | exact iu_s _ _ _), show vvh (tVh (tVl (tVw (tTh μ (ltR 0 1)) xv (vbk μ xb)) xv 0) xv 99) xv = 99 from (by first | rfl | exact iu_s _ _ _)]; done) | (rw [show vvw (tVh (tVl (tVw (tTh μ (ltR 0 1)) xv (vbk μ xb)) xv 0) xv 99) xv = (vbk μ xb) from (by first | rfl | exact iu_s _ _ _), show vvl (tVh (tVl (tVw (tTh μ (ltR 0 1)) xv (vbk μ xb)) xv 0) xv 99) xv = 0 from (by first | rfl | exact iu_s _ _ _), show vvh (tVh (tVl (tVw (tTh μ (ltR 0 1)) xv (vbk μ xb)) xv 0) xv 99) xv = 99 from (by first | rfl | exact iu_s _ _ _)]; rfl))
                    subst e_r52
                    exact q_retMi C0 hret rfl hlk dX6_openView_174 hP hD hS (⟨(by 
    have eL : moLo (vod μ (vbk μ xb)) xkind xlow xends = 0 := by (unfold moLo; first | (rw [if_pos (by omega)]; done) | (rw [if_neg (by omega)]; done))
    have eH : moHi (vod μ (vbk μ xb)) xkind xhigh xends = 99 := by (unfold moHi; first | (rw [if_pos (by omega)]; done) | (rw [if_neg (by omega)]; done))
    unfold jR_openView; rw [if_pos (by omega), if_neg (by omega), eL, eH]), O, G, MP_eq hC (by 
    have eL : moLo (vod μ (vbk μ xb)) xkind xlow xends = 0 := by (unfold moLo; first | (rw [if_pos (by omega)]; done) | (rw [if_neg (by omega)]; done))
    have eH : moHi (vod μ (vbk μ xb)) xkind xhigh xends = 99 := by (unfold moHi; first | (rw [if_pos (by omega)]; done) | (rw [if_neg (by omega)]; done))
    have lt_ := ltR_d 0 1; 
    unfold jS_openView; rw [if_pos (by omega), if_pos (by omega), if_neg (by omega), eL, eH, show ltR 0 1 = 0 by omega]), rfl, Ext0 hO⟩)
              · refine lv_aload hx hb dX6_openView_81 (lv_at hl 0 rfl) ?_
                refine lv_iload hx hb dX6_openView_83 (lv_at hl 5 rfl) ?_
                refine q_vS C0 lX6_93 (c_X5_rank l D y L F29 (urh G (vbk μ xb)) (urw G (vbk μ xb)) (vod μ (vbk μ xb)) (vst μ (vbk μ xb)) xlow (MP_r hC (hW.1 xb)) (by omega)) ⟨rfl, rfl⟩ rfl hP (MP_r hC (hW.1 xb)).1 (MP_r hC (hW.1 xb)).2.1 rfl rfl rfl hl rfl (Nat.le_of_ble_eq_true rfl) dX6_openView_85 ⟨Nat.zero_le _, Nat.zero_le _⟩ (fun r53 e_r53 => ?_)
                subst e_r53
                have b_54 := @turn_b (vod μ (vbk μ xb)) xlow (by omega)
                refine lv_aload hx hb dX6_openView_88 (lv_at hl 0 rfl) ?_
                refine lv_iload hx hb dX6_openView_90 (lv_at hl 6 rfl) ?_
                refine q_vS C0 lX6_93 (c_X5_rank l D y L F29 (urh G (vbk μ xb)) (urw G (vbk μ xb)) (vod μ (vbk μ xb)) (vst μ (vbk μ xb)) xhigh (MP_r hC (hW.1 xb)) (by omega)) ⟨rfl, rfl⟩ rfl hP (MP_r hC (hW.1 xb)).1 (MP_r hC (hW.1 xb)).2.1 rfl rfl rfl hl rfl (Nat.le_of_ble_eq_true rfl) dX6_openView_92 ⟨Nat.zero_le _, Nat.zero_le _⟩ (fun r55 e_r55 => ?_)
                subst e_r55
                have b_56 := @turn_b (vod μ (vbk μ xb)) xhigh (by omega)
                refine q_icmp_le hx hb dX6_openView_95 (tgt := 103) (by decide) (by omega) (by omega) (fun c57 => ?_) (fun c57 => ?_)
                · refine lv_aload_n hx hb dX6_openView_103 rfl (lv_at hl 1 rfl) ?_
                  refine q_get C0 iX6 hP hC.1.1 hC.1.2 rfl 2 (by decide) flX6_18 rfl (v := .ref ((uav G))) rfl dX6_openView_104 ?_
                  refine lv_iload_n hx hb dX6_openView_107 rfl (lv_at hl 2 rfl) ?_
                  refine lv_aload hx hb dX6_openView_108 (lv_at hl 0 rfl) ?_
                  refine q_aast C0 hP hD hS hC.2.2.2.1.1 hC.2.2.2.1.2 (t := 3) (r := (RX5, TX5, 2)) rfl (MP_r hC (hW.1 xb)).1 (MP_r hC (hW.1 xb)).2.1 rfl (by omega) (by decide) dX6_openView_110 (fun H locs hP hD hS => ?_)
                  obtain ⟨F58, eF58⟩ : ∃ z, z = va_up F29 (uav G) (arrQ (y 3) 2 (iu (fun j => some (urh G (vvw (tTh μ (ltR 0 1)) j))) xv (some (urh G (vbk μ xb))))) := ⟨_, rfl⟩
                  have hP : va_P D vwCl (va_pl L F58) H := by rw [eF58]; exact hP
                  have hD : va_D (AL L sz) (va_pl L F58) := by rw [eF58]; exact hD
                  have hO : OE O F F58 := by rw [eF58]; exact hO.tr (OE1 (MP_O hC).2.2.2.1)
                  have hC : MP y L F58 O G (tVw (tTh μ (ltR 0 1)) xv (vbk μ xb)) := by rw [eF58]; exact MP_vw hC (va_up_self _ _ _) (fun q hq => va_up_ne _ _ hq)
                  refine lv_aload_n hx hb dX6_openView_111 rfl (lv_at hl 1 rfl) ?_
                  refine q_get C0 iX6 hP hC.1.1 hC.1.2 rfl 3 (by decide) flX6_21 rfl (v := .ref ((uaf G))) rfl dX6_openView_112 ?_
                  refine lv_iload_n hx hb dX6_openView_115 rfl (lv_at hl 2 rfl) ?_
                  refine lv_iload_n hx hb dX6_openView_116 rfl (lv_at hl 4 rfl) ?_
                  refine q_if_ne hx hb dX6_openView_117 (tgt := 124) (by decide) (by omega) (fun c59 => ?_) (fun c59 => ?_)
                  · refine lv_aload hx hb dX6_openView_124 (lv_at hl 0 rfl) ?_
                    refine lv_iload hx hb dX6_openView_126 (lv_at hl 5 rfl) ?_
                    refine q_vS C0 lX6_93 (c_X5_rank l D y L F58 (urh G (vbk μ xb)) (urw G (vbk μ xb)) (vod μ (vbk μ xb)) (vst μ (vbk μ xb)) xlow (MP_r hC (hW.1 xb)) (by omega)) ⟨rfl, rfl⟩ rfl hP (MP_r hC (hW.1 xb)).1 (MP_r hC (hW.1 xb)).2.1 rfl rfl rfl hl rfl (Nat.le_of_ble_eq_true rfl) dX6_openView_128 ⟨Nat.zero_le _, Nat.zero_le _⟩ (fun r60 e_r60 => ?_)
                    subst e_r60
                    have b_61 := @turn_b (vod μ (vbk μ xb)) xlow (by omega)
                    refine q_iconst hx hb dX6_openView_131 ?_
                    refine q_iadd hx hb dX6_openView_132 ?_
                    refine lv_iload hx hb dX6_openView_133 (lv_at hl 7 rfl) ?_
                    refine q_iconst hx hb dX6_openView_135 ?_
                    refine q_irem hx hb dX6_openView_136 (by omega) (by omega) ?_
                    refine q_isub hx hb dX6_openView_137 ?_
                    refine q_iast C0 hP hD hS hC.2.2.2.2.1.1 hC.2.2.2.2.1.2 (i := xv) (v := (((turn (vod μ (vbk μ xb)) xlow) + 1) - (xends % 2))) (by omega) (by decide) dX6_openView_138 (fun H locs hP hD hS => ?_)
                    obtain ⟨F62, eF62⟩ : ∃ z, z = va_up F58 (uaf G) (arrI (y 0) 2 (iu (vvl μ) xv (((turn (vod μ (vbk μ xb)) xlow) + 1) - (xends % 2)))) := ⟨_, rfl⟩
                    have hP : va_P D vwCl (va_pl L F62) H := by rw [eF62]; exact hP
                    have hD : va_D (AL L sz) (va_pl L F62) := by rw [eF62]; exact hD
                    have hO : OE O F F62 := by rw [eF62]; exact hO.tr (OE1 (MP_O hC).2.2.2.2.1)
                    have hC : MP y L F62 O G (tVl (tVw (tTh μ (ltR 0 1)) xv (vbk μ xb)) xv (((turn (vod μ (vbk μ xb)) xlow) + 1) - (xends % 2))) := by rw [eF62]; exact MP_vl hC (va_up_self _ _ _) (fun q hq => va_up_ne _ _ hq)
                    refine lv_aload_n hx hb dX6_openView_139 rfl (lv_at hl 1 rfl) ?_
                    refine q_get C0 iX6 hP hC.1.1 hC.1.2 rfl 4 (by decide) flX6_25 rfl (v := .ref ((uat G))) rfl dX6_openView_140 ?_
                    refine lv_iload_n hx hb dX6_openView_143 rfl (lv_at hl 2 rfl) ?_
                    refine lv_iload_n hx hb dX6_openView_144 rfl (lv_at hl 4 rfl) ?_
                    refine q_iconst hx hb dX6_openView_145 ?_
                    refine q_icmp_ne hx hb dX6_openView_146 (tgt := 154) (by decide) (by omega) (by omega) (fun c63 => ?_) (fun c63 => ?_)
                    · refine lv_aload hx hb dX6_openView_154 (lv_at hl 0 rfl) ?_
                      refine lv_iload hx hb dX6_openView_156 (lv_at hl 6 rfl) ?_
                      refine q_vS C0 lX6_93 (c_X5_rank l D y L F62 (urh G (vbk μ xb)) (urw G (vbk μ xb)) (vod μ (vbk μ xb)) (vst μ (vbk μ xb)) xhigh (MP_r hC (hW.1 xb)) (by omega)) ⟨rfl, rfl⟩ rfl hP (MP_r hC (hW.1 xb)).1 (MP_r hC (hW.1 xb)).2.1 rfl rfl rfl hl rfl (Nat.le_of_ble_eq_true rfl) dX6_openView_158 ⟨Nat.zero_le _, Nat.zero_le _⟩ (fun r64 e_r64 => ?_)
                      subst e_r64
                      have b_65 := @turn_b (vod μ (vbk μ xb)) xhigh (by omega)
                      refine q_iconst hx hb dX6_openView_161 ?_
                      refine q_isub hx hb dX6_openView_162 ?_
                      refine lv_iload hx hb dX6_openView_163 (lv_at hl 7 rfl) ?_
                      refine q_iconst hx hb dX6_openView_165 ?_
                      refine q_idiv hx hb dX6_openView_166 (by omega) (by omega) ?_
                      refine q_iadd hx hb dX6_openView_167 ?_
                      refine q_iast C0 hP hD hS hC.2.2.2.2.2.1.1 hC.2.2.2.2.2.1.2 (i := xv) (v := (((turn (vod μ (vbk μ xb)) xhigh) - 1) + (xends / 2))) (by omega) (by decide) dX6_openView_168 (fun H locs hP hD hS => ?_)
                      obtain ⟨F66, eF66⟩ : ∃ z, z = va_up F62 (uat G) (arrI (y 0) 2 (iu (vvh μ) xv (((turn (vod μ (vbk μ xb)) xhigh) - 1) + (xends / 2)))) := ⟨_, rfl⟩
                      have hP : va_P D vwCl (va_pl L F66) H := by rw [eF66]; exact hP
                      have hD : va_D (AL L sz) (va_pl L F66) := by rw [eF66]; exact hD
                      have hO : OE O F F66 := by rw [eF66]; exact hO.tr (OE1 (MP_O hC).2.2.2.2.2.1)
                      have hC : MP y L F66 O G (tVh (tVl (tVw (tTh μ (ltR 0 1)) xv (vbk μ xb)) xv (((turn (vod μ (vbk μ xb)) xlow) + 1) - (xends % 2))) xv (((turn (vod μ (vbk μ xb)) xhigh) - 1) + (xends / 2))) := by rw [eF66]; exact MP_vh hC (va_up_self _ _ _) (fun q hq => va_up_ne _ _ hq)
                      refine lv_aload_n hx hb dX6_openView_169 rfl (lv_at hl 1 rfl) ?_
                      refine lv_iload_n hx hb dX6_openView_170 rfl (lv_at hl 2 rfl) ?_
                      refine q_vS C0 lX6_171 (c_X6_seen l D y L F66 O G (tVh (tVl (tVw (tTh μ (ltR 0 1)) xv (vbk μ xb)) xv (((turn (vod μ (vbk μ xb)) xlow) + 1) - (xends % 2))) xv (((turn (vod μ (vbk μ xb)) xhigh) - 1) + (xends / 2))) xv hC (by omega) (by rw [show vvw (tVh (tVl (tVw (tTh μ (ltR 0 1)) xv (vbk μ xb)) xv (((turn (vod μ (vbk μ xb)) xlow) + 1) - (xends % 2))) xv (((turn (vod μ (vbk μ xb)) xhigh) - 1) + (xends / 2))) xv = (vbk μ xb) from (by first | rfl | exact iu_s _ _ _)]; exact (hW.1 xb)) (by rw [show vvl (tVh (tVl (tVw (tTh μ (ltR 0 1)) xv (vbk μ xb)) xv (((turn (vod μ (vbk μ xb)) xlow) + 1) - (xends % 2))) xv (((turn (vod μ (vbk μ xb)) xhigh) - 1) + (xends / 2))) xv = (((turn (vod μ (vbk μ xb)) xlow) + 1) - (xends % 2)) from (by first | rfl | exact iu_s _ _ _)]; omega) (by rw [show vvh (tVh (tVl (tVw (tTh μ (ltR 0 1)) xv (vbk μ xb)) xv (((turn (vod μ (vbk μ xb)) xlow) + 1) - (xends % 2))) xv (((turn (vod μ (vbk μ xb)) xhigh) - 1) + (xends / 2))) xv = (((turn (vod μ (vbk μ xb)) xhigh) - 1) + (xends / 2)) from (by first | rfl | exact iu_s _ _ _)]; omega)) ⟨rfl, rfl⟩ rfl hP hC.1.1 hC.1.2 rfl rfl rfl hl rfl (Nat.le_of_ble_eq_true rfl) dX6_openView_171 ⟨Nat.zero_le _, Nat.zero_le _⟩ (fun r67 e_r67 => ?_)
                      replace e_r67 : r67 = cntP (vst μ (vbk μ xb)) (((turn (vod μ (vbk μ xb)) xlow) + 1) - (xends % 2)) (((turn (vod μ (vbk μ xb)) xhigh) - 1) + (xends / 2)) := e_r67.trans (by first | rfl | (rw [show vvw (tVh (tVl (tVw (tTh μ (ltR 0 1)) xv (vbk μ xb)) xv (((turn (vod μ (vbk μ xb)) xlow) + 1) - (xends % 2))) xv (((turn (vod μ (vbk μ xb)) xhigh) - 1) + (xends / 2))) xv = (vbk μ xb) from (by first | rfl | exact iu_s _ _ _), show vvl (tVh (tVl (tVw (tTh μ (ltR 0 1)) xv (vbk μ xb)) xv (((turn (vod μ (vbk μ xb)) xlow) + 1) - (xends % 2))) xv (((turn (vod μ (vbk μ xb)) xhigh) - 1) + (xends / 2))) xv = (((turn (vod μ (vbk μ xb)) xlow) + 1) - (xends % 2)) from (by first | rfl | exact iu_s _ _ _), show vvh (tVh (tVl (tVw (tTh μ (ltR 0 1)) xv (vbk μ xb)) xv (((turn (vod μ (vbk μ xb)) xlow) + 1) - (xends % 2))) xv (((turn (vod μ (vbk μ xb)) xhigh) - 1) + (xends / 2))) xv = (((turn (vod μ (vbk μ xb)) xhigh) - 1) + (xends / 2)) from (by first | rfl | exact iu_s _ _ _)]; done) | (rw [show vvw (tVh (tVl (tVw (tTh μ (ltR 0 1)) xv (vbk μ xb)) xv (((turn (vod μ (vbk μ xb)) xlow) + 1) - (xends % 2))) xv (((turn (vod μ (vbk μ xb)) xhigh) - 1) + (xends / 2))) xv = (vbk μ xb) from (by first | rfl | exact iu_s _ _ _), show vvl (tVh (tVl (tVw (tTh μ (ltR 0 1)) xv (vbk μ xb)) xv (((turn (vod μ (vbk μ xb)) xlow) + 1) - (xends % 2))) xv (((turn (vod μ (vbk μ xb)) xhigh) - 1) + (xends / 2))) xv = (((turn (vod μ (vbk μ xb)) xlow) + 1) - (xends % 2)) from (by first | rfl | exact iu_s _ _ _), show vvh (tVh (tVl (tVw (tTh μ (ltR 0 1)) xv (vbk μ xb)) xv (((turn (vod μ (vbk μ xb)) xlow) + 1) - (xends % 2))) xv (((turn (vod μ (vbk μ xb)) xhigh) - 1) + (xends / 2))) xv = (((turn (vod μ (vbk μ xb)) xhigh) - 1) + (xends / 2)) from (by first | rfl | exact iu_s _ _ _)]; rfl))
                      subst e_r67
                      exact q_retMi C0 hret rfl hlk dX6_openView_174 hP hD hS (⟨(by 
    have eL : moLo (vod μ (vbk μ xb)) xkind xlow xends = (((turn (vod μ (vbk μ xb)) xlow) + 1) - (xends % 2)) := by (unfold moLo; first | (rw [if_pos (by omega)]; done) | (rw [if_neg (by omega)]; done))
    have eH : moHi (vod μ (vbk μ xb)) xkind xhigh xends = (((turn (vod μ (vbk μ xb)) xhigh) - 1) + (xends / 2)) := by (unfold moHi; first | (rw [if_pos (by omega)]; done) | (rw [if_neg (by omega)]; done))
    unfold jR_openView; rw [if_pos (by omega), if_neg (by omega), eL, eH]), O, G, MP_eq hC (by 
    have eL : moLo (vod μ (vbk μ xb)) xkind xlow xends = (((turn (vod μ (vbk μ xb)) xlow) + 1) - (xends % 2)) := by (unfold moLo; first | (rw [if_pos (by omega)]; done) | (rw [if_neg (by omega)]; done))
    have eH : moHi (vod μ (vbk μ xb)) xkind xhigh xends = (((turn (vod μ (vbk μ xb)) xhigh) - 1) + (xends / 2)) := by (unfold moHi; first | (rw [if_pos (by omega)]; done) | (rw [if_neg (by omega)]; done))
    have lt_ := ltR_d 0 1; 
    unfold jS_openView; rw [if_pos (by omega), if_pos (by omega), if_neg (by omega), eL, eH, show ltR 0 1 = 0 by omega]), rfl, Ext0 hO⟩)
                    · refine q_bipush hx hb dX6_openView_149 (by decide) ?_
                      refine lv_goto (tgt := 168) hx hb dX6_openView_151 (by decide) ?_
                      refine q_iast C0 hP hD hS hC.2.2.2.2.2.1.1 hC.2.2.2.2.2.1.2 (i := xv) (v := 99) (by omega) (by decide) dX6_openView_168 (fun H locs hP hD hS => ?_)
                      obtain ⟨F68, eF68⟩ : ∃ z, z = va_up F62 (uat G) (arrI (y 0) 2 (iu (vvh μ) xv 99)) := ⟨_, rfl⟩
                      have hP : va_P D vwCl (va_pl L F68) H := by rw [eF68]; exact hP
                      have hD : va_D (AL L sz) (va_pl L F68) := by rw [eF68]; exact hD
                      have hO : OE O F F68 := by rw [eF68]; exact hO.tr (OE1 (MP_O hC).2.2.2.2.2.1)
                      have hC : MP y L F68 O G (tVh (tVl (tVw (tTh μ (ltR 0 1)) xv (vbk μ xb)) xv (((turn (vod μ (vbk μ xb)) xlow) + 1) - (xends % 2))) xv 99) := by rw [eF68]; exact MP_vh hC (va_up_self _ _ _) (fun q hq => va_up_ne _ _ hq)
                      refine lv_aload_n hx hb dX6_openView_169 rfl (lv_at hl 1 rfl) ?_
                      refine lv_iload_n hx hb dX6_openView_170 rfl (lv_at hl 2 rfl) ?_
                      refine q_vS C0 lX6_171 (c_X6_seen l D y L F68 O G (tVh (tVl (tVw (tTh μ (ltR 0 1)) xv (vbk μ xb)) xv (((turn (vod μ (vbk μ xb)) xlow) + 1) - (xends % 2))) xv 99) xv hC (by omega) (by rw [show vvw (tVh (tVl (tVw (tTh μ (ltR 0 1)) xv (vbk μ xb)) xv (((turn (vod μ (vbk μ xb)) xlow) + 1) - (xends % 2))) xv 99) xv = (vbk μ xb) from (by first | rfl | exact iu_s _ _ _)]; exact (hW.1 xb)) (by rw [show vvl (tVh (tVl (tVw (tTh μ (ltR 0 1)) xv (vbk μ xb)) xv (((turn (vod μ (vbk μ xb)) xlow) + 1) - (xends % 2))) xv 99) xv = (((turn (vod μ (vbk μ xb)) xlow) + 1) - (xends % 2)) from (by first | rfl | exact iu_s _ _ _)]; omega) (by rw [show vvh (tVh (tVl (tVw (tTh μ (ltR 0 1)) xv (vbk μ xb)) xv (((turn (vod μ (vbk μ xb)) xlow) + 1) - (xends % 2))) xv 99) xv = 99 from (by first | rfl | exact iu_s _ _ _)]; omega)) ⟨rfl, rfl⟩ rfl hP hC.1.1 hC.1.2 rfl rfl rfl hl rfl (Nat.le_of_ble_eq_true rfl) dX6_openView_171 ⟨Nat.zero_le _, Nat.zero_le _⟩ (fun r69 e_r69 => ?_)
                      replace e_r69 : r69 = cntP (vst μ (vbk μ xb)) (((turn (vod μ (vbk μ xb)) xlow) + 1) - (xends % 2)) 99 := e_r69.trans (by first | rfl | (rw [show vvw (tVh (tVl (tVw (tTh μ (ltR 0 1)) xv (vbk μ xb)) xv (((turn (vod μ (vbk μ xb)) xlow) + 1) - (xends % 2))) xv 99) xv = (vbk μ xb) from (by first | rfl | exact iu_s _ _ _), show vvl (tVh (tVl (tVw (tTh μ (ltR 0 1)) xv (vbk μ xb)) xv (((turn (vod μ (vbk μ xb)) xlow) + 1) - (xends % 2))) xv 99) xv = (((turn (vod μ (vbk μ xb)) xlow) + 1) - (xends % 2)) from (by first | rfl | exact iu_s _ _ _), show vvh (tVh (tVl (tVw (tTh μ (ltR 0 1)) xv (vbk μ xb)) xv (((turn (vod μ (vbk μ xb)) xlow) + 1) - (xends % 2))) xv 99) xv = 99 from (by first | rfl | exact iu_s _ _ _)]; done) | (rw [show vvw (tVh (tVl (tVw (tTh μ (ltR 0 1)) xv (vbk μ xb)) xv (((turn (vod μ (vbk μ xb)) xlow) + 1) - (xends % 2))) xv 99) xv = (vbk μ xb) from (by first | rfl | exact iu_s _ _ _), show vvl (tVh (tVl (tVw (tTh μ (ltR 0 1)) xv (vbk μ xb)) xv (((turn (vod μ (vbk μ xb)) xlow) + 1) - (xends % 2))) xv 99) xv = (((turn (vod μ (vbk μ xb)) xlow) + 1) - (xends % 2)) from (by first | rfl | exact iu_s _ _ _), show vvh (tVh (tVl (tVw (tTh μ (ltR 0 1)) xv (vbk μ xb)) xv (((turn (vod μ (vbk μ xb)) xlow) + 1) - (xends % 2))) xv 99) xv = 99 from (by first | rfl | exact iu_s _ _ _)]; rfl))
                      subst e_r69
                      exact q_retMi C0 hret rfl hlk dX6_openView_174 hP hD hS (⟨(by 
    have eL : moLo (vod μ (vbk μ xb)) xkind xlow xends = (((turn (vod μ (vbk μ xb)) xlow) + 1) - (xends % 2)) := by (unfold moLo; first | (rw [if_pos (by omega)]; done) | (rw [if_neg (by omega)]; done))
    have eH : moHi (vod μ (vbk μ xb)) xkind xhigh xends = 99 := by (unfold moHi; first | (rw [if_pos (by omega)]; done) | (rw [if_neg (by omega)]; done))
    unfold jR_openView; rw [if_pos (by omega), if_neg (by omega), eL, eH]), O, G, MP_eq hC (by 
    have eL : moLo (vod μ (vbk μ xb)) xkind xlow xends = (((turn (vod μ (vbk μ xb)) xlow) + 1) - (xends % 2)) := by (unfold moLo; first | (rw [if_pos (by omega)]; done) | (rw [if_neg (by omega)]; done))
    have eH : moHi (vod μ (vbk μ xb)) xkind xhigh xends = 99 := by (unfold moHi; first | (rw [if_pos (by omega)]; done) | (rw [if_neg (by omega)]; done))
    have lt_ := ltR_d 0 1; 
    unfold jS_openView; rw [if_pos (by omega), if_pos (by omega), if_neg (by omega), eL, eH, show ltR 0 1 = 0 by omega]), rfl, Ext0 hO⟩)
                  · refine q_iconst hx hb dX6_openView_120 ?_
                    refine lv_goto (tgt := 138) hx hb dX6_openView_121 (by decide) ?_
                    refine q_iast C0 hP hD hS hC.2.2.2.2.1.1 hC.2.2.2.2.1.2 (i := xv) (v := 0) (by omega) (by decide) dX6_openView_138 (fun H locs hP hD hS => ?_)
                    obtain ⟨F70, eF70⟩ : ∃ z, z = va_up F58 (uaf G) (arrI (y 0) 2 (iu (vvl μ) xv 0)) := ⟨_, rfl⟩
                    have hP : va_P D vwCl (va_pl L F70) H := by rw [eF70]; exact hP
                    have hD : va_D (AL L sz) (va_pl L F70) := by rw [eF70]; exact hD
                    have hO : OE O F F70 := by rw [eF70]; exact hO.tr (OE1 (MP_O hC).2.2.2.2.1)
                    have hC : MP y L F70 O G (tVl (tVw (tTh μ (ltR 0 1)) xv (vbk μ xb)) xv 0) := by rw [eF70]; exact MP_vl hC (va_up_self _ _ _) (fun q hq => va_up_ne _ _ hq)
                    refine lv_aload_n hx hb dX6_openView_139 rfl (lv_at hl 1 rfl) ?_
                    refine q_get C0 iX6 hP hC.1.1 hC.1.2 rfl 4 (by decide) flX6_25 rfl (v := .ref ((uat G))) rfl dX6_openView_140 ?_
                    refine lv_iload_n hx hb dX6_openView_143 rfl (lv_at hl 2 rfl) ?_
                    refine lv_iload_n hx hb dX6_openView_144 rfl (lv_at hl 4 rfl) ?_
                    refine q_iconst hx hb dX6_openView_145 ?_
                    refine q_icmp_ne hx hb dX6_openView_146 (tgt := 154) (by decide) (by omega) (by omega) (fun c71 => ?_) (fun c71 => ?_)
                    · refine lv_aload hx hb dX6_openView_154 (lv_at hl 0 rfl) ?_
                      refine lv_iload hx hb dX6_openView_156 (lv_at hl 6 rfl) ?_
                      refine q_vS C0 lX6_93 (c_X5_rank l D y L F70 (urh G (vbk μ xb)) (urw G (vbk μ xb)) (vod μ (vbk μ xb)) (vst μ (vbk μ xb)) xhigh (MP_r hC (hW.1 xb)) (by omega)) ⟨rfl, rfl⟩ rfl hP (MP_r hC (hW.1 xb)).1 (MP_r hC (hW.1 xb)).2.1 rfl rfl rfl hl rfl (Nat.le_of_ble_eq_true rfl) dX6_openView_158 ⟨Nat.zero_le _, Nat.zero_le _⟩ (fun r72 e_r72 => ?_)
                      subst e_r72
                      have b_73 := @turn_b (vod μ (vbk μ xb)) xhigh (by omega)
                      refine q_iconst hx hb dX6_openView_161 ?_
                      refine q_isub hx hb dX6_openView_162 ?_
                      refine lv_iload hx hb dX6_openView_163 (lv_at hl 7 rfl) ?_
                      refine q_iconst hx hb dX6_openView_165 ?_
                      refine q_idiv hx hb dX6_openView_166 (by omega) (by omega) ?_
                      refine q_iadd hx hb dX6_openView_167 ?_
                      refine q_iast C0 hP hD hS hC.2.2.2.2.2.1.1 hC.2.2.2.2.2.1.2 (i := xv) (v := (((turn (vod μ (vbk μ xb)) xhigh) - 1) + (xends / 2))) (by omega) (by decide) dX6_openView_168 (fun H locs hP hD hS => ?_)
                      obtain ⟨F74, eF74⟩ : ∃ z, z = va_up F70 (uat G) (arrI (y 0) 2 (iu (vvh μ) xv (((turn (vod μ (vbk μ xb)) xhigh) - 1) + (xends / 2)))) := ⟨_, rfl⟩
                      have hP : va_P D vwCl (va_pl L F74) H := by rw [eF74]; exact hP
                      have hD : va_D (AL L sz) (va_pl L F74) := by rw [eF74]; exact hD
                      have hO : OE O F F74 := by rw [eF74]; exact hO.tr (OE1 (MP_O hC).2.2.2.2.2.1)
                      have hC : MP y L F74 O G (tVh (tVl (tVw (tTh μ (ltR 0 1)) xv (vbk μ xb)) xv 0) xv (((turn (vod μ (vbk μ xb)) xhigh) - 1) + (xends / 2))) := by rw [eF74]; exact MP_vh hC (va_up_self _ _ _) (fun q hq => va_up_ne _ _ hq)
                      refine lv_aload_n hx hb dX6_openView_169 rfl (lv_at hl 1 rfl) ?_
                      refine lv_iload_n hx hb dX6_openView_170 rfl (lv_at hl 2 rfl) ?_
                      refine q_vS C0 lX6_171 (c_X6_seen l D y L F74 O G (tVh (tVl (tVw (tTh μ (ltR 0 1)) xv (vbk μ xb)) xv 0) xv (((turn (vod μ (vbk μ xb)) xhigh) - 1) + (xends / 2))) xv hC (by omega) (by rw [show vvw (tVh (tVl (tVw (tTh μ (ltR 0 1)) xv (vbk μ xb)) xv 0) xv (((turn (vod μ (vbk μ xb)) xhigh) - 1) + (xends / 2))) xv = (vbk μ xb) from (by first | rfl | exact iu_s _ _ _)]; exact (hW.1 xb)) (by rw [show vvl (tVh (tVl (tVw (tTh μ (ltR 0 1)) xv (vbk μ xb)) xv 0) xv (((turn (vod μ (vbk μ xb)) xhigh) - 1) + (xends / 2))) xv = 0 from (by first | rfl | exact iu_s _ _ _)]; omega) (by rw [show vvh (tVh (tVl (tVw (tTh μ (ltR 0 1)) xv (vbk μ xb)) xv 0) xv (((turn (vod μ (vbk μ xb)) xhigh) - 1) + (xends / 2))) xv = (((turn (vod μ (vbk μ xb)) xhigh) - 1) + (xends / 2)) from (by first | rfl | exact iu_s _ _ _)]; omega)) ⟨rfl, rfl⟩ rfl hP hC.1.1 hC.1.2 rfl rfl rfl hl rfl (Nat.le_of_ble_eq_true rfl) dX6_openView_171 ⟨Nat.zero_le _, Nat.zero_le _⟩ (fun r75 e_r75 => ?_)
                      replace e_r75 : r75 = cntP (vst μ (vbk μ xb)) 0 (((turn (vod μ (vbk μ xb)) xhigh) - 1) + (xends / 2)) := e_r75.trans (by first | rfl | (rw [show vvw (tVh (tVl (tVw (tTh μ (ltR 0 1)) xv (vbk μ xb)) xv 0) xv (((turn (vod μ (vbk μ xb)) xhigh) - 1) + (xends / 2))) xv = (vbk μ xb) from (by first | rfl | exact iu_s _ _ _), show vvl (tVh (tVl (tVw (tTh μ (ltR 0 1)) xv (vbk μ xb)) xv 0) xv (((turn (vod μ (vbk μ xb)) xhigh) - 1) + (xends / 2))) xv = 0 from (by first | rfl | exact iu_s _ _ _), show vvh (tVh (tVl (tVw (tTh μ (ltR 0 1)) xv (vbk μ xb)) xv 0) xv (((turn (vod μ (vbk μ xb)) xhigh) - 1) + (xends / 2))) xv = (((turn (vod μ (vbk μ xb)) xhigh) - 1) + (xends / 2)) from (by first | rfl | exact iu_s _ _ _)]; done) | (rw [show vvw (tVh (tVl (tVw (tTh μ (ltR 0 1)) xv (vbk μ xb)) xv 0) xv (((turn (vod μ (vbk μ xb)) xhigh) - 1) + (xends / 2))) xv = (vbk μ xb) from (by first | rfl | exact iu_s _ _ _), show vvl (tVh (tVl (tVw (tTh μ (ltR 0 1)) xv (vbk μ xb)) xv 0) xv (((turn (vod μ (vbk μ xb)) xhigh) - 1) + (xends / 2))) xv = 0 from (by first | rfl | exact iu_s _ _ _), show vvh (tVh (tVl (tVw (tTh μ (ltR 0 1)) xv (vbk μ xb)) xv 0) xv (((turn (vod μ (vbk μ xb)) xhigh) - 1) + (xends / 2))) xv = (((turn (vod μ (vbk μ xb)) xhigh) - 1) + (xends / 2)) from (by first | rfl | exact iu_s _ _ _)]; rfl))
                      subst e_r75
                      exact q_retMi C0 hret rfl hlk dX6_openView_174 hP hD hS (⟨(by 
    have eL : moLo (vod μ (vbk μ xb)) xkind xlow xends = 0 := by (unfold moLo; first | (rw [if_pos (by omega)]; done) | (rw [if_neg (by omega)]; done))
    have eH : moHi (vod μ (vbk μ xb)) xkind xhigh xends = (((turn (vod μ (vbk μ xb)) xhigh) - 1) + (xends / 2)) := by (unfold moHi; first | (rw [if_pos (by omega)]; done) | (rw [if_neg (by omega)]; done))
    unfold jR_openView; rw [if_pos (by omega), if_neg (by omega), eL, eH]), O, G, MP_eq hC (by 
    have eL : moLo (vod μ (vbk μ xb)) xkind xlow xends = 0 := by (unfold moLo; first | (rw [if_pos (by omega)]; done) | (rw [if_neg (by omega)]; done))
    have eH : moHi (vod μ (vbk μ xb)) xkind xhigh xends = (((turn (vod μ (vbk μ xb)) xhigh) - 1) + (xends / 2)) := by (unfold moHi; first | (rw [if_pos (by omega)]; done) | (rw [if_neg (by omega)]; done))
    have lt_ := ltR_d 0 1; 
    unfold jS_openView; rw [if_pos (by omega), if_pos (by omega), if_neg (by omega), eL, eH, show ltR 0 1 = 0 by omega]), rfl, Ext0 hO⟩)
                    · refine q_bipush hx hb dX6_openView_149 (by decide) ?_
                      refine lv_goto (tgt := 168) hx hb dX6_openView_151 (by decide) ?_
                      refine q_iast C0 hP hD hS hC.2.2.2.2.2.1.1 hC.2.2.2.2.2.1.2 (i := xv) (v := 99) (by omega) (by decide) dX6_openView_168 (fun H locs hP hD hS => ?_)
                      obtain ⟨F76, eF76⟩ : ∃ z, z = va_up F70 (uat G) (arrI (y 0) 2 (iu (vvh μ) xv 99)) := ⟨_, rfl⟩
                      have hP : va_P D vwCl (va_pl L F76) H := by rw [eF76]; exact hP
                      have hD : va_D (AL L sz) (va_pl L F76) := by rw [eF76]; exact hD
                      have hO : OE O F F76 := by rw [eF76]; exact hO.tr (OE1 (MP_O hC).2.2.2.2.2.1)
                      have hC : MP y L F76 O G (tVh (tVl (tVw (tTh μ (ltR 0 1)) xv (vbk μ xb)) xv 0) xv 99) := by rw [eF76]; exact MP_vh hC (va_up_self _ _ _) (fun q hq => va_up_ne _ _ hq)
                      refine lv_aload_n hx hb dX6_openView_169 rfl (lv_at hl 1 rfl) ?_
                      refine lv_iload_n hx hb dX6_openView_170 rfl (lv_at hl 2 rfl) ?_
                      refine q_vS C0 lX6_171 (c_X6_seen l D y L F76 O G (tVh (tVl (tVw (tTh μ (ltR 0 1)) xv (vbk μ xb)) xv 0) xv 99) xv hC (by omega) (by rw [show vvw (tVh (tVl (tVw (tTh μ (ltR 0 1)) xv (vbk μ xb)) xv 0) xv 99) xv = (vbk μ xb) from (by first | rfl | exact iu_s _ _ _)]; exact (hW.1 xb)) (by rw [show vvl (tVh (tVl (tVw (tTh μ (ltR 0 1)) xv (vbk μ xb)) xv 0) xv 99) xv = 0 from (by first | rfl | exact iu_s _ _ _)]; omega) (by rw [show vvh (tVh (tVl (tVw (tTh μ (ltR 0 1)) xv (vbk μ xb)) xv 0) xv 99) xv = 99 from (by first | rfl | exact iu_s _ _ _)]; omega)) ⟨rfl, rfl⟩ rfl hP hC.1.1 hC.1.2 rfl rfl rfl hl rfl (Nat.le_of_ble_eq_true rfl) dX6_openView_171 ⟨Nat.zero_le _, Nat.zero_le _⟩ (fun r77 e_r77 => ?_)
                      replace e_r77 : r77 = cntP (vst μ (vbk μ xb)) 0 99 := e_r77.trans (by first | rfl | (rw [show vvw (tVh (tVl (tVw (tTh μ (ltR 0 1)) xv (vbk μ xb)) xv 0) xv 99) xv = (vbk μ xb) from (by first | rfl | exact iu_s _ _ _), show vvl (tVh (tVl (tVw (tTh μ (ltR 0 1)) xv (vbk μ xb)) xv 0) xv 99) xv = 0 from (by first | rfl | exact iu_s _ _ _), show vvh (tVh (tVl (tVw (tTh μ (ltR 0 1)) xv (vbk μ xb)) xv 0) xv 99) xv = 99 from (by first | rfl | exact iu_s _ _ _)]; done) | (rw [show vvw (tVh (tVl (tVw (tTh μ (ltR 0 1)) xv (vbk μ xb)) xv 0) xv 99) xv = (vbk μ xb) from (by first | rfl | exact iu_s _ _ _), show vvl (tVh (tVl (tVw (tTh μ (ltR 0 1)) xv (vbk μ xb)) xv 0) xv 99) xv = 0 from (by first | rfl | exact iu_s _ _ _), show vvh (tVh (tVl (tVw (tTh μ (ltR 0 1)) xv (vbk μ xb)) xv 0) xv 99) xv = 99 from (by first | rfl | exact iu_s _ _ _)]; rfl))
                      subst e_r77
                      exact q_retMi C0 hret rfl hlk dX6_openView_174 hP hD hS (⟨(by 
    have eL : moLo (vod μ (vbk μ xb)) xkind xlow xends = 0 := by (unfold moLo; first | (rw [if_pos (by omega)]; done) | (rw [if_neg (by omega)]; done))
    have eH : moHi (vod μ (vbk μ xb)) xkind xhigh xends = 99 := by (unfold moHi; first | (rw [if_pos (by omega)]; done) | (rw [if_neg (by omega)]; done))
    unfold jR_openView; rw [if_pos (by omega), if_neg (by omega), eL, eH]), O, G, MP_eq hC (by 
    have eL : moLo (vod μ (vbk μ xb)) xkind xlow xends = 0 := by (unfold moLo; first | (rw [if_pos (by omega)]; done) | (rw [if_neg (by omega)]; done))
    have eH : moHi (vod μ (vbk μ xb)) xkind xhigh xends = 99 := by (unfold moHi; first | (rw [if_pos (by omega)]; done) | (rw [if_neg (by omega)]; done))
    have lt_ := ltR_d 0 1; 
    unfold jS_openView; rw [if_pos (by omega), if_pos (by omega), if_neg (by omega), eL, eH, show ltR 0 1 = 0 by omega]), rfl, Ext0 hO⟩)
                · refine lv_aload_n hx hb dX6_openView_98 rfl (lv_at hl 1 rfl) ?_
                  refine q_vMi C0 lX6_89 (c_X6_refuse l D y L F29 _ O G (tTh μ (ltR 0 1)) hC) ⟨rfl, rfl⟩ rfl hP hD hS hA hC.1.1 hC.1.2 rfl rfl rfl hl rfl (Nat.le_of_ble_eq_true rfl) dX6_openView_99 ⟨Nat.le_of_ble_eq_true rfl, Nat.le_of_ble_eq_true rfl⟩ (fun r78 H locs L79 F79 hP hD hS hz79 hp79 => ?_)
                  obtain ⟨eL, hC, er, hO1⟩ := hp79
                  subst eL
                  replace er : (-9) = r78 := er.symm
                  subst er
                  have hO := hO.tr hO1
                  exact q_retMi C0 hret rfl hlk dX6_openView_102 hP hD hS (⟨(by unfold jR_openView; rw [if_pos (by omega), if_pos (by omega)]), O, G, MP_eq hC (by have lt_ := ltR_d 0 1; unfold jS_openView; rw [if_pos (by omega), if_pos (by omega), if_pos (by omega), show ltR 0 1 = 0 by omega]), rfl, Ext0 hO⟩)
            · replace k_30 := k_30.resolve_left (fun h => absurd (h.1.symm.trans c31) (by decide))
              refine q_iconst hx hb dX6_openView_66 ?_
              exact q_retMi C0 hret rfl hlk dX6_openView_67 hP hD hS (⟨(by unfold jR_openView; rw [if_neg (by omega)]), O, G, MP_eq hC (by have lt_ := ltR_d 0 1; unfold jS_openView; rcases lt_ with lt_ | lt_ | lt_ <;> first | (rw [if_neg (by omega), lt_.1]; done) | (rw [if_pos (by omega), if_neg (by omega), lt_.1]; done) | (exfalso; omega)), rfl, Ext0 hO⟩)
  · replace b_2 := b_2.resolve_right (fun h => c3 h.1)
    refine lv_iload_n hx hb dX6_openView_8 rfl (lv_at hl 2 rfl) ?_
    refine q_sS C0 lX6_60 (c_X6_isBook l D y L F xb (by omega)) ⟨rfl, rfl⟩ rfl hP rfl hl rfl (Nat.le_of_ble_eq_true rfl) dX6_openView_9 ⟨Nat.zero_le _, Nat.zero_le _⟩ (fun r80 e_r80 => ?_)
    subst e_r80
    have b_81 := inR_d xb 0 3
    refine q_if_eq hx hb dX6_openView_12 (tgt := 19) (by decide) (by omega) (fun c82 => ?_) (fun c82 => ?_)
    · replace b_81 := b_81.resolve_left (fun h => absurd (h.1.symm.trans c82) (by decide))
      refine q_iconst hx hb dX6_openView_19 ?_
      refine lv_iload_n hx hb dX6_openView_20 rfl (lv_at hl 3 rfl) ?_
      refine q_iconst hx hb dX6_openView_21 ?_
      refine q_iconst hx hb dX6_openView_22 ?_
      refine q_sS C0 lX6_41 (c_X6_isIn l D y L F xkind 0 2 (by omega) (by omega) (by omega)) ⟨rfl, rfl⟩ rfl hP rfl hl rfl (Nat.le_of_ble_eq_true rfl) dX6_openView_23 ⟨Nat.zero_le _, Nat.zero_le _⟩ (fun r83 e_r83 => ?_)
      subst e_r83
      have b_84 := inR_d xkind 0 2
      refine q_if_eq hx hb dX6_openView_26 (tgt := 59) (by decide) (by omega) (fun c85 => ?_) (fun c85 => ?_)
      · replace b_84 := b_84.resolve_left (fun h => absurd (h.1.symm.trans c85) (by decide))
        refine q_iconst hx hb dX6_openView_59 ?_
        refine q_vMi C0 lX6_63 (c_X6_isLet l D y L F _ O G μ 0 0 hC (by omega) (by omega)) ⟨rfl, rfl⟩ rfl hP hD hS hA hC.1.1 hC.1.2 rfl rfl rfl hl rfl (Nat.le_of_ble_eq_true rfl) dX6_openView_60 ⟨Nat.le_of_ble_eq_true rfl, Nat.le_of_ble_eq_true rfl⟩ (fun r86 H locs L87 F87 hP hD hS hz87 hp87 => ?_)
        obtain ⟨eL, hC, er, hO1⟩ := hp87
        subst eL
        replace er := (er.trans (okR_z _)).symm
        subst er
        have hO := hO.tr hO1
        refine q_if_ne hx hb dX6_openView_63 (tgt := 68) (by decide) (by omega) (fun c88 => absurd c88 (by omega)) (fun c88 => ?_)
        refine q_iconst hx hb dX6_openView_66 ?_
        exact q_retMi C0 hret rfl hlk dX6_openView_67 hP hD hS (⟨(by unfold jR_openView; rw [if_neg (by omega)]), O, G, MP_eq hC (by have lt_ := ltR_d 0 0; unfold jS_openView; rcases lt_ with lt_ | lt_ | lt_ <;> first | (rw [if_neg (by omega), lt_.1]; done) | (rw [if_pos (by omega), if_neg (by omega), lt_.1]; done) | (exfalso; omega)), rfl, Ext0 hO⟩)
      · replace b_84 := b_84.resolve_right (fun h => c85 h.1)
        refine lv_iload hx hb dX6_openView_29 (lv_at hl 4 rfl) ?_
        refine q_sS C0 lX6_86 (c_X6_isKey l D y L F xlow (by omega)) ⟨rfl, rfl⟩ rfl hP rfl hl rfl (Nat.le_of_ble_eq_true rfl) dX6_openView_31 ⟨Nat.zero_le _, Nat.zero_le _⟩ (fun r89 e_r89 => ?_)
        subst e_r89
        have b_90 := inR_d xlow 0 99
        refine q_if_eq hx hb dX6_openView_34 (tgt := 59) (by decide) (by omega) (fun c91 => ?_) (fun c91 => ?_)
        · replace b_90 := b_90.resolve_left (fun h => absurd (h.1.symm.trans c91) (by decide))
          refine q_iconst hx hb dX6_openView_59 ?_
          refine q_vMi C0 lX6_63 (c_X6_isLet l D y L F _ O G μ 0 0 hC (by omega) (by omega)) ⟨rfl, rfl⟩ rfl hP hD hS hA hC.1.1 hC.1.2 rfl rfl rfl hl rfl (Nat.le_of_ble_eq_true rfl) dX6_openView_60 ⟨Nat.le_of_ble_eq_true rfl, Nat.le_of_ble_eq_true rfl⟩ (fun r92 H locs L93 F93 hP hD hS hz93 hp93 => ?_)
          obtain ⟨eL, hC, er, hO1⟩ := hp93
          subst eL
          replace er := (er.trans (okR_z _)).symm
          subst er
          have hO := hO.tr hO1
          refine q_if_ne hx hb dX6_openView_63 (tgt := 68) (by decide) (by omega) (fun c94 => absurd c94 (by omega)) (fun c94 => ?_)
          refine q_iconst hx hb dX6_openView_66 ?_
          exact q_retMi C0 hret rfl hlk dX6_openView_67 hP hD hS (⟨(by unfold jR_openView; rw [if_neg (by omega)]), O, G, MP_eq hC (by have lt_ := ltR_d 0 0; unfold jS_openView; rcases lt_ with lt_ | lt_ | lt_ <;> first | (rw [if_neg (by omega), lt_.1]; done) | (rw [if_pos (by omega), if_neg (by omega), lt_.1]; done) | (exfalso; omega)), rfl, Ext0 hO⟩)
        · replace b_90 := b_90.resolve_right (fun h => c91 h.1)
          refine lv_iload hx hb dX6_openView_37 (lv_at hl 5 rfl) ?_
          refine q_sS C0 lX6_86 (c_X6_isKey l D y L F xhigh (by omega)) ⟨rfl, rfl⟩ rfl hP rfl hl rfl (Nat.le_of_ble_eq_true rfl) dX6_openView_39 ⟨Nat.zero_le _, Nat.zero_le _⟩ (fun r95 e_r95 => ?_)
          subst e_r95
          have b_96 := inR_d xhigh 0 99
          refine q_if_eq hx hb dX6_openView_42 (tgt := 59) (by decide) (by omega) (fun c97 => ?_) (fun c97 => ?_)
          · replace b_96 := b_96.resolve_left (fun h => absurd (h.1.symm.trans c97) (by decide))
            refine q_iconst hx hb dX6_openView_59 ?_
            refine q_vMi C0 lX6_63 (c_X6_isLet l D y L F _ O G μ 0 0 hC (by omega) (by omega)) ⟨rfl, rfl⟩ rfl hP hD hS hA hC.1.1 hC.1.2 rfl rfl rfl hl rfl (Nat.le_of_ble_eq_true rfl) dX6_openView_60 ⟨Nat.le_of_ble_eq_true rfl, Nat.le_of_ble_eq_true rfl⟩ (fun r98 H locs L99 F99 hP hD hS hz99 hp99 => ?_)
            obtain ⟨eL, hC, er, hO1⟩ := hp99
            subst eL
            replace er := (er.trans (okR_z _)).symm
            subst er
            have hO := hO.tr hO1
            refine q_if_ne hx hb dX6_openView_63 (tgt := 68) (by decide) (by omega) (fun c100 => absurd c100 (by omega)) (fun c100 => ?_)
            refine q_iconst hx hb dX6_openView_66 ?_
            exact q_retMi C0 hret rfl hlk dX6_openView_67 hP hD hS (⟨(by unfold jR_openView; rw [if_neg (by omega)]), O, G, MP_eq hC (by have lt_ := ltR_d 0 0; unfold jS_openView; rcases lt_ with lt_ | lt_ | lt_ <;> first | (rw [if_neg (by omega), lt_.1]; done) | (rw [if_pos (by omega), if_neg (by omega), lt_.1]; done) | (exfalso; omega)), rfl, Ext0 hO⟩)
          · replace b_96 := b_96.resolve_right (fun h => c97 h.1)
            refine lv_iload hx hb dX6_openView_45 (lv_at hl 6 rfl) ?_
            refine q_iconst hx hb dX6_openView_47 ?_
            refine q_iconst hx hb dX6_openView_48 ?_
            refine q_sS C0 lX6_41 (c_X6_isIn l D y L F xends 0 3 (by omega) (by omega) (by omega)) ⟨rfl, rfl⟩ rfl hP rfl hl rfl (Nat.le_of_ble_eq_true rfl) dX6_openView_49 ⟨Nat.zero_le _, Nat.zero_le _⟩ (fun r101 e_r101 => ?_)
            subst e_r101
            have b_102 := inR_d xends 0 3
            refine q_if_eq hx hb dX6_openView_52 (tgt := 59) (by decide) (by omega) (fun c103 => ?_) (fun c103 => ?_)
            · replace b_102 := b_102.resolve_left (fun h => absurd (h.1.symm.trans c103) (by decide))
              refine q_iconst hx hb dX6_openView_59 ?_
              refine q_vMi C0 lX6_63 (c_X6_isLet l D y L F _ O G μ 0 0 hC (by omega) (by omega)) ⟨rfl, rfl⟩ rfl hP hD hS hA hC.1.1 hC.1.2 rfl rfl rfl hl rfl (Nat.le_of_ble_eq_true rfl) dX6_openView_60 ⟨Nat.le_of_ble_eq_true rfl, Nat.le_of_ble_eq_true rfl⟩ (fun r104 H locs L105 F105 hP hD hS hz105 hp105 => ?_)
              obtain ⟨eL, hC, er, hO1⟩ := hp105
              subst eL
              replace er := (er.trans (okR_z _)).symm
              subst er
              have hO := hO.tr hO1
              refine q_if_ne hx hb dX6_openView_63 (tgt := 68) (by decide) (by omega) (fun c106 => absurd c106 (by omega)) (fun c106 => ?_)
              refine q_iconst hx hb dX6_openView_66 ?_
              exact q_retMi C0 hret rfl hlk dX6_openView_67 hP hD hS (⟨(by unfold jR_openView; rw [if_neg (by omega)]), O, G, MP_eq hC (by have lt_ := ltR_d 0 0; unfold jS_openView; rcases lt_ with lt_ | lt_ | lt_ <;> first | (rw [if_neg (by omega), lt_.1]; done) | (rw [if_pos (by omega), if_neg (by omega), lt_.1]; done) | (exfalso; omega)), rfl, Ext0 hO⟩)
            · replace b_102 := b_102.resolve_right (fun h => c103 h.1)
              refine q_iconst hx hb dX6_openView_55 ?_
              refine lv_goto (tgt := 60) hx hb dX6_openView_56 (by decide) ?_
              refine q_vMi C0 lX6_63 (c_X6_isLet l D y L F _ O G μ 0 1 hC (by omega) (by omega)) ⟨rfl, rfl⟩ rfl hP hD hS hA hC.1.1 hC.1.2 rfl rfl rfl hl rfl (Nat.le_of_ble_eq_true rfl) dX6_openView_60 ⟨Nat.le_of_ble_eq_true rfl, Nat.le_of_ble_eq_true rfl⟩ (fun r107 H locs L108 F108 hP hD hS hz108 hp108 => ?_)
              obtain ⟨eL, hC, er, hO1⟩ := hp108
              subst eL
              replace er := er.symm
              subst er
              have hO := hO.tr hO1
              have k_109 := okR_d 0 1
              refine q_if_ne hx hb dX6_openView_63 (tgt := 68) (by decide) (by omega) (fun c110 => ?_) (fun c110 => ?_)
              · replace k_109 := k_109.resolve_right (fun h => c110 h.1)
                refine lv_aload_n hx hb dX6_openView_68 rfl (lv_at hl 0 rfl) ?_
                refine q_get C0 iX6 hP hC.1.1 hC.1.2 rfl 0 (by decide) flX6_11 rfl (v := .ref ((uab G))) rfl dX6_openView_69 ?_
                refine lv_iload_n hx hb dX6_openView_72 rfl (lv_at hl 2 rfl) ?_
                refine q_aald C0 hP hC.2.1.1 hC.2.1.2 (t := 3) rfl (by omega) (by decide) (v := .ref ((urh G (vbk μ xb)))) rfl dX6_openView_73 ?_
                refine lv_astore (lv' := [(7, .ref ((urh G (vbk μ xb)))), (0, .ref ((ubg G))), (1, .int (iI xv)), (2, .int (iI xb)), (3, .int (iI xkind)), (4, .int (iI xlow)), (5, .int (iI xhigh)), (6, .int (iI xends))]) hx hb dX6_openView_74 hl (by decide) rfl (fun ls hl => ?_)
                refine lv_iload_n hx hb dX6_openView_76 rfl (lv_at hl 4 rfl) ?_
                refine q_iconst hx hb dX6_openView_77 ?_
                refine q_icmp_ne hx hb dX6_openView_78 (tgt := 103) (by decide) (by omega) (by omega) (fun c111 => ?_) (fun c111 => ?_)
                · refine lv_aload_n hx hb dX6_openView_103 rfl (lv_at hl 1 rfl) ?_
                  refine q_get C0 iX6 hP hC.1.1 hC.1.2 rfl 2 (by decide) flX6_18 rfl (v := .ref ((uav G))) rfl dX6_openView_104 ?_
                  refine lv_iload_n hx hb dX6_openView_107 rfl (lv_at hl 2 rfl) ?_
                  refine lv_aload hx hb dX6_openView_108 (lv_at hl 0 rfl) ?_
                  refine q_aast C0 hP hD hS hC.2.2.2.1.1 hC.2.2.2.1.2 (t := 3) (r := (RX5, TX5, 2)) rfl (MP_r hC (hW.1 xb)).1 (MP_r hC (hW.1 xb)).2.1 rfl (by omega) (by decide) dX6_openView_110 (fun H locs hP hD hS => ?_)
                  obtain ⟨F112, eF112⟩ : ∃ z, z = va_up F108 (uav G) (arrQ (y 3) 2 (iu (fun j => some (urh G (vvw (tTh μ (ltR 0 1)) j))) xv (some (urh G (vbk μ xb))))) := ⟨_, rfl⟩
                  have hP : va_P D vwCl (va_pl L F112) H := by rw [eF112]; exact hP
                  have hD : va_D (AL L sz) (va_pl L F112) := by rw [eF112]; exact hD
                  have hO : OE O F F112 := by rw [eF112]; exact hO.tr (OE1 (MP_O hC).2.2.2.1)
                  have hC : MP y L F112 O G (tVw (tTh μ (ltR 0 1)) xv (vbk μ xb)) := by rw [eF112]; exact MP_vw hC (va_up_self _ _ _) (fun q hq => va_up_ne _ _ hq)
                  refine lv_aload_n hx hb dX6_openView_111 rfl (lv_at hl 1 rfl) ?_
                  refine q_get C0 iX6 hP hC.1.1 hC.1.2 rfl 3 (by decide) flX6_21 rfl (v := .ref ((uaf G))) rfl dX6_openView_112 ?_
                  refine lv_iload_n hx hb dX6_openView_115 rfl (lv_at hl 2 rfl) ?_
                  refine lv_iload_n hx hb dX6_openView_116 rfl (lv_at hl 4 rfl) ?_
                  refine q_if_ne hx hb dX6_openView_117 (tgt := 124) (by decide) (by omega) (fun c113 => ?_) (fun c113 => ?_)
                  · refine lv_aload hx hb dX6_openView_124 (lv_at hl 0 rfl) ?_
                    refine lv_iload hx hb dX6_openView_126 (lv_at hl 5 rfl) ?_
                    refine q_vS C0 lX6_93 (c_X5_rank l D y L F112 (urh G (vbk μ xb)) (urw G (vbk μ xb)) (vod μ (vbk μ xb)) (vst μ (vbk μ xb)) xlow (MP_r hC (hW.1 xb)) (by omega)) ⟨rfl, rfl⟩ rfl hP (MP_r hC (hW.1 xb)).1 (MP_r hC (hW.1 xb)).2.1 rfl rfl rfl hl rfl (Nat.le_of_ble_eq_true rfl) dX6_openView_128 ⟨Nat.zero_le _, Nat.zero_le _⟩ (fun r114 e_r114 => ?_)
                    subst e_r114
                    have b_115 := @turn_b (vod μ (vbk μ xb)) xlow (by omega)
                    refine q_iconst hx hb dX6_openView_131 ?_
                    refine q_iadd hx hb dX6_openView_132 ?_
                    refine lv_iload hx hb dX6_openView_133 (lv_at hl 7 rfl) ?_
                    refine q_iconst hx hb dX6_openView_135 ?_
                    refine q_irem hx hb dX6_openView_136 (by omega) (by omega) ?_
                    refine q_isub hx hb dX6_openView_137 ?_
                    refine q_iast C0 hP hD hS hC.2.2.2.2.1.1 hC.2.2.2.2.1.2 (i := xv) (v := (((turn (vod μ (vbk μ xb)) xlow) + 1) - (xends % 2))) (by omega) (by decide) dX6_openView_138 (fun H locs hP hD hS => ?_)
                    obtain ⟨F116, eF116⟩ : ∃ z, z = va_up F112 (uaf G) (arrI (y 0) 2 (iu (vvl μ) xv (((turn (vod μ (vbk μ xb)) xlow) + 1) - (xends % 2)))) := ⟨_, rfl⟩
                    have hP : va_P D vwCl (va_pl L F116) H := by rw [eF116]; exact hP
                    have hD : va_D (AL L sz) (va_pl L F116) := by rw [eF116]; exact hD
                    have hO : OE O F F116 := by rw [eF116]; exact hO.tr (OE1 (MP_O hC).2.2.2.2.1)
                    have hC : MP y L F116 O G (tVl (tVw (tTh μ (ltR 0 1)) xv (vbk μ xb)) xv (((turn (vod μ (vbk μ xb)) xlow) + 1) - (xends % 2))) := by rw [eF116]; exact MP_vl hC (va_up_self _ _ _) (fun q hq => va_up_ne _ _ hq)
                    refine lv_aload_n hx hb dX6_openView_139 rfl (lv_at hl 1 rfl) ?_
                    refine q_get C0 iX6 hP hC.1.1 hC.1.2 rfl 4 (by decide) flX6_25 rfl (v := .ref ((uat G))) rfl dX6_openView_140 ?_
                    refine lv_iload_n hx hb dX6_openView_143 rfl (lv_at hl 2 rfl) ?_
                    refine lv_iload_n hx hb dX6_openView_144 rfl (lv_at hl 4 rfl) ?_
                    refine q_iconst hx hb dX6_openView_145 ?_
                    refine q_icmp_ne hx hb dX6_openView_146 (tgt := 154) (by decide) (by omega) (by omega) (fun c117 => ?_) (fun c117 => ?_)
                    · refine lv_aload hx hb dX6_openView_154 (lv_at hl 0 rfl) ?_
                      refine lv_iload hx hb dX6_openView_156 (lv_at hl 6 rfl) ?_
                      refine q_vS C0 lX6_93 (c_X5_rank l D y L F116 (urh G (vbk μ xb)) (urw G (vbk μ xb)) (vod μ (vbk μ xb)) (vst μ (vbk μ xb)) xhigh (MP_r hC (hW.1 xb)) (by omega)) ⟨rfl, rfl⟩ rfl hP (MP_r hC (hW.1 xb)).1 (MP_r hC (hW.1 xb)).2.1 rfl rfl rfl hl rfl (Nat.le_of_ble_eq_true rfl) dX6_openView_158 ⟨Nat.zero_le _, Nat.zero_le _⟩ (fun r118 e_r118 => ?_)
                      subst e_r118
                      have b_119 := @turn_b (vod μ (vbk μ xb)) xhigh (by omega)
                      refine q_iconst hx hb dX6_openView_161 ?_
                      refine q_isub hx hb dX6_openView_162 ?_
                      refine lv_iload hx hb dX6_openView_163 (lv_at hl 7 rfl) ?_
                      refine q_iconst hx hb dX6_openView_165 ?_
                      refine q_idiv hx hb dX6_openView_166 (by omega) (by omega) ?_
                      refine q_iadd hx hb dX6_openView_167 ?_
                      refine q_iast C0 hP hD hS hC.2.2.2.2.2.1.1 hC.2.2.2.2.2.1.2 (i := xv) (v := (((turn (vod μ (vbk μ xb)) xhigh) - 1) + (xends / 2))) (by omega) (by decide) dX6_openView_168 (fun H locs hP hD hS => ?_)
                      obtain ⟨F120, eF120⟩ : ∃ z, z = va_up F116 (uat G) (arrI (y 0) 2 (iu (vvh μ) xv (((turn (vod μ (vbk μ xb)) xhigh) - 1) + (xends / 2)))) := ⟨_, rfl⟩
                      have hP : va_P D vwCl (va_pl L F120) H := by rw [eF120]; exact hP
                      have hD : va_D (AL L sz) (va_pl L F120) := by rw [eF120]; exact hD
                      have hO : OE O F F120 := by rw [eF120]; exact hO.tr (OE1 (MP_O hC).2.2.2.2.2.1)
                      have hC : MP y L F120 O G (tVh (tVl (tVw (tTh μ (ltR 0 1)) xv (vbk μ xb)) xv (((turn (vod μ (vbk μ xb)) xlow) + 1) - (xends % 2))) xv (((turn (vod μ (vbk μ xb)) xhigh) - 1) + (xends / 2))) := by rw [eF120]; exact MP_vh hC (va_up_self _ _ _) (fun q hq => va_up_ne _ _ hq)
                      refine lv_aload_n hx hb dX6_openView_169 rfl (lv_at hl 1 rfl) ?_
                      refine lv_iload_n hx hb dX6_openView_170 rfl (lv_at hl 2 rfl) ?_
                      refine q_vS C0 lX6_171 (c_X6_seen l D y L F120 O G (tVh (tVl (tVw (tTh μ (ltR 0 1)) xv (vbk μ xb)) xv (((turn (vod μ (vbk μ xb)) xlow) + 1) - (xends % 2))) xv (((turn (vod μ (vbk μ xb)) xhigh) - 1) + (xends / 2))) xv hC (by omega) (by rw [show vvw (tVh (tVl (tVw (tTh μ (ltR 0 1)) xv (vbk μ xb)) xv (((turn (vod μ (vbk μ xb)) xlow) + 1) - (xends % 2))) xv (((turn (vod μ (vbk μ xb)) xhigh) - 1) + (xends / 2))) xv = (vbk μ xb) from (by first | rfl | exact iu_s _ _ _)]; exact (hW.1 xb)) (by rw [show vvl (tVh (tVl (tVw (tTh μ (ltR 0 1)) xv (vbk μ xb)) xv (((turn (vod μ (vbk μ xb)) xlow) + 1) - (xends % 2))) xv (((turn (vod μ (vbk μ xb)) xhigh) - 1) + (xends / 2))) xv = (((turn (vod μ (vbk μ xb)) xlow) + 1) - (xends % 2)) from (by first | rfl | exact iu_s _ _ _)]; omega) (by rw [show vvh (tVh (tVl (tVw (tTh μ (ltR 0 1)) xv (vbk μ xb)) xv (((turn (vod μ (vbk μ xb)) xlow) + 1) - (xends % 2))) xv (((turn (vod μ (vbk μ xb)) xhigh) - 1) + (xends / 2))) xv = (((turn (vod μ (vbk μ xb)) xhigh) - 1) + (xends / 2)) from (by first | rfl | exact iu_s _ _ _)]; omega)) ⟨rfl, rfl⟩ rfl hP hC.1.1 hC.1.2 rfl rfl rfl hl rfl (Nat.le_of_ble_eq_true rfl) dX6_openView_171 ⟨Nat.zero_le _, Nat.zero_le _⟩ (fun r121 e_r121 => ?_)
                      replace e_r121 : r121 = cntP (vst μ (vbk μ xb)) (((turn (vod μ (vbk μ xb)) xlow) + 1) - (xends % 2)) (((turn (vod μ (vbk μ xb)) xhigh) - 1) + (xends / 2)) := e_r121.trans (by first | rfl | (rw [show vvw (tVh (tVl (tVw (tTh μ (ltR 0 1)) xv (vbk μ xb)) xv (((turn (vod μ (vbk μ xb)) xlow) + 1) - (xends % 2))) xv (((turn (vod μ (vbk μ xb)) xhigh) - 1) + (xends / 2))) xv = (vbk μ xb) from (by first | rfl | exact iu_s _ _ _), show vvl (tVh (tVl (tVw (tTh μ (ltR 0 1)) xv (vbk μ xb)) xv (((turn (vod μ (vbk μ xb)) xlow) + 1) - (xends % 2))) xv (((turn (vod μ (vbk μ xb)) xhigh) - 1) + (xends / 2))) xv = (((turn (vod μ (vbk μ xb)) xlow) + 1) - (xends % 2)) from (by first | rfl | exact iu_s _ _ _), show vvh (tVh (tVl (tVw (tTh μ (ltR 0 1)) xv (vbk μ xb)) xv (((turn (vod μ (vbk μ xb)) xlow) + 1) - (xends % 2))) xv (((turn (vod μ (vbk μ xb)) xhigh) - 1) + (xends / 2))) xv = (((turn (vod μ (vbk μ xb)) xhigh) - 1) + (xends / 2)) from (by first | rfl | exact iu_s _ _ _)]; done) | (rw [show vvw (tVh (tVl (tVw (tTh μ (ltR 0 1)) xv (vbk μ xb)) xv (((turn (vod μ (vbk μ xb)) xlow) + 1) - (xends % 2))) xv (((turn (vod μ (vbk μ xb)) xhigh) - 1) + (xends / 2))) xv = (vbk μ xb) from (by first | rfl | exact iu_s _ _ _), show vvl (tVh (tVl (tVw (tTh μ (ltR 0 1)) xv (vbk μ xb)) xv (((turn (vod μ (vbk μ xb)) xlow) + 1) - (xends % 2))) xv (((turn (vod μ (vbk μ xb)) xhigh) - 1) + (xends / 2))) xv = (((turn (vod μ (vbk μ xb)) xlow) + 1) - (xends % 2)) from (by first | rfl | exact iu_s _ _ _), show vvh (tVh (tVl (tVw (tTh μ (ltR 0 1)) xv (vbk μ xb)) xv (((turn (vod μ (vbk μ xb)) xlow) + 1) - (xends % 2))) xv (((turn (vod μ (vbk μ xb)) xhigh) - 1) + (xends / 2))) xv = (((turn (vod μ (vbk μ xb)) xhigh) - 1) + (xends / 2)) from (by first | rfl | exact iu_s _ _ _)]; rfl))
                      subst e_r121
                      exact q_retMi C0 hret rfl hlk dX6_openView_174 hP hD hS (⟨(by 
    have eL : moLo (vod μ (vbk μ xb)) xkind xlow xends = (((turn (vod μ (vbk μ xb)) xlow) + 1) - (xends % 2)) := by (unfold moLo; first | (rw [if_pos (by omega)]; done) | (rw [if_neg (by omega)]; done))
    have eH : moHi (vod μ (vbk μ xb)) xkind xhigh xends = (((turn (vod μ (vbk μ xb)) xhigh) - 1) + (xends / 2)) := by (unfold moHi; first | (rw [if_pos (by omega)]; done) | (rw [if_neg (by omega)]; done))
    unfold jR_openView; rw [if_pos (by omega), if_neg (by omega), eL, eH]), O, G, MP_eq hC (by 
    have eL : moLo (vod μ (vbk μ xb)) xkind xlow xends = (((turn (vod μ (vbk μ xb)) xlow) + 1) - (xends % 2)) := by (unfold moLo; first | (rw [if_pos (by omega)]; done) | (rw [if_neg (by omega)]; done))
    have eH : moHi (vod μ (vbk μ xb)) xkind xhigh xends = (((turn (vod μ (vbk μ xb)) xhigh) - 1) + (xends / 2)) := by (unfold moHi; first | (rw [if_pos (by omega)]; done) | (rw [if_neg (by omega)]; done))
    have lt_ := ltR_d 0 1; 
    unfold jS_openView; rw [if_pos (by omega), if_pos (by omega), if_neg (by omega), eL, eH, show ltR 0 1 = 0 by omega]), rfl, Ext0 hO⟩)
                    · refine q_bipush hx hb dX6_openView_149 (by decide) ?_
                      refine lv_goto (tgt := 168) hx hb dX6_openView_151 (by decide) ?_
                      refine q_iast C0 hP hD hS hC.2.2.2.2.2.1.1 hC.2.2.2.2.2.1.2 (i := xv) (v := 99) (by omega) (by decide) dX6_openView_168 (fun H locs hP hD hS => ?_)
                      obtain ⟨F122, eF122⟩ : ∃ z, z = va_up F116 (uat G) (arrI (y 0) 2 (iu (vvh μ) xv 99)) := ⟨_, rfl⟩
                      have hP : va_P D vwCl (va_pl L F122) H := by rw [eF122]; exact hP
                      have hD : va_D (AL L sz) (va_pl L F122) := by rw [eF122]; exact hD
                      have hO : OE O F F122 := by rw [eF122]; exact hO.tr (OE1 (MP_O hC).2.2.2.2.2.1)
                      have hC : MP y L F122 O G (tVh (tVl (tVw (tTh μ (ltR 0 1)) xv (vbk μ xb)) xv (((turn (vod μ (vbk μ xb)) xlow) + 1) - (xends % 2))) xv 99) := by rw [eF122]; exact MP_vh hC (va_up_self _ _ _) (fun q hq => va_up_ne _ _ hq)
                      refine lv_aload_n hx hb dX6_openView_169 rfl (lv_at hl 1 rfl) ?_
                      refine lv_iload_n hx hb dX6_openView_170 rfl (lv_at hl 2 rfl) ?_
                      refine q_vS C0 lX6_171 (c_X6_seen l D y L F122 O G (tVh (tVl (tVw (tTh μ (ltR 0 1)) xv (vbk μ xb)) xv (((turn (vod μ (vbk μ xb)) xlow) + 1) - (xends % 2))) xv 99) xv hC (by omega) (by rw [show vvw (tVh (tVl (tVw (tTh μ (ltR 0 1)) xv (vbk μ xb)) xv (((turn (vod μ (vbk μ xb)) xlow) + 1) - (xends % 2))) xv 99) xv = (vbk μ xb) from (by first | rfl | exact iu_s _ _ _)]; exact (hW.1 xb)) (by rw [show vvl (tVh (tVl (tVw (tTh μ (ltR 0 1)) xv (vbk μ xb)) xv (((turn (vod μ (vbk μ xb)) xlow) + 1) - (xends % 2))) xv 99) xv = (((turn (vod μ (vbk μ xb)) xlow) + 1) - (xends % 2)) from (by first | rfl | exact iu_s _ _ _)]; omega) (by rw [show vvh (tVh (tVl (tVw (tTh μ (ltR 0 1)) xv (vbk μ xb)) xv (((turn (vod μ (vbk μ xb)) xlow) + 1) - (xends % 2))) xv 99) xv = 99 from (by first | rfl | exact iu_s _ _ _)]; omega)) ⟨rfl, rfl⟩ rfl hP hC.1.1 hC.1.2 rfl rfl rfl hl rfl (Nat.le_of_ble_eq_true rfl) dX6_openView_171 ⟨Nat.zero_le _, Nat.zero_le _⟩ (fun r123 e_r123 => ?_)
                      replace e_r123 : r123 = cntP (vst μ (vbk μ xb)) (((turn (vod μ (vbk μ xb)) xlow) + 1) - (xends % 2)) 99 := e_r123.trans (by first | rfl | (rw [show vvw (tVh (tVl (tVw (tTh μ (ltR 0 1)) xv (vbk μ xb)) xv (((turn (vod μ (vbk μ xb)) xlow) + 1) - (xends % 2))) xv 99) xv = (vbk μ xb) from (by first | rfl | exact iu_s _ _ _), show vvl (tVh (tVl (tVw (tTh μ (ltR 0 1)) xv (vbk μ xb)) xv (((turn (vod μ (vbk μ xb)) xlow) + 1) - (xends % 2))) xv 99) xv = (((turn (vod μ (vbk μ xb)) xlow) + 1) - (xends % 2)) from (by first | rfl | exact iu_s _ _ _), show vvh (tVh (tVl (tVw (tTh μ (ltR 0 1)) xv (vbk μ xb)) xv (((turn (vod μ (vbk μ xb)) xlow) + 1) - (xends % 2))) xv 99) xv = 99 from (by first | rfl | exact iu_s _ _ _)]; done) | (rw [show vvw (tVh (tVl (tVw (tTh μ (ltR 0 1)) xv (vbk μ xb)) xv (((turn (vod μ (vbk μ xb)) xlow) + 1) - (xends % 2))) xv 99) xv = (vbk μ xb) from (by first | rfl | exact iu_s _ _ _), show vvl (tVh (tVl (tVw (tTh μ (ltR 0 1)) xv (vbk μ xb)) xv (((turn (vod μ (vbk μ xb)) xlow) + 1) - (xends % 2))) xv 99) xv = (((turn (vod μ (vbk μ xb)) xlow) + 1) - (xends % 2)) from (by first | rfl | exact iu_s _ _ _), show vvh (tVh (tVl (tVw (tTh μ (ltR 0 1)) xv (vbk μ xb)) xv (((turn (vod μ (vbk μ xb)) xlow) + 1) - (xends % 2))) xv 99) xv = 99 from (by first | rfl | exact iu_s _ _ _)]; rfl))
                      subst e_r123
                      exact q_retMi C0 hret rfl hlk dX6_openView_174 hP hD hS (⟨(by 
    have eL : moLo (vod μ (vbk μ xb)) xkind xlow xends = (((turn (vod μ (vbk μ xb)) xlow) + 1) - (xends % 2)) := by (unfold moLo; first | (rw [if_pos (by omega)]; done) | (rw [if_neg (by omega)]; done))
    have eH : moHi (vod μ (vbk μ xb)) xkind xhigh xends = 99 := by (unfold moHi; first | (rw [if_pos (by omega)]; done) | (rw [if_neg (by omega)]; done))
    unfold jR_openView; rw [if_pos (by omega), if_neg (by omega), eL, eH]), O, G, MP_eq hC (by 
    have eL : moLo (vod μ (vbk μ xb)) xkind xlow xends = (((turn (vod μ (vbk μ xb)) xlow) + 1) - (xends % 2)) := by (unfold moLo; first | (rw [if_pos (by omega)]; done) | (rw [if_neg (by omega)]; done))
    have eH : moHi (vod μ (vbk μ xb)) xkind xhigh xends = 99 := by (unfold moHi; first | (rw [if_pos (by omega)]; done) | (rw [if_neg (by omega)]; done))
    have lt_ := ltR_d 0 1; 
    unfold jS_openView; rw [if_pos (by omega), if_pos (by omega), if_neg (by omega), eL, eH, show ltR 0 1 = 0 by omega]), rfl, Ext0 hO⟩)
                  · refine q_iconst hx hb dX6_openView_120 ?_
                    refine lv_goto (tgt := 138) hx hb dX6_openView_121 (by decide) ?_
                    refine q_iast C0 hP hD hS hC.2.2.2.2.1.1 hC.2.2.2.2.1.2 (i := xv) (v := 0) (by omega) (by decide) dX6_openView_138 (fun H locs hP hD hS => ?_)
                    obtain ⟨F124, eF124⟩ : ∃ z, z = va_up F112 (uaf G) (arrI (y 0) 2 (iu (vvl μ) xv 0)) := ⟨_, rfl⟩
                    have hP : va_P D vwCl (va_pl L F124) H := by rw [eF124]; exact hP
                    have hD : va_D (AL L sz) (va_pl L F124) := by rw [eF124]; exact hD
                    have hO : OE O F F124 := by rw [eF124]; exact hO.tr (OE1 (MP_O hC).2.2.2.2.1)
                    have hC : MP y L F124 O G (tVl (tVw (tTh μ (ltR 0 1)) xv (vbk μ xb)) xv 0) := by rw [eF124]; exact MP_vl hC (va_up_self _ _ _) (fun q hq => va_up_ne _ _ hq)
                    refine lv_aload_n hx hb dX6_openView_139 rfl (lv_at hl 1 rfl) ?_
                    refine q_get C0 iX6 hP hC.1.1 hC.1.2 rfl 4 (by decide) flX6_25 rfl (v := .ref ((uat G))) rfl dX6_openView_140 ?_
                    refine lv_iload_n hx hb dX6_openView_143 rfl (lv_at hl 2 rfl) ?_
                    refine lv_iload_n hx hb dX6_openView_144 rfl (lv_at hl 4 rfl) ?_
                    refine q_iconst hx hb dX6_openView_145 ?_
                    refine q_icmp_ne hx hb dX6_openView_146 (tgt := 154) (by decide) (by omega) (by omega) (fun c125 => ?_) (fun c125 => ?_)
                    · refine lv_aload hx hb dX6_openView_154 (lv_at hl 0 rfl) ?_
                      refine lv_iload hx hb dX6_openView_156 (lv_at hl 6 rfl) ?_
                      refine q_vS C0 lX6_93 (c_X5_rank l D y L F124 (urh G (vbk μ xb)) (urw G (vbk μ xb)) (vod μ (vbk μ xb)) (vst μ (vbk μ xb)) xhigh (MP_r hC (hW.1 xb)) (by omega)) ⟨rfl, rfl⟩ rfl hP (MP_r hC (hW.1 xb)).1 (MP_r hC (hW.1 xb)).2.1 rfl rfl rfl hl rfl (Nat.le_of_ble_eq_true rfl) dX6_openView_158 ⟨Nat.zero_le _, Nat.zero_le _⟩ (fun r126 e_r126 => ?_)
                      subst e_r126
                      have b_127 := @turn_b (vod μ (vbk μ xb)) xhigh (by omega)
                      refine q_iconst hx hb dX6_openView_161 ?_
                      refine q_isub hx hb dX6_openView_162 ?_
                      refine lv_iload hx hb dX6_openView_163 (lv_at hl 7 rfl) ?_
                      refine q_iconst hx hb dX6_openView_165 ?_
                      refine q_idiv hx hb dX6_openView_166 (by omega) (by omega) ?_
                      refine q_iadd hx hb dX6_openView_167 ?_
                      refine q_iast C0 hP hD hS hC.2.2.2.2.2.1.1 hC.2.2.2.2.2.1.2 (i := xv) (v := (((turn (vod μ (vbk μ xb)) xhigh) - 1) + (xends / 2))) (by omega) (by decide) dX6_openView_168 (fun H locs hP hD hS => ?_)
                      obtain ⟨F128, eF128⟩ : ∃ z, z = va_up F124 (uat G) (arrI (y 0) 2 (iu (vvh μ) xv (((turn (vod μ (vbk μ xb)) xhigh) - 1) + (xends / 2)))) := ⟨_, rfl⟩
                      have hP : va_P D vwCl (va_pl L F128) H := by rw [eF128]; exact hP
                      have hD : va_D (AL L sz) (va_pl L F128) := by rw [eF128]; exact hD
                      have hO : OE O F F128 := by rw [eF128]; exact hO.tr (OE1 (MP_O hC).2.2.2.2.2.1)
                      have hC : MP y L F128 O G (tVh (tVl (tVw (tTh μ (ltR 0 1)) xv (vbk μ xb)) xv 0) xv (((turn (vod μ (vbk μ xb)) xhigh) - 1) + (xends / 2))) := by rw [eF128]; exact MP_vh hC (va_up_self _ _ _) (fun q hq => va_up_ne _ _ hq)
                      refine lv_aload_n hx hb dX6_openView_169 rfl (lv_at hl 1 rfl) ?_
                      refine lv_iload_n hx hb dX6_openView_170 rfl (lv_at hl 2 rfl) ?_
                      refine q_vS C0 lX6_171 (c_X6_seen l D y L F128 O G (tVh (tVl (tVw (tTh μ (ltR 0 1)) xv (vbk μ xb)) xv 0) xv (((turn (vod μ (vbk μ xb)) xhigh) - 1) + (xends / 2))) xv hC (by omega) (by rw [show vvw (tVh (tVl (tVw (tTh μ (ltR 0 1)) xv (vbk μ xb)) xv 0) xv (((turn (vod μ (vbk μ xb)) xhigh) - 1) + (xends / 2))) xv = (vbk μ xb) from (by first | rfl | exact iu_s _ _ _)]; exact (hW.1 xb)) (by rw [show vvl (tVh (tVl (tVw (tTh μ (ltR 0 1)) xv (vbk μ xb)) xv 0) xv (((turn (vod μ (vbk μ xb)) xhigh) - 1) + (xends / 2))) xv = 0 from (by first | rfl | exact iu_s _ _ _)]; omega) (by rw [show vvh (tVh (tVl (tVw (tTh μ (ltR 0 1)) xv (vbk μ xb)) xv 0) xv (((turn (vod μ (vbk μ xb)) xhigh) - 1) + (xends / 2))) xv = (((turn (vod μ (vbk μ xb)) xhigh) - 1) + (xends / 2)) from (by first | rfl | exact iu_s _ _ _)]; omega)) ⟨rfl, rfl⟩ rfl hP hC.1.1 hC.1.2 rfl rfl rfl hl rfl (Nat.le_of_ble_eq_true rfl) dX6_openView_171 ⟨Nat.zero_le _, Nat.zero_le _⟩ (fun r129 e_r129 => ?_)
                      replace e_r129 : r129 = cntP (vst μ (vbk μ xb)) 0 (((turn (vod μ (vbk μ xb)) xhigh) - 1) + (xends / 2)) := e_r129.trans (by first | rfl | (rw [show vvw (tVh (tVl (tVw (tTh μ (ltR 0 1)) xv (vbk μ xb)) xv 0) xv (((turn (vod μ (vbk μ xb)) xhigh) - 1) + (xends / 2))) xv = (vbk μ xb) from (by first | rfl | exact iu_s _ _ _), show vvl (tVh (tVl (tVw (tTh μ (ltR 0 1)) xv (vbk μ xb)) xv 0) xv (((turn (vod μ (vbk μ xb)) xhigh) - 1) + (xends / 2))) xv = 0 from (by first | rfl | exact iu_s _ _ _), show vvh (tVh (tVl (tVw (tTh μ (ltR 0 1)) xv (vbk μ xb)) xv 0) xv (((turn (vod μ (vbk μ xb)) xhigh) - 1) + (xends / 2))) xv = (((turn (vod μ (vbk μ xb)) xhigh) - 1) + (xends / 2)) from (by first | rfl | exact iu_s _ _ _)]; done) | (rw [show vvw (tVh (tVl (tVw (tTh μ (ltR 0 1)) xv (vbk μ xb)) xv 0) xv (((turn (vod μ (vbk μ xb)) xhigh) - 1) + (xends / 2))) xv = (vbk μ xb) from (by first | rfl | exact iu_s _ _ _), show vvl (tVh (tVl (tVw (tTh μ (ltR 0 1)) xv (vbk μ xb)) xv 0) xv (((turn (vod μ (vbk μ xb)) xhigh) - 1) + (xends / 2))) xv = 0 from (by first | rfl | exact iu_s _ _ _), show vvh (tVh (tVl (tVw (tTh μ (ltR 0 1)) xv (vbk μ xb)) xv 0) xv (((turn (vod μ (vbk μ xb)) xhigh) - 1) + (xends / 2))) xv = (((turn (vod μ (vbk μ xb)) xhigh) - 1) + (xends / 2)) from (by first | rfl | exact iu_s _ _ _)]; rfl))
                      subst e_r129
                      exact q_retMi C0 hret rfl hlk dX6_openView_174 hP hD hS (⟨(by 
    have eL : moLo (vod μ (vbk μ xb)) xkind xlow xends = 0 := by (unfold moLo; first | (rw [if_pos (by omega)]; done) | (rw [if_neg (by omega)]; done))
    have eH : moHi (vod μ (vbk μ xb)) xkind xhigh xends = (((turn (vod μ (vbk μ xb)) xhigh) - 1) + (xends / 2)) := by (unfold moHi; first | (rw [if_pos (by omega)]; done) | (rw [if_neg (by omega)]; done))
    unfold jR_openView; rw [if_pos (by omega), if_neg (by omega), eL, eH]), O, G, MP_eq hC (by 
    have eL : moLo (vod μ (vbk μ xb)) xkind xlow xends = 0 := by (unfold moLo; first | (rw [if_pos (by omega)]; done) | (rw [if_neg (by omega)]; done))
    have eH : moHi (vod μ (vbk μ xb)) xkind xhigh xends = (((turn (vod μ (vbk μ xb)) xhigh) - 1) + (xends / 2)) := by (unfold moHi; first | (rw [if_pos (by omega)]; done) | (rw [if_neg (by omega)]; done))
    have lt_ := ltR_d 0 1; 
    unfold jS_openView; rw [if_pos (by omega), if_pos (by omega), if_neg (by omega), eL, eH, show ltR 0 1 = 0 by omega]), rfl, Ext0 hO⟩)
                    · refine q_bipush hx hb dX6_openView_149 (by decide) ?_
                      refine lv_goto (tgt := 168) hx hb dX6_openView_151 (by decide) ?_
                      refine q_iast C0 hP hD hS hC.2.2.2.2.2.1.1 hC.2.2.2.2.2.1.2 (i := xv) (v := 99) (by omega) (by decide) dX6_openView_168 (fun H locs hP hD hS => ?_)
                      obtain ⟨F130, eF130⟩ : ∃ z, z = va_up F124 (uat G) (arrI (y 0) 2 (iu (vvh μ) xv 99)) := ⟨_, rfl⟩
                      have hP : va_P D vwCl (va_pl L F130) H := by rw [eF130]; exact hP
                      have hD : va_D (AL L sz) (va_pl L F130) := by rw [eF130]; exact hD
                      have hO : OE O F F130 := by rw [eF130]; exact hO.tr (OE1 (MP_O hC).2.2.2.2.2.1)
                      have hC : MP y L F130 O G (tVh (tVl (tVw (tTh μ (ltR 0 1)) xv (vbk μ xb)) xv 0) xv 99) := by rw [eF130]; exact MP_vh hC (va_up_self _ _ _) (fun q hq => va_up_ne _ _ hq)
                      refine lv_aload_n hx hb dX6_openView_169 rfl (lv_at hl 1 rfl) ?_
                      refine lv_iload_n hx hb dX6_openView_170 rfl (lv_at hl 2 rfl) ?_
                      refine q_vS C0 lX6_171 (c_X6_seen l D y L F130 O G (tVh (tVl (tVw (tTh μ (ltR 0 1)) xv (vbk μ xb)) xv 0) xv 99) xv hC (by omega) (by rw [show vvw (tVh (tVl (tVw (tTh μ (ltR 0 1)) xv (vbk μ xb)) xv 0) xv 99) xv = (vbk μ xb) from (by first | rfl | exact iu_s _ _ _)]; exact (hW.1 xb)) (by rw [show vvl (tVh (tVl (tVw (tTh μ (ltR 0 1)) xv (vbk μ xb)) xv 0) xv 99) xv = 0 from (by first | rfl | exact iu_s _ _ _)]; omega) (by rw [show vvh (tVh (tVl (tVw (tTh μ (ltR 0 1)) xv (vbk μ xb)) xv 0) xv 99) xv = 99 from (by first | rfl | exact iu_s _ _ _)]; omega)) ⟨rfl, rfl⟩ rfl hP hC.1.1 hC.1.2 rfl rfl rfl hl rfl (Nat.le_of_ble_eq_true rfl) dX6_openView_171 ⟨Nat.zero_le _, Nat.zero_le _⟩ (fun r131 e_r131 => ?_)
                      replace e_r131 : r131 = cntP (vst μ (vbk μ xb)) 0 99 := e_r131.trans (by first | rfl | (rw [show vvw (tVh (tVl (tVw (tTh μ (ltR 0 1)) xv (vbk μ xb)) xv 0) xv 99) xv = (vbk μ xb) from (by first | rfl | exact iu_s _ _ _), show vvl (tVh (tVl (tVw (tTh μ (ltR 0 1)) xv (vbk μ xb)) xv 0) xv 99) xv = 0 from (by first | rfl | exact iu_s _ _ _), show vvh (tVh (tVl (tVw (tTh μ (ltR 0 1)) xv (vbk μ xb)) xv 0) xv 99) xv = 99 from (by first | rfl | exact iu_s _ _ _)]; done) | (rw [show vvw (tVh (tVl (tVw (tTh μ (ltR 0 1)) xv (vbk μ xb)) xv 0) xv 99) xv = (vbk μ xb) from (by first | rfl | exact iu_s _ _ _), show vvl (tVh (tVl (tVw (tTh μ (ltR 0 1)) xv (vbk μ xb)) xv 0) xv 99) xv = 0 from (by first | rfl | exact iu_s _ _ _), show vvh (tVh (tVl (tVw (tTh μ (ltR 0 1)) xv (vbk μ xb)) xv 0) xv 99) xv = 99 from (by first | rfl | exact iu_s _ _ _)]; rfl))
                      subst e_r131
                      exact q_retMi C0 hret rfl hlk dX6_openView_174 hP hD hS (⟨(by 
    have eL : moLo (vod μ (vbk μ xb)) xkind xlow xends = 0 := by (unfold moLo; first | (rw [if_pos (by omega)]; done) | (rw [if_neg (by omega)]; done))
    have eH : moHi (vod μ (vbk μ xb)) xkind xhigh xends = 99 := by (unfold moHi; first | (rw [if_pos (by omega)]; done) | (rw [if_neg (by omega)]; done))
    unfold jR_openView; rw [if_pos (by omega), if_neg (by omega), eL, eH]), O, G, MP_eq hC (by 
    have eL : moLo (vod μ (vbk μ xb)) xkind xlow xends = 0 := by (unfold moLo; first | (rw [if_pos (by omega)]; done) | (rw [if_neg (by omega)]; done))
    have eH : moHi (vod μ (vbk μ xb)) xkind xhigh xends = 99 := by (unfold moHi; first | (rw [if_pos (by omega)]; done) | (rw [if_neg (by omega)]; done))
    have lt_ := ltR_d 0 1; 
    unfold jS_openView; rw [if_pos (by omega), if_pos (by omega), if_neg (by omega), eL, eH, show ltR 0 1 = 0 by omega]), rfl, Ext0 hO⟩)
                · refine lv_aload hx hb dX6_openView_81 (lv_at hl 0 rfl) ?_
                  refine lv_iload hx hb dX6_openView_83 (lv_at hl 5 rfl) ?_
                  refine q_vS C0 lX6_93 (c_X5_rank l D y L F108 (urh G (vbk μ xb)) (urw G (vbk μ xb)) (vod μ (vbk μ xb)) (vst μ (vbk μ xb)) xlow (MP_r hC (hW.1 xb)) (by omega)) ⟨rfl, rfl⟩ rfl hP (MP_r hC (hW.1 xb)).1 (MP_r hC (hW.1 xb)).2.1 rfl rfl rfl hl rfl (Nat.le_of_ble_eq_true rfl) dX6_openView_85 ⟨Nat.zero_le _, Nat.zero_le _⟩ (fun r132 e_r132 => ?_)
                  subst e_r132
                  have b_133 := @turn_b (vod μ (vbk μ xb)) xlow (by omega)
                  refine lv_aload hx hb dX6_openView_88 (lv_at hl 0 rfl) ?_
                  refine lv_iload hx hb dX6_openView_90 (lv_at hl 6 rfl) ?_
                  refine q_vS C0 lX6_93 (c_X5_rank l D y L F108 (urh G (vbk μ xb)) (urw G (vbk μ xb)) (vod μ (vbk μ xb)) (vst μ (vbk μ xb)) xhigh (MP_r hC (hW.1 xb)) (by omega)) ⟨rfl, rfl⟩ rfl hP (MP_r hC (hW.1 xb)).1 (MP_r hC (hW.1 xb)).2.1 rfl rfl rfl hl rfl (Nat.le_of_ble_eq_true rfl) dX6_openView_92 ⟨Nat.zero_le _, Nat.zero_le _⟩ (fun r134 e_r134 => ?_)
                  subst e_r134
                  have b_135 := @turn_b (vod μ (vbk μ xb)) xhigh (by omega)
                  refine q_icmp_le hx hb dX6_openView_95 (tgt := 103) (by decide) (by omega) (by omega) (fun c136 => ?_) (fun c136 => ?_)
                  · refine lv_aload_n hx hb dX6_openView_103 rfl (lv_at hl 1 rfl) ?_
                    refine q_get C0 iX6 hP hC.1.1 hC.1.2 rfl 2 (by decide) flX6_18 rfl (v := .ref ((uav G))) rfl dX6_openView_104 ?_
                    refine lv_iload_n hx hb dX6_openView_107 rfl (lv_at hl 2 rfl) ?_
                    refine lv_aload hx hb dX6_openView_108 (lv_at hl 0 rfl) ?_
                    refine q_aast C0 hP hD hS hC.2.2.2.1.1 hC.2.2.2.1.2 (t := 3) (r := (RX5, TX5, 2)) rfl (MP_r hC (hW.1 xb)).1 (MP_r hC (hW.1 xb)).2.1 rfl (by omega) (by decide) dX6_openView_110 (fun H locs hP hD hS => ?_)
                    obtain ⟨F137, eF137⟩ : ∃ z, z = va_up F108 (uav G) (arrQ (y 3) 2 (iu (fun j => some (urh G (vvw (tTh μ (ltR 0 1)) j))) xv (some (urh G (vbk μ xb))))) := ⟨_, rfl⟩
                    have hP : va_P D vwCl (va_pl L F137) H := by rw [eF137]; exact hP
                    have hD : va_D (AL L sz) (va_pl L F137) := by rw [eF137]; exact hD
                    have hO : OE O F F137 := by rw [eF137]; exact hO.tr (OE1 (MP_O hC).2.2.2.1)
                    have hC : MP y L F137 O G (tVw (tTh μ (ltR 0 1)) xv (vbk μ xb)) := by rw [eF137]; exact MP_vw hC (va_up_self _ _ _) (fun q hq => va_up_ne _ _ hq)
                    refine lv_aload_n hx hb dX6_openView_111 rfl (lv_at hl 1 rfl) ?_
                    refine q_get C0 iX6 hP hC.1.1 hC.1.2 rfl 3 (by decide) flX6_21 rfl (v := .ref ((uaf G))) rfl dX6_openView_112 ?_
                    refine lv_iload_n hx hb dX6_openView_115 rfl (lv_at hl 2 rfl) ?_
                    refine lv_iload_n hx hb dX6_openView_116 rfl (lv_at hl 4 rfl) ?_
                    refine q_if_ne hx hb dX6_openView_117 (tgt := 124) (by decide) (by omega) (fun c138 => ?_) (fun c138 => ?_)
                    · refine lv_aload hx hb dX6_openView_124 (lv_at hl 0 rfl) ?_
                      refine lv_iload hx hb dX6_openView_126 (lv_at hl 5 rfl) ?_
                      refine q_vS C0 lX6_93 (c_X5_rank l D y L F137 (urh G (vbk μ xb)) (urw G (vbk μ xb)) (vod μ (vbk μ xb)) (vst μ (vbk μ xb)) xlow (MP_r hC (hW.1 xb)) (by omega)) ⟨rfl, rfl⟩ rfl hP (MP_r hC (hW.1 xb)).1 (MP_r hC (hW.1 xb)).2.1 rfl rfl rfl hl rfl (Nat.le_of_ble_eq_true rfl) dX6_openView_128 ⟨Nat.zero_le _, Nat.zero_le _⟩ (fun r139 e_r139 => ?_)
                      subst e_r139
                      have b_140 := @turn_b (vod μ (vbk μ xb)) xlow (by omega)
                      refine q_iconst hx hb dX6_openView_131 ?_
                      refine q_iadd hx hb dX6_openView_132 ?_
                      refine lv_iload hx hb dX6_openView_133 (lv_at hl 7 rfl) ?_
                      refine q_iconst hx hb dX6_openView_135 ?_
                      refine q_irem hx hb dX6_openView_136 (by omega) (by omega) ?_
                      refine q_isub hx hb dX6_openView_137 ?_
                      refine q_iast C0 hP hD hS hC.2.2.2.2.1.1 hC.2.2.2.2.1.2 (i := xv) (v := (((turn (vod μ (vbk μ xb)) xlow) + 1) - (xends % 2))) (by omega) (by decide) dX6_openView_138 (fun H locs hP hD hS => ?_)
                      obtain ⟨F141, eF141⟩ : ∃ z, z = va_up F137 (uaf G) (arrI (y 0) 2 (iu (vvl μ) xv (((turn (vod μ (vbk μ xb)) xlow) + 1) - (xends % 2)))) := ⟨_, rfl⟩
                      have hP : va_P D vwCl (va_pl L F141) H := by rw [eF141]; exact hP
                      have hD : va_D (AL L sz) (va_pl L F141) := by rw [eF141]; exact hD
                      have hO : OE O F F141 := by rw [eF141]; exact hO.tr (OE1 (MP_O hC).2.2.2.2.1)
                      have hC : MP y L F141 O G (tVl (tVw (tTh μ (ltR 0 1)) xv (vbk μ xb)) xv (((turn (vod μ (vbk μ xb)) xlow) + 1) - (xends % 2))) := by rw [eF141]; exact MP_vl hC (va_up_self _ _ _) (fun q hq => va_up_ne _ _ hq)
                      refine lv_aload_n hx hb dX6_openView_139 rfl (lv_at hl 1 rfl) ?_
                      refine q_get C0 iX6 hP hC.1.1 hC.1.2 rfl 4 (by decide) flX6_25 rfl (v := .ref ((uat G))) rfl dX6_openView_140 ?_
                      refine lv_iload_n hx hb dX6_openView_143 rfl (lv_at hl 2 rfl) ?_
                      refine lv_iload_n hx hb dX6_openView_144 rfl (lv_at hl 4 rfl) ?_
                      refine q_iconst hx hb dX6_openView_145 ?_
                      refine q_icmp_ne hx hb dX6_openView_146 (tgt := 154) (by decide) (by omega) (by omega) (fun c142 => ?_) (fun c142 => ?_)
                      · refine lv_aload hx hb dX6_openView_154 (lv_at hl 0 rfl) ?_
                        refine lv_iload hx hb dX6_openView_156 (lv_at hl 6 rfl) ?_
                        refine q_vS C0 lX6_93 (c_X5_rank l D y L F141 (urh G (vbk μ xb)) (urw G (vbk μ xb)) (vod μ (vbk μ xb)) (vst μ (vbk μ xb)) xhigh (MP_r hC (hW.1 xb)) (by omega)) ⟨rfl, rfl⟩ rfl hP (MP_r hC (hW.1 xb)).1 (MP_r hC (hW.1 xb)).2.1 rfl rfl rfl hl rfl (Nat.le_of_ble_eq_true rfl) dX6_openView_158 ⟨Nat.zero_le _, Nat.zero_le _⟩ (fun r143 e_r143 => ?_)
                        subst e_r143
                        have b_144 := @turn_b (vod μ (vbk μ xb)) xhigh (by omega)
                        refine q_iconst hx hb dX6_openView_161 ?_
                        refine q_isub hx hb dX6_openView_162 ?_
                        refine lv_iload hx hb dX6_openView_163 (lv_at hl 7 rfl) ?_
                        refine q_iconst hx hb dX6_openView_165 ?_
                        refine q_idiv hx hb dX6_openView_166 (by omega) (by omega) ?_
                        refine q_iadd hx hb dX6_openView_167 ?_
                        refine q_iast C0 hP hD hS hC.2.2.2.2.2.1.1 hC.2.2.2.2.2.1.2 (i := xv) (v := (((turn (vod μ (vbk μ xb)) xhigh) - 1) + (xends / 2))) (by omega) (by decide) dX6_openView_168 (fun H locs hP hD hS => ?_)
                        obtain ⟨F145, eF145⟩ : ∃ z, z = va_up F141 (uat G) (arrI (y 0) 2 (iu (vvh μ) xv (((turn (vod μ (vbk μ xb)) xhigh) - 1) + (xends / 2)))) := ⟨_, rfl⟩
                        have hP : va_P D vwCl (va_pl L F145) H := by rw [eF145]; exact hP
                        have hD : va_D (AL L sz) (va_pl L F145) := by rw [eF145]; exact hD
                        have hO : OE O F F145 := by rw [eF145]; exact hO.tr (OE1 (MP_O hC).2.2.2.2.2.1)
                        have hC : MP y L F145 O G (tVh (tVl (tVw (tTh μ (ltR 0 1)) xv (vbk μ xb)) xv (((turn (vod μ (vbk μ xb)) xlow) + 1) - (xends % 2))) xv (((turn (vod μ (vbk μ xb)) xhigh) - 1) + (xends / 2))) := by rw [eF145]; exact MP_vh hC (va_up_self _ _ _) (fun q hq => va_up_ne _ _ hq)
                        refine lv_aload_n hx hb dX6_openView_169 rfl (lv_at hl 1 rfl) ?_
                        refine lv_iload_n hx hb dX6_openView_170 rfl (lv_at hl 2 rfl) ?_
                        refine q_vS C0 lX6_171 (c_X6_seen l D y L F145 O G (tVh (tVl (tVw (tTh μ (ltR 0 1)) xv (vbk μ xb)) xv (((turn (vod μ (vbk μ xb)) xlow) + 1) - (xends % 2))) xv (((turn (vod μ (vbk μ xb)) xhigh) - 1) + (xends / 2))) xv hC (by omega) (by rw [show vvw (tVh (tVl (tVw (tTh μ (ltR 0 1)) xv (vbk μ xb)) xv (((turn (vod μ (vbk μ xb)) xlow) + 1) - (xends % 2))) xv (((turn (vod μ (vbk μ xb)) xhigh) - 1) + (xends / 2))) xv = (vbk μ xb) from (by first | rfl | exact iu_s _ _ _)]; exact (hW.1 xb)) (by rw [show vvl (tVh (tVl (tVw (tTh μ (ltR 0 1)) xv (vbk μ xb)) xv (((turn (vod μ (vbk μ xb)) xlow) + 1) - (xends % 2))) xv (((turn (vod μ (vbk μ xb)) xhigh) - 1) + (xends / 2))) xv = (((turn (vod μ (vbk μ xb)) xlow) + 1) - (xends % 2)) from (by first | rfl | exact iu_s _ _ _)]; omega) (by rw [show vvh (tVh (tVl (tVw (tTh μ (ltR 0 1)) xv (vbk μ xb)) xv (((turn (vod μ (vbk μ xb)) xlow) + 1) - (xends % 2))) xv (((turn (vod μ (vbk μ xb)) xhigh) - 1) + (xends / 2))) xv = (((turn (vod μ (vbk μ xb)) xhigh) - 1) + (xends / 2)) from (by first | rfl | exact iu_s _ _ _)]; omega)) ⟨rfl, rfl⟩ rfl hP hC.1.1 hC.1.2 rfl rfl rfl hl rfl (Nat.le_of_ble_eq_true rfl) dX6_openView_171 ⟨Nat.zero_le _, Nat.zero_le _⟩ (fun r146 e_r146 => ?_)
                        replace e_r146 : r146 = cntP (vst μ (vbk μ xb)) (((turn (vod μ (vbk μ xb)) xlow) + 1) - (xends % 2)) (((turn (vod μ (vbk μ xb)) xhigh) - 1) + (xends / 2)) := e_r146.trans (by first | rfl | (rw [show vvw (tVh (tVl (tVw (tTh μ (ltR 0 1)) xv (vbk μ xb)) xv (((turn (vod μ (vbk μ xb)) xlow) + 1) - (xends % 2))) xv (((turn (vod μ (vbk μ xb)) xhigh) - 1) + (xends / 2))) xv = (vbk μ xb) from (by first | rfl | exact iu_s _ _ _), show vvl (tVh (tVl (tVw (tTh μ (ltR 0 1)) xv (vbk μ xb)) xv (((turn (vod μ (vbk μ xb)) xlow) + 1) - (xends % 2))) xv (((turn (vod μ (vbk μ xb)) xhigh) - 1) + (xends / 2))) xv = (((turn (vod μ (vbk μ xb)) xlow) + 1) - (xends % 2)) from (by first | rfl | exact iu_s _ _ _), show vvh (tVh (tVl (tVw (tTh μ (ltR 0 1)) xv (vbk μ xb)) xv (((turn (vod μ (vbk μ xb)) xlow) + 1) - (xends % 2))) xv (((turn (vod μ (vbk μ xb)) xhigh) - 1) + (xends / 2))) xv = (((turn (vod μ (vbk μ xb)) xhigh) - 1) + (xends / 2)) from (by first | rfl | exact iu_s _ _ _)]; done) | (rw [show vvw (tVh (tVl (tVw (tTh μ (ltR 0 1)) xv (vbk μ xb)) xv (((turn (vod μ (vbk μ xb)) xlow) + 1) - (xends % 2))) xv (((turn (vod μ (vbk μ xb)) xhigh) - 1) + (xends / 2))) xv = (vbk μ xb) from (by first | rfl | exact iu_s _ _ _), show vvl (tVh (tVl (tVw (tTh μ (ltR 0 1)) xv (vbk μ xb)) xv (((turn (vod μ (vbk μ xb)) xlow) + 1) - (xends % 2))) xv (((turn (vod μ (vbk μ xb)) xhigh) - 1) + (xends / 2))) xv = (((turn (vod μ (vbk μ xb)) xlow) + 1) - (xends % 2)) from (by first | rfl | exact iu_s _ _ _), show vvh (tVh (tVl (tVw (tTh μ (ltR 0 1)) xv (vbk μ xb)) xv (((turn (vod μ (vbk μ xb)) xlow) + 1) - (xends % 2))) xv (((turn (vod μ (vbk μ xb)) xhigh) - 1) + (xends / 2))) xv = (((turn (vod μ (vbk μ xb)) xhigh) - 1) + (xends / 2)) from (by first | rfl | exact iu_s _ _ _)]; rfl))
                        subst e_r146
                        exact q_retMi C0 hret rfl hlk dX6_openView_174 hP hD hS (⟨(by 
    have eL : moLo (vod μ (vbk μ xb)) xkind xlow xends = (((turn (vod μ (vbk μ xb)) xlow) + 1) - (xends % 2)) := by (unfold moLo; first | (rw [if_pos (by omega)]; done) | (rw [if_neg (by omega)]; done))
    have eH : moHi (vod μ (vbk μ xb)) xkind xhigh xends = (((turn (vod μ (vbk μ xb)) xhigh) - 1) + (xends / 2)) := by (unfold moHi; first | (rw [if_pos (by omega)]; done) | (rw [if_neg (by omega)]; done))
    unfold jR_openView; rw [if_pos (by omega), if_neg (by omega), eL, eH]), O, G, MP_eq hC (by 
    have eL : moLo (vod μ (vbk μ xb)) xkind xlow xends = (((turn (vod μ (vbk μ xb)) xlow) + 1) - (xends % 2)) := by (unfold moLo; first | (rw [if_pos (by omega)]; done) | (rw [if_neg (by omega)]; done))
    have eH : moHi (vod μ (vbk μ xb)) xkind xhigh xends = (((turn (vod μ (vbk μ xb)) xhigh) - 1) + (xends / 2)) := by (unfold moHi; first | (rw [if_pos (by omega)]; done) | (rw [if_neg (by omega)]; done))
    have lt_ := ltR_d 0 1; 
    unfold jS_openView; rw [if_pos (by omega), if_pos (by omega), if_neg (by omega), eL, eH, show ltR 0 1 = 0 by omega]), rfl, Ext0 hO⟩)
                      · refine q_bipush hx hb dX6_openView_149 (by decide) ?_
                        refine lv_goto (tgt := 168) hx hb dX6_openView_151 (by decide) ?_
                        refine q_iast C0 hP hD hS hC.2.2.2.2.2.1.1 hC.2.2.2.2.2.1.2 (i := xv) (v := 99) (by omega) (by decide) dX6_openView_168 (fun H locs hP hD hS => ?_)
                        obtain ⟨F147, eF147⟩ : ∃ z, z = va_up F141 (uat G) (arrI (y 0) 2 (iu (vvh μ) xv 99)) := ⟨_, rfl⟩
                        have hP : va_P D vwCl (va_pl L F147) H := by rw [eF147]; exact hP
                        have hD : va_D (AL L sz) (va_pl L F147) := by rw [eF147]; exact hD
                        have hO : OE O F F147 := by rw [eF147]; exact hO.tr (OE1 (MP_O hC).2.2.2.2.2.1)
                        have hC : MP y L F147 O G (tVh (tVl (tVw (tTh μ (ltR 0 1)) xv (vbk μ xb)) xv (((turn (vod μ (vbk μ xb)) xlow) + 1) - (xends % 2))) xv 99) := by rw [eF147]; exact MP_vh hC (va_up_self _ _ _) (fun q hq => va_up_ne _ _ hq)
                        refine lv_aload_n hx hb dX6_openView_169 rfl (lv_at hl 1 rfl) ?_
                        refine lv_iload_n hx hb dX6_openView_170 rfl (lv_at hl 2 rfl) ?_
                        refine q_vS C0 lX6_171 (c_X6_seen l D y L F147 O G (tVh (tVl (tVw (tTh μ (ltR 0 1)) xv (vbk μ xb)) xv (((turn (vod μ (vbk μ xb)) xlow) + 1) - (xends % 2))) xv 99) xv hC (by omega) (by rw [show vvw (tVh (tVl (tVw (tTh μ (ltR 0 1)) xv (vbk μ xb)) xv (((turn (vod μ (vbk μ xb)) xlow) + 1) - (xends % 2))) xv 99) xv = (vbk μ xb) from (by first | rfl | exact iu_s _ _ _)]; exact (hW.1 xb)) (by rw [show vvl (tVh (tVl (tVw (tTh μ (ltR 0 1)) xv (vbk μ xb)) xv (((turn (vod μ (vbk μ xb)) xlow) + 1) - (xends % 2))) xv 99) xv = (((turn (vod μ (vbk μ xb)) xlow) + 1) - (xends % 2)) from (by first | rfl | exact iu_s _ _ _)]; omega) (by rw [show vvh (tVh (tVl (tVw (tTh μ (ltR 0 1)) xv (vbk μ xb)) xv (((turn (vod μ (vbk μ xb)) xlow) + 1) - (xends % 2))) xv 99) xv = 99 from (by first | rfl | exact iu_s _ _ _)]; omega)) ⟨rfl, rfl⟩ rfl hP hC.1.1 hC.1.2 rfl rfl rfl hl rfl (Nat.le_of_ble_eq_true rfl) dX6_openView_171 ⟨Nat.zero_le _, Nat.zero_le _⟩ (fun r148 e_r148 => ?_)
                        replace e_r148 : r148 = cntP (vst μ (vbk μ xb)) (((turn (vod μ (vbk μ xb)) xlow) + 1) - (xends % 2)) 99 := e_r148.trans (by first | rfl | (rw [show vvw (tVh (tVl (tVw (tTh μ (ltR 0 1)) xv (vbk μ xb)) xv (((turn (vod μ (vbk μ xb)) xlow) + 1) - (xends % 2))) xv 99) xv = (vbk μ xb) from (by first | rfl | exact iu_s _ _ _), show vvl (tVh (tVl (tVw (tTh μ (ltR 0 1)) xv (vbk μ xb)) xv (((turn (vod μ (vbk μ xb)) xlow) + 1) - (xends % 2))) xv 99) xv = (((turn (vod μ (vbk μ xb)) xlow) + 1) - (xends % 2)) from (by first | rfl | exact iu_s _ _ _), show vvh (tVh (tVl (tVw (tTh μ (ltR 0 1)) xv (vbk μ xb)) xv (((turn (vod μ (vbk μ xb)) xlow) + 1) - (xends % 2))) xv 99) xv = 99 from (by first | rfl | exact iu_s _ _ _)]; done) | (rw [show vvw (tVh (tVl (tVw (tTh μ (ltR 0 1)) xv (vbk μ xb)) xv (((turn (vod μ (vbk μ xb)) xlow) + 1) - (xends % 2))) xv 99) xv = (vbk μ xb) from (by first | rfl | exact iu_s _ _ _), show vvl (tVh (tVl (tVw (tTh μ (ltR 0 1)) xv (vbk μ xb)) xv (((turn (vod μ (vbk μ xb)) xlow) + 1) - (xends % 2))) xv 99) xv = (((turn (vod μ (vbk μ xb)) xlow) + 1) - (xends % 2)) from (by first | rfl | exact iu_s _ _ _), show vvh (tVh (tVl (tVw (tTh μ (ltR 0 1)) xv (vbk μ xb)) xv (((turn (vod μ (vbk μ xb)) xlow) + 1) - (xends % 2))) xv 99) xv = 99 from (by first | rfl | exact iu_s _ _ _)]; rfl))
                        subst e_r148
                        exact q_retMi C0 hret rfl hlk dX6_openView_174 hP hD hS (⟨(by 
    have eL : moLo (vod μ (vbk μ xb)) xkind xlow xends = (((turn (vod μ (vbk μ xb)) xlow) + 1) - (xends % 2)) := by (unfold moLo; first | (rw [if_pos (by omega)]; done) | (rw [if_neg (by omega)]; done))
    have eH : moHi (vod μ (vbk μ xb)) xkind xhigh xends = 99 := by (unfold moHi; first | (rw [if_pos (by omega)]; done) | (rw [if_neg (by omega)]; done))
    unfold jR_openView; rw [if_pos (by omega), if_neg (by omega), eL, eH]), O, G, MP_eq hC (by 
    have eL : moLo (vod μ (vbk μ xb)) xkind xlow xends = (((turn (vod μ (vbk μ xb)) xlow) + 1) - (xends % 2)) := by (unfold moLo; first | (rw [if_pos (by omega)]; done) | (rw [if_neg (by omega)]; done))
    have eH : moHi (vod μ (vbk μ xb)) xkind xhigh xends = 99 := by (unfold moHi; first | (rw [if_pos (by omega)]; done) | (rw [if_neg (by omega)]; done))
    have lt_ := ltR_d 0 1; 
    unfold jS_openView; rw [if_pos (by omega), if_pos (by omega), if_neg (by omega), eL, eH, show ltR 0 1 = 0 by omega]), rfl, Ext0 hO⟩)
                    · refine q_iconst hx hb dX6_openView_120 ?_
                      refine lv_goto (tgt := 138) hx hb dX6_openView_121 (by decide) ?_
                      refine q_iast C0 hP hD hS hC.2.2.2.2.1.1 hC.2.2.2.2.1.2 (i := xv) (v := 0) (by omega) (by decide) dX6_openView_138 (fun H locs hP hD hS => ?_)
                      obtain ⟨F149, eF149⟩ : ∃ z, z = va_up F137 (uaf G) (arrI (y 0) 2 (iu (vvl μ) xv 0)) := ⟨_, rfl⟩
                      have hP : va_P D vwCl (va_pl L F149) H := by rw [eF149]; exact hP
                      have hD : va_D (AL L sz) (va_pl L F149) := by rw [eF149]; exact hD
                      have hO : OE O F F149 := by rw [eF149]; exact hO.tr (OE1 (MP_O hC).2.2.2.2.1)
                      have hC : MP y L F149 O G (tVl (tVw (tTh μ (ltR 0 1)) xv (vbk μ xb)) xv 0) := by rw [eF149]; exact MP_vl hC (va_up_self _ _ _) (fun q hq => va_up_ne _ _ hq)
                      refine lv_aload_n hx hb dX6_openView_139 rfl (lv_at hl 1 rfl) ?_
                      refine q_get C0 iX6 hP hC.1.1 hC.1.2 rfl 4 (by decide) flX6_25 rfl (v := .ref ((uat G))) rfl dX6_openView_140 ?_
                      refine lv_iload_n hx hb dX6_openView_143 rfl (lv_at hl 2 rfl) ?_
                      refine lv_iload_n hx hb dX6_openView_144 rfl (lv_at hl 4 rfl) ?_
                      refine q_iconst hx hb dX6_openView_145 ?_
                      refine q_icmp_ne hx hb dX6_openView_146 (tgt := 154) (by decide) (by omega) (by omega) (fun c150 => ?_) (fun c150 => ?_)
                      · refine lv_aload hx hb dX6_openView_154 (lv_at hl 0 rfl) ?_
                        refine lv_iload hx hb dX6_openView_156 (lv_at hl 6 rfl) ?_
                        refine q_vS C0 lX6_93 (c_X5_rank l D y L F149 (urh G (vbk μ xb)) (urw G (vbk μ xb)) (vod μ (vbk μ xb)) (vst μ (vbk μ xb)) xhigh (MP_r hC (hW.1 xb)) (by omega)) ⟨rfl, rfl⟩ rfl hP (MP_r hC (hW.1 xb)).1 (MP_r hC (hW.1 xb)).2.1 rfl rfl rfl hl rfl (Nat.le_of_ble_eq_true rfl) dX6_openView_158 ⟨Nat.zero_le _, Nat.zero_le _⟩ (fun r151 e_r151 => ?_)
                        subst e_r151
                        have b_152 := @turn_b (vod μ (vbk μ xb)) xhigh (by omega)
                        refine q_iconst hx hb dX6_openView_161 ?_
                        refine q_isub hx hb dX6_openView_162 ?_
                        refine lv_iload hx hb dX6_openView_163 (lv_at hl 7 rfl) ?_
                        refine q_iconst hx hb dX6_openView_165 ?_
                        refine q_idiv hx hb dX6_openView_166 (by omega) (by omega) ?_
                        refine q_iadd hx hb dX6_openView_167 ?_
                        refine q_iast C0 hP hD hS hC.2.2.2.2.2.1.1 hC.2.2.2.2.2.1.2 (i := xv) (v := (((turn (vod μ (vbk μ xb)) xhigh) - 1) + (xends / 2))) (by omega) (by decide) dX6_openView_168 (fun H locs hP hD hS => ?_)
                        obtain ⟨F153, eF153⟩ : ∃ z, z = va_up F149 (uat G) (arrI (y 0) 2 (iu (vvh μ) xv (((turn (vod μ (vbk μ xb)) xhigh) - 1) + (xends / 2)))) := ⟨_, rfl⟩
                        have hP : va_P D vwCl (va_pl L F153) H := by rw [eF153]; exact hP
                        have hD : va_D (AL L sz) (va_pl L F153) := by rw [eF153]; exact hD
                        have hO : OE O F F153 := by rw [eF153]; exact hO.tr (OE1 (MP_O hC).2.2.2.2.2.1)
                        have hC : MP y L F153 O G (tVh (tVl (tVw (tTh μ (ltR 0 1)) xv (vbk μ xb)) xv 0) xv (((turn (vod μ (vbk μ xb)) xhigh) - 1) + (xends / 2))) := by rw [eF153]; exact MP_vh hC (va_up_self _ _ _) (fun q hq => va_up_ne _ _ hq)
                        refine lv_aload_n hx hb dX6_openView_169 rfl (lv_at hl 1 rfl) ?_
                        refine lv_iload_n hx hb dX6_openView_170 rfl (lv_at hl 2 rfl) ?_
                        refine q_vS C0 lX6_171 (c_X6_seen l D y L F153 O G (tVh (tVl (tVw (tTh μ (ltR 0 1)) xv (vbk μ xb)) xv 0) xv (((turn (vod μ (vbk μ xb)) xhigh) - 1) + (xends / 2))) xv hC (by omega) (by rw [show vvw (tVh (tVl (tVw (tTh μ (ltR 0 1)) xv (vbk μ xb)) xv 0) xv (((turn (vod μ (vbk μ xb)) xhigh) - 1) + (xends / 2))) xv = (vbk μ xb) from (by first | rfl | exact iu_s _ _ _)]; exact (hW.1 xb)) (by rw [show vvl (tVh (tVl (tVw (tTh μ (ltR 0 1)) xv (vbk μ xb)) xv 0) xv (((turn (vod μ (vbk μ xb)) xhigh) - 1) + (xends / 2))) xv = 0 from (by first | rfl | exact iu_s _ _ _)]; omega) (by rw [show vvh (tVh (tVl (tVw (tTh μ (ltR 0 1)) xv (vbk μ xb)) xv 0) xv (((turn (vod μ (vbk μ xb)) xhigh) - 1) + (xends / 2))) xv = (((turn (vod μ (vbk μ xb)) xhigh) - 1) + (xends / 2)) from (by first | rfl | exact iu_s _ _ _)]; omega)) ⟨rfl, rfl⟩ rfl hP hC.1.1 hC.1.2 rfl rfl rfl hl rfl (Nat.le_of_ble_eq_true rfl) dX6_openView_171 ⟨Nat.zero_le _, Nat.zero_le _⟩ (fun r154 e_r154 => ?_)
                        replace e_r154 : r154 = cntP (vst μ (vbk μ xb)) 0 (((turn (vod μ (vbk μ xb)) xhigh) - 1) + (xends / 2)) := e_r154.trans (by first | rfl | (rw [show vvw (tVh (tVl (tVw (tTh μ (ltR 0 1)) xv (vbk μ xb)) xv 0) xv (((turn (vod μ (vbk μ xb)) xhigh) - 1) + (xends / 2))) xv = (vbk μ xb) from (by first | rfl | exact iu_s _ _ _), show vvl (tVh (tVl (tVw (tTh μ (ltR 0 1)) xv (vbk μ xb)) xv 0) xv (((turn (vod μ (vbk μ xb)) xhigh) - 1) + (xends / 2))) xv = 0 from (by first | rfl | exact iu_s _ _ _), show vvh (tVh (tVl (tVw (tTh μ (ltR 0 1)) xv (vbk μ xb)) xv 0) xv (((turn (vod μ (vbk μ xb)) xhigh) - 1) + (xends / 2))) xv = (((turn (vod μ (vbk μ xb)) xhigh) - 1) + (xends / 2)) from (by first | rfl | exact iu_s _ _ _)]; done) | (rw [show vvw (tVh (tVl (tVw (tTh μ (ltR 0 1)) xv (vbk μ xb)) xv 0) xv (((turn (vod μ (vbk μ xb)) xhigh) - 1) + (xends / 2))) xv = (vbk μ xb) from (by first | rfl | exact iu_s _ _ _), show vvl (tVh (tVl (tVw (tTh μ (ltR 0 1)) xv (vbk μ xb)) xv 0) xv (((turn (vod μ (vbk μ xb)) xhigh) - 1) + (xends / 2))) xv = 0 from (by first | rfl | exact iu_s _ _ _), show vvh (tVh (tVl (tVw (tTh μ (ltR 0 1)) xv (vbk μ xb)) xv 0) xv (((turn (vod μ (vbk μ xb)) xhigh) - 1) + (xends / 2))) xv = (((turn (vod μ (vbk μ xb)) xhigh) - 1) + (xends / 2)) from (by first | rfl | exact iu_s _ _ _)]; rfl))
                        subst e_r154
                        exact q_retMi C0 hret rfl hlk dX6_openView_174 hP hD hS (⟨(by 
    have eL : moLo (vod μ (vbk μ xb)) xkind xlow xends = 0 := by (unfold moLo; first | (rw [if_pos (by omega)]; done) | (rw [if_neg (by omega)]; done))
    have eH : moHi (vod μ (vbk μ xb)) xkind xhigh xends = (((turn (vod μ (vbk μ xb)) xhigh) - 1) + (xends / 2)) := by (unfold moHi; first | (rw [if_pos (by omega)]; done) | (rw [if_neg (by omega)]; done))
    unfold jR_openView; rw [if_pos (by omega), if_neg (by omega), eL, eH]), O, G, MP_eq hC (by 
    have eL : moLo (vod μ (vbk μ xb)) xkind xlow xends = 0 := by (unfold moLo; first | (rw [if_pos (by omega)]; done) | (rw [if_neg (by omega)]; done))
    have eH : moHi (vod μ (vbk μ xb)) xkind xhigh xends = (((turn (vod μ (vbk μ xb)) xhigh) - 1) + (xends / 2)) := by (unfold moHi; first | (rw [if_pos (by omega)]; done) | (rw [if_neg (by omega)]; done))
    have lt_ := ltR_d 0 1; 
    unfold jS_openView; rw [if_pos (by omega), if_pos (by omega), if_neg (by omega), eL, eH, show ltR 0 1 = 0 by omega]), rfl, Ext0 hO⟩)
                      · refine q_bipush hx hb dX6_openView_149 (by decide) ?_
                        refine lv_goto (tgt := 168) hx hb dX6_openView_151 (by decide) ?_
                        refine q_iast C0 hP hD hS hC.2.2.2.2.2.1.1 hC.2.2.2.2.2.1.2 (i := xv) (v := 99) (by omega) (by decide) dX6_openView_168 (fun H locs hP hD hS => ?_)
                        obtain ⟨F155, eF155⟩ : ∃ z, z = va_up F149 (uat G) (arrI (y 0) 2 (iu (vvh μ) xv 99)) := ⟨_, rfl⟩
                        have hP : va_P D vwCl (va_pl L F155) H := by rw [eF155]; exact hP
                        have hD : va_D (AL L sz) (va_pl L F155) := by rw [eF155]; exact hD
                        have hO : OE O F F155 := by rw [eF155]; exact hO.tr (OE1 (MP_O hC).2.2.2.2.2.1)
                        have hC : MP y L F155 O G (tVh (tVl (tVw (tTh μ (ltR 0 1)) xv (vbk μ xb)) xv 0) xv 99) := by rw [eF155]; exact MP_vh hC (va_up_self _ _ _) (fun q hq => va_up_ne _ _ hq)
                        refine lv_aload_n hx hb dX6_openView_169 rfl (lv_at hl 1 rfl) ?_
                        refine lv_iload_n hx hb dX6_openView_170 rfl (lv_at hl 2 rfl) ?_
                        refine q_vS C0 lX6_171 (c_X6_seen l D y L F155 O G (tVh (tVl (tVw (tTh μ (ltR 0 1)) xv (vbk μ xb)) xv 0) xv 99) xv hC (by omega) (by rw [show vvw (tVh (tVl (tVw (tTh μ (ltR 0 1)) xv (vbk μ xb)) xv 0) xv 99) xv = (vbk μ xb) from (by first | rfl | exact iu_s _ _ _)]; exact (hW.1 xb)) (by rw [show vvl (tVh (tVl (tVw (tTh μ (ltR 0 1)) xv (vbk μ xb)) xv 0) xv 99) xv = 0 from (by first | rfl | exact iu_s _ _ _)]; omega) (by rw [show vvh (tVh (tVl (tVw (tTh μ (ltR 0 1)) xv (vbk μ xb)) xv 0) xv 99) xv = 99 from (by first | rfl | exact iu_s _ _ _)]; omega)) ⟨rfl, rfl⟩ rfl hP hC.1.1 hC.1.2 rfl rfl rfl hl rfl (Nat.le_of_ble_eq_true rfl) dX6_openView_171 ⟨Nat.zero_le _, Nat.zero_le _⟩ (fun r156 e_r156 => ?_)
                        replace e_r156 : r156 = cntP (vst μ (vbk μ xb)) 0 99 := e_r156.trans (by first | rfl | (rw [show vvw (tVh (tVl (tVw (tTh μ (ltR 0 1)) xv (vbk μ xb)) xv 0) xv 99) xv = (vbk μ xb) from (by first | rfl | exact iu_s _ _ _), show vvl (tVh (tVl (tVw (tTh μ (ltR 0 1)) xv (vbk μ xb)) xv 0) xv 99) xv = 0 from (by first | rfl | exact iu_s _ _ _), show vvh (tVh (tVl (tVw (tTh μ (ltR 0 1)) xv (vbk μ xb)) xv 0) xv 99) xv = 99 from (by first | rfl | exact iu_s _ _ _)]; done) | (rw [show vvw (tVh (tVl (tVw (tTh μ (ltR 0 1)) xv (vbk μ xb)) xv 0) xv 99) xv = (vbk μ xb) from (by first | rfl | exact iu_s _ _ _), show vvl (tVh (tVl (tVw (tTh μ (ltR 0 1)) xv (vbk μ xb)) xv 0) xv 99) xv = 0 from (by first | rfl | exact iu_s _ _ _), show vvh (tVh (tVl (tVw (tTh μ (ltR 0 1)) xv (vbk μ xb)) xv 0) xv 99) xv = 99 from (by first | rfl | exact iu_s _ _ _)]; rfl))
                        subst e_r156
                        exact q_retMi C0 hret rfl hlk dX6_openView_174 hP hD hS (⟨(by 
    have eL : moLo (vod μ (vbk μ xb)) xkind xlow xends = 0 := by (unfold moLo; first | (rw [if_pos (by omega)]; done) | (rw [if_neg (by omega)]; done))
    have eH : moHi (vod μ (vbk μ xb)) xkind xhigh xends = 99 := by (unfold moHi; first | (rw [if_pos (by omega)]; done) | (rw [if_neg (by omega)]; done))
    unfold jR_openView; rw [if_pos (by omega), if_neg (by omega), eL, eH]), O, G, MP_eq hC (by 
    have eL : moLo (vod μ (vbk μ xb)) xkind xlow xends = 0 := by (unfold moLo; first | (rw [if_pos (by omega)]; done) | (rw [if_neg (by omega)]; done))
    have eH : moHi (vod μ (vbk μ xb)) xkind xhigh xends = 99 := by (unfold moHi; first | (rw [if_pos (by omega)]; done) | (rw [if_neg (by omega)]; done))
    have lt_ := ltR_d 0 1; 
    unfold jS_openView; rw [if_pos (by omega), if_pos (by omega), if_neg (by omega), eL, eH, show ltR 0 1 = 0 by omega]), rfl, Ext0 hO⟩)
                  · refine lv_aload_n hx hb dX6_openView_98 rfl (lv_at hl 1 rfl) ?_
                    refine q_vMi C0 lX6_89 (c_X6_refuse l D y L F108 _ O G (tTh μ (ltR 0 1)) hC) ⟨rfl, rfl⟩ rfl hP hD hS hA hC.1.1 hC.1.2 rfl rfl rfl hl rfl (Nat.le_of_ble_eq_true rfl) dX6_openView_99 ⟨Nat.le_of_ble_eq_true rfl, Nat.le_of_ble_eq_true rfl⟩ (fun r157 H locs L158 F158 hP hD hS hz158 hp158 => ?_)
                    obtain ⟨eL, hC, er, hO1⟩ := hp158
                    subst eL
                    replace er : (-9) = r157 := er.symm
                    subst er
                    have hO := hO.tr hO1
                    exact q_retMi C0 hret rfl hlk dX6_openView_102 hP hD hS (⟨(by unfold jR_openView; rw [if_pos (by omega), if_pos (by omega)]), O, G, MP_eq hC (by have lt_ := ltR_d 0 1; unfold jS_openView; rw [if_pos (by omega), if_pos (by omega), if_pos (by omega), show ltR 0 1 = 0 by omega]), rfl, Ext0 hO⟩)
              · replace k_109 := k_109.resolve_left (fun h => absurd (h.1.symm.trans c110) (by decide))
                refine q_iconst hx hb dX6_openView_66 ?_
                exact q_retMi C0 hret rfl hlk dX6_openView_67 hP hD hS (⟨(by unfold jR_openView; rw [if_neg (by omega)]), O, G, MP_eq hC (by have lt_ := ltR_d 0 1; unfold jS_openView; rcases lt_ with lt_ | lt_ | lt_ <;> first | (rw [if_neg (by omega), lt_.1]; done) | (rw [if_pos (by omega), if_neg (by omega), lt_.1]; done) | (exfalso; omega)), rfl, Ext0 hO⟩)
    · replace b_81 := b_81.resolve_right (fun h => c82 h.1)
      refine q_iconst hx hb dX6_openView_15 ?_
      refine lv_goto (tgt := 20) hx hb dX6_openView_16 (by decide) ?_
      refine lv_iload_n hx hb dX6_openView_20 rfl (lv_at hl 3 rfl) ?_
      refine q_iconst hx hb dX6_openView_21 ?_
      refine q_iconst hx hb dX6_openView_22 ?_
      refine q_sS C0 lX6_41 (c_X6_isIn l D y L F xkind 0 2 (by omega) (by omega) (by omega)) ⟨rfl, rfl⟩ rfl hP rfl hl rfl (Nat.le_of_ble_eq_true rfl) dX6_openView_23 ⟨Nat.zero_le _, Nat.zero_le _⟩ (fun r159 e_r159 => ?_)
      subst e_r159
      have b_160 := inR_d xkind 0 2
      refine q_if_eq hx hb dX6_openView_26 (tgt := 59) (by decide) (by omega) (fun c161 => ?_) (fun c161 => ?_)
      · replace b_160 := b_160.resolve_left (fun h => absurd (h.1.symm.trans c161) (by decide))
        refine q_iconst hx hb dX6_openView_59 ?_
        refine q_vMi C0 lX6_63 (c_X6_isLet l D y L F _ O G μ 1 0 hC (by omega) (by omega)) ⟨rfl, rfl⟩ rfl hP hD hS hA hC.1.1 hC.1.2 rfl rfl rfl hl rfl (Nat.le_of_ble_eq_true rfl) dX6_openView_60 ⟨Nat.le_of_ble_eq_true rfl, Nat.le_of_ble_eq_true rfl⟩ (fun r162 H locs L163 F163 hP hD hS hz163 hp163 => ?_)
        obtain ⟨eL, hC, er, hO1⟩ := hp163
        subst eL
        replace er := (er.trans (okR_z _)).symm
        subst er
        have hO := hO.tr hO1
        refine q_if_ne hx hb dX6_openView_63 (tgt := 68) (by decide) (by omega) (fun c164 => absurd c164 (by omega)) (fun c164 => ?_)
        refine q_iconst hx hb dX6_openView_66 ?_
        exact q_retMi C0 hret rfl hlk dX6_openView_67 hP hD hS (⟨(by unfold jR_openView; rw [if_neg (by omega)]), O, G, MP_eq hC (by have lt_ := ltR_d 1 0; unfold jS_openView; rcases lt_ with lt_ | lt_ | lt_ <;> first | (rw [if_neg (by omega), lt_.1]; done) | (rw [if_pos (by omega), if_neg (by omega), lt_.1]; done) | (exfalso; omega)), rfl, Ext0 hO⟩)
      · replace b_160 := b_160.resolve_right (fun h => c161 h.1)
        refine lv_iload hx hb dX6_openView_29 (lv_at hl 4 rfl) ?_
        refine q_sS C0 lX6_86 (c_X6_isKey l D y L F xlow (by omega)) ⟨rfl, rfl⟩ rfl hP rfl hl rfl (Nat.le_of_ble_eq_true rfl) dX6_openView_31 ⟨Nat.zero_le _, Nat.zero_le _⟩ (fun r165 e_r165 => ?_)
        subst e_r165
        have b_166 := inR_d xlow 0 99
        refine q_if_eq hx hb dX6_openView_34 (tgt := 59) (by decide) (by omega) (fun c167 => ?_) (fun c167 => ?_)
        · replace b_166 := b_166.resolve_left (fun h => absurd (h.1.symm.trans c167) (by decide))
          refine q_iconst hx hb dX6_openView_59 ?_
          refine q_vMi C0 lX6_63 (c_X6_isLet l D y L F _ O G μ 1 0 hC (by omega) (by omega)) ⟨rfl, rfl⟩ rfl hP hD hS hA hC.1.1 hC.1.2 rfl rfl rfl hl rfl (Nat.le_of_ble_eq_true rfl) dX6_openView_60 ⟨Nat.le_of_ble_eq_true rfl, Nat.le_of_ble_eq_true rfl⟩ (fun r168 H locs L169 F169 hP hD hS hz169 hp169 => ?_)
          obtain ⟨eL, hC, er, hO1⟩ := hp169
          subst eL
          replace er := (er.trans (okR_z _)).symm
          subst er
          have hO := hO.tr hO1
          refine q_if_ne hx hb dX6_openView_63 (tgt := 68) (by decide) (by omega) (fun c170 => absurd c170 (by omega)) (fun c170 => ?_)
          refine q_iconst hx hb dX6_openView_66 ?_
          exact q_retMi C0 hret rfl hlk dX6_openView_67 hP hD hS (⟨(by unfold jR_openView; rw [if_neg (by omega)]), O, G, MP_eq hC (by have lt_ := ltR_d 1 0; unfold jS_openView; rcases lt_ with lt_ | lt_ | lt_ <;> first | (rw [if_neg (by omega), lt_.1]; done) | (rw [if_pos (by omega), if_neg (by omega), lt_.1]; done) | (exfalso; omega)), rfl, Ext0 hO⟩)
        · replace b_166 := b_166.resolve_right (fun h => c167 h.1)
          refine lv_iload hx hb dX6_openView_37 (lv_at hl 5 rfl) ?_
          refine q_sS C0 lX6_86 (c_X6_isKey l D y L F xhigh (by omega)) ⟨rfl, rfl⟩ rfl hP rfl hl rfl (Nat.le_of_ble_eq_true rfl) dX6_openView_39 ⟨Nat.zero_le _, Nat.zero_le _⟩ (fun r171 e_r171 => ?_)
          subst e_r171
          have b_172 := inR_d xhigh 0 99
          refine q_if_eq hx hb dX6_openView_42 (tgt := 59) (by decide) (by omega) (fun c173 => ?_) (fun c173 => ?_)
          · replace b_172 := b_172.resolve_left (fun h => absurd (h.1.symm.trans c173) (by decide))
            refine q_iconst hx hb dX6_openView_59 ?_
            refine q_vMi C0 lX6_63 (c_X6_isLet l D y L F _ O G μ 1 0 hC (by omega) (by omega)) ⟨rfl, rfl⟩ rfl hP hD hS hA hC.1.1 hC.1.2 rfl rfl rfl hl rfl (Nat.le_of_ble_eq_true rfl) dX6_openView_60 ⟨Nat.le_of_ble_eq_true rfl, Nat.le_of_ble_eq_true rfl⟩ (fun r174 H locs L175 F175 hP hD hS hz175 hp175 => ?_)
            obtain ⟨eL, hC, er, hO1⟩ := hp175
            subst eL
            replace er := (er.trans (okR_z _)).symm
            subst er
            have hO := hO.tr hO1
            refine q_if_ne hx hb dX6_openView_63 (tgt := 68) (by decide) (by omega) (fun c176 => absurd c176 (by omega)) (fun c176 => ?_)
            refine q_iconst hx hb dX6_openView_66 ?_
            exact q_retMi C0 hret rfl hlk dX6_openView_67 hP hD hS (⟨(by unfold jR_openView; rw [if_neg (by omega)]), O, G, MP_eq hC (by have lt_ := ltR_d 1 0; unfold jS_openView; rcases lt_ with lt_ | lt_ | lt_ <;> first | (rw [if_neg (by omega), lt_.1]; done) | (rw [if_pos (by omega), if_neg (by omega), lt_.1]; done) | (exfalso; omega)), rfl, Ext0 hO⟩)
          · replace b_172 := b_172.resolve_right (fun h => c173 h.1)
            refine lv_iload hx hb dX6_openView_45 (lv_at hl 6 rfl) ?_
            refine q_iconst hx hb dX6_openView_47 ?_
            refine q_iconst hx hb dX6_openView_48 ?_
            refine q_sS C0 lX6_41 (c_X6_isIn l D y L F xends 0 3 (by omega) (by omega) (by omega)) ⟨rfl, rfl⟩ rfl hP rfl hl rfl (Nat.le_of_ble_eq_true rfl) dX6_openView_49 ⟨Nat.zero_le _, Nat.zero_le _⟩ (fun r177 e_r177 => ?_)
            subst e_r177
            have b_178 := inR_d xends 0 3
            refine q_if_eq hx hb dX6_openView_52 (tgt := 59) (by decide) (by omega) (fun c179 => ?_) (fun c179 => ?_)
            · replace b_178 := b_178.resolve_left (fun h => absurd (h.1.symm.trans c179) (by decide))
              refine q_iconst hx hb dX6_openView_59 ?_
              refine q_vMi C0 lX6_63 (c_X6_isLet l D y L F _ O G μ 1 0 hC (by omega) (by omega)) ⟨rfl, rfl⟩ rfl hP hD hS hA hC.1.1 hC.1.2 rfl rfl rfl hl rfl (Nat.le_of_ble_eq_true rfl) dX6_openView_60 ⟨Nat.le_of_ble_eq_true rfl, Nat.le_of_ble_eq_true rfl⟩ (fun r180 H locs L181 F181 hP hD hS hz181 hp181 => ?_)
              obtain ⟨eL, hC, er, hO1⟩ := hp181
              subst eL
              replace er := (er.trans (okR_z _)).symm
              subst er
              have hO := hO.tr hO1
              refine q_if_ne hx hb dX6_openView_63 (tgt := 68) (by decide) (by omega) (fun c182 => absurd c182 (by omega)) (fun c182 => ?_)
              refine q_iconst hx hb dX6_openView_66 ?_
              exact q_retMi C0 hret rfl hlk dX6_openView_67 hP hD hS (⟨(by unfold jR_openView; rw [if_neg (by omega)]), O, G, MP_eq hC (by have lt_ := ltR_d 1 0; unfold jS_openView; rcases lt_ with lt_ | lt_ | lt_ <;> first | (rw [if_neg (by omega), lt_.1]; done) | (rw [if_pos (by omega), if_neg (by omega), lt_.1]; done) | (exfalso; omega)), rfl, Ext0 hO⟩)
            · replace b_178 := b_178.resolve_right (fun h => c179 h.1)
              refine q_iconst hx hb dX6_openView_55 ?_
              refine lv_goto (tgt := 60) hx hb dX6_openView_56 (by decide) ?_
              refine q_vMi C0 lX6_63 (c_X6_isLet l D y L F _ O G μ 1 1 hC (by omega) (by omega)) ⟨rfl, rfl⟩ rfl hP hD hS hA hC.1.1 hC.1.2 rfl rfl rfl hl rfl (Nat.le_of_ble_eq_true rfl) dX6_openView_60 ⟨Nat.le_of_ble_eq_true rfl, Nat.le_of_ble_eq_true rfl⟩ (fun r183 H locs L184 F184 hP hD hS hz184 hp184 => ?_)
              obtain ⟨eL, hC, er, hO1⟩ := hp184
              subst eL
              replace er := er.symm
              subst er
              have hO := hO.tr hO1
              have k_185 := okR_d 1 1
              refine q_if_ne hx hb dX6_openView_63 (tgt := 68) (by decide) (by omega) (fun c186 => ?_) (fun c186 => ?_)
              · replace k_185 := k_185.resolve_right (fun h => c186 h.1)
                refine lv_aload_n hx hb dX6_openView_68 rfl (lv_at hl 0 rfl) ?_
                refine q_get C0 iX6 hP hC.1.1 hC.1.2 rfl 0 (by decide) flX6_11 rfl (v := .ref ((uab G))) rfl dX6_openView_69 ?_
                refine lv_iload_n hx hb dX6_openView_72 rfl (lv_at hl 2 rfl) ?_
                refine q_aald C0 hP hC.2.1.1 hC.2.1.2 (t := 3) rfl (by omega) (by decide) (v := .ref ((urh G (vbk μ xb)))) rfl dX6_openView_73 ?_
                refine lv_astore (lv' := [(7, .ref ((urh G (vbk μ xb)))), (0, .ref ((ubg G))), (1, .int (iI xv)), (2, .int (iI xb)), (3, .int (iI xkind)), (4, .int (iI xlow)), (5, .int (iI xhigh)), (6, .int (iI xends))]) hx hb dX6_openView_74 hl (by decide) rfl (fun ls hl => ?_)
                refine lv_iload_n hx hb dX6_openView_76 rfl (lv_at hl 4 rfl) ?_
                refine q_iconst hx hb dX6_openView_77 ?_
                refine q_icmp_ne hx hb dX6_openView_78 (tgt := 103) (by decide) (by omega) (by omega) (fun c187 => ?_) (fun c187 => ?_)
                · refine lv_aload_n hx hb dX6_openView_103 rfl (lv_at hl 1 rfl) ?_
                  refine q_get C0 iX6 hP hC.1.1 hC.1.2 rfl 2 (by decide) flX6_18 rfl (v := .ref ((uav G))) rfl dX6_openView_104 ?_
                  refine lv_iload_n hx hb dX6_openView_107 rfl (lv_at hl 2 rfl) ?_
                  refine lv_aload hx hb dX6_openView_108 (lv_at hl 0 rfl) ?_
                  refine q_aast C0 hP hD hS hC.2.2.2.1.1 hC.2.2.2.1.2 (t := 3) (r := (RX5, TX5, 2)) rfl (MP_r hC (hW.1 xb)).1 (MP_r hC (hW.1 xb)).2.1 rfl (by omega) (by decide) dX6_openView_110 (fun H locs hP hD hS => ?_)
                  obtain ⟨F188, eF188⟩ : ∃ z, z = va_up F184 (uav G) (arrQ (y 3) 2 (iu (fun j => some (urh G (vvw (tTh μ (ltR 1 1)) j))) xv (some (urh G (vbk μ xb))))) := ⟨_, rfl⟩
                  have hP : va_P D vwCl (va_pl L F188) H := by rw [eF188]; exact hP
                  have hD : va_D (AL L sz) (va_pl L F188) := by rw [eF188]; exact hD
                  have hO : OE O F F188 := by rw [eF188]; exact hO.tr (OE1 (MP_O hC).2.2.2.1)
                  have hC : MP y L F188 O G (tVw (tTh μ (ltR 1 1)) xv (vbk μ xb)) := by rw [eF188]; exact MP_vw hC (va_up_self _ _ _) (fun q hq => va_up_ne _ _ hq)
                  refine lv_aload_n hx hb dX6_openView_111 rfl (lv_at hl 1 rfl) ?_
                  refine q_get C0 iX6 hP hC.1.1 hC.1.2 rfl 3 (by decide) flX6_21 rfl (v := .ref ((uaf G))) rfl dX6_openView_112 ?_
                  refine lv_iload_n hx hb dX6_openView_115 rfl (lv_at hl 2 rfl) ?_
                  refine lv_iload_n hx hb dX6_openView_116 rfl (lv_at hl 4 rfl) ?_
                  refine q_if_ne hx hb dX6_openView_117 (tgt := 124) (by decide) (by omega) (fun c189 => ?_) (fun c189 => ?_)
                  · refine lv_aload hx hb dX6_openView_124 (lv_at hl 0 rfl) ?_
                    refine lv_iload hx hb dX6_openView_126 (lv_at hl 5 rfl) ?_
                    refine q_vS C0 lX6_93 (c_X5_rank l D y L F188 (urh G (vbk μ xb)) (urw G (vbk μ xb)) (vod μ (vbk μ xb)) (vst μ (vbk μ xb)) xlow (MP_r hC (hW.1 xb)) (by omega)) ⟨rfl, rfl⟩ rfl hP (MP_r hC (hW.1 xb)).1 (MP_r hC (hW.1 xb)).2.1 rfl rfl rfl hl rfl (Nat.le_of_ble_eq_true rfl) dX6_openView_128 ⟨Nat.zero_le _, Nat.zero_le _⟩ (fun r190 e_r190 => ?_)
                    subst e_r190
                    have b_191 := @turn_b (vod μ (vbk μ xb)) xlow (by omega)
                    refine q_iconst hx hb dX6_openView_131 ?_
                    refine q_iadd hx hb dX6_openView_132 ?_
                    refine lv_iload hx hb dX6_openView_133 (lv_at hl 7 rfl) ?_
                    refine q_iconst hx hb dX6_openView_135 ?_
                    refine q_irem hx hb dX6_openView_136 (by omega) (by omega) ?_
                    refine q_isub hx hb dX6_openView_137 ?_
                    refine q_iast C0 hP hD hS hC.2.2.2.2.1.1 hC.2.2.2.2.1.2 (i := xv) (v := (((turn (vod μ (vbk μ xb)) xlow) + 1) - (xends % 2))) (by omega) (by decide) dX6_openView_138 (fun H locs hP hD hS => ?_)
                    obtain ⟨F192, eF192⟩ : ∃ z, z = va_up F188 (uaf G) (arrI (y 0) 2 (iu (vvl μ) xv (((turn (vod μ (vbk μ xb)) xlow) + 1) - (xends % 2)))) := ⟨_, rfl⟩
                    have hP : va_P D vwCl (va_pl L F192) H := by rw [eF192]; exact hP
                    have hD : va_D (AL L sz) (va_pl L F192) := by rw [eF192]; exact hD
                    have hO : OE O F F192 := by rw [eF192]; exact hO.tr (OE1 (MP_O hC).2.2.2.2.1)
                    have hC : MP y L F192 O G (tVl (tVw (tTh μ (ltR 1 1)) xv (vbk μ xb)) xv (((turn (vod μ (vbk μ xb)) xlow) + 1) - (xends % 2))) := by rw [eF192]; exact MP_vl hC (va_up_self _ _ _) (fun q hq => va_up_ne _ _ hq)
                    refine lv_aload_n hx hb dX6_openView_139 rfl (lv_at hl 1 rfl) ?_
                    refine q_get C0 iX6 hP hC.1.1 hC.1.2 rfl 4 (by decide) flX6_25 rfl (v := .ref ((uat G))) rfl dX6_openView_140 ?_
                    refine lv_iload_n hx hb dX6_openView_143 rfl (lv_at hl 2 rfl) ?_
                    refine lv_iload_n hx hb dX6_openView_144 rfl (lv_at hl 4 rfl) ?_
                    refine q_iconst hx hb dX6_openView_145 ?_
                    refine q_icmp_ne hx hb dX6_openView_146 (tgt := 154) (by decide) (by omega) (by omega) (fun c193 => ?_) (fun c193 => ?_)
                    · refine lv_aload hx hb dX6_openView_154 (lv_at hl 0 rfl) ?_
                      refine lv_iload hx hb dX6_openView_156 (lv_at hl 6 rfl) ?_
                      refine q_vS C0 lX6_93 (c_X5_rank l D y L F192 (urh G (vbk μ xb)) (urw G (vbk μ xb)) (vod μ (vbk μ xb)) (vst μ (vbk μ xb)) xhigh (MP_r hC (hW.1 xb)) (by omega)) ⟨rfl, rfl⟩ rfl hP (MP_r hC (hW.1 xb)).1 (MP_r hC (hW.1 xb)).2.1 rfl rfl rfl hl rfl (Nat.le_of_ble_eq_true rfl) dX6_openView_158 ⟨Nat.zero_le _, Nat.zero_le _⟩ (fun r194 e_r194 => ?_)
                      subst e_r194
                      have b_195 := @turn_b (vod μ (vbk μ xb)) xhigh (by omega)
                      refine q_iconst hx hb dX6_openView_161 ?_
                      refine q_isub hx hb dX6_openView_162 ?_
                      refine lv_iload hx hb dX6_openView_163 (lv_at hl 7 rfl) ?_
                      refine q_iconst hx hb dX6_openView_165 ?_
                      refine q_idiv hx hb dX6_openView_166 (by omega) (by omega) ?_
                      refine q_iadd hx hb dX6_openView_167 ?_
                      refine q_iast C0 hP hD hS hC.2.2.2.2.2.1.1 hC.2.2.2.2.2.1.2 (i := xv) (v := (((turn (vod μ (vbk μ xb)) xhigh) - 1) + (xends / 2))) (by omega) (by decide) dX6_openView_168 (fun H locs hP hD hS => ?_)
                      obtain ⟨F196, eF196⟩ : ∃ z, z = va_up F192 (uat G) (arrI (y 0) 2 (iu (vvh μ) xv (((turn (vod μ (vbk μ xb)) xhigh) - 1) + (xends / 2)))) := ⟨_, rfl⟩
                      have hP : va_P D vwCl (va_pl L F196) H := by rw [eF196]; exact hP
                      have hD : va_D (AL L sz) (va_pl L F196) := by rw [eF196]; exact hD
                      have hO : OE O F F196 := by rw [eF196]; exact hO.tr (OE1 (MP_O hC).2.2.2.2.2.1)
                      have hC : MP y L F196 O G (tVh (tVl (tVw (tTh μ (ltR 1 1)) xv (vbk μ xb)) xv (((turn (vod μ (vbk μ xb)) xlow) + 1) - (xends % 2))) xv (((turn (vod μ (vbk μ xb)) xhigh) - 1) + (xends / 2))) := by rw [eF196]; exact MP_vh hC (va_up_self _ _ _) (fun q hq => va_up_ne _ _ hq)
                      refine lv_aload_n hx hb dX6_openView_169 rfl (lv_at hl 1 rfl) ?_
                      refine lv_iload_n hx hb dX6_openView_170 rfl (lv_at hl 2 rfl) ?_
                      refine q_vS C0 lX6_171 (c_X6_seen l D y L F196 O G (tVh (tVl (tVw (tTh μ (ltR 1 1)) xv (vbk μ xb)) xv (((turn (vod μ (vbk μ xb)) xlow) + 1) - (xends % 2))) xv (((turn (vod μ (vbk μ xb)) xhigh) - 1) + (xends / 2))) xv hC (by omega) (by rw [show vvw (tVh (tVl (tVw (tTh μ (ltR 1 1)) xv (vbk μ xb)) xv (((turn (vod μ (vbk μ xb)) xlow) + 1) - (xends % 2))) xv (((turn (vod μ (vbk μ xb)) xhigh) - 1) + (xends / 2))) xv = (vbk μ xb) from (by first | rfl | exact iu_s _ _ _)]; exact (hW.1 xb)) (by rw [show vvl (tVh (tVl (tVw (tTh μ (ltR 1 1)) xv (vbk μ xb)) xv (((turn (vod μ (vbk μ xb)) xlow) + 1) - (xends % 2))) xv (((turn (vod μ (vbk μ xb)) xhigh) - 1) + (xends / 2))) xv = (((turn (vod μ (vbk μ xb)) xlow) + 1) - (xends % 2)) from (by first | rfl | exact iu_s _ _ _)]; omega) (by rw [show vvh (tVh (tVl (tVw (tTh μ (ltR 1 1)) xv (vbk μ xb)) xv (((turn (vod μ (vbk μ xb)) xlow) + 1) - (xends % 2))) xv (((turn (vod μ (vbk μ xb)) xhigh) - 1) + (xends / 2))) xv = (((turn (vod μ (vbk μ xb)) xhigh) - 1) + (xends / 2)) from (by first | rfl | exact iu_s _ _ _)]; omega)) ⟨rfl, rfl⟩ rfl hP hC.1.1 hC.1.2 rfl rfl rfl hl rfl (Nat.le_of_ble_eq_true rfl) dX6_openView_171 ⟨Nat.zero_le _, Nat.zero_le _⟩ (fun r197 e_r197 => ?_)
                      replace e_r197 : r197 = cntP (vst μ (vbk μ xb)) (((turn (vod μ (vbk μ xb)) xlow) + 1) - (xends % 2)) (((turn (vod μ (vbk μ xb)) xhigh) - 1) + (xends / 2)) := e_r197.trans (by first | rfl | (rw [show vvw (tVh (tVl (tVw (tTh μ (ltR 1 1)) xv (vbk μ xb)) xv (((turn (vod μ (vbk μ xb)) xlow) + 1) - (xends % 2))) xv (((turn (vod μ (vbk μ xb)) xhigh) - 1) + (xends / 2))) xv = (vbk μ xb) from (by first | rfl | exact iu_s _ _ _), show vvl (tVh (tVl (tVw (tTh μ (ltR 1 1)) xv (vbk μ xb)) xv (((turn (vod μ (vbk μ xb)) xlow) + 1) - (xends % 2))) xv (((turn (vod μ (vbk μ xb)) xhigh) - 1) + (xends / 2))) xv = (((turn (vod μ (vbk μ xb)) xlow) + 1) - (xends % 2)) from (by first | rfl | exact iu_s _ _ _), show vvh (tVh (tVl (tVw (tTh μ (ltR 1 1)) xv (vbk μ xb)) xv (((turn (vod μ (vbk μ xb)) xlow) + 1) - (xends % 2))) xv (((turn (vod μ (vbk μ xb)) xhigh) - 1) + (xends / 2))) xv = (((turn (vod μ (vbk μ xb)) xhigh) - 1) + (xends / 2)) from (by first | rfl | exact iu_s _ _ _)]; done) | (rw [show vvw (tVh (tVl (tVw (tTh μ (ltR 1 1)) xv (vbk μ xb)) xv (((turn (vod μ (vbk μ xb)) xlow) + 1) - (xends % 2))) xv (((turn (vod μ (vbk μ xb)) xhigh) - 1) + (xends / 2))) xv = (vbk μ xb) from (by first | rfl | exact iu_s _ _ _), show vvl (tVh (tVl (tVw (tTh μ (ltR 1 1)) xv (vbk μ xb)) xv (((turn (vod μ (vbk μ xb)) xlow) + 1) - (xends % 2))) xv (((turn (vod μ (vbk μ xb)) xhigh) - 1) + (xends / 2))) xv = (((turn (vod μ (vbk μ xb)) xlow) + 1) - (xends % 2)) from (by first | rfl | exact iu_s _ _ _), show vvh (tVh (tVl (tVw (tTh μ (ltR 1 1)) xv (vbk μ xb)) xv (((turn (vod μ (vbk μ xb)) xlow) + 1) - (xends % 2))) xv (((turn (vod μ (vbk μ xb)) xhigh) - 1) + (xends / 2))) xv = (((turn (vod μ (vbk μ xb)) xhigh) - 1) + (xends / 2)) from (by first | rfl | exact iu_s _ _ _)]; rfl))
                      subst e_r197
                      exact q_retMi C0 hret rfl hlk dX6_openView_174 hP hD hS (⟨(by 
    have eL : moLo (vod μ (vbk μ xb)) xkind xlow xends = (((turn (vod μ (vbk μ xb)) xlow) + 1) - (xends % 2)) := by (unfold moLo; first | (rw [if_pos (by omega)]; done) | (rw [if_neg (by omega)]; done))
    have eH : moHi (vod μ (vbk μ xb)) xkind xhigh xends = (((turn (vod μ (vbk μ xb)) xhigh) - 1) + (xends / 2)) := by (unfold moHi; first | (rw [if_pos (by omega)]; done) | (rw [if_neg (by omega)]; done))
    unfold jR_openView; rw [if_pos (by omega), if_neg (by omega), eL, eH]), O, G, MP_eq hC (by 
    have eL : moLo (vod μ (vbk μ xb)) xkind xlow xends = (((turn (vod μ (vbk μ xb)) xlow) + 1) - (xends % 2)) := by (unfold moLo; first | (rw [if_pos (by omega)]; done) | (rw [if_neg (by omega)]; done))
    have eH : moHi (vod μ (vbk μ xb)) xkind xhigh xends = (((turn (vod μ (vbk μ xb)) xhigh) - 1) + (xends / 2)) := by (unfold moHi; first | (rw [if_pos (by omega)]; done) | (rw [if_neg (by omega)]; done))
    have lt_ := ltR_d 1 1; 
    unfold jS_openView; rw [if_pos (by omega), if_pos (by omega), if_neg (by omega), eL, eH, show ltR 1 1 = 0 by omega]), rfl, Ext0 hO⟩)
                    · refine q_bipush hx hb dX6_openView_149 (by decide) ?_
                      refine lv_goto (tgt := 168) hx hb dX6_openView_151 (by decide) ?_
                      refine q_iast C0 hP hD hS hC.2.2.2.2.2.1.1 hC.2.2.2.2.2.1.2 (i := xv) (v := 99) (by omega) (by decide) dX6_openView_168 (fun H locs hP hD hS => ?_)
                      obtain ⟨F198, eF198⟩ : ∃ z, z = va_up F192 (uat G) (arrI (y 0) 2 (iu (vvh μ) xv 99)) := ⟨_, rfl⟩
                      have hP : va_P D vwCl (va_pl L F198) H := by rw [eF198]; exact hP
                      have hD : va_D (AL L sz) (va_pl L F198) := by rw [eF198]; exact hD
                      have hO : OE O F F198 := by rw [eF198]; exact hO.tr (OE1 (MP_O hC).2.2.2.2.2.1)
                      have hC : MP y L F198 O G (tVh (tVl (tVw (tTh μ (ltR 1 1)) xv (vbk μ xb)) xv (((turn (vod μ (vbk μ xb)) xlow) + 1) - (xends % 2))) xv 99) := by rw [eF198]; exact MP_vh hC (va_up_self _ _ _) (fun q hq => va_up_ne _ _ hq)
                      refine lv_aload_n hx hb dX6_openView_169 rfl (lv_at hl 1 rfl) ?_
                      refine lv_iload_n hx hb dX6_openView_170 rfl (lv_at hl 2 rfl) ?_
                      refine q_vS C0 lX6_171 (c_X6_seen l D y L F198 O G (tVh (tVl (tVw (tTh μ (ltR 1 1)) xv (vbk μ xb)) xv (((turn (vod μ (vbk μ xb)) xlow) + 1) - (xends % 2))) xv 99) xv hC (by omega) (by rw [show vvw (tVh (tVl (tVw (tTh μ (ltR 1 1)) xv (vbk μ xb)) xv (((turn (vod μ (vbk μ xb)) xlow) + 1) - (xends % 2))) xv 99) xv = (vbk μ xb) from (by first | rfl | exact iu_s _ _ _)]; exact (hW.1 xb)) (by rw [show vvl (tVh (tVl (tVw (tTh μ (ltR 1 1)) xv (vbk μ xb)) xv (((turn (vod μ (vbk μ xb)) xlow) + 1) - (xends % 2))) xv 99) xv = (((turn (vod μ (vbk μ xb)) xlow) + 1) - (xends % 2)) from (by first | rfl | exact iu_s _ _ _)]; omega) (by rw [show vvh (tVh (tVl (tVw (tTh μ (ltR 1 1)) xv (vbk μ xb)) xv (((turn (vod μ (vbk μ xb)) xlow) + 1) - (xends % 2))) xv 99) xv = 99 from (by first | rfl | exact iu_s _ _ _)]; omega)) ⟨rfl, rfl⟩ rfl hP hC.1.1 hC.1.2 rfl rfl rfl hl rfl (Nat.le_of_ble_eq_true rfl) dX6_openView_171 ⟨Nat.zero_le _, Nat.zero_le _⟩ (fun r199 e_r199 => ?_)
                      replace e_r199 : r199 = cntP (vst μ (vbk μ xb)) (((turn (vod μ (vbk μ xb)) xlow) + 1) - (xends % 2)) 99 := e_r199.trans (by first | rfl | (rw [show vvw (tVh (tVl (tVw (tTh μ (ltR 1 1)) xv (vbk μ xb)) xv (((turn (vod μ (vbk μ xb)) xlow) + 1) - (xends % 2))) xv 99) xv = (vbk μ xb) from (by first | rfl | exact iu_s _ _ _), show vvl (tVh (tVl (tVw (tTh μ (ltR 1 1)) xv (vbk μ xb)) xv (((turn (vod μ (vbk μ xb)) xlow) + 1) - (xends % 2))) xv 99) xv = (((turn (vod μ (vbk μ xb)) xlow) + 1) - (xends % 2)) from (by first | rfl | exact iu_s _ _ _), show vvh (tVh (tVl (tVw (tTh μ (ltR 1 1)) xv (vbk μ xb)) xv (((turn (vod μ (vbk μ xb)) xlow) + 1) - (xends % 2))) xv 99) xv = 99 from (by first | rfl | exact iu_s _ _ _)]; done) | (rw [show vvw (tVh (tVl (tVw (tTh μ (ltR 1 1)) xv (vbk μ xb)) xv (((turn (vod μ (vbk μ xb)) xlow) + 1) - (xends % 2))) xv 99) xv = (vbk μ xb) from (by first | rfl | exact iu_s _ _ _), show vvl (tVh (tVl (tVw (tTh μ (ltR 1 1)) xv (vbk μ xb)) xv (((turn (vod μ (vbk μ xb)) xlow) + 1) - (xends % 2))) xv 99) xv = (((turn (vod μ (vbk μ xb)) xlow) + 1) - (xends % 2)) from (by first | rfl | exact iu_s _ _ _), show vvh (tVh (tVl (tVw (tTh μ (ltR 1 1)) xv (vbk μ xb)) xv (((turn (vod μ (vbk μ xb)) xlow) + 1) - (xends % 2))) xv 99) xv = 99 from (by first | rfl | exact iu_s _ _ _)]; rfl))
                      subst e_r199
                      exact q_retMi C0 hret rfl hlk dX6_openView_174 hP hD hS (⟨(by 
    have eL : moLo (vod μ (vbk μ xb)) xkind xlow xends = (((turn (vod μ (vbk μ xb)) xlow) + 1) - (xends % 2)) := by (unfold moLo; first | (rw [if_pos (by omega)]; done) | (rw [if_neg (by omega)]; done))
    have eH : moHi (vod μ (vbk μ xb)) xkind xhigh xends = 99 := by (unfold moHi; first | (rw [if_pos (by omega)]; done) | (rw [if_neg (by omega)]; done))
    unfold jR_openView; rw [if_pos (by omega), if_neg (by omega), eL, eH]), O, G, MP_eq hC (by 
    have eL : moLo (vod μ (vbk μ xb)) xkind xlow xends = (((turn (vod μ (vbk μ xb)) xlow) + 1) - (xends % 2)) := by (unfold moLo; first | (rw [if_pos (by omega)]; done) | (rw [if_neg (by omega)]; done))
    have eH : moHi (vod μ (vbk μ xb)) xkind xhigh xends = 99 := by (unfold moHi; first | (rw [if_pos (by omega)]; done) | (rw [if_neg (by omega)]; done))
    have lt_ := ltR_d 1 1; 
    unfold jS_openView; rw [if_pos (by omega), if_pos (by omega), if_neg (by omega), eL, eH, show ltR 1 1 = 0 by omega]), rfl, Ext0 hO⟩)
                  · refine q_iconst hx hb dX6_openView_120 ?_
                    refine lv_goto (tgt := 138) hx hb dX6_openView_121 (by decide) ?_
                    refine q_iast C0 hP hD hS hC.2.2.2.2.1.1 hC.2.2.2.2.1.2 (i := xv) (v := 0) (by omega) (by decide) dX6_openView_138 (fun H locs hP hD hS => ?_)
                    obtain ⟨F200, eF200⟩ : ∃ z, z = va_up F188 (uaf G) (arrI (y 0) 2 (iu (vvl μ) xv 0)) := ⟨_, rfl⟩
                    have hP : va_P D vwCl (va_pl L F200) H := by rw [eF200]; exact hP
                    have hD : va_D (AL L sz) (va_pl L F200) := by rw [eF200]; exact hD
                    have hO : OE O F F200 := by rw [eF200]; exact hO.tr (OE1 (MP_O hC).2.2.2.2.1)
                    have hC : MP y L F200 O G (tVl (tVw (tTh μ (ltR 1 1)) xv (vbk μ xb)) xv 0) := by rw [eF200]; exact MP_vl hC (va_up_self _ _ _) (fun q hq => va_up_ne _ _ hq)
                    refine lv_aload_n hx hb dX6_openView_139 rfl (lv_at hl 1 rfl) ?_
                    refine q_get C0 iX6 hP hC.1.1 hC.1.2 rfl 4 (by decide) flX6_25 rfl (v := .ref ((uat G))) rfl dX6_openView_140 ?_
                    refine lv_iload_n hx hb dX6_openView_143 rfl (lv_at hl 2 rfl) ?_
                    refine lv_iload_n hx hb dX6_openView_144 rfl (lv_at hl 4 rfl) ?_
                    refine q_iconst hx hb dX6_openView_145 ?_
                    refine q_icmp_ne hx hb dX6_openView_146 (tgt := 154) (by decide) (by omega) (by omega) (fun c201 => ?_) (fun c201 => ?_)
                    · refine lv_aload hx hb dX6_openView_154 (lv_at hl 0 rfl) ?_
                      refine lv_iload hx hb dX6_openView_156 (lv_at hl 6 rfl) ?_
                      refine q_vS C0 lX6_93 (c_X5_rank l D y L F200 (urh G (vbk μ xb)) (urw G (vbk μ xb)) (vod μ (vbk μ xb)) (vst μ (vbk μ xb)) xhigh (MP_r hC (hW.1 xb)) (by omega)) ⟨rfl, rfl⟩ rfl hP (MP_r hC (hW.1 xb)).1 (MP_r hC (hW.1 xb)).2.1 rfl rfl rfl hl rfl (Nat.le_of_ble_eq_true rfl) dX6_openView_158 ⟨Nat.zero_le _, Nat.zero_le _⟩ (fun r202 e_r202 => ?_)
                      subst e_r202
                      have b_203 := @turn_b (vod μ (vbk μ xb)) xhigh (by omega)
                      refine q_iconst hx hb dX6_openView_161 ?_
                      refine q_isub hx hb dX6_openView_162 ?_
                      refine lv_iload hx hb dX6_openView_163 (lv_at hl 7 rfl) ?_
                      refine q_iconst hx hb dX6_openView_165 ?_
                      refine q_idiv hx hb dX6_openView_166 (by omega) (by omega) ?_
                      refine q_iadd hx hb dX6_openView_167 ?_
                      refine q_iast C0 hP hD hS hC.2.2.2.2.2.1.1 hC.2.2.2.2.2.1.2 (i := xv) (v := (((turn (vod μ (vbk μ xb)) xhigh) - 1) + (xends / 2))) (by omega) (by decide) dX6_openView_168 (fun H locs hP hD hS => ?_)
                      obtain ⟨F204, eF204⟩ : ∃ z, z = va_up F200 (uat G) (arrI (y 0) 2 (iu (vvh μ) xv (((turn (vod μ (vbk μ xb)) xhigh) - 1) + (xends / 2)))) := ⟨_, rfl⟩
                      have hP : va_P D vwCl (va_pl L F204) H := by rw [eF204]; exact hP
                      have hD : va_D (AL L sz) (va_pl L F204) := by rw [eF204]; exact hD
                      have hO : OE O F F204 := by rw [eF204]; exact hO.tr (OE1 (MP_O hC).2.2.2.2.2.1)
                      have hC : MP y L F204 O G (tVh (tVl (tVw (tTh μ (ltR 1 1)) xv (vbk μ xb)) xv 0) xv (((turn (vod μ (vbk μ xb)) xhigh) - 1) + (xends / 2))) := by rw [eF204]; exact MP_vh hC (va_up_self _ _ _) (fun q hq => va_up_ne _ _ hq)
                      refine lv_aload_n hx hb dX6_openView_169 rfl (lv_at hl 1 rfl) ?_
                      refine lv_iload_n hx hb dX6_openView_170 rfl (lv_at hl 2 rfl) ?_
                      refine q_vS C0 lX6_171 (c_X6_seen l D y L F204 O G (tVh (tVl (tVw (tTh μ (ltR 1 1)) xv (vbk μ xb)) xv 0) xv (((turn (vod μ (vbk μ xb)) xhigh) - 1) + (xends / 2))) xv hC (by omega) (by rw [show vvw (tVh (tVl (tVw (tTh μ (ltR 1 1)) xv (vbk μ xb)) xv 0) xv (((turn (vod μ (vbk μ xb)) xhigh) - 1) + (xends / 2))) xv = (vbk μ xb) from (by first | rfl | exact iu_s _ _ _)]; exact (hW.1 xb)) (by rw [show vvl (tVh (tVl (tVw (tTh μ (ltR 1 1)) xv (vbk μ xb)) xv 0) xv (((turn (vod μ (vbk μ xb)) xhigh) - 1) + (xends / 2))) xv = 0 from (by first | rfl | exact iu_s _ _ _)]; omega) (by rw [show vvh (tVh (tVl (tVw (tTh μ (ltR 1 1)) xv (vbk μ xb)) xv 0) xv (((turn (vod μ (vbk μ xb)) xhigh) - 1) + (xends / 2))) xv = (((turn (vod μ (vbk μ xb)) xhigh) - 1) + (xends / 2)) from (by first | rfl | exact iu_s _ _ _)]; omega)) ⟨rfl, rfl⟩ rfl hP hC.1.1 hC.1.2 rfl rfl rfl hl rfl (Nat.le_of_ble_eq_true rfl) dX6_openView_171 ⟨Nat.zero_le _, Nat.zero_le _⟩ (fun r205 e_r205 => ?_)
                      replace e_r205 : r205 = cntP (vst μ (vbk μ xb)) 0 (((turn (vod μ (vbk μ xb)) xhigh) - 1) + (xends / 2)) := e_r205.trans (by first | rfl | (rw [show vvw (tVh (tVl (tVw (tTh μ (ltR 1 1)) xv (vbk μ xb)) xv 0) xv (((turn (vod μ (vbk μ xb)) xhigh) - 1) + (xends / 2))) xv = (vbk μ xb) from (by first | rfl | exact iu_s _ _ _), show vvl (tVh (tVl (tVw (tTh μ (ltR 1 1)) xv (vbk μ xb)) xv 0) xv (((turn (vod μ (vbk μ xb)) xhigh) - 1) + (xends / 2))) xv = 0 from (by first | rfl | exact iu_s _ _ _), show vvh (tVh (tVl (tVw (tTh μ (ltR 1 1)) xv (vbk μ xb)) xv 0) xv (((turn (vod μ (vbk μ xb)) xhigh) - 1) + (xends / 2))) xv = (((turn (vod μ (vbk μ xb)) xhigh) - 1) + (xends / 2)) from (by first | rfl | exact iu_s _ _ _)]; done) | (rw [show vvw (tVh (tVl (tVw (tTh μ (ltR 1 1)) xv (vbk μ xb)) xv 0) xv (((turn (vod μ (vbk μ xb)) xhigh) - 1) + (xends / 2))) xv = (vbk μ xb) from (by first | rfl | exact iu_s _ _ _), show vvl (tVh (tVl (tVw (tTh μ (ltR 1 1)) xv (vbk μ xb)) xv 0) xv (((turn (vod μ (vbk μ xb)) xhigh) - 1) + (xends / 2))) xv = 0 from (by first | rfl | exact iu_s _ _ _), show vvh (tVh (tVl (tVw (tTh μ (ltR 1 1)) xv (vbk μ xb)) xv 0) xv (((turn (vod μ (vbk μ xb)) xhigh) - 1) + (xends / 2))) xv = (((turn (vod μ (vbk μ xb)) xhigh) - 1) + (xends / 2)) from (by first | rfl | exact iu_s _ _ _)]; rfl))
                      subst e_r205
                      exact q_retMi C0 hret rfl hlk dX6_openView_174 hP hD hS (⟨(by 
    have eL : moLo (vod μ (vbk μ xb)) xkind xlow xends = 0 := by (unfold moLo; first | (rw [if_pos (by omega)]; done) | (rw [if_neg (by omega)]; done))
    have eH : moHi (vod μ (vbk μ xb)) xkind xhigh xends = (((turn (vod μ (vbk μ xb)) xhigh) - 1) + (xends / 2)) := by (unfold moHi; first | (rw [if_pos (by omega)]; done) | (rw [if_neg (by omega)]; done))
    unfold jR_openView; rw [if_pos (by omega), if_neg (by omega), eL, eH]), O, G, MP_eq hC (by 
    have eL : moLo (vod μ (vbk μ xb)) xkind xlow xends = 0 := by (unfold moLo; first | (rw [if_pos (by omega)]; done) | (rw [if_neg (by omega)]; done))
    have eH : moHi (vod μ (vbk μ xb)) xkind xhigh xends = (((turn (vod μ (vbk μ xb)) xhigh) - 1) + (xends / 2)) := by (unfold moHi; first | (rw [if_pos (by omega)]; done) | (rw [if_neg (by omega)]; done))
    have lt_ := ltR_d 1 1; 
    unfold jS_openView; rw [if_pos (by omega), if_pos (by omega), if_neg (by omega), eL, eH, show ltR 1 1 = 0 by omega]), rfl, Ext0 hO⟩)
                    · refine q_bipush hx hb dX6_openView_149 (by decide) ?_
                      refine lv_goto (tgt := 168) hx hb dX6_openView_151 (by decide) ?_
                      refine q_iast C0 hP hD hS hC.2.2.2.2.2.1.1 hC.2.2.2.2.2.1.2 (i := xv) (v := 99) (by omega) (by decide) dX6_openView_168 (fun H locs hP hD hS => ?_)
                      obtain ⟨F206, eF206⟩ : ∃ z, z = va_up F200 (uat G) (arrI (y 0) 2 (iu (vvh μ) xv 99)) := ⟨_, rfl⟩
                      have hP : va_P D vwCl (va_pl L F206) H := by rw [eF206]; exact hP
                      have hD : va_D (AL L sz) (va_pl L F206) := by rw [eF206]; exact hD
                      have hO : OE O F F206 := by rw [eF206]; exact hO.tr (OE1 (MP_O hC).2.2.2.2.2.1)
                      have hC : MP y L F206 O G (tVh (tVl (tVw (tTh μ (ltR 1 1)) xv (vbk μ xb)) xv 0) xv 99) := by rw [eF206]; exact MP_vh hC (va_up_self _ _ _) (fun q hq => va_up_ne _ _ hq)
                      refine lv_aload_n hx hb dX6_openView_169 rfl (lv_at hl 1 rfl) ?_
                      refine lv_iload_n hx hb dX6_openView_170 rfl (lv_at hl 2 rfl) ?_
                      refine q_vS C0 lX6_171 (c_X6_seen l D y L F206 O G (tVh (tVl (tVw (tTh μ (ltR 1 1)) xv (vbk μ xb)) xv 0) xv 99) xv hC (by omega) (by rw [show vvw (tVh (tVl (tVw (tTh μ (ltR 1 1)) xv (vbk μ xb)) xv 0) xv 99) xv = (vbk μ xb) from (by first | rfl | exact iu_s _ _ _)]; exact (hW.1 xb)) (by rw [show vvl (tVh (tVl (tVw (tTh μ (ltR 1 1)) xv (vbk μ xb)) xv 0) xv 99) xv = 0 from (by first | rfl | exact iu_s _ _ _)]; omega) (by rw [show vvh (tVh (tVl (tVw (tTh μ (ltR 1 1)) xv (vbk μ xb)) xv 0) xv 99) xv = 99 from (by first | rfl | exact iu_s _ _ _)]; omega)) ⟨rfl, rfl⟩ rfl hP hC.1.1 hC.1.2 rfl rfl rfl hl rfl (Nat.le_of_ble_eq_true rfl) dX6_openView_171 ⟨Nat.zero_le _, Nat.zero_le _⟩ (fun r207 e_r207 => ?_)
                      replace e_r207 : r207 = cntP (vst μ (vbk μ xb)) 0 99 := e_r207.trans (by first | rfl | (rw [show vvw (tVh (tVl (tVw (tTh μ (ltR 1 1)) xv (vbk μ xb)) xv 0) xv 99) xv = (vbk μ xb) from (by first | rfl | exact iu_s _ _ _), show vvl (tVh (tVl (tVw (tTh μ (ltR 1 1)) xv (vbk μ xb)) xv 0) xv 99) xv = 0 from (by first | rfl | exact iu_s _ _ _), show vvh (tVh (tVl (tVw (tTh μ (ltR 1 1)) xv (vbk μ xb)) xv 0) xv 99) xv = 99 from (by first | rfl | exact iu_s _ _ _)]; done) | (rw [show vvw (tVh (tVl (tVw (tTh μ (ltR 1 1)) xv (vbk μ xb)) xv 0) xv 99) xv = (vbk μ xb) from (by first | rfl | exact iu_s _ _ _), show vvl (tVh (tVl (tVw (tTh μ (ltR 1 1)) xv (vbk μ xb)) xv 0) xv 99) xv = 0 from (by first | rfl | exact iu_s _ _ _), show vvh (tVh (tVl (tVw (tTh μ (ltR 1 1)) xv (vbk μ xb)) xv 0) xv 99) xv = 99 from (by first | rfl | exact iu_s _ _ _)]; rfl))
                      subst e_r207
                      exact q_retMi C0 hret rfl hlk dX6_openView_174 hP hD hS (⟨(by 
    have eL : moLo (vod μ (vbk μ xb)) xkind xlow xends = 0 := by (unfold moLo; first | (rw [if_pos (by omega)]; done) | (rw [if_neg (by omega)]; done))
    have eH : moHi (vod μ (vbk μ xb)) xkind xhigh xends = 99 := by (unfold moHi; first | (rw [if_pos (by omega)]; done) | (rw [if_neg (by omega)]; done))
    unfold jR_openView; rw [if_pos (by omega), if_neg (by omega), eL, eH]), O, G, MP_eq hC (by 
    have eL : moLo (vod μ (vbk μ xb)) xkind xlow xends = 0 := by (unfold moLo; first | (rw [if_pos (by omega)]; done) | (rw [if_neg (by omega)]; done))
    have eH : moHi (vod μ (vbk μ xb)) xkind xhigh xends = 99 := by (unfold moHi; first | (rw [if_pos (by omega)]; done) | (rw [if_neg (by omega)]; done))
    have lt_ := ltR_d 1 1; 
    unfold jS_openView; rw [if_pos (by omega), if_pos (by omega), if_neg (by omega), eL, eH, show ltR 1 1 = 0 by omega]), rfl, Ext0 hO⟩)
                · refine lv_aload hx hb dX6_openView_81 (lv_at hl 0 rfl) ?_
                  refine lv_iload hx hb dX6_openView_83 (lv_at hl 5 rfl) ?_
                  refine q_vS C0 lX6_93 (c_X5_rank l D y L F184 (urh G (vbk μ xb)) (urw G (vbk μ xb)) (vod μ (vbk μ xb)) (vst μ (vbk μ xb)) xlow (MP_r hC (hW.1 xb)) (by omega)) ⟨rfl, rfl⟩ rfl hP (MP_r hC (hW.1 xb)).1 (MP_r hC (hW.1 xb)).2.1 rfl rfl rfl hl rfl (Nat.le_of_ble_eq_true rfl) dX6_openView_85 ⟨Nat.zero_le _, Nat.zero_le _⟩ (fun r208 e_r208 => ?_)
                  subst e_r208
                  have b_209 := @turn_b (vod μ (vbk μ xb)) xlow (by omega)
                  refine lv_aload hx hb dX6_openView_88 (lv_at hl 0 rfl) ?_
                  refine lv_iload hx hb dX6_openView_90 (lv_at hl 6 rfl) ?_
                  refine q_vS C0 lX6_93 (c_X5_rank l D y L F184 (urh G (vbk μ xb)) (urw G (vbk μ xb)) (vod μ (vbk μ xb)) (vst μ (vbk μ xb)) xhigh (MP_r hC (hW.1 xb)) (by omega)) ⟨rfl, rfl⟩ rfl hP (MP_r hC (hW.1 xb)).1 (MP_r hC (hW.1 xb)).2.1 rfl rfl rfl hl rfl (Nat.le_of_ble_eq_true rfl) dX6_openView_92 ⟨Nat.zero_le _, Nat.zero_le _⟩ (fun r210 e_r210 => ?_)
                  subst e_r210
                  have b_211 := @turn_b (vod μ (vbk μ xb)) xhigh (by omega)
                  refine q_icmp_le hx hb dX6_openView_95 (tgt := 103) (by decide) (by omega) (by omega) (fun c212 => ?_) (fun c212 => ?_)
                  · refine lv_aload_n hx hb dX6_openView_103 rfl (lv_at hl 1 rfl) ?_
                    refine q_get C0 iX6 hP hC.1.1 hC.1.2 rfl 2 (by decide) flX6_18 rfl (v := .ref ((uav G))) rfl dX6_openView_104 ?_
                    refine lv_iload_n hx hb dX6_openView_107 rfl (lv_at hl 2 rfl) ?_
                    refine lv_aload hx hb dX6_openView_108 (lv_at hl 0 rfl) ?_
                    refine q_aast C0 hP hD hS hC.2.2.2.1.1 hC.2.2.2.1.2 (t := 3) (r := (RX5, TX5, 2)) rfl (MP_r hC (hW.1 xb)).1 (MP_r hC (hW.1 xb)).2.1 rfl (by omega) (by decide) dX6_openView_110 (fun H locs hP hD hS => ?_)
                    obtain ⟨F213, eF213⟩ : ∃ z, z = va_up F184 (uav G) (arrQ (y 3) 2 (iu (fun j => some (urh G (vvw (tTh μ (ltR 1 1)) j))) xv (some (urh G (vbk μ xb))))) := ⟨_, rfl⟩
                    have hP : va_P D vwCl (va_pl L F213) H := by rw [eF213]; exact hP
                    have hD : va_D (AL L sz) (va_pl L F213) := by rw [eF213]; exact hD
                    have hO : OE O F F213 := by rw [eF213]; exact hO.tr (OE1 (MP_O hC).2.2.2.1)
                    have hC : MP y L F213 O G (tVw (tTh μ (ltR 1 1)) xv (vbk μ xb)) := by rw [eF213]; exact MP_vw hC (va_up_self _ _ _) (fun q hq => va_up_ne _ _ hq)
                    refine lv_aload_n hx hb dX6_openView_111 rfl (lv_at hl 1 rfl) ?_
                    refine q_get C0 iX6 hP hC.1.1 hC.1.2 rfl 3 (by decide) flX6_21 rfl (v := .ref ((uaf G))) rfl dX6_openView_112 ?_
                    refine lv_iload_n hx hb dX6_openView_115 rfl (lv_at hl 2 rfl) ?_
                    refine lv_iload_n hx hb dX6_openView_116 rfl (lv_at hl 4 rfl) ?_
                    refine q_if_ne hx hb dX6_openView_117 (tgt := 124) (by decide) (by omega) (fun c214 => ?_) (fun c214 => ?_)
                    · refine lv_aload hx hb dX6_openView_124 (lv_at hl 0 rfl) ?_
                      refine lv_iload hx hb dX6_openView_126 (lv_at hl 5 rfl) ?_
                      refine q_vS C0 lX6_93 (c_X5_rank l D y L F213 (urh G (vbk μ xb)) (urw G (vbk μ xb)) (vod μ (vbk μ xb)) (vst μ (vbk μ xb)) xlow (MP_r hC (hW.1 xb)) (by omega)) ⟨rfl, rfl⟩ rfl hP (MP_r hC (hW.1 xb)).1 (MP_r hC (hW.1 xb)).2.1 rfl rfl rfl hl rfl (Nat.le_of_ble_eq_true rfl) dX6_openView_128 ⟨Nat.zero_le _, Nat.zero_le _⟩ (fun r215 e_r215 => ?_)
                      subst e_r215
                      have b_216 := @turn_b (vod μ (vbk μ xb)) xlow (by omega)
                      refine q_iconst hx hb dX6_openView_131 ?_
                      refine q_iadd hx hb dX6_openView_132 ?_
                      refine lv_iload hx hb dX6_openView_133 (lv_at hl 7 rfl) ?_
                      refine q_iconst hx hb dX6_openView_135 ?_
                      refine q_irem hx hb dX6_openView_136 (by omega) (by omega) ?_
                      refine q_isub hx hb dX6_openView_137 ?_
                      refine q_iast C0 hP hD hS hC.2.2.2.2.1.1 hC.2.2.2.2.1.2 (i := xv) (v := (((turn (vod μ (vbk μ xb)) xlow) + 1) - (xends % 2))) (by omega) (by decide) dX6_openView_138 (fun H locs hP hD hS => ?_)
                      obtain ⟨F217, eF217⟩ : ∃ z, z = va_up F213 (uaf G) (arrI (y 0) 2 (iu (vvl μ) xv (((turn (vod μ (vbk μ xb)) xlow) + 1) - (xends % 2)))) := ⟨_, rfl⟩
                      have hP : va_P D vwCl (va_pl L F217) H := by rw [eF217]; exact hP
                      have hD : va_D (AL L sz) (va_pl L F217) := by rw [eF217]; exact hD
                      have hO : OE O F F217 := by rw [eF217]; exact hO.tr (OE1 (MP_O hC).2.2.2.2.1)
                      have hC : MP y L F217 O G (tVl (tVw (tTh μ (ltR 1 1)) xv (vbk μ xb)) xv (((turn (vod μ (vbk μ xb)) xlow) + 1) - (xends % 2))) := by rw [eF217]; exact MP_vl hC (va_up_self _ _ _) (fun q hq => va_up_ne _ _ hq)
                      refine lv_aload_n hx hb dX6_openView_139 rfl (lv_at hl 1 rfl) ?_
                      refine q_get C0 iX6 hP hC.1.1 hC.1.2 rfl 4 (by decide) flX6_25 rfl (v := .ref ((uat G))) rfl dX6_openView_140 ?_
                      refine lv_iload_n hx hb dX6_openView_143 rfl (lv_at hl 2 rfl) ?_
                      refine lv_iload_n hx hb dX6_openView_144 rfl (lv_at hl 4 rfl) ?_
                      refine q_iconst hx hb dX6_openView_145 ?_
                      refine q_icmp_ne hx hb dX6_openView_146 (tgt := 154) (by decide) (by omega) (by omega) (fun c218 => ?_) (fun c218 => ?_)
                      · refine lv_aload hx hb dX6_openView_154 (lv_at hl 0 rfl) ?_
                        refine lv_iload hx hb dX6_openView_156 (lv_at hl 6 rfl) ?_
                        refine q_vS C0 lX6_93 (c_X5_rank l D y L F217 (urh G (vbk μ xb)) (urw G (vbk μ xb)) (vod μ (vbk μ xb)) (vst μ (vbk μ xb)) xhigh (MP_r hC (hW.1 xb)) (by omega)) ⟨rfl, rfl⟩ rfl hP (MP_r hC (hW.1 xb)).1 (MP_r hC (hW.1 xb)).2.1 rfl rfl rfl hl rfl (Nat.le_of_ble_eq_true rfl) dX6_openView_158 ⟨Nat.zero_le _, Nat.zero_le _⟩ (fun r219 e_r219 => ?_)
                        subst e_r219
                        have b_220 := @turn_b (vod μ (vbk μ xb)) xhigh (by omega)
                        refine q_iconst hx hb dX6_openView_161 ?_
                        refine q_isub hx hb dX6_openView_162 ?_
                        refine lv_iload hx hb dX6_openView_163 (lv_at hl 7 rfl) ?_
                        refine q_iconst hx hb dX6_openView_165 ?_
                        refine q_idiv hx hb dX6_openView_166 (by omega) (by omega) ?_
                        refine q_iadd hx hb dX6_openView_167 ?_
                        refine q_iast C0 hP hD hS hC.2.2.2.2.2.1.1 hC.2.2.2.2.2.1.2 (i := xv) (v := (((turn (vod μ (vbk μ xb)) xhigh) - 1) + (xends / 2))) (by omega) (by decide) dX6_openView_168 (fun H locs hP hD hS => ?_)
                        obtain ⟨F221, eF221⟩ : ∃ z, z = va_up F217 (uat G) (arrI (y 0) 2 (iu (vvh μ) xv (((turn (vod μ (vbk μ xb)) xhigh) - 1) + (xends / 2)))) := ⟨_, rfl⟩
                        have hP : va_P D vwCl (va_pl L F221) H := by rw [eF221]; exact hP
                        have hD : va_D (AL L sz) (va_pl L F221) := by rw [eF221]; exact hD
                        have hO : OE O F F221 := by rw [eF221]; exact hO.tr (OE1 (MP_O hC).2.2.2.2.2.1)
                        have hC : MP y L F221 O G (tVh (tVl (tVw (tTh μ (ltR 1 1)) xv (vbk μ xb)) xv (((turn (vod μ (vbk μ xb)) xlow) + 1) - (xends % 2))) xv (((turn (vod μ (vbk μ xb)) xhigh) - 1) + (xends / 2))) := by rw [eF221]; exact MP_vh hC (va_up_self _ _ _) (fun q hq => va_up_ne _ _ hq)
                        refine lv_aload_n hx hb dX6_openView_169 rfl (lv_at hl 1 rfl) ?_
                        refine lv_iload_n hx hb dX6_openView_170 rfl (lv_at hl 2 rfl) ?_
                        refine q_vS C0 lX6_171 (c_X6_seen l D y L F221 O G (tVh (tVl (tVw (tTh μ (ltR 1 1)) xv (vbk μ xb)) xv (((turn (vod μ (vbk μ xb)) xlow) + 1) - (xends % 2))) xv (((turn (vod μ (vbk μ xb)) xhigh) - 1) + (xends / 2))) xv hC (by omega) (by rw [show vvw (tVh (tVl (tVw (tTh μ (ltR 1 1)) xv (vbk μ xb)) xv (((turn (vod μ (vbk μ xb)) xlow) + 1) - (xends % 2))) xv (((turn (vod μ (vbk μ xb)) xhigh) - 1) + (xends / 2))) xv = (vbk μ xb) from (by first | rfl | exact iu_s _ _ _)]; exact (hW.1 xb)) (by rw [show vvl (tVh (tVl (tVw (tTh μ (ltR 1 1)) xv (vbk μ xb)) xv (((turn (vod μ (vbk μ xb)) xlow) + 1) - (xends % 2))) xv (((turn (vod μ (vbk μ xb)) xhigh) - 1) + (xends / 2))) xv = (((turn (vod μ (vbk μ xb)) xlow) + 1) - (xends % 2)) from (by first | rfl | exact iu_s _ _ _)]; omega) (by rw [show vvh (tVh (tVl (tVw (tTh μ (ltR 1 1)) xv (vbk μ xb)) xv (((turn (vod μ (vbk μ xb)) xlow) + 1) - (xends % 2))) xv (((turn (vod μ (vbk μ xb)) xhigh) - 1) + (xends / 2))) xv = (((turn (vod μ (vbk μ xb)) xhigh) - 1) + (xends / 2)) from (by first | rfl | exact iu_s _ _ _)]; omega)) ⟨rfl, rfl⟩ rfl hP hC.1.1 hC.1.2 rfl rfl rfl hl rfl (Nat.le_of_ble_eq_true rfl) dX6_openView_171 ⟨Nat.zero_le _, Nat.zero_le _⟩ (fun r222 e_r222 => ?_)
                        replace e_r222 : r222 = cntP (vst μ (vbk μ xb)) (((turn (vod μ (vbk μ xb)) xlow) + 1) - (xends % 2)) (((turn (vod μ (vbk μ xb)) xhigh) - 1) + (xends / 2)) := e_r222.trans (by first | rfl | (rw [show vvw (tVh (tVl (tVw (tTh μ (ltR 1 1)) xv (vbk μ xb)) xv (((turn (vod μ (vbk μ xb)) xlow) + 1) - (xends % 2))) xv (((turn (vod μ (vbk μ xb)) xhigh) - 1) + (xends / 2))) xv = (vbk μ xb) from (by first | rfl | exact iu_s _ _ _), show vvl (tVh (tVl (tVw (tTh μ (ltR 1 1)) xv (vbk μ xb)) xv (((turn (vod μ (vbk μ xb)) xlow) + 1) - (xends % 2))) xv (((turn (vod μ (vbk μ xb)) xhigh) - 1) + (xends / 2))) xv = (((turn (vod μ (vbk μ xb)) xlow) + 1) - (xends % 2)) from (by first | rfl | exact iu_s _ _ _), show vvh (tVh (tVl (tVw (tTh μ (ltR 1 1)) xv (vbk μ xb)) xv (((turn (vod μ (vbk μ xb)) xlow) + 1) - (xends % 2))) xv (((turn (vod μ (vbk μ xb)) xhigh) - 1) + (xends / 2))) xv = (((turn (vod μ (vbk μ xb)) xhigh) - 1) + (xends / 2)) from (by first | rfl | exact iu_s _ _ _)]; done) | (rw [show vvw (tVh (tVl (tVw (tTh μ (ltR 1 1)) xv (vbk μ xb)) xv (((turn (vod μ (vbk μ xb)) xlow) + 1) - (xends % 2))) xv (((turn (vod μ (vbk μ xb)) xhigh) - 1) + (xends / 2))) xv = (vbk μ xb) from (by first | rfl | exact iu_s _ _ _), show vvl (tVh (tVl (tVw (tTh μ (ltR 1 1)) xv (vbk μ xb)) xv (((turn (vod μ (vbk μ xb)) xlow) + 1) - (xends % 2))) xv (((turn (vod μ (vbk μ xb)) xhigh) - 1) + (xends / 2))) xv = (((turn (vod μ (vbk μ xb)) xlow) + 1) - (xends % 2)) from (by first | rfl | exact iu_s _ _ _), show vvh (tVh (tVl (tVw (tTh μ (ltR 1 1)) xv (vbk μ xb)) xv (((turn (vod μ (vbk μ xb)) xlow) + 1) - (xends % 2))) xv (((turn (vod μ (vbk μ xb)) xhigh) - 1) + (xends / 2))) xv = (((turn (vod μ (vbk μ xb)) xhigh) - 1) + (xends / 2)) from (by first | rfl | exact iu_s _ _ _)]; rfl))
                        subst e_r222
                        exact q_retMi C0 hret rfl hlk dX6_openView_174 hP hD hS (⟨(by 
    have eL : moLo (vod μ (vbk μ xb)) xkind xlow xends = (((turn (vod μ (vbk μ xb)) xlow) + 1) - (xends % 2)) := by (unfold moLo; first | (rw [if_pos (by omega)]; done) | (rw [if_neg (by omega)]; done))
    have eH : moHi (vod μ (vbk μ xb)) xkind xhigh xends = (((turn (vod μ (vbk μ xb)) xhigh) - 1) + (xends / 2)) := by (unfold moHi; first | (rw [if_pos (by omega)]; done) | (rw [if_neg (by omega)]; done))
    unfold jR_openView; rw [if_pos (by omega), if_neg (by omega), eL, eH]), O, G, MP_eq hC (by 
    have eL : moLo (vod μ (vbk μ xb)) xkind xlow xends = (((turn (vod μ (vbk μ xb)) xlow) + 1) - (xends % 2)) := by (unfold moLo; first | (rw [if_pos (by omega)]; done) | (rw [if_neg (by omega)]; done))
    have eH : moHi (vod μ (vbk μ xb)) xkind xhigh xends = (((turn (vod μ (vbk μ xb)) xhigh) - 1) + (xends / 2)) := by (unfold moHi; first | (rw [if_pos (by omega)]; done) | (rw [if_neg (by omega)]; done))
    have lt_ := ltR_d 1 1; 
    unfold jS_openView; rw [if_pos (by omega), if_pos (by omega), if_neg (by omega), eL, eH, show ltR 1 1 = 0 by omega]), rfl, Ext0 hO⟩)
                      · refine q_bipush hx hb dX6_openView_149 (by decide) ?_
                        refine lv_goto (tgt := 168) hx hb dX6_openView_151 (by decide) ?_
                        refine q_iast C0 hP hD hS hC.2.2.2.2.2.1.1 hC.2.2.2.2.2.1.2 (i := xv) (v := 99) (by omega) (by decide) dX6_openView_168 (fun H locs hP hD hS => ?_)
                        obtain ⟨F223, eF223⟩ : ∃ z, z = va_up F217 (uat G) (arrI (y 0) 2 (iu (vvh μ) xv 99)) := ⟨_, rfl⟩
                        have hP : va_P D vwCl (va_pl L F223) H := by rw [eF223]; exact hP
                        have hD : va_D (AL L sz) (va_pl L F223) := by rw [eF223]; exact hD
                        have hO : OE O F F223 := by rw [eF223]; exact hO.tr (OE1 (MP_O hC).2.2.2.2.2.1)
                        have hC : MP y L F223 O G (tVh (tVl (tVw (tTh μ (ltR 1 1)) xv (vbk μ xb)) xv (((turn (vod μ (vbk μ xb)) xlow) + 1) - (xends % 2))) xv 99) := by rw [eF223]; exact MP_vh hC (va_up_self _ _ _) (fun q hq => va_up_ne _ _ hq)
                        refine lv_aload_n hx hb dX6_openView_169 rfl (lv_at hl 1 rfl) ?_
                        refine lv_iload_n hx hb dX6_openView_170 rfl (lv_at hl 2 rfl) ?_
                        refine q_vS C0 lX6_171 (c_X6_seen l D y L F223 O G (tVh (tVl (tVw (tTh μ (ltR 1 1)) xv (vbk μ xb)) xv (((turn (vod μ (vbk μ xb)) xlow) + 1) - (xends % 2))) xv 99) xv hC (by omega) (by rw [show vvw (tVh (tVl (tVw (tTh μ (ltR 1 1)) xv (vbk μ xb)) xv (((turn (vod μ (vbk μ xb)) xlow) + 1) - (xends % 2))) xv 99) xv = (vbk μ xb) from (by first | rfl | exact iu_s _ _ _)]; exact (hW.1 xb)) (by rw [show vvl (tVh (tVl (tVw (tTh μ (ltR 1 1)) xv (vbk μ xb)) xv (((turn (vod μ (vbk μ xb)) xlow) + 1) - (xends % 2))) xv 99) xv = (((turn (vod μ (vbk μ xb)) xlow) + 1) - (xends % 2)) from (by first | rfl | exact iu_s _ _ _)]; omega) (by rw [show vvh (tVh (tVl (tVw (tTh μ (ltR 1 1)) xv (vbk μ xb)) xv (((turn (vod μ (vbk μ xb)) xlow) + 1) - (xends % 2))) xv 99) xv = 99 from (by first | rfl | exact iu_s _ _ _)]; omega)) ⟨rfl, rfl⟩ rfl hP hC.1.1 hC.1.2 rfl rfl rfl hl rfl (Nat.le_of_ble_eq_true rfl) dX6_openView_171 ⟨Nat.zero_le _, Nat.zero_le _⟩ (fun r224 e_r224 => ?_)
                        replace e_r224 : r224 = cntP (vst μ (vbk μ xb)) (((turn (vod μ (vbk μ xb)) xlow) + 1) - (xends % 2)) 99 := e_r224.trans (by first | rfl | (rw [show vvw (tVh (tVl (tVw (tTh μ (ltR 1 1)) xv (vbk μ xb)) xv (((turn (vod μ (vbk μ xb)) xlow) + 1) - (xends % 2))) xv 99) xv = (vbk μ xb) from (by first | rfl | exact iu_s _ _ _), show vvl (tVh (tVl (tVw (tTh μ (ltR 1 1)) xv (vbk μ xb)) xv (((turn (vod μ (vbk μ xb)) xlow) + 1) - (xends % 2))) xv 99) xv = (((turn (vod μ (vbk μ xb)) xlow) + 1) - (xends % 2)) from (by first | rfl | exact iu_s _ _ _), show vvh (tVh (tVl (tVw (tTh μ (ltR 1 1)) xv (vbk μ xb)) xv (((turn (vod μ (vbk μ xb)) xlow) + 1) - (xends % 2))) xv 99) xv = 99 from (by first | rfl | exact iu_s _ _ _)]; done) | (rw [show vvw (tVh (tVl (tVw (tTh μ (ltR 1 1)) xv (vbk μ xb)) xv (((turn (vod μ (vbk μ xb)) xlow) + 1) - (xends % 2))) xv 99) xv = (vbk μ xb) from (by first | rfl | exact iu_s _ _ _), show vvl (tVh (tVl (tVw (tTh μ (ltR 1 1)) xv (vbk μ xb)) xv (((turn (vod μ (vbk μ xb)) xlow) + 1) - (xends % 2))) xv 99) xv = (((turn (vod μ (vbk μ xb)) xlow) + 1) - (xends % 2)) from (by first | rfl | exact iu_s _ _ _), show vvh (tVh (tVl (tVw (tTh μ (ltR 1 1)) xv (vbk μ xb)) xv (((turn (vod μ (vbk μ xb)) xlow) + 1) - (xends % 2))) xv 99) xv = 99 from (by first | rfl | exact iu_s _ _ _)]; rfl))
                        subst e_r224
                        exact q_retMi C0 hret rfl hlk dX6_openView_174 hP hD hS (⟨(by 
    have eL : moLo (vod μ (vbk μ xb)) xkind xlow xends = (((turn (vod μ (vbk μ xb)) xlow) + 1) - (xends % 2)) := by (unfold moLo; first | (rw [if_pos (by omega)]; done) | (rw [if_neg (by omega)]; done))
    have eH : moHi (vod μ (vbk μ xb)) xkind xhigh xends = 99 := by (unfold moHi; first | (rw [if_pos (by omega)]; done) | (rw [if_neg (by omega)]; done))
    unfold jR_openView; rw [if_pos (by omega), if_neg (by omega), eL, eH]), O, G, MP_eq hC (by 
    have eL : moLo (vod μ (vbk μ xb)) xkind xlow xends = (((turn (vod μ (vbk μ xb)) xlow) + 1) - (xends % 2)) := by (unfold moLo; first | (rw [if_pos (by omega)]; done) | (rw [if_neg (by omega)]; done))
    have eH : moHi (vod μ (vbk μ xb)) xkind xhigh xends = 99 := by (unfold moHi; first | (rw [if_pos (by omega)]; done) | (rw [if_neg (by omega)]; done))
    have lt_ := ltR_d 1 1; 
    unfold jS_openView; rw [if_pos (by omega), if_pos (by omega), if_neg (by omega), eL, eH, show ltR 1 1 = 0 by omega]), rfl, Ext0 hO⟩)
                    · refine q_iconst hx hb dX6_openView_120 ?_
                      refine lv_goto (tgt := 138) hx hb dX6_openView_121 (by decide) ?_
                      refine q_iast C0 hP hD hS hC.2.2.2.2.1.1 hC.2.2.2.2.1.2 (i := xv) (v := 0) (by omega) (by decide) dX6_openView_138 (fun H locs hP hD hS => ?_)
                      obtain ⟨F225, eF225⟩ : ∃ z, z = va_up F213 (uaf G) (arrI (y 0) 2 (iu (vvl μ) xv 0)) := ⟨_, rfl⟩
                      have hP : va_P D vwCl (va_pl L F225) H := by rw [eF225]; exact hP
                      have hD : va_D (AL L sz) (va_pl L F225) := by rw [eF225]; exact hD
                      have hO : OE O F F225 := by rw [eF225]; exact hO.tr (OE1 (MP_O hC).2.2.2.2.1)
                      have hC : MP y L F225 O G (tVl (tVw (tTh μ (ltR 1 1)) xv (vbk μ xb)) xv 0) := by rw [eF225]; exact MP_vl hC (va_up_self _ _ _) (fun q hq => va_up_ne _ _ hq)
                      refine lv_aload_n hx hb dX6_openView_139 rfl (lv_at hl 1 rfl) ?_
                      refine q_get C0 iX6 hP hC.1.1 hC.1.2 rfl 4 (by decide) flX6_25 rfl (v := .ref ((uat G))) rfl dX6_openView_140 ?_
                      refine lv_iload_n hx hb dX6_openView_143 rfl (lv_at hl 2 rfl) ?_
                      refine lv_iload_n hx hb dX6_openView_144 rfl (lv_at hl 4 rfl) ?_
                      refine q_iconst hx hb dX6_openView_145 ?_
                      refine q_icmp_ne hx hb dX6_openView_146 (tgt := 154) (by decide) (by omega) (by omega) (fun c226 => ?_) (fun c226 => ?_)
                      · refine lv_aload hx hb dX6_openView_154 (lv_at hl 0 rfl) ?_
                        refine lv_iload hx hb dX6_openView_156 (lv_at hl 6 rfl) ?_
                        refine q_vS C0 lX6_93 (c_X5_rank l D y L F225 (urh G (vbk μ xb)) (urw G (vbk μ xb)) (vod μ (vbk μ xb)) (vst μ (vbk μ xb)) xhigh (MP_r hC (hW.1 xb)) (by omega)) ⟨rfl, rfl⟩ rfl hP (MP_r hC (hW.1 xb)).1 (MP_r hC (hW.1 xb)).2.1 rfl rfl rfl hl rfl (Nat.le_of_ble_eq_true rfl) dX6_openView_158 ⟨Nat.zero_le _, Nat.zero_le _⟩ (fun r227 e_r227 => ?_)
                        subst e_r227
                        have b_228 := @turn_b (vod μ (vbk μ xb)) xhigh (by omega)
                        refine q_iconst hx hb dX6_openView_161 ?_
                        refine q_isub hx hb dX6_openView_162 ?_
                        refine lv_iload hx hb dX6_openView_163 (lv_at hl 7 rfl) ?_
                        refine q_iconst hx hb dX6_openView_165 ?_
                        refine q_idiv hx hb dX6_openView_166 (by omega) (by omega) ?_
                        refine q_iadd hx hb dX6_openView_167 ?_
                        refine q_iast C0 hP hD hS hC.2.2.2.2.2.1.1 hC.2.2.2.2.2.1.2 (i := xv) (v := (((turn (vod μ (vbk μ xb)) xhigh) - 1) + (xends / 2))) (by omega) (by decide) dX6_openView_168 (fun H locs hP hD hS => ?_)
                        obtain ⟨F229, eF229⟩ : ∃ z, z = va_up F225 (uat G) (arrI (y 0) 2 (iu (vvh μ) xv (((turn (vod μ (vbk μ xb)) xhigh) - 1) + (xends / 2)))) := ⟨_, rfl⟩
                        have hP : va_P D vwCl (va_pl L F229) H := by rw [eF229]; exact hP
                        have hD : va_D (AL L sz) (va_pl L F229) := by rw [eF229]; exact hD
                        have hO : OE O F F229 := by rw [eF229]; exact hO.tr (OE1 (MP_O hC).2.2.2.2.2.1)
                        have hC : MP y L F229 O G (tVh (tVl (tVw (tTh μ (ltR 1 1)) xv (vbk μ xb)) xv 0) xv (((turn (vod μ (vbk μ xb)) xhigh) - 1) + (xends / 2))) := by rw [eF229]; exact MP_vh hC (va_up_self _ _ _) (fun q hq => va_up_ne _ _ hq)
                        refine lv_aload_n hx hb dX6_openView_169 rfl (lv_at hl 1 rfl) ?_
                        refine lv_iload_n hx hb dX6_openView_170 rfl (lv_at hl 2 rfl) ?_
                        refine q_vS C0 lX6_171 (c_X6_seen l D y L F229 O G (tVh (tVl (tVw (tTh μ (ltR 1 1)) xv (vbk μ xb)) xv 0) xv (((turn (vod μ (vbk μ xb)) xhigh) - 1) + (xends / 2))) xv hC (by omega) (by rw [show vvw (tVh (tVl (tVw (tTh μ (ltR 1 1)) xv (vbk μ xb)) xv 0) xv (((turn (vod μ (vbk μ xb)) xhigh) - 1) + (xends / 2))) xv = (vbk μ xb) from (by first | rfl | exact iu_s _ _ _)]; exact (hW.1 xb)) (by rw [show vvl (tVh (tVl (tVw (tTh μ (ltR 1 1)) xv (vbk μ xb)) xv 0) xv (((turn (vod μ (vbk μ xb)) xhigh) - 1) + (xends / 2))) xv = 0 from (by first | rfl | exact iu_s _ _ _)]; omega) (by rw [show vvh (tVh (tVl (tVw (tTh μ (ltR 1 1)) xv (vbk μ xb)) xv 0) xv (((turn (vod μ (vbk μ xb)) xhigh) - 1) + (xends / 2))) xv = (((turn (vod μ (vbk μ xb)) xhigh) - 1) + (xends / 2)) from (by first | rfl | exact iu_s _ _ _)]; omega)) ⟨rfl, rfl⟩ rfl hP hC.1.1 hC.1.2 rfl rfl rfl hl rfl (Nat.le_of_ble_eq_true rfl) dX6_openView_171 ⟨Nat.zero_le _, Nat.zero_le _⟩ (fun r230 e_r230 => ?_)
                        replace e_r230 : r230 = cntP (vst μ (vbk μ xb)) 0 (((turn (vod μ (vbk μ xb)) xhigh) - 1) + (xends / 2)) := e_r230.trans (by first | rfl | (rw [show vvw (tVh (tVl (tVw (tTh μ (ltR 1 1)) xv (vbk μ xb)) xv 0) xv (((turn (vod μ (vbk μ xb)) xhigh) - 1) + (xends / 2))) xv = (vbk μ xb) from (by first | rfl | exact iu_s _ _ _), show vvl (tVh (tVl (tVw (tTh μ (ltR 1 1)) xv (vbk μ xb)) xv 0) xv (((turn (vod μ (vbk μ xb)) xhigh) - 1) + (xends / 2))) xv = 0 from (by first | rfl | exact iu_s _ _ _), show vvh (tVh (tVl (tVw (tTh μ (ltR 1 1)) xv (vbk μ xb)) xv 0) xv (((turn (vod μ (vbk μ xb)) xhigh) - 1) + (xends / 2))) xv = (((turn (vod μ (vbk μ xb)) xhigh) - 1) + (xends / 2)) from (by first | rfl | exact iu_s _ _ _)]; done) | (rw [show vvw (tVh (tVl (tVw (tTh μ (ltR 1 1)) xv (vbk μ xb)) xv 0) xv (((turn (vod μ (vbk μ xb)) xhigh) - 1) + (xends / 2))) xv = (vbk μ xb) from (by first | rfl | exact iu_s _ _ _), show vvl (tVh (tVl (tVw (tTh μ (ltR 1 1)) xv (vbk μ xb)) xv 0) xv (((turn (vod μ (vbk μ xb)) xhigh) - 1) + (xends / 2))) xv = 0 from (by first | rfl | exact iu_s _ _ _), show vvh (tVh (tVl (tVw (tTh μ (ltR 1 1)) xv (vbk μ xb)) xv 0) xv (((turn (vod μ (vbk μ xb)) xhigh) - 1) + (xends / 2))) xv = (((turn (vod μ (vbk μ xb)) xhigh) - 1) + (xends / 2)) from (by first | rfl | exact iu_s _ _ _)]; rfl))
                        subst e_r230
                        exact q_retMi C0 hret rfl hlk dX6_openView_174 hP hD hS (⟨(by 
    have eL : moLo (vod μ (vbk μ xb)) xkind xlow xends = 0 := by (unfold moLo; first | (rw [if_pos (by omega)]; done) | (rw [if_neg (by omega)]; done))
    have eH : moHi (vod μ (vbk μ xb)) xkind xhigh xends = (((turn (vod μ (vbk μ xb)) xhigh) - 1) + (xends / 2)) := by (unfold moHi; first | (rw [if_pos (by omega)]; done) | (rw [if_neg (by omega)]; done))
    unfold jR_openView; rw [if_pos (by omega), if_neg (by omega), eL, eH]), O, G, MP_eq hC (by 
    have eL : moLo (vod μ (vbk μ xb)) xkind xlow xends = 0 := by (unfold moLo; first | (rw [if_pos (by omega)]; done) | (rw [if_neg (by omega)]; done))
    have eH : moHi (vod μ (vbk μ xb)) xkind xhigh xends = (((turn (vod μ (vbk μ xb)) xhigh) - 1) + (xends / 2)) := by (unfold moHi; first | (rw [if_pos (by omega)]; done) | (rw [if_neg (by omega)]; done))
    have lt_ := ltR_d 1 1; 
    unfold jS_openView; rw [if_pos (by omega), if_pos (by omega), if_neg (by omega), eL, eH, show ltR 1 1 = 0 by omega]), rfl, Ext0 hO⟩)
                      · refine q_bipush hx hb dX6_openView_149 (by decide) ?_
                        refine lv_goto (tgt := 168) hx hb dX6_openView_151 (by decide) ?_
                        refine q_iast C0 hP hD hS hC.2.2.2.2.2.1.1 hC.2.2.2.2.2.1.2 (i := xv) (v := 99) (by omega) (by decide) dX6_openView_168 (fun H locs hP hD hS => ?_)
                        obtain ⟨F231, eF231⟩ : ∃ z, z = va_up F225 (uat G) (arrI (y 0) 2 (iu (vvh μ) xv 99)) := ⟨_, rfl⟩
                        have hP : va_P D vwCl (va_pl L F231) H := by rw [eF231]; exact hP
                        have hD : va_D (AL L sz) (va_pl L F231) := by rw [eF231]; exact hD
                        have hO : OE O F F231 := by rw [eF231]; exact hO.tr (OE1 (MP_O hC).2.2.2.2.2.1)
                        have hC : MP y L F231 O G (tVh (tVl (tVw (tTh μ (ltR 1 1)) xv (vbk μ xb)) xv 0) xv 99) := by rw [eF231]; exact MP_vh hC (va_up_self _ _ _) (fun q hq => va_up_ne _ _ hq)
                        refine lv_aload_n hx hb dX6_openView_169 rfl (lv_at hl 1 rfl) ?_
                        refine lv_iload_n hx hb dX6_openView_170 rfl (lv_at hl 2 rfl) ?_
                        refine q_vS C0 lX6_171 (c_X6_seen l D y L F231 O G (tVh (tVl (tVw (tTh μ (ltR 1 1)) xv (vbk μ xb)) xv 0) xv 99) xv hC (by omega) (by rw [show vvw (tVh (tVl (tVw (tTh μ (ltR 1 1)) xv (vbk μ xb)) xv 0) xv 99) xv = (vbk μ xb) from (by first | rfl | exact iu_s _ _ _)]; exact (hW.1 xb)) (by rw [show vvl (tVh (tVl (tVw (tTh μ (ltR 1 1)) xv (vbk μ xb)) xv 0) xv 99) xv = 0 from (by first | rfl | exact iu_s _ _ _)]; omega) (by rw [show vvh (tVh (tVl (tVw (tTh μ (ltR 1 1)) xv (vbk μ xb)) xv 0) xv 99) xv = 99 from (by first | rfl | exact iu_s _ _ _)]; omega)) ⟨rfl, rfl⟩ rfl hP hC.1.1 hC.1.2 rfl rfl rfl hl rfl (Nat.le_of_ble_eq_true rfl) dX6_openView_171 ⟨Nat.zero_le _, Nat.zero_le _⟩ (fun r232 e_r232 => ?_)
                        replace e_r232 : r232 = cntP (vst μ (vbk μ xb)) 0 99 := e_r232.trans (by first | rfl | (rw [show vvw (tVh (tVl (tVw (tTh μ (ltR 1 1)) xv (vbk μ xb)) xv 0) xv 99) xv = (vbk μ xb) from (by first | rfl | exact iu_s _ _ _), show vvl (tVh (tVl (tVw (tTh μ (ltR 1 1)) xv (vbk μ xb)) xv 0) xv 99) xv = 0 from (by first | rfl | exact iu_s _ _ _), show vvh (tVh (tVl (tVw (tTh μ (ltR 1 1)) xv (vbk μ xb)) xv 0) xv 99) xv = 99 from (by first | rfl | exact iu_s _ _ _)]; done) | (rw [show vvw (tVh (tVl (tVw (tTh μ (ltR 1 1)) xv (vbk μ xb)) xv 0) xv 99) xv = (vbk μ xb) from (by first | rfl | exact iu_s _ _ _), show vvl (tVh (tVl (tVw (tTh μ (ltR 1 1)) xv (vbk μ xb)) xv 0) xv 99) xv = 0 from (by first | rfl | exact iu_s _ _ _), show vvh (tVh (tVl (tVw (tTh μ (ltR 1 1)) xv (vbk μ xb)) xv 0) xv 99) xv = 99 from (by first | rfl | exact iu_s _ _ _)]; rfl))
                        subst e_r232
                        exact q_retMi C0 hret rfl hlk dX6_openView_174 hP hD hS (⟨(by 
    have eL : moLo (vod μ (vbk μ xb)) xkind xlow xends = 0 := by (unfold moLo; first | (rw [if_pos (by omega)]; done) | (rw [if_neg (by omega)]; done))
    have eH : moHi (vod μ (vbk μ xb)) xkind xhigh xends = 99 := by (unfold moHi; first | (rw [if_pos (by omega)]; done) | (rw [if_neg (by omega)]; done))
    unfold jR_openView; rw [if_pos (by omega), if_neg (by omega), eL, eH]), O, G, MP_eq hC (by 
    have eL : moLo (vod μ (vbk μ xb)) xkind xlow xends = 0 := by (unfold moLo; first | (rw [if_pos (by omega)]; done) | (rw [if_neg (by omega)]; done))
    have eH : moHi (vod μ (vbk μ xb)) xkind xhigh xends = 99 := by (unfold moHi; first | (rw [if_pos (by omega)]; done) | (rw [if_neg (by omega)]; done))
    have lt_ := ltR_d 1 1; 
    unfold jS_openView; rw [if_pos (by omega), if_pos (by omega), if_neg (by omega), eL, eH, show ltR 1 1 = 0 by omega]), rfl, Ext0 hO⟩)
                  · refine lv_aload_n hx hb dX6_openView_98 rfl (lv_at hl 1 rfl) ?_
                    refine q_vMi C0 lX6_89 (c_X6_refuse l D y L F184 _ O G (tTh μ (ltR 1 1)) hC) ⟨rfl, rfl⟩ rfl hP hD hS hA hC.1.1 hC.1.2 rfl rfl rfl hl rfl (Nat.le_of_ble_eq_true rfl) dX6_openView_99 ⟨Nat.le_of_ble_eq_true rfl, Nat.le_of_ble_eq_true rfl⟩ (fun r233 H locs L234 F234 hP hD hS hz234 hp234 => ?_)
                    obtain ⟨eL, hC, er, hO1⟩ := hp234
                    subst eL
                    replace er : (-9) = r233 := er.symm
                    subst er
                    have hO := hO.tr hO1
                    exact q_retMi C0 hret rfl hlk dX6_openView_102 hP hD hS (⟨(by unfold jR_openView; rw [if_pos (by omega), if_pos (by omega)]), O, G, MP_eq hC (by have lt_ := ltR_d 1 1; unfold jS_openView; rw [if_pos (by omega), if_pos (by omega), if_pos (by omega), show ltR 1 1 = 0 by omega]), rfl, Ext0 hO⟩)
              · replace k_185 := k_185.resolve_left (fun h => absurd (h.1.symm.trans c186) (by decide))
                refine q_iconst hx hb dX6_openView_66 ?_
                exact q_retMi C0 hret rfl hlk dX6_openView_67 hP hD hS (⟨(by unfold jR_openView; rw [if_neg (by omega)]), O, G, MP_eq hC (by have lt_ := ltR_d 1 1; unfold jS_openView; rcases lt_ with lt_ | lt_ | lt_ <;> first | (rw [if_neg (by omega), lt_.1]; done) | (rw [if_pos (by omega), if_neg (by omega), lt_.1]; done) | (exfalso; omega)), rfl, Ext0 hO⟩)
