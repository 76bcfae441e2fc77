set_option maxHeartbeats 3000000 in
set_option maxRecDepth 100000 in
theorem c_X6_fill (l : Launch) (D : va_G) (y : Nat → ClassId) (L : List Nat) (F : Nat → va_E) (sz : Nat) (O : Nat → Prop) (G : MG) (μ : MS) (xb : Int) (xf : Int) (xs : Int) (xn : Int) (xw : Int) (hC : MP y L F O G μ) (hW : MW μ) (h_xb : -2147483648 ≤ xb ∧ xb ≤ 2147483647) (h_xf : -2147483648 ≤ xf ∧ xf ≤ 2147483647) (h_xs : -2147483648 ≤ xs ∧ xs ≤ 2147483647) (h_xn : -2147483648 ≤ xn ∧ xn ≤ 2147483647) (h_xw : -2147483648 ≤ xw ∧ xw ≤ 2147483647) : Met l yX6_fill (.code yX6_fill cX6_fill 8 (some .int) :: Tt) ({ frames := 2, cells := 0, slots := 0, locals := 45 }) (PcM D y L F sz [.ref ((ubg G)), .int (iI xb), .int (iI xf), .int (iI xs), .int (iI xn), .int (iI xw)]) (cMi D (AL L sz) (fun r L1 F1 => r = jR_fill μ xb xf xs xn xw ∧ ∃ (O1 : Nat → Prop) (G1 : MG), MP y L1 F1 O1 G1 (jS_fill μ xb xf xs xn xw) ∧ ubg G1 = ubg G ∧ Ext O O1 L L1 F F1)) 0 0 (AL L sz) := by
  have hO : OE O F F := fun _ _ => rfl
  have hw5 := hW.2.2.2.2.2.1
  have hw6 := hW.2.2.2.2.2.2.1
  have hw7 := hW.2.2.2.2.2.2.2.1
  refine q_ofM (lv := [(0, .ref ((ubg G))), (1, .int (iI xb)), (2, .int (iI xf)), (3, .int (iI xs)), (4, .int (iI xn)), (5, .int (iI xw))]) (by decide) (Nat.le_of_ble_eq_true rfl) rfl (fun p e s m below meth c C0 hret hlk hnm hA hP hD hS ls hl => ?_)
  have hx := C0.1.1
  have hb := C0.1.2.1
  have hts := C0.1.2.2.2.2
  refine lv_aload_n hx hb dX6_fill_0 rfl (lv_at hl 0 rfl) ?_
  refine lv_iload_n hx hb dX6_fill_1 rfl (lv_at hl 1 rfl) ?_
  refine q_sS C0 lX6_60 (c_X6_isBook l D y L F xb (by omega)) ⟨rfl, rfl⟩ rfl hP rfl hl rfl (Nat.le_of_ble_eq_true rfl) dX6_fill_2 ⟨Nat.zero_le _, Nat.zero_le _⟩ (fun r1 e_r1 => ?_)
  subst e_r1
  have b_2 := inR_d xb 0 3
  refine lv_iload_n hx hb dX6_fill_5 rfl (lv_at hl 2 rfl) ?_
  refine q_sS C0 lX6_86 (c_X6_isKey l D y L F xf (by omega)) ⟨rfl, rfl⟩ rfl hP rfl hl rfl (Nat.le_of_ble_eq_true rfl) dX6_fill_6 ⟨Nat.zero_le _, Nat.zero_le _⟩ (fun r3 e_r3 => ?_)
  subst e_r3
  have b_4 := inR_d xf 0 99
  refine q_if_eq hx hb dX6_fill_9 (tgt := 45) (by decide) (by omega) (fun c5 => ?_) (fun c5 => ?_)
  · replace b_4 := b_4.resolve_left (fun h => absurd (h.1.symm.trans c5) (by decide))
    refine q_iconst hx hb dX6_fill_45 ?_
    refine q_vMi C0 lX6_63 (c_X6_isLet l D y L F _ O G μ (inR xb 0 3) 0 hC (by omega) (by omega)) ⟨rfl, rfl⟩ rfl hP hD hS hA hC.1.1 hC.1.2 rfl rfl rfl hl rfl (Nat.le_of_ble_eq_true rfl) dX6_fill_46 ⟨Nat.le_of_ble_eq_true rfl, Nat.le_of_ble_eq_true rfl⟩ (fun r6 H locs L7 F7 hP hD hS hz7 hp7 => ?_)
    obtain ⟨eL, hC, er, hO1⟩ := hp7
    subst eL
    replace er := (er.trans (okR_z _)).symm
    subst er
    have hO := hO.tr hO1
    refine q_if_ne hx hb dX6_fill_49 (tgt := 54) (by decide) (by omega) (fun c8 => absurd c8 (by omega)) (fun c8 => ?_)
    refine q_iconst hx hb dX6_fill_52 ?_
    exact q_retMi C0 hret rfl hlk dX6_fill_53 hP hD hS (⟨(by unfold jR_fill; rw [if_neg (by omega)]), O, G, MP_eq hC (by have lt_ := ltR_d (inR xb 0 3) 0; unfold jS_fill; rcases lt_ with lt_ | lt_ | lt_ <;> first | (rw [if_neg (by omega), lt_.1]; done) | (rw [if_pos (by omega), if_neg (by omega), lt_.1]; done) | (exfalso; omega)), rfl, Ext0 hO⟩)
  · replace b_4 := b_4.resolve_right (fun h => c5 h.1)
    refine lv_iload_n hx hb dX6_fill_12 rfl (lv_at hl 3 rfl) ?_
    refine q_sS C0 lX6_86 (c_X6_isKey l D y L F xs (by omega)) ⟨rfl, rfl⟩ rfl hP rfl hl rfl (Nat.le_of_ble_eq_true rfl) dX6_fill_13 ⟨Nat.zero_le _, Nat.zero_le _⟩ (fun r9 e_r9 => ?_)
    subst e_r9
    have b_10 := inR_d xs 0 99
    refine q_if_eq hx hb dX6_fill_16 (tgt := 45) (by decide) (by omega) (fun c11 => ?_) (fun c11 => ?_)
    · replace b_10 := b_10.resolve_left (fun h => absurd (h.1.symm.trans c11) (by decide))
      refine q_iconst hx hb dX6_fill_45 ?_
      refine q_vMi C0 lX6_63 (c_X6_isLet l D y L F _ O G μ (inR xb 0 3) 0 hC (by omega) (by omega)) ⟨rfl, rfl⟩ rfl hP hD hS hA hC.1.1 hC.1.2 rfl rfl rfl hl rfl (Nat.le_of_ble_eq_true rfl) dX6_fill_46 ⟨Nat.le_of_ble_eq_true rfl, Nat.le_of_ble_eq_true rfl⟩ (fun r12 H locs L13 F13 hP hD hS hz13 hp13 => ?_)
      obtain ⟨eL, hC, er, hO1⟩ := hp13
      subst eL
      replace er := (er.trans (okR_z _)).symm
      subst er
      have hO := hO.tr hO1
      refine q_if_ne hx hb dX6_fill_49 (tgt := 54) (by decide) (by omega) (fun c14 => absurd c14 (by omega)) (fun c14 => ?_)
      refine q_iconst hx hb dX6_fill_52 ?_
      exact q_retMi C0 hret rfl hlk dX6_fill_53 hP hD hS (⟨(by unfold jR_fill; rw [if_neg (by omega)]), O, G, MP_eq hC (by have lt_ := ltR_d (inR xb 0 3) 0; unfold jS_fill; rcases lt_ with lt_ | lt_ | lt_ <;> first | (rw [if_neg (by omega), lt_.1]; done) | (rw [if_pos (by omega), if_neg (by omega), lt_.1]; done) | (exfalso; omega)), rfl, Ext0 hO⟩)
    · replace b_10 := b_10.resolve_right (fun h => c11 h.1)
      refine lv_iload hx hb dX6_fill_19 (lv_at hl 4 rfl) ?_
      refine q_iconst hx hb dX6_fill_21 ?_
      refine q_bipush hx hb dX6_fill_22 (by decide) ?_
      refine q_sS C0 lX6_41 (c_X6_isIn l D y L F xn 0 100 (by omega) (by omega) (by omega)) ⟨rfl, rfl⟩ rfl hP rfl hl rfl (Nat.le_of_ble_eq_true rfl) dX6_fill_24 ⟨Nat.zero_le _, Nat.zero_le _⟩ (fun r15 e_r15 => ?_)
      subst e_r15
      have b_16 := inR_d xn 0 100
      refine q_if_eq hx hb dX6_fill_27 (tgt := 45) (by decide) (by omega) (fun c17 => ?_) (fun c17 => ?_)
      · replace b_16 := b_16.resolve_left (fun h => absurd (h.1.symm.trans c17) (by decide))
        refine q_iconst hx hb dX6_fill_45 ?_
        refine q_vMi C0 lX6_63 (c_X6_isLet l D y L F _ O G μ (inR xb 0 3) 0 hC (by omega) (by omega)) ⟨rfl, rfl⟩ rfl hP hD hS hA hC.1.1 hC.1.2 rfl rfl rfl hl rfl (Nat.le_of_ble_eq_true rfl) dX6_fill_46 ⟨Nat.le_of_ble_eq_true rfl, Nat.le_of_ble_eq_true rfl⟩ (fun r18 H locs L19 F19 hP hD hS hz19 hp19 => ?_)
        obtain ⟨eL, hC, er, hO1⟩ := hp19
        subst eL
        replace er := (er.trans (okR_z _)).symm
        subst er
        have hO := hO.tr hO1
        refine q_if_ne hx hb dX6_fill_49 (tgt := 54) (by decide) (by omega) (fun c20 => absurd c20 (by omega)) (fun c20 => ?_)
        refine q_iconst hx hb dX6_fill_52 ?_
        exact q_retMi C0 hret rfl hlk dX6_fill_53 hP hD hS (⟨(by unfold jR_fill; rw [if_neg (by omega)]), O, G, MP_eq hC (by have lt_ := ltR_d (inR xb 0 3) 0; unfold jS_fill; rcases lt_ with lt_ | lt_ | lt_ <;> first | (rw [if_neg (by omega), lt_.1]; done) | (rw [if_pos (by omega), if_neg (by omega), lt_.1]; done) | (exfalso; omega)), rfl, Ext0 hO⟩)
      · replace b_16 := b_16.resolve_right (fun h => c17 h.1)
        refine lv_iload hx hb dX6_fill_30 (lv_at hl 5 rfl) ?_
        refine q_iconst hx hb dX6_fill_32 ?_
        refine q_bipush hx hb dX6_fill_33 (by decide) ?_
        refine q_sS C0 lX6_41 (c_X6_isIn l D y L F xw (-1) 99 (by omega) (by omega) (by omega)) ⟨rfl, rfl⟩ rfl hP rfl hl rfl (Nat.le_of_ble_eq_true rfl) dX6_fill_35 ⟨Nat.zero_le _, Nat.zero_le _⟩ (fun r21 e_r21 => ?_)
        subst e_r21
        have b_22 := inR_d xw (-1) 99
        refine q_if_eq hx hb dX6_fill_38 (tgt := 45) (by decide) (by omega) (fun c23 => ?_) (fun c23 => ?_)
        · replace b_22 := b_22.resolve_left (fun h => absurd (h.1.symm.trans c23) (by decide))
          refine q_iconst hx hb dX6_fill_45 ?_
          refine q_vMi C0 lX6_63 (c_X6_isLet l D y L F _ O G μ (inR xb 0 3) 0 hC (by omega) (by omega)) ⟨rfl, rfl⟩ rfl hP hD hS hA hC.1.1 hC.1.2 rfl rfl rfl hl rfl (Nat.le_of_ble_eq_true rfl) dX6_fill_46 ⟨Nat.le_of_ble_eq_true rfl, Nat.le_of_ble_eq_true rfl⟩ (fun r24 H locs L25 F25 hP hD hS hz25 hp25 => ?_)
          obtain ⟨eL, hC, er, hO1⟩ := hp25
          subst eL
          replace er := (er.trans (okR_z _)).symm
          subst er
          have hO := hO.tr hO1
          refine q_if_ne hx hb dX6_fill_49 (tgt := 54) (by decide) (by omega) (fun c26 => absurd c26 (by omega)) (fun c26 => ?_)
          refine q_iconst hx hb dX6_fill_52 ?_
          exact q_retMi C0 hret rfl hlk dX6_fill_53 hP hD hS (⟨(by unfold jR_fill; rw [if_neg (by omega)]), O, G, MP_eq hC (by have lt_ := ltR_d (inR xb 0 3) 0; unfold jS_fill; rcases lt_ with lt_ | lt_ | lt_ <;> first | (rw [if_neg (by omega), lt_.1]; done) | (rw [if_pos (by omega), if_neg (by omega), lt_.1]; done) | (exfalso; omega)), rfl, Ext0 hO⟩)
        · replace b_22 := b_22.resolve_right (fun h => c23 h.1)
          refine q_iconst hx hb dX6_fill_41 ?_
          refine lv_goto (tgt := 46) hx hb dX6_fill_42 (by decide) ?_
          refine q_vMi C0 lX6_63 (c_X6_isLet l D y L F _ O G μ (inR xb 0 3) 1 hC (by omega) (by omega)) ⟨rfl, rfl⟩ rfl hP hD hS hA hC.1.1 hC.1.2 rfl rfl rfl hl rfl (Nat.le_of_ble_eq_true rfl) dX6_fill_46 ⟨Nat.le_of_ble_eq_true rfl, Nat.le_of_ble_eq_true rfl⟩ (fun r27 H locs L28 F28 hP hD hS hz28 hp28 => ?_)
          obtain ⟨eL, hC, er, hO1⟩ := hp28
          subst eL
          replace er := er.symm
          subst er
          have hO := hO.tr hO1
          have k_29 := okR_d (inR xb 0 3) 1
          refine q_if_ne hx hb dX6_fill_49 (tgt := 54) (by decide) (by omega) (fun c30 => ?_) (fun c30 => ?_)
          · replace k_29 := k_29.resolve_right (fun h => c30 h.1)
            refine lv_aload_n hx hb dX6_fill_54 rfl (lv_at hl 0 rfl) ?_
            refine lv_aload_n hx hb dX6_fill_55 rfl (lv_at hl 0 rfl) ?_
            refine q_get C0 iX6 hP hC.1.1 hC.1.2 rfl 0 (by decide) flX6_11 rfl (v := .ref ((uab G))) rfl dX6_fill_56 ?_
            refine lv_iload_n hx hb dX6_fill_59 rfl (lv_at hl 1 rfl) ?_
            refine q_aald C0 hP hC.2.1.1 hC.2.1.2 (t := 3) rfl (by omega) (by decide) (v := .ref ((urh G (vbk μ xb)))) rfl dX6_fill_60 ?_
            refine q_vMv C0 lX6_96 (c_X6_write l D y L F28 _ O G (tTh μ (ltR (inR xb 0 3) 1)) (vbk μ xb) hC (hW.1 xb) hW.2.2.2.1) ⟨rfl, rfl⟩ rfl hP hD hS hA hC.1.1 hC.1.2 rfl rfl rfl hl rfl (Nat.le_of_ble_eq_true rfl) dX6_fill_61 ⟨Nat.le_of_ble_eq_true rfl, Nat.le_of_ble_eq_true rfl⟩ (fun _ H locs L32 F32 hP hD hS hz32 hp32 => ?_)
            obtain ⟨eL, hC, er, hO1⟩ := hp32
            subst eL
            have hO := hO.tr hO1
            refine q_iconst hx hb dX6_fill_64 ?_
            refine lv_istore (lv' := [(6, .int (iI 0)), (0, .ref ((ubg G))), (1, .int (iI xb)), (2, .int (iI xf)), (3, .int (iI xs)), (4, .int (iI xn)), (5, .int (iI xw))]) hx hb dX6_fill_65 hl (by decide) rfl (fun ls hl => ?_)
            refine q_iconst hx hb dX6_fill_67 ?_
            refine lv_istore (lv' := [(7, .int (iI 0)), (6, .int (iI 0)), (0, .ref ((ubg G))), (1, .int (iI xb)), (2, .int (iI xf)), (3, .int (iI xs)), (4, .int (iI xn)), (5, .int (iI xw))]) hx hb dX6_fill_68 hl (by decide) rfl (fun ls hl => ?_)
            have LP70 : ∀ (n_LP70 : Nat) (r : Int) (gv : Int → Int) (bv : Int) (a : Int) (Fv : Nat → va_E) (H : Heap) (locs : List Loc), (0 ≤ r ∧ r ≤ 100) → (va_P D vwCl (va_pl L Fv) H) → (va_D (AL L sz) (va_pl L Fv)) → (va_S (AL L sz) s.heap H locs) → (MP y L Fv O G (tM (tWr (tTh μ (ltR (inR xb 0 3) 1)) (vbk μ xb)) (vbk μ xb) gv bv)) → (OE O F Fv) → (fiX μ (vbk μ xb) xf xs xn xw = itrP (fiU (vwk μ) (vbk μ xb) (vod μ (vbk μ xb)) xf xs xw) r (xn - 1) (gv, bv, a)) → (xn - r).toNat = n_LP70 → ∀ ls : Array Slot, lv_has ls 8 [(0, .ref ((ubg G))), (1, .int (iI xb)), (2, .int (iI xf)), (3, .int (iI xs)), (4, .int (iI xn)), (5, .int (iI xw)), (6, .int (iI a)), (7, .int (iI r))] → W p l e ({ frames := 2, cells := 0, slots := 0, locals := 45 } : Room) s m [.ref ((ubg G)), .int (iI xb), .int (iI xf), .int (iI xs), .int (iI xn), .int (iI xw)].toArray below meth c H locs 0 0 (MQ below (cMi D (AL L sz) (fun r L1 F1 => r = jR_fill μ xb xf xs xn xw ∧ ∃ (O1 : Nat → Prop) (G1 : MG), MP y L1 F1 O1 G1 (jS_fill μ xb xf xs xn xw) ∧ ubg G1 = ubg G ∧ Ext O O1 L L1 F F1)) [.ref ((ubg G)), .int (iI xb), .int (iI xf), .int (iI xs), .int (iI xn), .int (iI xw)].toArray s 0 0 (AL L sz)) (F0 m 70 ls []) := by
              intro n_LP70
              induction n_LP70 using Nat.strongRecOn with
              | ind n_LP70 ih_LP70 =>
                intro r gv bv a Fv H locs hr hP hD hS hC hO hI hm_LP70 ls hl
                refine lv_iload hx hb dX6_fill_70 (lv_at hl 7 rfl) ?_
                refine lv_iload hx hb dX6_fill_72 (lv_at hl 4 rfl) ?_
                refine q_icmp_ge hx hb dX6_fill_74 (tgt := 125) (by decide) (by omega) (by omega) (fun c33 => ?_) (fun c33 => ?_)
                · refine lv_aload_n hx hb dX6_fill_125 rfl (lv_at hl 0 rfl) ?_
                  refine lv_iload hx hb dX6_fill_126 (lv_at hl 6 rfl) ?_
                  refine q_vMi C0 lX6_71 (c_X6_did l D y L Fv _ O G (tM (tWr (tTh μ (ltR (inR xb 0 3) 1)) (vbk μ xb)) (vbk μ xb) gv bv) a hC) ⟨rfl, rfl⟩ rfl hP hD hS hA hC.1.1 hC.1.2 rfl rfl rfl hl rfl (Nat.le_of_ble_eq_true rfl) dX6_fill_128 ⟨Nat.le_of_ble_eq_true rfl, Nat.le_of_ble_eq_true rfl⟩ (fun r34 H locs L35 F35 hP hD hS hz35 hp35 => ?_)
                  obtain ⟨eL, hC, er, hO1⟩ := hp35
                  subst eL
                  replace er : a = r34 := er.symm
                  subst er
                  have hO := hO.tr hO1
                  exact q_retMi C0 hret rfl hlk dX6_fill_131 hP hD hS (⟨(by 
    have lt_ := ltR_d (inR xb 0 3) 1
    unfold jR_fill ; (try rw [show ltR (inR xb 0 3) 1 = 0 by omega]); (repeat (first | rw [if_pos (by omega)] | rw [if_neg (by omega)])); rw [hI, itrP_e (by omega)]
    all_goals (first | rfl | omega)), O, G, MP_eq hC (by 
    have lt_ := ltR_d (inR xb 0 3) 1
    unfold jS_fill tX; rw [show ltR (inR xb 0 3) 1 = 0 by omega]; (repeat (first | rw [if_pos (by omega)] | rw [if_neg (by omega)])); rw [hI, itrP_e (by omega)]
    all_goals rfl), rfl, Ext0 hO⟩)
                · have mb_ := mul99 (a := r) (b := xs) (by omega) (by omega)
                  refine lv_iload hx hb dX6_fill_77 (lv_at hl 6 rfl) ?_
                  refine lv_aload_n hx hb dX6_fill_79 rfl (lv_at hl 0 rfl) ?_
                  refine lv_aload_n hx hb dX6_fill_80 rfl (lv_at hl 0 rfl) ?_
                  refine q_get C0 iX6 hP hC.1.1 hC.1.2 rfl 0 (by decide) flX6_11 rfl (v := .ref ((uab G))) rfl dX6_fill_81 ?_
                  refine lv_iload_n hx hb dX6_fill_84 rfl (lv_at hl 1 rfl) ?_
                  refine q_aald C0 hP hC.2.1.1 hC.2.1.2 (t := 3) rfl (by omega) (by decide) (v := .ref ((urh G (vbk μ xb)))) rfl dX6_fill_85 ?_
                  refine lv_iload_n hx hb dX6_fill_86 rfl (lv_at hl 2 rfl) ?_
                  refine lv_iload hx hb dX6_fill_87 (lv_at hl 7 rfl) ?_
                  refine lv_iload_n hx hb dX6_fill_89 rfl (lv_at hl 3 rfl) ?_
                  refine q_imul hx hb dX6_fill_90 ?_
                  refine q_iadd hx hb dX6_fill_91 ?_
                  refine q_bipush hx hb dX6_fill_92 (by decide) ?_
                  refine q_irem hx hb dX6_fill_94 (by omega) (by omega) ?_
                  refine lv_iload hx hb dX6_fill_95 (lv_at hl 5 rfl) ?_
                  refine q_iconst hx hb dX6_fill_97 ?_
                  refine q_icmp_ne hx hb dX6_fill_98 (tgt := 105) (by decide) (by omega) (by omega) (fun c36 => ?_) (fun c36 => ?_)
                  · refine lv_iload hx hb dX6_fill_105 (lv_at hl 5 rfl) ?_
                    refine lv_iload hx hb dX6_fill_107 (lv_at hl 7 rfl) ?_
                    refine q_iadd hx hb dX6_fill_109 ?_
                    refine q_bipush hx hb dX6_fill_110 (by decide) ?_
                    refine q_irem hx hb dX6_fill_112 (by omega) (by omega) ?_
                    refine q_vMi C0 lX6_103 (c_X6_set l D y L Fv _ O G (tM (tWr (tTh μ (ltR (inR xb 0 3) 1)) (vbk μ xb)) (vbk μ xb) gv bv) (vbk μ xb) ((xf + (r * xs)) % 100) ((xw + r) % 100) hC (hW.1 xb) hW.2.2.2.1 (by omega) (by omega)) ⟨rfl, rfl⟩ rfl hP hD hS hA hC.1.1 hC.1.2 rfl rfl rfl hl rfl (Nat.le_of_ble_eq_true rfl) dX6_fill_113 ⟨Nat.le_of_ble_eq_true rfl, Nat.le_of_ble_eq_true rfl⟩ (fun r37 H locs L38 F38 hP hD hS hz38 hp38 => ?_)
                    obtain ⟨eL, hC, er, hO1⟩ := hp38
                    subst eL
                    rw [tM_st] at er
                    replace er : (seC gv (turn (vod μ (vbk μ xb)) ((xf + (r * xs)) % 100)) ((xw + r) % 100)) = r37 := er.symm
                    subst er
                    have hO := hO.tr hO1
                    replace hC := MP_eq hC (tSe_tM _ _ _ _ _ _)
                    refine q_iadd hx hb dX6_fill_116 ?_
                    refine lv_istore (lv' := [(6, .int (iI ((a + (seC gv (turn (vod μ (vbk μ xb)) ((xf + (r * xs)) % 100)) ((xw + r) % 100)))))), (0, .ref ((ubg G))), (1, .int (iI xb)), (2, .int (iI xf)), (3, .int (iI xs)), (4, .int (iI xn)), (5, .int (iI xw)), (7, .int (iI r))]) hx hb dX6_fill_117 hl (by decide) rfl (fun ls hl => ?_)
                    refine q_iinc (x := r) (n := 1) (lv' := [(7, .int (iI ((r + 1)))), (6, .int (iI ((a + (seC gv (turn (vod μ (vbk μ xb)) ((xf + (r * xs)) % 100)) ((xw + r) % 100)))))), (0, .ref ((ubg G))), (1, .int (iI xb)), (2, .int (iI xf)), (3, .int (iI xs)), (4, .int (iI xn)), (5, .int (iI xw))]) hx hb dX6_fill_119 hl (k := 7) rfl (by decide) rfl (fun ls hl => ?_)
                    refine lv_goto (tgt := 70) hx hb dX6_fill_122 (by decide) ?_
                    exact ih_LP70 _ (by omega) (r + 1) (iu gv (turn (vod μ (vbk μ xb)) ((xf + (r * xs)) % 100)) ((xw + r) % 100)) (seB (vwk μ) (vbk μ xb) gv (turn (vod μ (vbk μ xb)) ((xf + (r * xs)) % 100)) ((xw + r) % 100) bv) (a + (seC gv (turn (vod μ (vbk μ xb)) ((xf + (r * xs)) % 100)) ((xw + r) % 100))) F38 _ _ (by omega) (hP) (hD) (hS) (hC) (hO) (by rw [hI, itrP_s (by omega)]; unfold fiU; first | (rw [if_pos (by omega)]; done) | (rw [if_neg (by omega)]; done) | (rw [if_pos (by omega)]; rfl) | (rw [if_neg (by omega)]; rfl) | rfl) rfl ls (lv_sub hl [2, 3, 4, 5, 6, 7, 1, 0] rfl)
                  · refine q_iconst hx hb dX6_fill_101 ?_
                    refine lv_goto (tgt := 113) hx hb dX6_fill_102 (by decide) ?_
                    refine q_vMi C0 lX6_103 (c_X6_set l D y L Fv _ O G (tM (tWr (tTh μ (ltR (inR xb 0 3) 1)) (vbk μ xb)) (vbk μ xb) gv bv) (vbk μ xb) ((xf + (r * xs)) % 100) (-1) hC (hW.1 xb) hW.2.2.2.1 (by omega) (by omega)) ⟨rfl, rfl⟩ rfl hP hD hS hA hC.1.1 hC.1.2 rfl rfl rfl hl rfl (Nat.le_of_ble_eq_true rfl) dX6_fill_113 ⟨Nat.le_of_ble_eq_true rfl, Nat.le_of_ble_eq_true rfl⟩ (fun r39 H locs L40 F40 hP hD hS hz40 hp40 => ?_)
                    obtain ⟨eL, hC, er, hO1⟩ := hp40
                    subst eL
                    rw [tM_st] at er
                    replace er : (seC gv (turn (vod μ (vbk μ xb)) ((xf + (r * xs)) % 100)) (-1)) = r39 := er.symm
                    subst er
                    have hO := hO.tr hO1
                    replace hC := MP_eq hC (tSe_tM _ _ _ _ _ _)
                    refine q_iadd hx hb dX6_fill_116 ?_
                    refine lv_istore (lv' := [(6, .int (iI ((a + (seC gv (turn (vod μ (vbk μ xb)) ((xf + (r * xs)) % 100)) (-1)))))), (0, .ref ((ubg G))), (1, .int (iI xb)), (2, .int (iI xf)), (3, .int (iI xs)), (4, .int (iI xn)), (5, .int (iI xw)), (7, .int (iI r))]) hx hb dX6_fill_117 hl (by decide) rfl (fun ls hl => ?_)
                    refine q_iinc (x := r) (n := 1) (lv' := [(7, .int (iI ((r + 1)))), (6, .int (iI ((a + (seC gv (turn (vod μ (vbk μ xb)) ((xf + (r * xs)) % 100)) (-1)))))), (0, .ref ((ubg G))), (1, .int (iI xb)), (2, .int (iI xf)), (3, .int (iI xs)), (4, .int (iI xn)), (5, .int (iI xw))]) hx hb dX6_fill_119 hl (k := 7) rfl (by decide) rfl (fun ls hl => ?_)
                    refine lv_goto (tgt := 70) hx hb dX6_fill_122 (by decide) ?_
                    exact ih_LP70 _ (by omega) (r + 1) (iu gv (turn (vod μ (vbk μ xb)) ((xf + (r * xs)) % 100)) (-1)) (seB (vwk μ) (vbk μ xb) gv (turn (vod μ (vbk μ xb)) ((xf + (r * xs)) % 100)) (-1) bv) (a + (seC gv (turn (vod μ (vbk μ xb)) ((xf + (r * xs)) % 100)) (-1))) F40 _ _ (by omega) (hP) (hD) (hS) (hC) (hO) (by rw [hI, itrP_s (by omega)]; unfold fiU; first | (rw [if_pos (by omega)]; done) | (rw [if_neg (by omega)]; done) | (rw [if_pos (by omega)]; rfl) | (rw [if_neg (by omega)]; rfl) | rfl) rfl ls (lv_sub hl [2, 3, 4, 5, 6, 7, 1, 0] rfl)
            exact LP70 _ 0 (vst μ (vbk μ xb)) (vbr μ) 0 F32 _ _ (by omega) (hP) (hD) (hS) (MP_eq hC (tM_0 _ _)) (hO) (rfl) rfl ls (lv_sub hl [2, 3, 4, 5, 6, 7, 1, 0] rfl)
          · replace k_29 := k_29.resolve_left (fun h => absurd (h.1.symm.trans c30) (by decide))
            refine q_iconst hx hb dX6_fill_52 ?_
            exact q_retMi C0 hret rfl hlk dX6_fill_53 hP hD hS (⟨(by unfold jR_fill; rw [if_neg (by omega)]), O, G, MP_eq hC (by have lt_ := ltR_d (inR xb 0 3) 1; unfold jS_fill; rcases lt_ with lt_ | lt_ | lt_ <;> first | (rw [if_neg (by omega), lt_.1]; done) | (rw [if_pos (by omega), if_neg (by omega), lt_.1]; done) | (exfalso; omega)), rfl, Ext0 hO⟩)
