set_option maxHeartbeats 3000000 in
set_option maxRecDepth 100000 in
theorem c_X6_lay (l : Launch) (D : va_G) (y : Nat → ClassId) (L : List Nat) (F : Nat → va_E) (sz : Nat) (O : Nat → Prop) (G : MG) (μ : MS) (xb : Int) (xf : Int) (xs : Int) (xn : Int) (xz : Int) (hC : MP y L F O G μ) (hW : MW μ) (h_xb : -2147483648 ≤ xb ∧ xb ≤ 2147483647) (h_xf : -2147483648 ≤ xf ∧ xf ≤ 2147483647) (h_xs : -2147483648 ≤ xs ∧ xs ≤ 2147483647) (h_xn : -2147483648 ≤ xn ∧ xn ≤ 2147483647) (h_xz : 0 ≤ xz ∧ xz ≤ 1) : Met l yX6_lay (.code yX6_lay cX6_lay 8 (some .int) :: Tt) ({ frames := 2, cells := 0, slots := 0, locals := 45 }) (PcM D y L F sz [.ref ((ubg G)), .int (iI xb), .int (iI xf), .int (iI xs), .int (iI xn), .int (iI xz)]) (cMi D (AL L sz) (fun r L1 F1 => r = jR_lay μ xb xf xs xn xz ∧ ∃ (O1 : Nat → Prop) (G1 : MG), MP y L1 F1 O1 G1 (jS_lay μ xb xf xs xn xz) ∧ ubg G1 = ubg G ∧ Ext O O1 L L1 F F1)) 0 0 (AL L sz) := by
  have hO : OE O F F := fun _ _ => rfl
  have hw5 := hW.2.2.2.2.2.1
  have hw6 := hW.2.2.2.2.2.2.1
  have hw7 := hW.2.2.2.2.2.2.2.1
  refine q_ofM (lv := [(0, .ref ((ubg G))), (1, .int (iI xb)), (2, .int (iI xf)), (3, .int (iI xs)), (4, .int (iI xn)), (5, .int (iI xz))]) (by decide) (Nat.le_of_ble_eq_true rfl) rfl (fun p e s m below meth c C0 hret hlk hnm hA hP hD hS ls hl => ?_)
  have hx := C0.1.1
  have hb := C0.1.2.1
  have hts := C0.1.2.2.2.2
  refine lv_aload_n hx hb dX6_lay_0 rfl (lv_at hl 0 rfl) ?_
  refine lv_iload_n hx hb dX6_lay_1 rfl (lv_at hl 1 rfl) ?_
  refine q_sS C0 lX6_193 (c_X6_isShelf l D y L F xb (by omega)) ⟨rfl, rfl⟩ rfl hP rfl hl rfl (Nat.le_of_ble_eq_true rfl) dX6_lay_2 ⟨Nat.zero_le _, Nat.zero_le _⟩ (fun r1 e_r1 => ?_)
  subst e_r1
  have b_2 := inR_d xb 0 2
  refine lv_iload_n hx hb dX6_lay_5 rfl (lv_at hl 2 rfl) ?_
  refine q_sS C0 lX6_86 (c_X6_isKey l D y L F xf (by omega)) ⟨rfl, rfl⟩ rfl hP rfl hl rfl (Nat.le_of_ble_eq_true rfl) dX6_lay_6 ⟨Nat.zero_le _, Nat.zero_le _⟩ (fun r3 e_r3 => ?_)
  subst e_r3
  have b_4 := inR_d xf 0 99
  refine q_if_eq hx hb dX6_lay_9 (tgt := 34) (by decide) (by omega) (fun c5 => ?_) (fun c5 => ?_)
  · replace b_4 := b_4.resolve_left (fun h => absurd (h.1.symm.trans c5) (by decide))
    refine q_iconst hx hb dX6_lay_34 ?_
    refine q_vMi C0 lX6_63 (c_X6_isLet l D y L F _ O G μ (inR xb 0 2) 0 hC (by omega) (by omega)) ⟨rfl, rfl⟩ rfl hP hD hS hA hC.1.1 hC.1.2 rfl rfl rfl hl rfl (Nat.le_of_ble_eq_true rfl) dX6_lay_35 ⟨Nat.le_of_ble_eq_true rfl, Nat.le_of_ble_eq_true rfl⟩ (fun r6 H locs L7 F7 hP hD hS hz7 hp7 => ?_)
    obtain ⟨eL, hC, er, hO1⟩ := hp7
    subst eL
    replace er := (er.trans (okR_z _)).symm
    subst er
    have hO := hO.tr hO1
    refine q_if_ne hx hb dX6_lay_38 (tgt := 43) (by decide) (by omega) (fun c8 => absurd c8 (by omega)) (fun c8 => ?_)
    refine q_iconst hx hb dX6_lay_41 ?_
    exact q_retMi C0 hret rfl hlk dX6_lay_42 hP hD hS (⟨(by unfold jR_lay; rw [if_neg (by omega)]), O, G, MP_eq hC (by have lt_ := ltR_d (inR xb 0 2) 0; unfold jS_lay; rcases lt_ with lt_ | lt_ | lt_ <;> first | (rw [if_neg (by omega), lt_.1]; done) | (rw [if_pos (by omega), if_neg (by omega), lt_.1]; done) | (exfalso; omega)), rfl, Ext0 hO⟩)
  · replace b_4 := b_4.resolve_right (fun h => c5 h.1)
    refine lv_iload_n hx hb dX6_lay_12 rfl (lv_at hl 3 rfl) ?_
    refine q_sS C0 lX6_86 (c_X6_isKey l D y L F xs (by omega)) ⟨rfl, rfl⟩ rfl hP rfl hl rfl (Nat.le_of_ble_eq_true rfl) dX6_lay_13 ⟨Nat.zero_le _, Nat.zero_le _⟩ (fun r9 e_r9 => ?_)
    subst e_r9
    have b_10 := inR_d xs 0 99
    refine q_if_eq hx hb dX6_lay_16 (tgt := 34) (by decide) (by omega) (fun c11 => ?_) (fun c11 => ?_)
    · replace b_10 := b_10.resolve_left (fun h => absurd (h.1.symm.trans c11) (by decide))
      refine q_iconst hx hb dX6_lay_34 ?_
      refine q_vMi C0 lX6_63 (c_X6_isLet l D y L F _ O G μ (inR xb 0 2) 0 hC (by omega) (by omega)) ⟨rfl, rfl⟩ rfl hP hD hS hA hC.1.1 hC.1.2 rfl rfl rfl hl rfl (Nat.le_of_ble_eq_true rfl) dX6_lay_35 ⟨Nat.le_of_ble_eq_true rfl, Nat.le_of_ble_eq_true rfl⟩ (fun r12 H locs L13 F13 hP hD hS hz13 hp13 => ?_)
      obtain ⟨eL, hC, er, hO1⟩ := hp13
      subst eL
      replace er := (er.trans (okR_z _)).symm
      subst er
      have hO := hO.tr hO1
      refine q_if_ne hx hb dX6_lay_38 (tgt := 43) (by decide) (by omega) (fun c14 => absurd c14 (by omega)) (fun c14 => ?_)
      refine q_iconst hx hb dX6_lay_41 ?_
      exact q_retMi C0 hret rfl hlk dX6_lay_42 hP hD hS (⟨(by unfold jR_lay; rw [if_neg (by omega)]), O, G, MP_eq hC (by have lt_ := ltR_d (inR xb 0 2) 0; unfold jS_lay; rcases lt_ with lt_ | lt_ | lt_ <;> first | (rw [if_neg (by omega), lt_.1]; done) | (rw [if_pos (by omega), if_neg (by omega), lt_.1]; done) | (exfalso; omega)), rfl, Ext0 hO⟩)
    · replace b_10 := b_10.resolve_right (fun h => c11 h.1)
      refine lv_iload hx hb dX6_lay_19 (lv_at hl 4 rfl) ?_
      refine q_iconst hx hb dX6_lay_21 ?_
      refine q_bipush hx hb dX6_lay_22 (by decide) ?_
      refine q_sS C0 lX6_41 (c_X6_isIn l D y L F xn 0 100 (by omega) (by omega) (by omega)) ⟨rfl, rfl⟩ rfl hP rfl hl rfl (Nat.le_of_ble_eq_true rfl) dX6_lay_24 ⟨Nat.zero_le _, Nat.zero_le _⟩ (fun r15 e_r15 => ?_)
      subst e_r15
      have b_16 := inR_d xn 0 100
      refine q_if_eq hx hb dX6_lay_27 (tgt := 34) (by decide) (by omega) (fun c17 => ?_) (fun c17 => ?_)
      · replace b_16 := b_16.resolve_left (fun h => absurd (h.1.symm.trans c17) (by decide))
        refine q_iconst hx hb dX6_lay_34 ?_
        refine q_vMi C0 lX6_63 (c_X6_isLet l D y L F _ O G μ (inR xb 0 2) 0 hC (by omega) (by omega)) ⟨rfl, rfl⟩ rfl hP hD hS hA hC.1.1 hC.1.2 rfl rfl rfl hl rfl (Nat.le_of_ble_eq_true rfl) dX6_lay_35 ⟨Nat.le_of_ble_eq_true rfl, Nat.le_of_ble_eq_true rfl⟩ (fun r18 H locs L19 F19 hP hD hS hz19 hp19 => ?_)
        obtain ⟨eL, hC, er, hO1⟩ := hp19
        subst eL
        replace er := (er.trans (okR_z _)).symm
        subst er
        have hO := hO.tr hO1
        refine q_if_ne hx hb dX6_lay_38 (tgt := 43) (by decide) (by omega) (fun c20 => absurd c20 (by omega)) (fun c20 => ?_)
        refine q_iconst hx hb dX6_lay_41 ?_
        exact q_retMi C0 hret rfl hlk dX6_lay_42 hP hD hS (⟨(by unfold jR_lay; rw [if_neg (by omega)]), O, G, MP_eq hC (by have lt_ := ltR_d (inR xb 0 2) 0; unfold jS_lay; rcases lt_ with lt_ | lt_ | lt_ <;> first | (rw [if_neg (by omega), lt_.1]; done) | (rw [if_pos (by omega), if_neg (by omega), lt_.1]; done) | (exfalso; omega)), rfl, Ext0 hO⟩)
      · replace b_16 := b_16.resolve_right (fun h => c17 h.1)
        refine q_iconst hx hb dX6_lay_30 ?_
        refine lv_goto (tgt := 35) hx hb dX6_lay_31 (by decide) ?_
        refine q_vMi C0 lX6_63 (c_X6_isLet l D y L F _ O G μ (inR xb 0 2) 1 hC (by omega) (by omega)) ⟨rfl, rfl⟩ rfl hP hD hS hA hC.1.1 hC.1.2 rfl rfl rfl hl rfl (Nat.le_of_ble_eq_true rfl) dX6_lay_35 ⟨Nat.le_of_ble_eq_true rfl, Nat.le_of_ble_eq_true rfl⟩ (fun r21 H locs L22 F22 hP hD hS hz22 hp22 => ?_)
        obtain ⟨eL, hC, er, hO1⟩ := hp22
        subst eL
        replace er := er.symm
        subst er
        have hO := hO.tr hO1
        have k_23 := okR_d (inR xb 0 2) 1
        refine q_if_ne hx hb dX6_lay_38 (tgt := 43) (by decide) (by omega) (fun c24 => ?_) (fun c24 => ?_)
        · replace k_23 := k_23.resolve_right (fun h => c24 h.1)
          refine q_iconst hx hb dX6_lay_43 ?_
          refine lv_istore (lv' := [(6, .int (iI 0)), (0, .ref ((ubg G))), (1, .int (iI xb)), (2, .int (iI xf)), (3, .int (iI xs)), (4, .int (iI xn)), (5, .int (iI xz))]) hx hb dX6_lay_44 hl (by decide) rfl (fun ls hl => ?_)
          refine q_iconst hx hb dX6_lay_46 ?_
          refine lv_istore (lv' := [(7, .int (iI 0)), (6, .int (iI 0)), (0, .ref ((ubg G))), (1, .int (iI xb)), (2, .int (iI xf)), (3, .int (iI xs)), (4, .int (iI xn)), (5, .int (iI xz))]) hx hb dX6_lay_47 hl (by decide) rfl (fun ls hl => ?_)
          have LP49 : ∀ (n_LP49 : Nat) (r : Int) (gv : Int → Int) (bv : Int) (a : Int) (Fv : Nat → va_E) (H : Heap) (locs : List Loc), (0 ≤ r ∧ r ≤ 100) → (va_P D vwCl (va_pl L Fv) H) → (va_D (AL L sz) (va_pl L Fv)) → (va_S (AL L sz) s.heap H locs) → (MP y L Fv O G (tM (tTh μ (ltR (inR xb 0 2) 1)) (vsh μ xb) gv bv)) → (OE O F Fv) → (laX μ (vsh μ xb) xf xs xn xz = itrP (laU (vwk μ) (vsh μ xb) (vod μ (vsh μ xb)) xf xs xz) r (xn - 1) (gv, bv, a)) → (xn - r).toNat = n_LP49 → ∀ ls : Array Slot, lv_has ls 8 [(0, .ref ((ubg G))), (1, .int (iI xb)), (2, .int (iI xf)), (3, .int (iI xs)), (4, .int (iI xn)), (5, .int (iI xz)), (6, .int (iI a)), (7, .int (iI r))] → W p l e ({ frames := 2, cells := 0, slots := 0, locals := 45 } : Room) s m [.ref ((ubg G)), .int (iI xb), .int (iI xf), .int (iI xs), .int (iI xn), .int (iI xz)].toArray below meth c H locs 0 0 (MQ below (cMi D (AL L sz) (fun r L1 F1 => r = jR_lay μ xb xf xs xn xz ∧ ∃ (O1 : Nat → Prop) (G1 : MG), MP y L1 F1 O1 G1 (jS_lay μ xb xf xs xn xz) ∧ ubg G1 = ubg G ∧ Ext O O1 L L1 F F1)) [.ref ((ubg G)), .int (iI xb), .int (iI xf), .int (iI xs), .int (iI xn), .int (iI xz)].toArray s 0 0 (AL L sz)) (F0 m 49 ls []) := by
            intro n_LP49
            induction n_LP49 using Nat.strongRecOn with
            | ind n_LP49 ih_LP49 =>
              intro r gv bv a Fv H locs hr hP hD hS hC hO hI hm_LP49 ls hl
              refine lv_iload hx hb dX6_lay_49 (lv_at hl 7 rfl) ?_
              refine lv_iload hx hb dX6_lay_51 (lv_at hl 4 rfl) ?_
              refine q_icmp_ge hx hb dX6_lay_53 (tgt := 96) (by decide) (by omega) (by omega) (fun c25 => ?_) (fun c25 => ?_)
              · refine lv_aload_n hx hb dX6_lay_96 rfl (lv_at hl 0 rfl) ?_
                refine lv_iload hx hb dX6_lay_97 (lv_at hl 6 rfl) ?_
                refine q_vMi C0 lX6_196 (c_X6_laid l D y L Fv _ O G (tM (tTh μ (ltR (inR xb 0 2) 1)) (vsh μ xb) gv bv) a hC) ⟨rfl, rfl⟩ rfl hP hD hS hA hC.1.1 hC.1.2 rfl rfl rfl hl rfl (Nat.le_of_ble_eq_true rfl) dX6_lay_99 ⟨Nat.le_of_ble_eq_true rfl, Nat.le_of_ble_eq_true rfl⟩ (fun r26 H locs L27 F27 hP hD hS hz27 hp27 => ?_)
                obtain ⟨eL, hC, er, hO1⟩ := hp27
                subst eL
                replace er : a = r26 := er.symm
                subst er
                have hO := hO.tr hO1
                exact q_retMi C0 hret rfl hlk dX6_lay_102 hP hD hS (⟨(by 
    have lt_ := ltR_d (inR xb 0 2) 1
    unfold jR_lay ; (try rw [show ltR (inR xb 0 2) 1 = 0 by omega]); (repeat (first | rw [if_pos (by omega)] | rw [if_neg (by omega)])); rw [hI, itrP_e (by omega)]
    all_goals (first | rfl | omega)), O, G, MP_eq hC (by 
    have lt_ := ltR_d (inR xb 0 2) 1
    unfold jS_lay tX; rw [show ltR (inR xb 0 2) 1 = 0 by omega]; (repeat (first | rw [if_pos (by omega)] | rw [if_neg (by omega)])); rw [hI, itrP_e (by omega)]
    all_goals rfl), rfl, Ext0 hO⟩)
              · have mb_ := mul99 (a := r) (b := xs) (by omega) (by omega)
                refine lv_iload hx hb dX6_lay_56 (lv_at hl 6 rfl) ?_
                refine lv_aload_n hx hb dX6_lay_58 rfl (lv_at hl 0 rfl) ?_
                refine lv_aload_n hx hb dX6_lay_59 rfl (lv_at hl 0 rfl) ?_
                refine q_get C0 iX6 hP hC.1.1 hC.1.2 rfl 1 (by decide) flX6_15 rfl (v := .ref ((uas G))) rfl dX6_lay_60 ?_
                refine lv_iload_n hx hb dX6_lay_63 rfl (lv_at hl 1 rfl) ?_
                refine q_aald C0 hP hC.2.2.1.1 hC.2.2.1.2 (t := 3) rfl (by omega) (by decide) (v := .ref ((urh G (vsh μ xb)))) rfl dX6_lay_64 ?_
                refine lv_iload_n hx hb dX6_lay_65 rfl (lv_at hl 2 rfl) ?_
                refine lv_iload hx hb dX6_lay_66 (lv_at hl 7 rfl) ?_
                refine lv_iload_n hx hb dX6_lay_68 rfl (lv_at hl 3 rfl) ?_
                refine q_imul hx hb dX6_lay_69 ?_
                refine q_iadd hx hb dX6_lay_70 ?_
                refine q_bipush hx hb dX6_lay_71 (by decide) ?_
                refine q_irem hx hb dX6_lay_73 (by omega) (by omega) ?_
                refine lv_iload hx hb dX6_lay_74 (lv_at hl 5 rfl) ?_
                refine q_if_eq hx hb dX6_lay_76 (tgt := 83) (by decide) (by omega) (fun c28 => ?_) (fun c28 => ?_)
                · refine q_iconst hx hb dX6_lay_83 ?_
                  refine q_vMi C0 lX6_103 (c_X6_set l D y L Fv _ O G (tM (tTh μ (ltR (inR xb 0 2) 1)) (vsh μ xb) gv bv) (vsh μ xb) ((xf + (r * xs)) % 100) (-1) hC (hW.2.1 xb) hW.2.2.2.1 (by omega) (by omega)) ⟨rfl, rfl⟩ rfl hP hD hS hA hC.1.1 hC.1.2 rfl rfl rfl hl rfl (Nat.le_of_ble_eq_true rfl) dX6_lay_84 ⟨Nat.le_of_ble_eq_true rfl, Nat.le_of_ble_eq_true rfl⟩ (fun r29 H locs L30 F30 hP hD hS hz30 hp30 => ?_)
                  obtain ⟨eL, hC, er, hO1⟩ := hp30
                  subst eL
                  rw [tM_st] at er
                  replace er : (seC gv (turn (vod μ (vsh μ xb)) ((xf + (r * xs)) % 100)) (-1)) = r29 := er.symm
                  subst er
                  have hO := hO.tr hO1
                  replace hC := MP_eq hC (tSe_tM _ _ _ _ _ _)
                  refine q_iadd hx hb dX6_lay_87 ?_
                  refine lv_istore (lv' := [(6, .int (iI ((a + (seC gv (turn (vod μ (vsh μ xb)) ((xf + (r * xs)) % 100)) (-1)))))), (0, .ref ((ubg G))), (1, .int (iI xb)), (2, .int (iI xf)), (3, .int (iI xs)), (4, .int (iI xn)), (5, .int (iI xz)), (7, .int (iI r))]) hx hb dX6_lay_88 hl (by decide) rfl (fun ls hl => ?_)
                  refine q_iinc (x := r) (n := 1) (lv' := [(7, .int (iI ((r + 1)))), (6, .int (iI ((a + (seC gv (turn (vod μ (vsh μ xb)) ((xf + (r * xs)) % 100)) (-1)))))), (0, .ref ((ubg G))), (1, .int (iI xb)), (2, .int (iI xf)), (3, .int (iI xs)), (4, .int (iI xn)), (5, .int (iI xz))]) hx hb dX6_lay_90 hl (k := 7) rfl (by decide) rfl (fun ls hl => ?_)
                  refine lv_goto (tgt := 49) hx hb dX6_lay_93 (by decide) ?_
                  exact ih_LP49 _ (by omega) (r + 1) (iu gv (turn (vod μ (vsh μ xb)) ((xf + (r * xs)) % 100)) (-1)) (seB (vwk μ) (vsh μ xb) gv (turn (vod μ (vsh μ xb)) ((xf + (r * xs)) % 100)) (-1) bv) (a + (seC gv (turn (vod μ (vsh μ xb)) ((xf + (r * xs)) % 100)) (-1))) F30 _ _ (by omega) (hP) (hD) (hS) (hC) (hO) (by rw [hI, itrP_s (by omega)]; unfold laU; first | (rw [if_pos (by omega)]; done) | (rw [if_neg (by omega)]; done) | (rw [if_pos (by omega)]; rfl) | (rw [if_neg (by omega)]; rfl) | rfl) rfl ls (lv_sub hl [2, 3, 4, 5, 6, 7, 1, 0] rfl)
                · refine q_iconst hx hb dX6_lay_79 ?_
                  refine lv_goto (tgt := 84) hx hb dX6_lay_80 (by decide) ?_
                  refine q_vMi C0 lX6_103 (c_X6_set l D y L Fv _ O G (tM (tTh μ (ltR (inR xb 0 2) 1)) (vsh μ xb) gv bv) (vsh μ xb) ((xf + (r * xs)) % 100) 0 hC (hW.2.1 xb) hW.2.2.2.1 (by omega) (by omega)) ⟨rfl, rfl⟩ rfl hP hD hS hA hC.1.1 hC.1.2 rfl rfl rfl hl rfl (Nat.le_of_ble_eq_true rfl) dX6_lay_84 ⟨Nat.le_of_ble_eq_true rfl, Nat.le_of_ble_eq_true rfl⟩ (fun r31 H locs L32 F32 hP hD hS hz32 hp32 => ?_)
                  obtain ⟨eL, hC, er, hO1⟩ := hp32
                  subst eL
                  rw [tM_st] at er
                  replace er : (seC gv (turn (vod μ (vsh μ xb)) ((xf + (r * xs)) % 100)) 0) = r31 := er.symm
                  subst er
                  have hO := hO.tr hO1
                  replace hC := MP_eq hC (tSe_tM _ _ _ _ _ _)
                  refine q_iadd hx hb dX6_lay_87 ?_
                  refine lv_istore (lv' := [(6, .int (iI ((a + (seC gv (turn (vod μ (vsh μ xb)) ((xf + (r * xs)) % 100)) 0))))), (0, .ref ((ubg G))), (1, .int (iI xb)), (2, .int (iI xf)), (3, .int (iI xs)), (4, .int (iI xn)), (5, .int (iI xz)), (7, .int (iI r))]) hx hb dX6_lay_88 hl (by decide) rfl (fun ls hl => ?_)
                  refine q_iinc (x := r) (n := 1) (lv' := [(7, .int (iI ((r + 1)))), (6, .int (iI ((a + (seC gv (turn (vod μ (vsh μ xb)) ((xf + (r * xs)) % 100)) 0))))), (0, .ref ((ubg G))), (1, .int (iI xb)), (2, .int (iI xf)), (3, .int (iI xs)), (4, .int (iI xn)), (5, .int (iI xz))]) hx hb dX6_lay_90 hl (k := 7) rfl (by decide) rfl (fun ls hl => ?_)
                  refine lv_goto (tgt := 49) hx hb dX6_lay_93 (by decide) ?_
                  exact ih_LP49 _ (by omega) (r + 1) (iu gv (turn (vod μ (vsh μ xb)) ((xf + (r * xs)) % 100)) 0) (seB (vwk μ) (vsh μ xb) gv (turn (vod μ (vsh μ xb)) ((xf + (r * xs)) % 100)) 0 bv) (a + (seC gv (turn (vod μ (vsh μ xb)) ((xf + (r * xs)) % 100)) 0)) F32 _ _ (by omega) (hP) (hD) (hS) (hC) (hO) (by rw [hI, itrP_s (by omega)]; unfold laU; first | (rw [if_pos (by omega)]; done) | (rw [if_neg (by omega)]; done) | (rw [if_pos (by omega)]; rfl) | (rw [if_neg (by omega)]; rfl) | rfl) rfl ls (lv_sub hl [2, 3, 4, 5, 6, 7, 1, 0] rfl)
          exact LP49 _ 0 (vst μ (vsh μ xb)) (vbr μ) 0 F22 _ _ (by omega) (hP) (hD) (hS) (MP_eq hC (tM_0 _ _)) (hO) (rfl) rfl ls (lv_sub hl [2, 3, 4, 5, 6, 7, 1, 0] rfl)
        · replace k_23 := k_23.resolve_left (fun h => absurd (h.1.symm.trans c24) (by decide))
          refine q_iconst hx hb dX6_lay_41 ?_
          exact q_retMi C0 hret rfl hlk dX6_lay_42 hP hD hS (⟨(by unfold jR_lay; rw [if_neg (by omega)]), O, G, MP_eq hC (by have lt_ := ltR_d (inR xb 0 2) 1; unfold jS_lay; rcases lt_ with lt_ | lt_ | lt_ <;> first | (rw [if_neg (by omega), lt_.1]; done) | (rw [if_pos (by omega), if_neg (by omega), lt_.1]; done) | (exfalso; omega)), rfl, Ext0 hO⟩)
