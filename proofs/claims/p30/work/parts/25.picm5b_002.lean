set_option maxHeartbeats 3000000 in
set_option maxRecDepth 100000 in
theorem c_X6_shelfBoth (l : Launch) (D : va_G) (y : Nat → ClassId) (L : List Nat) (F : Nat → va_E) (sz : Nat) (O : Nat → Prop) (G : MG) (μ : MS) (xb : Int) (xc : Int) (xt : Int) (hC : MP y L F O G μ) (hW : MW μ) (h_xb : -2147483648 ≤ xb ∧ xb ≤ 2147483647) (h_xc : -2147483648 ≤ xc ∧ xc ≤ 2147483647) (h_xt : -2147483648 ≤ xt ∧ xt ≤ 2147483647) : Met l yX6_shelfBoth (.code yX6_shelfBoth cX6_shelfBoth 6 (some .int) :: Tt) ({ frames := 2, cells := 0, slots := 0, locals := 45 }) (PcM D y L F sz [.ref ((ubg G)), .int (iI xb), .int (iI xc), .int (iI xt)]) (cMi D (AL L sz) (fun r L1 F1 => r = jR_shelfBoth μ xb xc xt ∧ ∃ (O1 : Nat → Prop) (G1 : MG), MP y L1 F1 O1 G1 (jS_shelfBoth μ xb xc xt) ∧ ubg G1 = ubg G ∧ Ext O O1 L L1 F F1)) 0 0 (AL L sz) := by
  have hO : OE O F F := fun _ _ => rfl
  have hw5 := hW.2.2.2.2.2.1
  have hw6 := hW.2.2.2.2.2.2.1
  have hw7 := hW.2.2.2.2.2.2.2.1
  refine q_ofM (lv := [(0, .ref ((ubg G))), (1, .int (iI xb)), (2, .int (iI xc)), (3, .int (iI xt))]) (by decide) (Nat.le_of_ble_eq_true rfl) rfl (fun p e s m below meth c C0 hret hlk hnm hA hP hD hS ls hl => ?_)
  have hx := C0.1.1
  have hb := C0.1.2.1
  have hts := C0.1.2.2.2.2
  refine lv_aload_n hx hb dX6_shelfBoth_0 rfl (lv_at hl 0 rfl) ?_
  refine lv_iload_n hx hb dX6_shelfBoth_1 rfl (lv_at hl 1 rfl) ?_
  refine q_sS C0 lX6_193 (c_X6_isShelf l D y L F xb (by omega)) ⟨rfl, rfl⟩ rfl hP rfl hl rfl (Nat.le_of_ble_eq_true rfl) dX6_shelfBoth_2 ⟨Nat.zero_le _, Nat.zero_le _⟩ (fun r1 e_r1 => ?_)
  subst e_r1
  have b_2 := inR_d xb 0 2
  refine q_if_eq hx hb dX6_shelfBoth_5 (tgt := 19) (by decide) (by omega) (fun c3 => ?_) (fun c3 => ?_)
  · replace b_2 := b_2.resolve_left (fun h => absurd (h.1.symm.trans c3) (by decide))
    refine q_iconst hx hb dX6_shelfBoth_19 ?_
    refine lv_iload_n hx hb dX6_shelfBoth_20 rfl (lv_at hl 3 rfl) ?_
    refine q_iconst hx hb dX6_shelfBoth_21 ?_
    refine q_iconst hx hb dX6_shelfBoth_22 ?_
    refine q_sS C0 lX6_41 (c_X6_isIn l D y L F xt 0 2 (by omega) (by omega) (by omega)) ⟨rfl, rfl⟩ rfl hP rfl hl rfl (Nat.le_of_ble_eq_true rfl) dX6_shelfBoth_23 ⟨Nat.zero_le _, Nat.zero_le _⟩ (fun r4 e_r4 => ?_)
    subst e_r4
    have b_5 := inR_d xt 0 2
    refine q_vMi C0 lX6_63 (c_X6_isLet l D y L F _ O G μ 0 (inR xt 0 2) hC (by omega) (by omega)) ⟨rfl, rfl⟩ rfl hP hD hS hA hC.1.1 hC.1.2 rfl rfl rfl hl rfl (Nat.le_of_ble_eq_true rfl) dX6_shelfBoth_26 ⟨Nat.le_of_ble_eq_true rfl, Nat.le_of_ble_eq_true rfl⟩ (fun r6 H locs L7 F7 hP hD hS hz7 hp7 => ?_)
    obtain ⟨eL, hC, er, hO1⟩ := hp7
    subst eL
    replace er := (er.trans (okR_z0 _)).symm
    subst er
    have hO := hO.tr hO1
    refine q_if_ne hx hb dX6_shelfBoth_29 (tgt := 34) (by decide) (by omega) (fun c8 => absurd c8 (by omega)) (fun c8 => ?_)
    refine q_iconst hx hb dX6_shelfBoth_32 ?_
    exact q_retMi C0 hret rfl hlk dX6_shelfBoth_33 hP hD hS (⟨(by unfold jR_shelfBoth; rw [if_neg (by omega)]), O, G, MP_eq hC (by have lt_ := ltR_d 0 (inR xt 0 2); unfold jS_shelfBoth; rcases lt_ with lt_ | lt_ | lt_ <;> first | (rw [if_neg (by omega), lt_.1]; done) | (rw [if_pos (by omega), if_neg (by omega), lt_.1]; done) | (exfalso; omega)), rfl, Ext0 hO⟩)
  · replace b_2 := b_2.resolve_right (fun h => c3 h.1)
    refine lv_iload_n hx hb dX6_shelfBoth_8 rfl (lv_at hl 2 rfl) ?_
    refine q_sS C0 lX6_193 (c_X6_isShelf l D y L F xc (by omega)) ⟨rfl, rfl⟩ rfl hP rfl hl rfl (Nat.le_of_ble_eq_true rfl) dX6_shelfBoth_9 ⟨Nat.zero_le _, Nat.zero_le _⟩ (fun r9 e_r9 => ?_)
    subst e_r9
    have b_10 := inR_d xc 0 2
    refine q_if_eq hx hb dX6_shelfBoth_12 (tgt := 19) (by decide) (by omega) (fun c11 => ?_) (fun c11 => ?_)
    · replace b_10 := b_10.resolve_left (fun h => absurd (h.1.symm.trans c11) (by decide))
      refine q_iconst hx hb dX6_shelfBoth_19 ?_
      refine lv_iload_n hx hb dX6_shelfBoth_20 rfl (lv_at hl 3 rfl) ?_
      refine q_iconst hx hb dX6_shelfBoth_21 ?_
      refine q_iconst hx hb dX6_shelfBoth_22 ?_
      refine q_sS C0 lX6_41 (c_X6_isIn l D y L F xt 0 2 (by omega) (by omega) (by omega)) ⟨rfl, rfl⟩ rfl hP rfl hl rfl (Nat.le_of_ble_eq_true rfl) dX6_shelfBoth_23 ⟨Nat.zero_le _, Nat.zero_le _⟩ (fun r12 e_r12 => ?_)
      subst e_r12
      have b_13 := inR_d xt 0 2
      refine q_vMi C0 lX6_63 (c_X6_isLet l D y L F _ O G μ 0 (inR xt 0 2) hC (by omega) (by omega)) ⟨rfl, rfl⟩ rfl hP hD hS hA hC.1.1 hC.1.2 rfl rfl rfl hl rfl (Nat.le_of_ble_eq_true rfl) dX6_shelfBoth_26 ⟨Nat.le_of_ble_eq_true rfl, Nat.le_of_ble_eq_true rfl⟩ (fun r14 H locs L15 F15 hP hD hS hz15 hp15 => ?_)
      obtain ⟨eL, hC, er, hO1⟩ := hp15
      subst eL
      replace er := (er.trans (okR_z0 _)).symm
      subst er
      have hO := hO.tr hO1
      refine q_if_ne hx hb dX6_shelfBoth_29 (tgt := 34) (by decide) (by omega) (fun c16 => absurd c16 (by omega)) (fun c16 => ?_)
      refine q_iconst hx hb dX6_shelfBoth_32 ?_
      exact q_retMi C0 hret rfl hlk dX6_shelfBoth_33 hP hD hS (⟨(by unfold jR_shelfBoth; rw [if_neg (by omega)]), O, G, MP_eq hC (by have lt_ := ltR_d 0 (inR xt 0 2); unfold jS_shelfBoth; rcases lt_ with lt_ | lt_ | lt_ <;> first | (rw [if_neg (by omega), lt_.1]; done) | (rw [if_pos (by omega), if_neg (by omega), lt_.1]; done) | (exfalso; omega)), rfl, Ext0 hO⟩)
    · replace b_10 := b_10.resolve_right (fun h => c11 h.1)
      refine q_iconst hx hb dX6_shelfBoth_15 ?_
      refine lv_goto (tgt := 20) hx hb dX6_shelfBoth_16 (by decide) ?_
      refine lv_iload_n hx hb dX6_shelfBoth_20 rfl (lv_at hl 3 rfl) ?_
      refine q_iconst hx hb dX6_shelfBoth_21 ?_
      refine q_iconst hx hb dX6_shelfBoth_22 ?_
      refine q_sS C0 lX6_41 (c_X6_isIn l D y L F xt 0 2 (by omega) (by omega) (by omega)) ⟨rfl, rfl⟩ rfl hP rfl hl rfl (Nat.le_of_ble_eq_true rfl) dX6_shelfBoth_23 ⟨Nat.zero_le _, Nat.zero_le _⟩ (fun r17 e_r17 => ?_)
      subst e_r17
      have b_18 := inR_d xt 0 2
      refine q_vMi C0 lX6_63 (c_X6_isLet l D y L F _ O G μ 1 (inR xt 0 2) hC (by omega) (by omega)) ⟨rfl, rfl⟩ rfl hP hD hS hA hC.1.1 hC.1.2 rfl rfl rfl hl rfl (Nat.le_of_ble_eq_true rfl) dX6_shelfBoth_26 ⟨Nat.le_of_ble_eq_true rfl, Nat.le_of_ble_eq_true rfl⟩ (fun r19 H locs L20 F20 hP hD hS hz20 hp20 => ?_)
      obtain ⟨eL, hC, er, hO1⟩ := hp20
      subst eL
      replace er := er.symm
      subst er
      have hO := hO.tr hO1
      have k_21 := okR_d 1 (inR xt 0 2)
      refine q_if_ne hx hb dX6_shelfBoth_29 (tgt := 34) (by decide) (by omega) (fun c22 => ?_) (fun c22 => ?_)
      · replace k_21 := k_21.resolve_right (fun h => c22 h.1)
        refine lv_iload_n hx hb dX6_shelfBoth_34 rfl (lv_at hl 1 rfl) ?_
        refine lv_iload_n hx hb dX6_shelfBoth_35 rfl (lv_at hl 2 rfl) ?_
        refine q_icmp_ne hx hb dX6_shelfBoth_36 (tgt := 44) (by decide) (by omega) (by omega) (fun c23 => ?_) (fun c23 => ?_)
        · refine q_iconst hx hb dX6_shelfBoth_44 ?_
          refine lv_istore (lv' := [(4, .int (iI 0)), (0, .ref ((ubg G))), (1, .int (iI xb)), (2, .int (iI xc)), (3, .int (iI xt))]) hx hb dX6_shelfBoth_45 hl (by decide) rfl (fun ls hl => ?_)
          refine q_iconst hx hb dX6_shelfBoth_47 ?_
          refine lv_istore (lv' := [(5, .int (iI 0)), (4, .int (iI 0)), (0, .ref ((ubg G))), (1, .int (iI xb)), (2, .int (iI xc)), (3, .int (iI xt))]) hx hb dX6_shelfBoth_48 hl (by decide) rfl (fun ls hl => ?_)
          have LP50 : ∀ (n_LP50 : Nat) (r : Int) (gv : Int → Int) (bv : Int) (a : Int) (Fv : Nat → va_E) (H : Heap) (locs : List Loc), (0 ≤ r ∧ r ≤ 100) → (va_P D vwCl (va_pl L Fv) H) → (va_D (AL L sz) (va_pl L Fv)) → (va_S (AL L sz) s.heap H locs) → (MP y L Fv O G (tM (tTh μ (ltR 1 (inR xt 0 2))) (vsh μ xb) gv bv)) → (OE O F Fv) → (sbX μ (vsh μ xb) (vsh μ xc) xt = itrP (sbU (vwk μ) (vsh μ xb) (vod μ (vsh μ xb)) (vod μ (vsh μ xc)) (vst μ (vsh μ xc)) xt) r 99 (gv, bv, a)) → (100 - r).toNat = n_LP50 → ∀ ls : Array Slot, lv_has ls 6 [(0, .ref ((ubg G))), (1, .int (iI xb)), (2, .int (iI xc)), (3, .int (iI xt)), (4, .int (iI a)), (5, .int (iI r))] → W p l e ({ frames := 2, cells := 0, slots := 0, locals := 45 } : Room) s m [.ref ((ubg G)), .int (iI xb), .int (iI xc), .int (iI xt)].toArray below meth c H locs 0 0 (MQ below (cMi D (AL L sz) (fun r L1 F1 => r = jR_shelfBoth μ xb xc xt ∧ ∃ (O1 : Nat → Prop) (G1 : MG), MP y L1 F1 O1 G1 (jS_shelfBoth μ xb xc xt) ∧ ubg G1 = ubg G ∧ Ext O O1 L L1 F F1)) [.ref ((ubg G)), .int (iI xb), .int (iI xc), .int (iI xt)].toArray s 0 0 (AL L sz)) (F0 m 50 ls []) := by
            intro n_LP50
            induction n_LP50 using Nat.strongRecOn with
            | ind n_LP50 ih_LP50 =>
              intro r gv bv a Fv H locs hr hP hD hS hC hO hI hm_LP50 ls hl
              refine lv_iload hx hb dX6_shelfBoth_50 (lv_at hl 5 rfl) ?_
              refine q_bipush hx hb dX6_shelfBoth_52 (by decide) ?_
              refine q_icmp_ge hx hb dX6_shelfBoth_54 (tgt := 113) (by decide) (by omega) (by omega) (fun c24 => ?_) (fun c24 => ?_)
              · refine lv_aload_n hx hb dX6_shelfBoth_113 rfl (lv_at hl 0 rfl) ?_
                refine lv_iload hx hb dX6_shelfBoth_114 (lv_at hl 4 rfl) ?_
                refine q_vMi C0 lX6_196 (c_X6_laid l D y L Fv _ O G (tM (tTh μ (ltR 1 (inR xt 0 2))) (vsh μ xb) gv bv) a hC) ⟨rfl, rfl⟩ rfl hP hD hS hA hC.1.1 hC.1.2 rfl rfl rfl hl rfl (Nat.le_of_ble_eq_true rfl) dX6_shelfBoth_116 ⟨Nat.le_of_ble_eq_true rfl, Nat.le_of_ble_eq_true rfl⟩ (fun r25 H locs L26 F26 hP hD hS hz26 hp26 => ?_)
                obtain ⟨eL, hC, er, hO1⟩ := hp26
                subst eL
                replace er : a = r25 := er.symm
                subst er
                have hO := hO.tr hO1
                exact q_retMi C0 hret rfl hlk dX6_shelfBoth_119 hP hD hS (⟨(by 
    have lt_ := ltR_d 1 (inR xt 0 2)
    unfold jR_shelfBoth ; (try rw [show ltR 1 (inR xt 0 2) = 0 by omega]); (repeat (first | rw [if_pos (by omega)] | rw [if_neg (by omega)])); rw [hI, itrP_e (by omega)]
    all_goals (first | rfl | omega)), O, G, MP_eq hC (by 
    have lt_ := ltR_d 1 (inR xt 0 2)
    unfold jS_shelfBoth tX; rw [show ltR 1 (inR xt 0 2) = 0 by omega]; (repeat (first | rw [if_pos (by omega)] | rw [if_neg (by omega)])); rw [hI, itrP_e (by omega)]
    all_goals rfl), rfl, Ext0 hO⟩)
              · refine lv_aload_n hx hb dX6_shelfBoth_57 rfl (lv_at hl 0 rfl) ?_
                refine q_get C0 iX6 hP hC.1.1 hC.1.2 rfl 1 (by decide) flX6_15 rfl (v := .ref ((uas G))) rfl dX6_shelfBoth_58 ?_
                refine lv_iload_n hx hb dX6_shelfBoth_61 rfl (lv_at hl 2 rfl) ?_
                refine q_aald C0 hP hC.2.2.1.1 hC.2.2.1.2 (t := 3) rfl (by omega) (by decide) (v := .ref ((urh G (vsh μ xc)))) rfl dX6_shelfBoth_62 ?_
                refine lv_iload hx hb dX6_shelfBoth_63 (lv_at hl 5 rfl) ?_
                refine q_vS C0 lX6_49 (c_X5_has l D y L Fv (urh G (vsh μ xc)) (urw G (vsh μ xc)) (vod μ (vsh μ xc)) (vst μ (vsh μ xc)) r (MP_rx hC (hW.2.1 xc) (rfl) (va_up_ne _ _ (fun e => absurd (hW.2.2.2.2.2.2.2.2.2.2 _ _ (by omega) (by omega) (by omega) (by omega) e) (by omega)))) (by omega)) ⟨rfl, rfl⟩ rfl hP (MP_rx hC (hW.2.1 xc) (rfl) (va_up_ne _ _ (fun e => absurd (hW.2.2.2.2.2.2.2.2.2.2 _ _ (by omega) (by omega) (by omega) (by omega) e) (by omega)))).1 (MP_rx hC (hW.2.1 xc) (rfl) (va_up_ne _ _ (fun e => absurd (hW.2.2.2.2.2.2.2.2.2.2 _ _ (by omega) (by omega) (by omega) (by omega) e) (by omega)))).2.1 rfl rfl rfl hl rfl (Nat.le_of_ble_eq_true rfl) dX6_shelfBoth_65 ⟨Nat.zero_le _, Nat.zero_le _⟩ (fun r27 e_r27 => ?_)
                subst e_r27
                have b_28 := isT_b (vst μ (vsh μ xc)) (turn (vod μ (vsh μ xc)) r)
                refine lv_iload_n hx hb dX6_shelfBoth_68 rfl (lv_at hl 3 rfl) ?_
                refine q_iconst hx hb dX6_shelfBoth_69 ?_
                refine q_icmp_eq hx hb dX6_shelfBoth_70 (tgt := 77) (by decide) (by omega) (by omega) (fun c29 => ?_) (fun c29 => ?_)
                · refine q_iconst hx hb dX6_shelfBoth_77 ?_
                  refine q_icmp_ne hx hb dX6_shelfBoth_78 (tgt := 107) (by decide) (by omega) (by omega) (fun c30 => ?_) (fun c30 => ?_)
                  · refine q_iinc (x := r) (n := 1) (lv' := [(5, .int (iI ((r + 1)))), (0, .ref ((ubg G))), (1, .int (iI xb)), (2, .int (iI xc)), (3, .int (iI xt)), (4, .int (iI a))]) hx hb dX6_shelfBoth_107 hl (k := 5) rfl (by decide) rfl (fun ls hl => ?_)
                    refine lv_goto (tgt := 50) hx hb dX6_shelfBoth_110 (by decide) ?_
                    exact ih_LP50 _ (by omega) (r + 1) gv bv a Fv _ _ (by omega) (hP) (hD) (hS) (hC) (hO) (by rw [hI, itrP_s (by omega)]; unfold sbU; (repeat' split) <;> first | rfl | (exfalso; omega)) rfl ls (lv_sub hl [1, 2, 3, 4, 5, 0] rfl)
                  · refine lv_iload hx hb dX6_shelfBoth_81 (lv_at hl 4 rfl) ?_
                    refine lv_aload_n hx hb dX6_shelfBoth_83 rfl (lv_at hl 0 rfl) ?_
                    refine lv_aload_n hx hb dX6_shelfBoth_84 rfl (lv_at hl 0 rfl) ?_
                    refine q_get C0 iX6 hP hC.1.1 hC.1.2 rfl 1 (by decide) flX6_15 rfl (v := .ref ((uas G))) rfl dX6_shelfBoth_85 ?_
                    refine lv_iload_n hx hb dX6_shelfBoth_88 rfl (lv_at hl 1 rfl) ?_
                    refine q_aald C0 hP hC.2.2.1.1 hC.2.2.1.2 (t := 3) rfl (by omega) (by decide) (v := .ref ((urh G (vsh μ xb)))) rfl dX6_shelfBoth_89 ?_
                    refine lv_iload hx hb dX6_shelfBoth_90 (lv_at hl 5 rfl) ?_
                    refine lv_iload_n hx hb dX6_shelfBoth_92 rfl (lv_at hl 3 rfl) ?_
                    refine q_if_ne hx hb dX6_shelfBoth_93 (tgt := 100) (by decide) (by omega) (fun c31 => ?_) (fun c31 => ?_)
                    · refine q_iconst hx hb dX6_shelfBoth_100 ?_
                      refine q_vMi C0 lX6_103 (c_X6_set l D y L Fv _ O G (tM (tTh μ (ltR 1 (inR xt 0 2))) (vsh μ xb) gv bv) (vsh μ xb) r (-1) hC (hW.2.1 xb) hW.2.2.2.1 (by omega) (by omega)) ⟨rfl, rfl⟩ rfl hP hD hS hA hC.1.1 hC.1.2 rfl rfl rfl hl rfl (Nat.le_of_ble_eq_true rfl) dX6_shelfBoth_101 ⟨Nat.le_of_ble_eq_true rfl, Nat.le_of_ble_eq_true rfl⟩ (fun r32 H locs L33 F33 hP hD hS hz33 hp33 => ?_)
                      obtain ⟨eL, hC, er, hO1⟩ := hp33
                      subst eL
                      rw [tM_st] at er
                      replace er : (seC gv (turn (vod μ (vsh μ xb)) r) (-1)) = r32 := er.symm
                      subst er
                      have hO := hO.tr hO1
                      replace hC := MP_eq hC (tSe_tM _ _ _ _ _ _)
                      refine q_iadd hx hb dX6_shelfBoth_104 ?_
                      refine lv_istore (lv' := [(4, .int (iI ((a + (seC gv (turn (vod μ (vsh μ xb)) r) (-1)))))), (0, .ref ((ubg G))), (1, .int (iI xb)), (2, .int (iI xc)), (3, .int (iI xt)), (5, .int (iI r))]) hx hb dX6_shelfBoth_105 hl (by decide) rfl (fun ls hl => ?_)
                      refine q_iinc (x := r) (n := 1) (lv' := [(5, .int (iI ((r + 1)))), (4, .int (iI ((a + (seC gv (turn (vod μ (vsh μ xb)) r) (-1)))))), (0, .ref ((ubg G))), (1, .int (iI xb)), (2, .int (iI xc)), (3, .int (iI xt))]) hx hb dX6_shelfBoth_107 hl (k := 5) rfl (by decide) rfl (fun ls hl => ?_)
                      refine lv_goto (tgt := 50) hx hb dX6_shelfBoth_110 (by decide) ?_
                      exact ih_LP50 _ (by omega) (r + 1) (iu gv (turn (vod μ (vsh μ xb)) r) (-1)) (seB (vwk μ) (vsh μ xb) gv (turn (vod μ (vsh μ xb)) r) (-1) bv) (a + (seC gv (turn (vod μ (vsh μ xb)) r) (-1))) F33 _ _ (by omega) (hP) (hD) (hS) (hC) (hO) (by rw [hI, itrP_s (by omega)]; unfold sbU; (repeat' split) <;> first | rfl | (exfalso; omega)) rfl ls (lv_sub hl [2, 3, 4, 5, 1, 0] rfl)
                    · refine q_iconst hx hb dX6_shelfBoth_96 ?_
                      refine lv_goto (tgt := 101) hx hb dX6_shelfBoth_97 (by decide) ?_
                      refine q_vMi C0 lX6_103 (c_X6_set l D y L Fv _ O G (tM (tTh μ (ltR 1 (inR xt 0 2))) (vsh μ xb) gv bv) (vsh μ xb) r 0 hC (hW.2.1 xb) hW.2.2.2.1 (by omega) (by omega)) ⟨rfl, rfl⟩ rfl hP hD hS hA hC.1.1 hC.1.2 rfl rfl rfl hl rfl (Nat.le_of_ble_eq_true rfl) dX6_shelfBoth_101 ⟨Nat.le_of_ble_eq_true rfl, Nat.le_of_ble_eq_true rfl⟩ (fun r34 H locs L35 F35 hP hD hS hz35 hp35 => ?_)
                      obtain ⟨eL, hC, er, hO1⟩ := hp35
                      subst eL
                      rw [tM_st] at er
                      replace er : (seC gv (turn (vod μ (vsh μ xb)) r) 0) = r34 := er.symm
                      subst er
                      have hO := hO.tr hO1
                      replace hC := MP_eq hC (tSe_tM _ _ _ _ _ _)
                      refine q_iadd hx hb dX6_shelfBoth_104 ?_
                      refine lv_istore (lv' := [(4, .int (iI ((a + (seC gv (turn (vod μ (vsh μ xb)) r) 0))))), (0, .ref ((ubg G))), (1, .int (iI xb)), (2, .int (iI xc)), (3, .int (iI xt)), (5, .int (iI r))]) hx hb dX6_shelfBoth_105 hl (by decide) rfl (fun ls hl => ?_)
                      refine q_iinc (x := r) (n := 1) (lv' := [(5, .int (iI ((r + 1)))), (4, .int (iI ((a + (seC gv (turn (vod μ (vsh μ xb)) r) 0))))), (0, .ref ((ubg G))), (1, .int (iI xb)), (2, .int (iI xc)), (3, .int (iI xt))]) hx hb dX6_shelfBoth_107 hl (k := 5) rfl (by decide) rfl (fun ls hl => ?_)
                      refine lv_goto (tgt := 50) hx hb dX6_shelfBoth_110 (by decide) ?_
                      exact ih_LP50 _ (by omega) (r + 1) (iu gv (turn (vod μ (vsh μ xb)) r) 0) (seB (vwk μ) (vsh μ xb) gv (turn (vod μ (vsh μ xb)) r) 0 bv) (a + (seC gv (turn (vod μ (vsh μ xb)) r) 0)) F35 _ _ (by omega) (hP) (hD) (hS) (hC) (hO) (by rw [hI, itrP_s (by omega)]; unfold sbU; (repeat' split) <;> first | rfl | (exfalso; omega)) rfl ls (lv_sub hl [2, 3, 4, 5, 1, 0] rfl)
                · refine q_iconst hx hb dX6_shelfBoth_73 ?_
                  refine lv_goto (tgt := 78) hx hb dX6_shelfBoth_74 (by decide) ?_
                  refine q_icmp_ne hx hb dX6_shelfBoth_78 (tgt := 107) (by decide) (by omega) (by omega) (fun c36 => ?_) (fun c36 => ?_)
                  · refine q_iinc (x := r) (n := 1) (lv' := [(5, .int (iI ((r + 1)))), (0, .ref ((ubg G))), (1, .int (iI xb)), (2, .int (iI xc)), (3, .int (iI xt)), (4, .int (iI a))]) hx hb dX6_shelfBoth_107 hl (k := 5) rfl (by decide) rfl (fun ls hl => ?_)
                    refine lv_goto (tgt := 50) hx hb dX6_shelfBoth_110 (by decide) ?_
                    exact ih_LP50 _ (by omega) (r + 1) gv bv a Fv _ _ (by omega) (hP) (hD) (hS) (hC) (hO) (by rw [hI, itrP_s (by omega)]; unfold sbU; (repeat' split) <;> first | rfl | (exfalso; omega)) rfl ls (lv_sub hl [1, 2, 3, 4, 5, 0] rfl)
                  · refine lv_iload hx hb dX6_shelfBoth_81 (lv_at hl 4 rfl) ?_
                    refine lv_aload_n hx hb dX6_shelfBoth_83 rfl (lv_at hl 0 rfl) ?_
                    refine lv_aload_n hx hb dX6_shelfBoth_84 rfl (lv_at hl 0 rfl) ?_
                    refine q_get C0 iX6 hP hC.1.1 hC.1.2 rfl 1 (by decide) flX6_15 rfl (v := .ref ((uas G))) rfl dX6_shelfBoth_85 ?_
                    refine lv_iload_n hx hb dX6_shelfBoth_88 rfl (lv_at hl 1 rfl) ?_
                    refine q_aald C0 hP hC.2.2.1.1 hC.2.2.1.2 (t := 3) rfl (by omega) (by decide) (v := .ref ((urh G (vsh μ xb)))) rfl dX6_shelfBoth_89 ?_
                    refine lv_iload hx hb dX6_shelfBoth_90 (lv_at hl 5 rfl) ?_
                    refine lv_iload_n hx hb dX6_shelfBoth_92 rfl (lv_at hl 3 rfl) ?_
                    refine q_if_ne hx hb dX6_shelfBoth_93 (tgt := 100) (by decide) (by omega) (fun c37 => ?_) (fun c37 => ?_)
                    · refine q_iconst hx hb dX6_shelfBoth_100 ?_
                      refine q_vMi C0 lX6_103 (c_X6_set l D y L Fv _ O G (tM (tTh μ (ltR 1 (inR xt 0 2))) (vsh μ xb) gv bv) (vsh μ xb) r (-1) hC (hW.2.1 xb) hW.2.2.2.1 (by omega) (by omega)) ⟨rfl, rfl⟩ rfl hP hD hS hA hC.1.1 hC.1.2 rfl rfl rfl hl rfl (Nat.le_of_ble_eq_true rfl) dX6_shelfBoth_101 ⟨Nat.le_of_ble_eq_true rfl, Nat.le_of_ble_eq_true rfl⟩ (fun r38 H locs L39 F39 hP hD hS hz39 hp39 => ?_)
                      obtain ⟨eL, hC, er, hO1⟩ := hp39
                      subst eL
                      rw [tM_st] at er
                      replace er : (seC gv (turn (vod μ (vsh μ xb)) r) (-1)) = r38 := er.symm
                      subst er
                      have hO := hO.tr hO1
                      replace hC := MP_eq hC (tSe_tM _ _ _ _ _ _)
                      refine q_iadd hx hb dX6_shelfBoth_104 ?_
                      refine lv_istore (lv' := [(4, .int (iI ((a + (seC gv (turn (vod μ (vsh μ xb)) r) (-1)))))), (0, .ref ((ubg G))), (1, .int (iI xb)), (2, .int (iI xc)), (3, .int (iI xt)), (5, .int (iI r))]) hx hb dX6_shelfBoth_105 hl (by decide) rfl (fun ls hl => ?_)
                      refine q_iinc (x := r) (n := 1) (lv' := [(5, .int (iI ((r + 1)))), (4, .int (iI ((a + (seC gv (turn (vod μ (vsh μ xb)) r) (-1)))))), (0, .ref ((ubg G))), (1, .int (iI xb)), (2, .int (iI xc)), (3, .int (iI xt))]) hx hb dX6_shelfBoth_107 hl (k := 5) rfl (by decide) rfl (fun ls hl => ?_)
                      refine lv_goto (tgt := 50) hx hb dX6_shelfBoth_110 (by decide) ?_
                      exact ih_LP50 _ (by omega) (r + 1) (iu gv (turn (vod μ (vsh μ xb)) r) (-1)) (seB (vwk μ) (vsh μ xb) gv (turn (vod μ (vsh μ xb)) r) (-1) bv) (a + (seC gv (turn (vod μ (vsh μ xb)) r) (-1))) F39 _ _ (by omega) (hP) (hD) (hS) (hC) (hO) (by rw [hI, itrP_s (by omega)]; unfold sbU; (repeat' split) <;> first | rfl | (exfalso; omega)) rfl ls (lv_sub hl [2, 3, 4, 5, 1, 0] rfl)
                    · refine q_iconst hx hb dX6_shelfBoth_96 ?_
                      refine lv_goto (tgt := 101) hx hb dX6_shelfBoth_97 (by decide) ?_
                      refine q_vMi C0 lX6_103 (c_X6_set l D y L Fv _ O G (tM (tTh μ (ltR 1 (inR xt 0 2))) (vsh μ xb) gv bv) (vsh μ xb) r 0 hC (hW.2.1 xb) hW.2.2.2.1 (by omega) (by omega)) ⟨rfl, rfl⟩ rfl hP hD hS hA hC.1.1 hC.1.2 rfl rfl rfl hl rfl (Nat.le_of_ble_eq_true rfl) dX6_shelfBoth_101 ⟨Nat.le_of_ble_eq_true rfl, Nat.le_of_ble_eq_true rfl⟩ (fun r40 H locs L41 F41 hP hD hS hz41 hp41 => ?_)
                      obtain ⟨eL, hC, er, hO1⟩ := hp41
                      subst eL
                      rw [tM_st] at er
                      replace er : (seC gv (turn (vod μ (vsh μ xb)) r) 0) = r40 := er.symm
                      subst er
                      have hO := hO.tr hO1
                      replace hC := MP_eq hC (tSe_tM _ _ _ _ _ _)
                      refine q_iadd hx hb dX6_shelfBoth_104 ?_
                      refine lv_istore (lv' := [(4, .int (iI ((a + (seC gv (turn (vod μ (vsh μ xb)) r) 0))))), (0, .ref ((ubg G))), (1, .int (iI xb)), (2, .int (iI xc)), (3, .int (iI xt)), (5, .int (iI r))]) hx hb dX6_shelfBoth_105 hl (by decide) rfl (fun ls hl => ?_)
                      refine q_iinc (x := r) (n := 1) (lv' := [(5, .int (iI ((r + 1)))), (4, .int (iI ((a + (seC gv (turn (vod μ (vsh μ xb)) r) 0))))), (0, .ref ((ubg G))), (1, .int (iI xb)), (2, .int (iI xc)), (3, .int (iI xt))]) hx hb dX6_shelfBoth_107 hl (k := 5) rfl (by decide) rfl (fun ls hl => ?_)
                      refine lv_goto (tgt := 50) hx hb dX6_shelfBoth_110 (by decide) ?_
                      exact ih_LP50 _ (by omega) (r + 1) (iu gv (turn (vod μ (vsh μ xb)) r) 0) (seB (vwk μ) (vsh μ xb) gv (turn (vod μ (vsh μ xb)) r) 0 bv) (a + (seC gv (turn (vod μ (vsh μ xb)) r) 0)) F41 _ _ (by omega) (hP) (hD) (hS) (hC) (hO) (by rw [hI, itrP_s (by omega)]; unfold sbU; (repeat' split) <;> first | rfl | (exfalso; omega)) rfl ls (lv_sub hl [2, 3, 4, 5, 1, 0] rfl)
          exact LP50 _ 0 (vst μ (vsh μ xb)) (vbr μ) 0 F20 _ _ (by omega) (hP) (hD) (hS) (MP_eq hC (tM_0 _ _)) (hO) (rfl) rfl ls (lv_sub hl [2, 3, 4, 5, 1, 0] rfl)
        · refine lv_aload_n hx hb dX6_shelfBoth_39 rfl (lv_at hl 0 rfl) ?_
          refine q_vMi C0 lX6_89 (c_X6_refuse l D y L F20 _ O G (tTh μ (ltR 1 (inR xt 0 2))) hC) ⟨rfl, rfl⟩ rfl hP hD hS hA hC.1.1 hC.1.2 rfl rfl rfl hl rfl (Nat.le_of_ble_eq_true rfl) dX6_shelfBoth_40 ⟨Nat.le_of_ble_eq_true rfl, Nat.le_of_ble_eq_true rfl⟩ (fun r42 H locs L43 F43 hP hD hS hz43 hp43 => ?_)
          obtain ⟨eL, hC, er, hO1⟩ := hp43
          subst eL
          replace er : (-9) = r42 := er.symm
          subst er
          have hO := hO.tr hO1
          exact q_retMi C0 hret rfl hlk dX6_shelfBoth_43 hP hD hS (⟨(by 
    have lt_ := ltR_d 1 (inR xt 0 2)
    unfold jR_shelfBoth ; (try rw [show ltR 1 (inR xt 0 2) = 0 by omega]); (repeat (first | rw [if_pos (by omega)] | rw [if_neg (by omega)]))
    all_goals (first | rfl | omega)), O, G, MP_eq hC (by 
    have lt_ := ltR_d 1 (inR xt 0 2)
    unfold jS_shelfBoth tX; rw [show ltR 1 (inR xt 0 2) = 0 by omega]; (repeat (first | rw [if_pos (by omega)] | rw [if_neg (by omega)]))
    all_goals rfl), rfl, Ext0 hO⟩)
      · replace k_21 := k_21.resolve_left (fun h => absurd (h.1.symm.trans c22) (by decide))
        refine q_iconst hx hb dX6_shelfBoth_32 ?_
        exact q_retMi C0 hret rfl hlk dX6_shelfBoth_33 hP hD hS (⟨(by unfold jR_shelfBoth; rw [if_neg (by omega)]), O, G, MP_eq hC (by have lt_ := ltR_d 1 (inR xt 0 2); unfold jS_shelfBoth; rcases lt_ with lt_ | lt_ | lt_ <;> first | (rw [if_neg (by omega), lt_.1]; done) | (rw [if_pos (by omega), if_neg (by omega), lt_.1]; done) | (exfalso; omega)), rfl, Ext0 hO⟩)
