set_option maxHeartbeats 3000000 in
set_option maxRecDepth 100000 in
theorem c_X6_pour (l : Launch) (D : va_G) (y : Nat → ClassId) (L : List Nat) (F : Nat → va_E) (sz : Nat) (O : Nat → Prop) (G : MG) (μ : MS) (xb : Int) (xc : Int) (hC : MP y L F O G μ) (hW : MW μ) (h_xb : -2147483648 ≤ xb ∧ xb ≤ 2147483647) (h_xc : -2147483648 ≤ xc ∧ xc ≤ 2147483647) : Met l yX6_pour (.code yX6_pour cX6_pour 5 (some .int) :: Tt) ({ frames := 2, cells := 0, slots := 0, locals := 45 }) (PcM D y L F sz [.ref ((ubg G)), .int (iI xb), .int (iI xc)]) (cMi D (AL L sz) (fun r L1 F1 => r = jR_pour μ xb xc ∧ ∃ (O1 : Nat → Prop) (G1 : MG), MP y L1 F1 O1 G1 (jS_pour μ xb xc) ∧ ubg G1 = ubg G ∧ Ext O O1 L L1 F F1)) 0 0 (AL L sz) := by
  have hO : OE O F F := fun _ _ => rfl
  have hw5 := hW.2.2.2.2.2.1
  have hw6 := hW.2.2.2.2.2.2.1
  have hw7 := hW.2.2.2.2.2.2.2.1
  refine q_ofM (lv := [(0, .ref ((ubg G))), (1, .int (iI xb)), (2, .int (iI xc))]) (by decide) (Nat.le_of_ble_eq_true rfl) rfl (fun p e s m below meth c C0 hret hlk hnm hA hP hD hS ls hl => ?_)
  have hx := C0.1.1
  have hb := C0.1.2.1
  have hts := C0.1.2.2.2.2
  refine lv_aload_n hx hb dX6_pour_0 rfl (lv_at hl 0 rfl) ?_
  refine lv_iload_n hx hb dX6_pour_1 rfl (lv_at hl 1 rfl) ?_
  refine q_sS C0 lX6_60 (c_X6_isBook l D y L F xb (by omega)) ⟨rfl, rfl⟩ rfl hP rfl hl rfl (Nat.le_of_ble_eq_true rfl) dX6_pour_2 ⟨Nat.zero_le _, Nat.zero_le _⟩ (fun r1 e_r1 => ?_)
  subst e_r1
  have b_2 := inR_d xb 0 3
  refine q_if_eq hx hb dX6_pour_5 (tgt := 19) (by decide) (by omega) (fun c3 => ?_) (fun c3 => ?_)
  · replace b_2 := b_2.resolve_left (fun h => absurd (h.1.symm.trans c3) (by decide))
    refine q_iconst hx hb dX6_pour_19 ?_
    refine q_iconst hx hb dX6_pour_20 ?_
    refine q_vMi C0 lX6_63 (c_X6_isLet l D y L F _ O G μ 0 1 hC (by omega) (by omega)) ⟨rfl, rfl⟩ rfl hP hD hS hA hC.1.1 hC.1.2 rfl rfl rfl hl rfl (Nat.le_of_ble_eq_true rfl) dX6_pour_21 ⟨Nat.le_of_ble_eq_true rfl, Nat.le_of_ble_eq_true rfl⟩ (fun r4 H locs L5 F5 hP hD hS hz5 hp5 => ?_)
    obtain ⟨eL, hC, er, hO1⟩ := hp5
    subst eL
    replace er := (er.trans (okR_z0 _)).symm
    subst er
    have hO := hO.tr hO1
    refine q_if_ne hx hb dX6_pour_24 (tgt := 29) (by decide) (by omega) (fun c6 => absurd c6 (by omega)) (fun c6 => ?_)
    refine q_iconst hx hb dX6_pour_27 ?_
    exact q_retMi C0 hret rfl hlk dX6_pour_28 hP hD hS (⟨(by unfold jR_pour; rw [if_neg (by omega)]), O, G, MP_eq hC (by have lt_ := ltR_d 0 1; unfold jS_pour; rcases lt_ with lt_ | lt_ | lt_ <;> first | (rw [if_neg (by omega), lt_.1]; done) | (rw [if_pos (by omega), if_neg (by omega), lt_.1]; done) | (exfalso; omega)), rfl, Ext0 hO⟩)
  · replace b_2 := b_2.resolve_right (fun h => c3 h.1)
    refine lv_iload_n hx hb dX6_pour_8 rfl (lv_at hl 2 rfl) ?_
    refine q_sS C0 lX6_60 (c_X6_isBook l D y L F xc (by omega)) ⟨rfl, rfl⟩ rfl hP rfl hl rfl (Nat.le_of_ble_eq_true rfl) dX6_pour_9 ⟨Nat.zero_le _, Nat.zero_le _⟩ (fun r7 e_r7 => ?_)
    subst e_r7
    have b_8 := inR_d xc 0 3
    refine q_if_eq hx hb dX6_pour_12 (tgt := 19) (by decide) (by omega) (fun c9 => ?_) (fun c9 => ?_)
    · replace b_8 := b_8.resolve_left (fun h => absurd (h.1.symm.trans c9) (by decide))
      refine q_iconst hx hb dX6_pour_19 ?_
      refine q_iconst hx hb dX6_pour_20 ?_
      refine q_vMi C0 lX6_63 (c_X6_isLet l D y L F _ O G μ 0 1 hC (by omega) (by omega)) ⟨rfl, rfl⟩ rfl hP hD hS hA hC.1.1 hC.1.2 rfl rfl rfl hl rfl (Nat.le_of_ble_eq_true rfl) dX6_pour_21 ⟨Nat.le_of_ble_eq_true rfl, Nat.le_of_ble_eq_true rfl⟩ (fun r10 H locs L11 F11 hP hD hS hz11 hp11 => ?_)
      obtain ⟨eL, hC, er, hO1⟩ := hp11
      subst eL
      replace er := (er.trans (okR_z0 _)).symm
      subst er
      have hO := hO.tr hO1
      refine q_if_ne hx hb dX6_pour_24 (tgt := 29) (by decide) (by omega) (fun c12 => absurd c12 (by omega)) (fun c12 => ?_)
      refine q_iconst hx hb dX6_pour_27 ?_
      exact q_retMi C0 hret rfl hlk dX6_pour_28 hP hD hS (⟨(by unfold jR_pour; rw [if_neg (by omega)]), O, G, MP_eq hC (by have lt_ := ltR_d 0 1; unfold jS_pour; rcases lt_ with lt_ | lt_ | lt_ <;> first | (rw [if_neg (by omega), lt_.1]; done) | (rw [if_pos (by omega), if_neg (by omega), lt_.1]; done) | (exfalso; omega)), rfl, Ext0 hO⟩)
    · replace b_8 := b_8.resolve_right (fun h => c9 h.1)
      refine q_iconst hx hb dX6_pour_15 ?_
      refine lv_goto (tgt := 20) hx hb dX6_pour_16 (by decide) ?_
      refine q_iconst hx hb dX6_pour_20 ?_
      refine q_vMi C0 lX6_63 (c_X6_isLet l D y L F _ O G μ 1 1 hC (by omega) (by omega)) ⟨rfl, rfl⟩ rfl hP hD hS hA hC.1.1 hC.1.2 rfl rfl rfl hl rfl (Nat.le_of_ble_eq_true rfl) dX6_pour_21 ⟨Nat.le_of_ble_eq_true rfl, Nat.le_of_ble_eq_true rfl⟩ (fun r13 H locs L14 F14 hP hD hS hz14 hp14 => ?_)
      obtain ⟨eL, hC, er, hO1⟩ := hp14
      subst eL
      replace er := er.symm
      subst er
      have hO := hO.tr hO1
      have k_15 := okR_d 1 1
      refine q_if_ne hx hb dX6_pour_24 (tgt := 29) (by decide) (by omega) (fun c16 => ?_) (fun c16 => ?_)
      · replace k_15 := k_15.resolve_right (fun h => c16 h.1)
        refine lv_iload_n hx hb dX6_pour_29 rfl (lv_at hl 1 rfl) ?_
        refine lv_iload_n hx hb dX6_pour_30 rfl (lv_at hl 2 rfl) ?_
        refine q_icmp_ne hx hb dX6_pour_31 (tgt := 39) (by decide) (by omega) (by omega) (fun c17 => ?_) (fun c17 => ?_)
        · refine lv_aload_n hx hb dX6_pour_39 rfl (lv_at hl 0 rfl) ?_
          refine lv_aload_n hx hb dX6_pour_40 rfl (lv_at hl 0 rfl) ?_
          refine q_get C0 iX6 hP hC.1.1 hC.1.2 rfl 0 (by decide) flX6_11 rfl (v := .ref ((uab G))) rfl dX6_pour_41 ?_
          refine lv_iload_n hx hb dX6_pour_44 rfl (lv_at hl 1 rfl) ?_
          refine q_aald C0 hP hC.2.1.1 hC.2.1.2 (t := 3) rfl (by omega) (by decide) (v := .ref ((urh G (vbk μ xb)))) rfl dX6_pour_45 ?_
          refine q_vMv C0 lX6_96 (c_X6_write l D y L F14 _ O G (tTh μ (ltR 1 1)) (vbk μ xb) hC (hW.1 xb) hW.2.2.2.1) ⟨rfl, rfl⟩ rfl hP hD hS hA hC.1.1 hC.1.2 rfl rfl rfl hl rfl (Nat.le_of_ble_eq_true rfl) dX6_pour_46 ⟨Nat.le_of_ble_eq_true rfl, Nat.le_of_ble_eq_true rfl⟩ (fun _ H locs L19 F19 hP hD hS hz19 hp19 => ?_)
          obtain ⟨eL, hC, er, hO1⟩ := hp19
          subst eL
          have hO := hO.tr hO1
          refine q_iconst hx hb dX6_pour_49 ?_
          refine lv_istore_n (lv' := [(3, .int (iI 0)), (0, .ref ((ubg G))), (1, .int (iI xb)), (2, .int (iI xc))]) hx hb dX6_pour_50 rfl hl (by decide) rfl (fun ls hl => ?_)
          refine q_iconst hx hb dX6_pour_51 ?_
          refine lv_istore (lv' := [(4, .int (iI 0)), (3, .int (iI 0)), (0, .ref ((ubg G))), (1, .int (iI xb)), (2, .int (iI xc))]) hx hb dX6_pour_52 hl (by decide) rfl (fun ls hl => ?_)
          have LP54 : ∀ (n_LP54 : Nat) (r : Int) (gv : Int → Int) (bv : Int) (a : Int) (Fv : Nat → va_E) (H : Heap) (locs : List Loc), (0 ≤ r ∧ r ≤ 100) → (va_P D vwCl (va_pl L Fv) H) → (va_D (AL L sz) (va_pl L Fv)) → (va_S (AL L sz) s.heap H locs) → (MP y L Fv O G (tM (tWr (tTh μ (ltR 1 1)) (vbk μ xb)) (vbk μ xb) gv bv)) → (OE O F Fv) → (paX μ (vbk μ xb) (vbk μ xc) = itrP (paU (vwk μ) (vbk μ xb) (vod μ (vbk μ xb)) (vod μ (vbk μ xc)) (vst μ (vbk μ xc))) r 99 (gv, bv, a)) → (100 - r).toNat = n_LP54 → ∀ ls : Array Slot, lv_has ls 5 [(0, .ref ((ubg G))), (1, .int (iI xb)), (2, .int (iI xc)), (3, .int (iI a)), (4, .int (iI r))] → W p l e ({ frames := 2, cells := 0, slots := 0, locals := 45 } : Room) s m [.ref ((ubg G)), .int (iI xb), .int (iI xc)].toArray below meth c H locs 0 0 (MQ below (cMi D (AL L sz) (fun r L1 F1 => r = jR_pour μ xb xc ∧ ∃ (O1 : Nat → Prop) (G1 : MG), MP y L1 F1 O1 G1 (jS_pour μ xb xc) ∧ ubg G1 = ubg G ∧ Ext O O1 L L1 F F1)) [.ref ((ubg G)), .int (iI xb), .int (iI xc)].toArray s 0 0 (AL L sz)) (F0 m 54 ls []) := by
            intro n_LP54
            induction n_LP54 using Nat.strongRecOn with
            | ind n_LP54 ih_LP54 =>
              intro r gv bv a Fv H locs hr hP hD hS hC hO hI hm_LP54 ls hl
              refine lv_iload hx hb dX6_pour_54 (lv_at hl 4 rfl) ?_
              refine q_bipush hx hb dX6_pour_56 (by decide) ?_
              refine q_icmp_ge hx hb dX6_pour_58 (tgt := 108) (by decide) (by omega) (by omega) (fun c20 => ?_) (fun c20 => ?_)
              · refine lv_aload_n hx hb dX6_pour_108 rfl (lv_at hl 0 rfl) ?_
                refine lv_iload_n hx hb dX6_pour_109 rfl (lv_at hl 3 rfl) ?_
                refine q_vMi C0 lX6_71 (c_X6_did l D y L Fv _ O G (tM (tWr (tTh μ (ltR 1 1)) (vbk μ xb)) (vbk μ xb) gv bv) a hC) ⟨rfl, rfl⟩ rfl hP hD hS hA hC.1.1 hC.1.2 rfl rfl rfl hl rfl (Nat.le_of_ble_eq_true rfl) dX6_pour_110 ⟨Nat.le_of_ble_eq_true rfl, Nat.le_of_ble_eq_true rfl⟩ (fun r21 H locs L22 F22 hP hD hS hz22 hp22 => ?_)
                obtain ⟨eL, hC, er, hO1⟩ := hp22
                subst eL
                replace er : a = r21 := er.symm
                subst er
                have hO := hO.tr hO1
                exact q_retMi C0 hret rfl hlk dX6_pour_113 hP hD hS (⟨(by 
    have lt_ := ltR_d 1 1
    unfold jR_pour ; (try rw [show ltR 1 1 = 0 by omega]); (repeat (first | rw [if_pos (by omega)] | rw [if_neg (by omega)])); rw [hI, itrP_e (by omega)]
    all_goals (first | rfl | omega)), O, G, MP_eq hC (by 
    have lt_ := ltR_d 1 1
    unfold jS_pour tX; rw [show ltR 1 1 = 0 by omega]; (repeat (first | rw [if_pos (by omega)] | rw [if_neg (by omega)])); rw [hI, itrP_e (by omega)]
    all_goals rfl), rfl, Ext0 hO⟩)
              · refine lv_aload_n hx hb dX6_pour_61 rfl (lv_at hl 0 rfl) ?_
                refine q_get C0 iX6 hP hC.1.1 hC.1.2 rfl 0 (by decide) flX6_11 rfl (v := .ref ((uab G))) rfl dX6_pour_62 ?_
                refine lv_iload_n hx hb dX6_pour_65 rfl (lv_at hl 2 rfl) ?_
                refine q_aald C0 hP hC.2.1.1 hC.2.1.2 (t := 3) rfl (by omega) (by decide) (v := .ref ((urh G (vbk μ xc)))) rfl dX6_pour_66 ?_
                refine lv_iload hx hb dX6_pour_67 (lv_at hl 4 rfl) ?_
                refine q_vS C0 lX6_49 (c_X5_has l D y L Fv (urh G (vbk μ xc)) (urw G (vbk μ xc)) (vod μ (vbk μ xc)) (vst μ (vbk μ xc)) r (MP_rx hC (hW.1 xc) (rfl) (va_up_ne _ _ (fun e => absurd (hW.2.2.2.2.2.2.2.2.2.1 _ _ (by omega) (by omega) (by omega) (by omega) e) (by omega)))) (by omega)) ⟨rfl, rfl⟩ rfl hP (MP_rx hC (hW.1 xc) (rfl) (va_up_ne _ _ (fun e => absurd (hW.2.2.2.2.2.2.2.2.2.1 _ _ (by omega) (by omega) (by omega) (by omega) e) (by omega)))).1 (MP_rx hC (hW.1 xc) (rfl) (va_up_ne _ _ (fun e => absurd (hW.2.2.2.2.2.2.2.2.2.1 _ _ (by omega) (by omega) (by omega) (by omega) e) (by omega)))).2.1 rfl rfl rfl hl rfl (Nat.le_of_ble_eq_true rfl) dX6_pour_69 ⟨Nat.zero_le _, Nat.zero_le _⟩ (fun r23 e_r23 => ?_)
                subst e_r23
                have b_24 := isT_b (vst μ (vbk μ xc)) (turn (vod μ (vbk μ xc)) r)
                refine q_if_eq hx hb dX6_pour_72 (tgt := 102) (by decide) (by omega) (fun c25 => ?_) (fun c25 => ?_)
                · refine q_iinc (x := r) (n := 1) (lv' := [(4, .int (iI ((r + 1)))), (0, .ref ((ubg G))), (1, .int (iI xb)), (2, .int (iI xc)), (3, .int (iI a))]) hx hb dX6_pour_102 hl (k := 4) rfl (by decide) rfl (fun ls hl => ?_)
                  refine lv_goto (tgt := 54) hx hb dX6_pour_105 (by decide) ?_
                  exact ih_LP54 _ (by omega) (r + 1) gv bv a Fv _ _ (by omega) (hP) (hD) (hS) (hC) (hO) (by rw [hI, itrP_s (by omega)]; unfold paU; first | (rw [if_pos (by omega)]; done) | (rw [if_neg (by omega)]; done) | (rw [if_pos (by omega)]; rfl) | (rw [if_neg (by omega)]; rfl) | rfl) rfl ls (lv_sub hl [1, 2, 3, 4, 0] rfl)
                · refine lv_iload_n hx hb dX6_pour_75 rfl (lv_at hl 3 rfl) ?_
                  refine lv_aload_n hx hb dX6_pour_76 rfl (lv_at hl 0 rfl) ?_
                  refine lv_aload_n hx hb dX6_pour_77 rfl (lv_at hl 0 rfl) ?_
                  refine q_get C0 iX6 hP hC.1.1 hC.1.2 rfl 0 (by decide) flX6_11 rfl (v := .ref ((uab G))) rfl dX6_pour_78 ?_
                  refine lv_iload_n hx hb dX6_pour_81 rfl (lv_at hl 1 rfl) ?_
                  refine q_aald C0 hP hC.2.1.1 hC.2.1.2 (t := 3) rfl (by omega) (by decide) (v := .ref ((urh G (vbk μ xb)))) rfl dX6_pour_82 ?_
                  refine lv_iload hx hb dX6_pour_83 (lv_at hl 4 rfl) ?_
                  refine lv_aload_n hx hb dX6_pour_85 rfl (lv_at hl 0 rfl) ?_
                  refine q_get C0 iX6 hP hC.1.1 hC.1.2 rfl 0 (by decide) flX6_11 rfl (v := .ref ((uab G))) rfl dX6_pour_86 ?_
                  refine lv_iload_n hx hb dX6_pour_89 rfl (lv_at hl 2 rfl) ?_
                  refine q_aald C0 hP hC.2.1.1 hC.2.1.2 (t := 3) rfl (by omega) (by decide) (v := .ref ((urh G (vbk μ xc)))) rfl dX6_pour_90 ?_
                  refine q_getN C0 iX5 hP (MP_rx hC (hW.1 xc) (rfl) (va_up_ne _ _ (fun e => absurd (hW.2.2.2.2.2.2.2.2.2.1 _ _ (by omega) (by omega) (by omega) (by omega) e) (by omega)))).1 (MP_rx hC (hW.1 xc) (rfl) (va_up_ne _ _ (fun e => absurd (hW.2.2.2.2.2.2.2.2.2.1 _ _ (by omega) (by omega) (by omega) (by omega) e) (by omega)))).2.1 rfl 1 (by decide) C0.2.2.2.2.2.2.1 rfl (v := .ref ((urw G (vbk μ xc)))) rfl dX6_pour_91 ?_
                  refine lv_iload hx hb dX6_pour_94 (lv_at hl 4 rfl) ?_
                  refine q_iald C0 hP (f := (mwd (vod μ (vbk μ xc)) (vst μ (vbk μ xc)))) (MP_rx hC (hW.1 xc) (rfl) (va_up_ne _ _ (fun e => absurd (hW.2.2.2.2.2.2.2.2.2.1 _ _ (by omega) (by omega) (by omega) (by omega) e) (by omega)))).2.2.1 (MP_rx hC (hW.1 xc) (rfl) (va_up_ne _ _ (fun e => absurd (hW.2.2.2.2.2.2.2.2.2.1 _ _ (by omega) (by omega) (by omega) (by omega) e) (by omega)))).2.2.2.1 (by omega) (by decide) dX6_pour_96 ?_
                  have b_26 := (fun k => show -1 ≤ mwd (vod μ (vbk μ xc)) (vst μ (vbk μ xc)) k ∧ mwd (vod μ (vbk μ xc)) (vst μ (vbk μ xc)) k ≤ 99 from (MP_rx hC (hW.1 xc) (rfl) (va_up_ne _ _ (fun e => absurd (hW.2.2.2.2.2.2.2.2.2.1 _ _ (by omega) (by omega) (by omega) (by omega) e) (by omega)))).2.2.2.2.2 (turn (vod μ (vbk μ xc)) k)) r
                  refine q_vMi C0 lX6_103 (c_X6_set l D y L Fv _ O G (tM (tWr (tTh μ (ltR 1 1)) (vbk μ xb)) (vbk μ xb) gv bv) (vbk μ xb) r ((mwd (vod μ (vbk μ xc)) (vst μ (vbk μ xc))) r) hC (hW.1 xb) hW.2.2.2.1 (by omega) (by omega)) ⟨rfl, rfl⟩ rfl hP hD hS hA hC.1.1 hC.1.2 rfl rfl rfl hl rfl (Nat.le_of_ble_eq_true rfl) dX6_pour_97 ⟨Nat.le_of_ble_eq_true rfl, Nat.le_of_ble_eq_true rfl⟩ (fun r27 H locs L28 F28 hP hD hS hz28 hp28 => ?_)
                  obtain ⟨eL, hC, er, hO1⟩ := hp28
                  subst eL
                  rw [tM_st] at er
                  replace er : (seC gv (turn (vod μ (vbk μ xb)) r) ((mwd (vod μ (vbk μ xc)) (vst μ (vbk μ xc))) r)) = r27 := er.symm
                  subst er
                  have hO := hO.tr hO1
                  replace hC := MP_eq hC (tSe_tM _ _ _ _ _ _)
                  refine q_iadd hx hb dX6_pour_100 ?_
                  refine lv_istore_n (lv' := [(3, .int (iI ((a + (seC gv (turn (vod μ (vbk μ xb)) r) ((mwd (vod μ (vbk μ xc)) (vst μ (vbk μ xc))) r)))))), (0, .ref ((ubg G))), (1, .int (iI xb)), (2, .int (iI xc)), (4, .int (iI r))]) hx hb dX6_pour_101 rfl hl (by decide) rfl (fun ls hl => ?_)
                  refine q_iinc (x := r) (n := 1) (lv' := [(4, .int (iI ((r + 1)))), (3, .int (iI ((a + (seC gv (turn (vod μ (vbk μ xb)) r) ((mwd (vod μ (vbk μ xc)) (vst μ (vbk μ xc))) r)))))), (0, .ref ((ubg G))), (1, .int (iI xb)), (2, .int (iI xc))]) hx hb dX6_pour_102 hl (k := 4) rfl (by decide) rfl (fun ls hl => ?_)
                  refine lv_goto (tgt := 54) hx hb dX6_pour_105 (by decide) ?_
                  exact ih_LP54 _ (by omega) (r + 1) (iu gv (turn (vod μ (vbk μ xb)) r) ((mwd (vod μ (vbk μ xc)) (vst μ (vbk μ xc))) r)) (seB (vwk μ) (vbk μ xb) gv (turn (vod μ (vbk μ xb)) r) ((mwd (vod μ (vbk μ xc)) (vst μ (vbk μ xc))) r) bv) (a + (seC gv (turn (vod μ (vbk μ xb)) r) ((mwd (vod μ (vbk μ xc)) (vst μ (vbk μ xc))) r))) F28 _ _ (by omega) (hP) (hD) (hS) (hC) (hO) (by rw [hI, itrP_s (by omega)]; unfold paU; first | (rw [if_pos (by omega)]; done) | (rw [if_neg (by omega)]; done) | (rw [if_pos (by omega)]; rfl) | (rw [if_neg (by omega)]; rfl) | rfl) rfl ls (lv_sub hl [2, 3, 4, 1, 0] rfl)
          exact LP54 _ 0 (vst μ (vbk μ xb)) (vbr μ) 0 F19 _ _ (by omega) (hP) (hD) (hS) (MP_eq hC (tM_0 _ _)) (hO) (rfl) rfl ls (lv_sub hl [2, 3, 4, 1, 0] rfl)
        · refine lv_aload_n hx hb dX6_pour_34 rfl (lv_at hl 0 rfl) ?_
          refine q_vMi C0 lX6_89 (c_X6_refuse l D y L F14 _ O G (tTh μ (ltR 1 1)) hC) ⟨rfl, rfl⟩ rfl hP hD hS hA hC.1.1 hC.1.2 rfl rfl rfl hl rfl (Nat.le_of_ble_eq_true rfl) dX6_pour_35 ⟨Nat.le_of_ble_eq_true rfl, Nat.le_of_ble_eq_true rfl⟩ (fun r29 H locs L30 F30 hP hD hS hz30 hp30 => ?_)
          obtain ⟨eL, hC, er, hO1⟩ := hp30
          subst eL
          replace er : (-9) = r29 := er.symm
          subst er
          have hO := hO.tr hO1
          exact q_retMi C0 hret rfl hlk dX6_pour_38 hP hD hS (⟨(by 
    have lt_ := ltR_d 1 1
    unfold jR_pour ; (try rw [show ltR 1 1 = 0 by omega]); (repeat (first | rw [if_pos (by omega)] | rw [if_neg (by omega)]))
    all_goals (first | rfl | omega)), O, G, MP_eq hC (by 
    have lt_ := ltR_d 1 1
    unfold jS_pour tX; rw [show ltR 1 1 = 0 by omega]; (repeat (first | rw [if_pos (by omega)] | rw [if_neg (by omega)]))
    all_goals rfl), rfl, Ext0 hO⟩)
      · replace k_15 := k_15.resolve_left (fun h => absurd (h.1.symm.trans c16) (by decide))
        refine q_iconst hx hb dX6_pour_27 ?_
        exact q_retMi C0 hret rfl hlk dX6_pour_28 hP hD hS (⟨(by unfold jR_pour; rw [if_neg (by omega)]), O, G, MP_eq hC (by have lt_ := ltR_d 1 1; unfold jS_pour; rcases lt_ with lt_ | lt_ | lt_ <;> first | (rw [if_neg (by omega), lt_.1]; done) | (rw [if_pos (by omega), if_neg (by omega), lt_.1]; done) | (exfalso; omega)), rfl, Ext0 hO⟩)
