set_option maxHeartbeats 3000000 in
set_option maxRecDepth 100000 in
theorem c_X6_pour (l : Launch) (D : va_G) (y : Nat → ClassId) (L : List Nat) (F : Nat → va_E) (sz : Nat) (O : Nat → Prop) (G : MG) (μ : MS) (xb : Int) (xc : Int) (hC : MP y L F O G μ) (hW : MW μ) (h_xb : -2147483648 ≤ xb ∧ xb ≤ 2147483647) (h_xc : -2147483648 ≤ xc ∧ xc ≤ 2147483647) : Met l yX6_pour (.code yX6_pour cX6_pour 5 (some .int) :: Tt) ({ frames := 2, cells := 0, slots := 0, locals := 45 }) (PcM D y L F sz [.ref ((ubg G)), .int (iI xb), .int (iI xc)]) (cMi D (AL L sz) (fun r L1 F1 => r = jR_pour μ xb xc ∧ ∃ (O1 : Nat → Prop) (G1 : MG), MP y L1 F1 O1 G1 (jS_pour μ xb xc) ∧ ubg G1 = ubg G ∧ Ext O O1 L L1 F F1)) 0 0 (AL L sz) := by
  have hO : OE O F F := fun _ _ => rfl
  have hw5 := hW.2.2.2.2.2.1
  have hw6 := hW.2.2.2.2.2.2.1
  have hw7 := hW.2.2.2.2.2.2.2.1
  refine q_ofM (lv := [(0, .ref ((ubg G))), (1, .int (iI xb)), (2, .int (iI xc))]) (by decide) (Nat.le_of_ble_eq_true rfl) rfl (fun p e s m below meth c C0 hret hlk hnm hA hP hD hS ls hl => ?_)
  have hx := C0.1.1
  have hb := C0.1.2.1
  have hts := C0.1.2.2.2.2
  refine lv_aload_n hx hb dX6_pour_0 rfl (lv_at hl 0 rfl) ?_
  refine lv_iload_n hx hb dX6_pour_1 rfl (lv_at hl 1 rfl) ?_
  refine q_sS C0 lX6_60 (c_X6_isBook l D y L F xb (by omega)) ⟨rfl, rfl⟩ rfl hP rfl hl rfl (Nat.le_of_ble_eq_true rfl) dX6_pour_2 ⟨Nat.zero_le _, Nat.zero_le _⟩ (fun r1 e_r1 => ?_)
  subst e_r1
  have b_2 := inR_d xb 0 3
  refine q_if_eq hx hb dX6_pour_5 (tgt := 19) (by decide) (by omega) (fun c3 => ?_) (fun c3 => ?_)
  · replace b_2 := b_2.resolve_left (fun h => absurd (h.1.symm.trans c3) (by decide))
    refine q_iconst hx hb dX6_pour_19 ?_
    refine q_iconst hx hb dX6_pour_20 ?_
    refine q_vMi C0 lX6_63 (c_X6_isLet l D y L F _ O G μ 0 1 hC (by omega) (by omega)) ⟨rfl, rfl⟩ rfl hP hD hS hA hC.1.1 hC.1.2 rfl rfl rfl hl rfl (Nat.le_of_ble_eq_true rfl) dX6_pour_21 ⟨Nat.le_of_ble_eq_true rfl, Nat.le_of_ble_eq_true rfl⟩ (fun r4 H locs L5 F5 hP hD hS hz5 hp5 => ?_)
    obtain ⟨eL, hC, er, hO1⟩ := hp5
    subst eL
    replace er := (er.trans (okR_z0 _)).symm
    subst er
    have hO := hO.tr hO1
    refine q_if_ne hx hb dX6_pour_24 (tgt := 29) (by decide) (by omega) (fun c6 => absurd c6 (by omega)) (fun c6 => ?_)
    refine q_iconst hx hb dX6_pour_27 ?_
    exact q_retMi C0 hret rfl hlk dX6_pour_28 hP hD hS (⟨(by unfold jR_pour; rw [if_neg (by omega)]), O, G, MP_eq hC (by unfold jS_pour; rw [if_neg (by omega)]; first | done | rfl), rfl, Ext0 hO⟩)
  · replace b_2 := b_2.resolve_right (fun h => c3 h.1)
    refine lv_iload_n hx hb dX6_pour_8 rfl (lv_at hl 2 rfl) ?_
    refine q_sS C0 lX6_60 (c_X6_isBook l D y L F xc (by omega)) ⟨rfl, rfl⟩ rfl hP rfl hl rfl (Nat.le_of_ble_eq_true rfl) dX6_pour_9 ⟨Nat.zero_le _, Nat.zero_le _⟩ (fun r7 e_r7 => ?_)
    subst e_r7
    have b_8 := inR_d xc 0 3
    refine q_if_eq hx hb dX6_pour_12 (tgt := 19) (by decide) (by omega) (fun c9 => ?_) (fun c9 => ?_)
    · replace b_8 := b_8.resolve_left (fun h => absurd (h.1.symm.trans c9) (by decide))
      refine q_iconst hx hb dX6_pour_19 ?_
      refine q_iconst hx hb dX6_pour_20 ?_
      refine q_vMi C0 lX6_63 (c_X6_isLet l D y L F _ O G μ 0 1 hC (by omega) (by omega)) ⟨rfl, rfl⟩ rfl hP hD hS hA hC.1.1 hC.1.2 rfl rfl rfl hl rfl (Nat.le_of_ble_eq_true rfl) dX6_pour_21 ⟨Nat.le_of_ble_eq_true rfl, Nat.le_of_ble_eq_true rfl⟩ (fun r10 H locs L11 F11 hP hD hS hz11 hp11 => ?_)
      obtain ⟨eL, hC, er, hO1⟩ := hp11
      subst eL
      replace er := (er.trans (okR_z0 _)).symm
      subst er
      have hO := hO.tr hO1
      refine q_if_ne hx hb dX6_pour_24 (tgt := 29) (by decide) (by omega) (fun c12 => absurd c12 (by omega)) (fun c12 => ?_)
      refine q_iconst hx hb dX6_pour_27 ?_
      exact q_retMi C0 hret rfl hlk dX6_pour_28 hP hD hS (⟨(by unfold jR_pour; rw [if_neg (by omega)]), O, G, MP_eq hC (by unfold jS_pour; rw [if_neg (by omega)]; first | done | rfl), rfl, Ext0 hO⟩)
    · replace b_8 := b_8.resolve_right (fun h => c9 h.1)
      refine q_iconst hx hb dX6_pour_15 ?_
      refine lv_goto (tgt := 20) hx hb dX6_pour_16 (by decide) ?_
      refine q_iconst hx hb dX6_pour_20 ?_
      refine q_vMi C0 lX6_63 (c_X6_isLet l D y L F _ O G μ 1 1 hC (by omega) (by omega)) ⟨rfl, rfl⟩ rfl hP hD hS hA hC.1.1 hC.1.2 rfl rfl rfl hl rfl (Nat.le_of_ble_eq_true rfl) dX6_pour_21 ⟨Nat.le_of_ble_eq_true rfl, Nat.le_of_ble_eq_true rfl⟩ (fun r13 H locs L14 F14 hP hD hS hz14 hp14 => ?_)
      obtain ⟨eL, hC, er, hO1⟩ := hp14
      subst eL
      replace er := (er.trans (show okR 1 1 = 1 from rfl)).symm
      subst er
      have hO := hO.tr hO1
      refine q_if_ne hx hb dX6_pour_24 (tgt := 29) (by decide) (by omega) (fun c15 => ?_) (fun c15 => absurd c15 (by omega))
      refine lv_iload_n hx hb dX6_pour_29 rfl (lv_at hl 1 rfl) ?_
      refine lv_iload_n hx hb dX6_pour_30 rfl (lv_at hl 2 rfl) ?_
      refine q_icmp_ne hx hb dX6_pour_31 (tgt := 39) (by decide) (by omega) (by omega) (fun c16 => ?_) (fun c16 => ?_)
      · refine lv_aload_n hx hb dX6_pour_39 rfl (lv_at hl 0 rfl) ?_
        refine lv_aload_n hx hb dX6_pour_40 rfl (lv_at hl 0 rfl) ?_
        refine q_get C0 iX6 hP hC.1.1 hC.1.2 rfl 0 (by decide) flX6_11 rfl (v := .ref ((uab G))) rfl dX6_pour_41 ?_
        refine lv_iload_n hx hb dX6_pour_44 rfl (lv_at hl 1 rfl) ?_
        refine q_aald C0 hP hC.2.1.1 hC.2.1.2 (t := 3) rfl (by omega) (by decide) (v := .ref ((urh G (vbk μ xb)))) rfl dX6_pour_45 ?_
        refine q_vMv C0 lX6_96 (c_X6_write l D y L F14 _ O G (tTh μ (ltR 1 1)) (vbk μ xb) hC (hW.1 xb) hW.2.2.2.1) ⟨rfl, rfl⟩ rfl hP hD hS hA hC.1.1 hC.1.2 rfl rfl rfl hl rfl (Nat.le_of_ble_eq_true rfl) dX6_pour_46 ⟨Nat.le_of_ble_eq_true rfl, Nat.le_of_ble_eq_true rfl⟩ (fun _ H locs L18 F18 hP hD hS hz18 hp18 => ?_)
        obtain ⟨eL, hC, er, hO1⟩ := hp18
        subst eL
        have hO := hO.tr hO1
        refine q_iconst hx hb dX6_pour_49 ?_
        refine lv_istore_n (lv' := [(3, .int (iI 0)), (0, .ref ((ubg G))), (1, .int (iI xb)), (2, .int (iI xc))]) hx hb dX6_pour_50 rfl hl (by decide) rfl (fun ls hl => ?_)
        refine q_iconst hx hb dX6_pour_51 ?_
        refine lv_istore (lv' := [(4, .int (iI 0)), (3, .int (iI 0)), (0, .ref ((ubg G))), (1, .int (iI xb)), (2, .int (iI xc))]) hx hb dX6_pour_52 hl (by decide) rfl (fun ls hl => ?_)
        have LP54 : ∀ (n_LP54 : Nat) (r : Int) (gv : Int → Int) (bv : Int) (a : Int) (Fv : Nat → va_E) (H : Heap) (locs : List Loc), (0 ≤ r ∧ r ≤ 100) → (va_P D vwCl (va_pl L Fv) H) → (va_D (AL L sz) (va_pl L Fv)) → (va_S (AL L sz) s.heap H locs) → (MP y L Fv O G (tM (tWr (tTh μ (ltR 1 1)) (vbk μ xb)) (vbk μ xb) gv bv)) → (OE O F Fv) → (paX μ (vbk μ xb) (vbk μ xc) = itrP (paU (vwk μ) (vbk μ xb) (vod μ (vbk μ xb)) (vod μ (vbk μ xc)) (vst μ (vbk μ xc))) r 99 (gv, bv, a)) → (100 - r).toNat = n_LP54 → ∀ ls : Array Slot, lv_has ls 5 [(0, .ref ((ubg G))), (1, .int (iI xb)), (2, .int (iI xc)), (3, .int (iI a)), (4, .int (iI r))] → W p l e ({ frames := 2, cells := 0, slots := 0, locals := 45 } : Room) s m [.ref ((ubg G)), .int (iI xb), .int (iI xc)].toArray below meth c H locs 0 0 (MQ below (cMi D (AL L sz) (fun r L1 F1 => r = jR_pour μ xb xc ∧ ∃ (O1 : Nat → Prop) (G1 : MG), MP y L1 F1 O1 G1 (jS_pour μ xb xc) ∧ ubg G1 = ubg G ∧ Ext O O1 L L1 F F1)) [.ref ((ubg G)), .int (iI xb), .int (iI xc)].toArray s 0 0 (AL L sz)) (F0 m 54 ls []) := by
          intro n_LP54
          induction n_LP54 using Nat.strongRecOn with
          | ind n_LP54 ih_LP54 =>
            intro r gv bv a Fv H locs hr hP hD hS hC hO hI hm_LP54 ls hl
            refine lv_iload hx hb dX6_pour_54 (lv_at hl 4 rfl) ?_
            refine q_bipush hx hb dX6_pour_56 (by decide) ?_
            refine q_icmp_ge hx hb dX6_pour_58 (tgt := 108) (by decide) (by omega) (by omega) (fun c19 => ?_) (fun c19 => ?_)
            · refine lv_aload_n hx hb dX6_pour_108 rfl (lv_at hl 0 rfl) ?_
              refine lv_iload_n hx hb dX6_pour_109 rfl (lv_at hl 3 rfl) ?_
              refine q_vMi C0 lX6_71 (c_X6_did l D y L Fv _ O G (tM (tWr (tTh μ (ltR 1 1)) (vbk μ xb)) (vbk μ xb) gv bv) a hC) ⟨rfl, rfl⟩ rfl hP hD hS hA hC.1.1 hC.1.2 rfl rfl rfl hl rfl (Nat.le_of_ble_eq_true rfl) dX6_pour_110 ⟨Nat.le_of_ble_eq_true rfl, Nat.le_of_ble_eq_true rfl⟩ (fun r20 H locs L21 F21 hP hD hS hz21 hp21 => ?_)
              obtain ⟨eL, hC, er, hO1⟩ := hp21
              subst eL
              replace er : a = r20 := er.symm
              subst er
              have hO := hO.tr hO1
              exact q_retMi C0 hret rfl hlk dX6_pour_113 hP hD hS (⟨(by 
    have lt_ := ltR_d 1 1
    unfold jR_pour ; (try rw [show ltR 1 1 = 0 by omega]); (repeat (first | rw [if_pos (by omega)] | rw [if_neg (by omega)])); rw [hI, itrP_e (by omega)]
    all_goals (first | rfl | omega)), O, G, MP_eq hC (by 
    have lt_ := ltR_d 1 1
    unfold jS_pour tX; rw [show ltR 1 1 = 0 by omega]; (repeat (first | rw [if_pos (by omega)] | rw [if_neg (by omega)])); rw [hI, itrP_e (by omega)]
    all_goals rfl), rfl, Ext0 hO⟩)
            · refine lv_aload_n hx hb dX6_pour_61 rfl (lv_at hl 0 rfl) ?_
              refine q_get C0 iX6 hP hC.1.1 hC.1.2 rfl 0 (by decide) flX6_11 rfl (v := .ref ((uab G))) rfl dX6_pour_62 ?_
              refine lv_iload_n hx hb dX6_pour_65 rfl (lv_at hl 2 rfl) ?_
              refine q_aald C0 hP hC.2.1.1 hC.2.1.2 (t := 3) rfl (by omega) (by decide) (v := .ref ((urh G (vbk μ xc)))) rfl dX6_pour_66 ?_
              refine lv_iload hx hb dX6_pour_67 (lv_at hl 4 rfl) ?_
              refine q_vS C0 lX6_49 (c_X5_has l D y L Fv (urh G (vbk μ xc)) (urw G (vbk μ xc)) (vod μ (vbk μ xc)) (vst μ (vbk μ xc)) r (MP_rx hC (hW.1 xc) (rfl) (va_up_ne _ _ (fun e => absurd (hW.2.2.2.2.2.2.2.2.2.1 _ _ (by omega) (by omega) (by omega) (by omega) e) (by omega)))) (by omega)) ⟨rfl, rfl⟩ rfl hP (MP_rx hC (hW.1 xc) (rfl) (va_up_ne _ _ (fun e => absurd (hW.2.2.2.2.2.2.2.2.2.1 _ _ (by omega) (by omega) (by omega) (by omega) e) (by omega)))).1 (MP_rx hC (hW.1 xc) (rfl) (va_up_ne _ _ (fun e => absurd (hW.2.2.2.2.2.2.2.2.2.1 _ _ (by omega) (by omega) (by omega) (by omega) e) (by omega)))).2.1 rfl rfl rfl hl rfl (Nat.le_of_ble_eq_true rfl) dX6_pour_69 ⟨Nat.zero_le _, Nat.zero_le _⟩ (fun r22 e_r22 => ?_)
              subst e_r22
              have b_23 := isT_b (vst μ (vbk μ xc)) (turn (vod μ (vbk μ xc)) r)
              refine q_if_eq hx hb dX6_pour_72 (tgt := 102) (by decide) (by omega) (fun c24 => ?_) (fun c24 => ?_)
              · refine q_iinc (x := r) (n := 1) (lv' := [(4, .int (iI ((r + 1)))), (0, .ref ((ubg G))), (1, .int (iI xb)), (2, .int (iI xc)), (3, .int (iI a))]) hx hb dX6_pour_102 hl (k := 4) rfl (by decide) rfl (fun ls hl => ?_)
                refine lv_goto (tgt := 54) hx hb dX6_pour_105 (by decide) ?_
                exact ih_LP54 _ (by omega) (r + 1) gv bv a Fv _ _ (by omega) (hP) (hD) (hS) (hC) (hO) (by rw [hI, itrP_s (by omega)]; unfold paU; first | (rw [if_pos (by omega)]; done) | (rw [if_neg (by omega)]; done) | (rw [if_pos (by omega)]; rfl) | (rw [if_neg (by omega)]; rfl) | rfl) rfl ls (lv_sub hl [1, 2, 3, 4, 0] rfl)
              · refine lv_iload_n hx hb dX6_pour_75 rfl (lv_at hl 3 rfl) ?_
                refine lv_aload_n hx hb dX6_pour_76 rfl (lv_at hl 0 rfl) ?_
                refine lv_aload_n hx hb dX6_pour_77 rfl (lv_at hl 0 rfl) ?_
                refine q_get C0 iX6 hP hC.1.1 hC.1.2 rfl 0 (by decide) flX6_11 rfl (v := .ref ((uab G))) rfl dX6_pour_78 ?_
                refine lv_iload_n hx hb dX6_pour_81 rfl (lv_at hl 1 rfl) ?_
                refine q_aald C0 hP hC.2.1.1 hC.2.1.2 (t := 3) rfl (by omega) (by decide) (v := .ref ((urh G (vbk μ xb)))) rfl dX6_pour_82 ?_
                refine lv_iload hx hb dX6_pour_83 (lv_at hl 4 rfl) ?_
                refine lv_aload_n hx hb dX6_pour_85 rfl (lv_at hl 0 rfl) ?_
                refine q_get C0 iX6 hP hC.1.1 hC.1.2 rfl 0 (by decide) flX6_11 rfl (v := .ref ((uab G))) rfl dX6_pour_86 ?_
                refine lv_iload_n hx hb dX6_pour_89 rfl (lv_at hl 2 rfl) ?_
                refine q_aald C0 hP hC.2.1.1 hC.2.1.2 (t := 3) rfl (by omega) (by decide) (v := .ref ((urh G (vbk μ xc)))) rfl dX6_pour_90 ?_
                refine q_getN C0 iX5 hP (MP_rx hC (hW.1 xc) (rfl) (va_up_ne _ _ (fun e => absurd (hW.2.2.2.2.2.2.2.2.2.1 _ _ (by omega) (by omega) (by omega) (by omega) e) (by omega)))).1 (MP_rx hC (hW.1 xc) (rfl) (va_up_ne _ _ (fun e => absurd (hW.2.2.2.2.2.2.2.2.2.1 _ _ (by omega) (by omega) (by omega) (by omega) e) (by omega)))).2.1 rfl 1 (by decide) C0.2.2.2.2.2.2.1 rfl (v := .ref ((urw G (vbk μ xc)))) rfl dX6_pour_91 ?_
                refine lv_iload hx hb dX6_pour_94 (lv_at hl 4 rfl) ?_
                refine q_iald C0 hP (f := (mwd (vod μ (vbk μ xc)) (vst μ (vbk μ xc)))) (MP_rx hC (hW.1 xc) (rfl) (va_up_ne _ _ (fun e => absurd (hW.2.2.2.2.2.2.2.2.2.1 _ _ (by omega) (by omega) (by omega) (by omega) e) (by omega)))).2.2.1 (MP_rx hC (hW.1 xc) (rfl) (va_up_ne _ _ (fun e => absurd (hW.2.2.2.2.2.2.2.2.2.1 _ _ (by omega) (by omega) (by omega) (by omega) e) (by omega)))).2.2.2.1 (by omega) (by decide) dX6_pour_96 ?_
                have b_25 := (fun k => show -1 ≤ mwd (vod μ (vbk μ xc)) (vst μ (vbk μ xc)) k ∧ mwd (vod μ (vbk μ xc)) (vst μ (vbk μ xc)) k ≤ 99 from (MP_rx hC (hW.1 xc) (rfl) (va_up_ne _ _ (fun e => absurd (hW.2.2.2.2.2.2.2.2.2.1 _ _ (by omega) (by omega) (by omega) (by omega) e) (by omega)))).2.2.2.2.2 (turn (vod μ (vbk μ xc)) k)) r
                refine q_vMi C0 lX6_103 (c_X6_set l D y L Fv _ O G (tM (tWr (tTh μ (ltR 1 1)) (vbk μ xb)) (vbk μ xb) gv bv) (vbk μ xb) r ((mwd (vod μ (vbk μ xc)) (vst μ (vbk μ xc))) r) hC (hW.1 xb) hW.2.2.2.1 (by omega) (by omega)) ⟨rfl, rfl⟩ rfl hP hD hS hA hC.1.1 hC.1.2 rfl rfl rfl hl rfl (Nat.le_of_ble_eq_true rfl) dX6_pour_97 ⟨Nat.le_of_ble_eq_true rfl, Nat.le_of_ble_eq_true rfl⟩ (fun r26 H locs L27 F27 hP hD hS hz27 hp27 => ?_)
                obtain ⟨eL, hC, er, hO1⟩ := hp27
                subst eL
                rw [tM_st] at er
                replace er : (seC gv (turn (vod μ (vbk μ xb)) r) ((mwd (vod μ (vbk μ xc)) (vst μ (vbk μ xc))) r)) = r26 := er.symm
                subst er
                have hO := hO.tr hO1
                replace hC := MP_eq hC (tSe_tM _ _ _ _ _ _)
                refine q_iadd hx hb dX6_pour_100 ?_
                refine lv_istore_n (lv' := [(3, .int (iI ((a + (seC gv (turn (vod μ (vbk μ xb)) r) ((mwd (vod μ (vbk μ xc)) (vst μ (vbk μ xc))) r)))))), (0, .ref ((ubg G))), (1, .int (iI xb)), (2, .int (iI xc)), (4, .int (iI r))]) hx hb dX6_pour_101 rfl hl (by decide) rfl (fun ls hl => ?_)
                refine q_iinc (x := r) (n := 1) (lv' := [(4, .int (iI ((r + 1)))), (3, .int (iI ((a + (seC gv (turn (vod μ (vbk μ xb)) r) ((mwd (vod μ (vbk μ xc)) (vst μ (vbk μ xc))) r)))))), (0, .ref ((ubg G))), (1, .int (iI xb)), (2, .int (iI xc))]) hx hb dX6_pour_102 hl (k := 4) rfl (by decide) rfl (fun ls hl => ?_)
                refine lv_goto (tgt := 54) hx hb dX6_pour_105 (by decide) ?_
                exact ih_LP54 _ (by omega) (r + 1) (iu gv (turn (vod μ (vbk μ xb)) r) ((mwd (vod μ (vbk μ xc)) (vst μ (vbk μ xc))) r)) (seB (vwk μ) (vbk μ xb) gv (turn (vod μ (vbk μ xb)) r) ((mwd (vod μ (vbk μ xc)) (vst μ (vbk μ xc))) r) bv) (a + (seC gv (turn (vod μ (vbk μ xb)) r) ((mwd (vod μ (vbk μ xc)) (vst μ (vbk μ xc))) r))) F27 _ _ (by omega) (hP) (hD) (hS) (hC) (hO) (by rw [hI, itrP_s (by omega)]; unfold paU; first | (rw [if_pos (by omega)]; done) | (rw [if_neg (by omega)]; done) | (rw [if_pos (by omega)]; rfl) | (rw [if_neg (by omega)]; rfl) | rfl) rfl ls (lv_sub hl [2, 3, 4, 1, 0] rfl)
        exact LP54 _ 0 (vst μ (vbk μ xb)) (vbr μ) 0 F18 _ _ (by omega) (hP) (hD) (hS) (MP_eq hC (tM_0 _ _)) (hO) (rfl) rfl ls (lv_sub hl [2, 3, 4, 1, 0] rfl)
      · refine lv_aload_n hx hb dX6_pour_34 rfl (lv_at hl 0 rfl) ?_
        refine q_vMi C0 lX6_89 (c_X6_refuse l D y L F14 _ O G (tTh μ (ltR 1 1)) hC) ⟨rfl, rfl⟩ rfl hP hD hS hA hC.1.1 hC.1.2 rfl rfl rfl hl rfl (Nat.le_of_ble_eq_true rfl) dX6_pour_35 ⟨Nat.le_of_ble_eq_true rfl, Nat.le_of_ble_eq_true rfl⟩ (fun r28 H locs L29 F29 hP hD hS hz29 hp29 => ?_)
        obtain ⟨eL, hC, er, hO1⟩ := hp29
        subst eL
        replace er : (-9) = r28 := er.symm
        subst er
        have hO := hO.tr hO1
        exact q_retMi C0 hret rfl hlk dX6_pour_38 hP hD hS (⟨(by 
    have lt_ := ltR_d 1 1
    unfold jR_pour ; (try rw [show ltR 1 1 = 0 by omega]); (repeat (first | rw [if_pos (by omega)] | rw [if_neg (by omega)]))
    all_goals (first | rfl | omega)), O, G, MP_eq hC (by 
    have lt_ := ltR_d 1 1
    unfold jS_pour tX; rw [show ltR 1 1 = 0 by omega]; (repeat (first | rw [if_pos (by omega)] | rw [if_neg (by omega)]))
    all_goals rfl), rfl, Ext0 hO⟩)
set_option maxHeartbeats 3000000 in
set_option maxRecDepth 100000 in
theorem c_X6_keep (l : Launch) (D : va_G) (y : Nat → ClassId) (L : List Nat) (F : Nat → va_E) (sz : Nat) (O : Nat → Prop) (G : MG) (μ : MS) (xb : Int) (xc : Int) (xz : Int) (hC : MP y L F O G μ) (hW : MW μ) (h_xb : -2147483648 ≤ xb ∧ xb ≤ 2147483647) (h_xc : -2147483648 ≤ xc ∧ xc ≤ 2147483647) (h_xz : 0 ≤ xz ∧ xz ≤ 1) : Met l yX6_keep (.code yX6_keep cX6_keep 6 (some .int) :: Tt) ({ frames := 2, cells := 0, slots := 0, locals := 45 }) (PcM D y L F sz [.ref ((ubg G)), .int (iI xb), .int (iI xc), .int (iI xz)]) (cMi D (AL L sz) (fun r L1 F1 => r = jR_keep μ xb xc xz ∧ ∃ (O1 : Nat → Prop) (G1 : MG), MP y L1 F1 O1 G1 (jS_keep μ xb xc xz) ∧ ubg G1 = ubg G ∧ Ext O O1 L L1 F F1)) 0 0 (AL L sz) := by
  have hO : OE O F F := fun _ _ => rfl
  have hw5 := hW.2.2.2.2.2.1
  have hw6 := hW.2.2.2.2.2.2.1
  have hw7 := hW.2.2.2.2.2.2.2.1
  refine q_ofM (lv := [(0, .ref ((ubg G))), (1, .int (iI xb)), (2, .int (iI xc)), (3, .int (iI xz))]) (by decide) (Nat.le_of_ble_eq_true rfl) rfl (fun p e s m below meth c C0 hret hlk hnm hA hP hD hS ls hl => ?_)
  have hx := C0.1.1
  have hb := C0.1.2.1
  have hts := C0.1.2.2.2.2
  refine lv_aload_n hx hb dX6_keep_0 rfl (lv_at hl 0 rfl) ?_
  refine lv_iload_n hx hb dX6_keep_1 rfl (lv_at hl 1 rfl) ?_
  refine q_sS C0 lX6_60 (c_X6_isBook l D y L F xb (by omega)) ⟨rfl, rfl⟩ rfl hP rfl hl rfl (Nat.le_of_ble_eq_true rfl) dX6_keep_2 ⟨Nat.zero_le _, Nat.zero_le _⟩ (fun r1 e_r1 => ?_)
  subst e_r1
  have b_2 := inR_d xb 0 3
  refine q_if_eq hx hb dX6_keep_5 (tgt := 19) (by decide) (by omega) (fun c3 => ?_) (fun c3 => ?_)
  · replace b_2 := b_2.resolve_left (fun h => absurd (h.1.symm.trans c3) (by decide))
    refine q_iconst hx hb dX6_keep_19 ?_
    refine q_iconst hx hb dX6_keep_20 ?_
    refine q_vMi C0 lX6_63 (c_X6_isLet l D y L F _ O G μ 0 1 hC (by omega) (by omega)) ⟨rfl, rfl⟩ rfl hP hD hS hA hC.1.1 hC.1.2 rfl rfl rfl hl rfl (Nat.le_of_ble_eq_true rfl) dX6_keep_21 ⟨Nat.le_of_ble_eq_true rfl, Nat.le_of_ble_eq_true rfl⟩ (fun r4 H locs L5 F5 hP hD hS hz5 hp5 => ?_)
    obtain ⟨eL, hC, er, hO1⟩ := hp5
    subst eL
    replace er := (er.trans (okR_z0 _)).symm
    subst er
    have hO := hO.tr hO1
    refine q_if_ne hx hb dX6_keep_24 (tgt := 29) (by decide) (by omega) (fun c6 => absurd c6 (by omega)) (fun c6 => ?_)
    refine q_iconst hx hb dX6_keep_27 ?_
    exact q_retMi C0 hret rfl hlk dX6_keep_28 hP hD hS (⟨(by unfold jR_keep; rw [if_neg (by omega)]), O, G, MP_eq hC (by unfold jS_keep; rw [if_neg (by omega)]; first | done | rfl), rfl, Ext0 hO⟩)
  · replace b_2 := b_2.resolve_right (fun h => c3 h.1)
    refine lv_iload_n hx hb dX6_keep_8 rfl (lv_at hl 2 rfl) ?_
    refine q_sS C0 lX6_60 (c_X6_isBook l D y L F xc (by omega)) ⟨rfl, rfl⟩ rfl hP rfl hl rfl (Nat.le_of_ble_eq_true rfl) dX6_keep_9 ⟨Nat.zero_le _, Nat.zero_le _⟩ (fun r7 e_r7 => ?_)
    subst e_r7
    have b_8 := inR_d xc 0 3
    refine q_if_eq hx hb dX6_keep_12 (tgt := 19) (by decide) (by omega) (fun c9 => ?_) (fun c9 => ?_)
    · replace b_8 := b_8.resolve_left (fun h => absurd (h.1.symm.trans c9) (by decide))
      refine q_iconst hx hb dX6_keep_19 ?_
      refine q_iconst hx hb dX6_keep_20 ?_
      refine q_vMi C0 lX6_63 (c_X6_isLet l D y L F _ O G μ 0 1 hC (by omega) (by omega)) ⟨rfl, rfl⟩ rfl hP hD hS hA hC.1.1 hC.1.2 rfl rfl rfl hl rfl (Nat.le_of_ble_eq_true rfl) dX6_keep_21 ⟨Nat.le_of_ble_eq_true rfl, Nat.le_of_ble_eq_true rfl⟩ (fun r10 H locs L11 F11 hP hD hS hz11 hp11 => ?_)
      obtain ⟨eL, hC, er, hO1⟩ := hp11
      subst eL
      replace er := (er.trans (okR_z0 _)).symm
      subst er
      have hO := hO.tr hO1
      refine q_if_ne hx hb dX6_keep_24 (tgt := 29) (by decide) (by omega) (fun c12 => absurd c12 (by omega)) (fun c12 => ?_)
      refine q_iconst hx hb dX6_keep_27 ?_
      exact q_retMi C0 hret rfl hlk dX6_keep_28 hP hD hS (⟨(by unfold jR_keep; rw [if_neg (by omega)]), O, G, MP_eq hC (by unfold jS_keep; rw [if_neg (by omega)]; first | done | rfl), rfl, Ext0 hO⟩)
    · replace b_8 := b_8.resolve_right (fun h => c9 h.1)
      refine q_iconst hx hb dX6_keep_15 ?_
      refine lv_goto (tgt := 20) hx hb dX6_keep_16 (by decide) ?_
      refine q_iconst hx hb dX6_keep_20 ?_
      refine q_vMi C0 lX6_63 (c_X6_isLet l D y L F _ O G μ 1 1 hC (by omega) (by omega)) ⟨rfl, rfl⟩ rfl hP hD hS hA hC.1.1 hC.1.2 rfl rfl rfl hl rfl (Nat.le_of_ble_eq_true rfl) dX6_keep_21 ⟨Nat.le_of_ble_eq_true rfl, Nat.le_of_ble_eq_true rfl⟩ (fun r13 H locs L14 F14 hP hD hS hz14 hp14 => ?_)
      obtain ⟨eL, hC, er, hO1⟩ := hp14
      subst eL
      replace er := (er.trans (show okR 1 1 = 1 from rfl)).symm
      subst er
      have hO := hO.tr hO1
      refine q_if_ne hx hb dX6_keep_24 (tgt := 29) (by decide) (by omega) (fun c15 => ?_) (fun c15 => absurd c15 (by omega))
      refine lv_iload_n hx hb dX6_keep_29 rfl (lv_at hl 1 rfl) ?_
      refine lv_iload_n hx hb dX6_keep_30 rfl (lv_at hl 2 rfl) ?_
      refine q_icmp_ne hx hb dX6_keep_31 (tgt := 39) (by decide) (by omega) (by omega) (fun c16 => ?_) (fun c16 => ?_)
      · refine lv_aload_n hx hb dX6_keep_39 rfl (lv_at hl 0 rfl) ?_
        refine lv_aload_n hx hb dX6_keep_40 rfl (lv_at hl 0 rfl) ?_
        refine q_get C0 iX6 hP hC.1.1 hC.1.2 rfl 0 (by decide) flX6_11 rfl (v := .ref ((uab G))) rfl dX6_keep_41 ?_
        refine lv_iload_n hx hb dX6_keep_44 rfl (lv_at hl 1 rfl) ?_
        refine q_aald C0 hP hC.2.1.1 hC.2.1.2 (t := 3) rfl (by omega) (by decide) (v := .ref ((urh G (vbk μ xb)))) rfl dX6_keep_45 ?_
        refine q_vMv C0 lX6_96 (c_X6_write l D y L F14 _ O G (tTh μ (ltR 1 1)) (vbk μ xb) hC (hW.1 xb) hW.2.2.2.1) ⟨rfl, rfl⟩ rfl hP hD hS hA hC.1.1 hC.1.2 rfl rfl rfl hl rfl (Nat.le_of_ble_eq_true rfl) dX6_keep_46 ⟨Nat.le_of_ble_eq_true rfl, Nat.le_of_ble_eq_true rfl⟩ (fun _ H locs L18 F18 hP hD hS hz18 hp18 => ?_)
        obtain ⟨eL, hC, er, hO1⟩ := hp18
        subst eL
        have hO := hO.tr hO1
        refine q_iconst hx hb dX6_keep_49 ?_
        refine lv_istore (lv' := [(4, .int (iI 0)), (0, .ref ((ubg G))), (1, .int (iI xb)), (2, .int (iI xc)), (3, .int (iI xz))]) hx hb dX6_keep_50 hl (by decide) rfl (fun ls hl => ?_)
        refine q_iconst hx hb dX6_keep_52 ?_
        refine lv_istore (lv' := [(5, .int (iI 0)), (4, .int (iI 0)), (0, .ref ((ubg G))), (1, .int (iI xb)), (2, .int (iI xc)), (3, .int (iI xz))]) hx hb dX6_keep_53 hl (by decide) rfl (fun ls hl => ?_)
        have LP55 : ∀ (n_LP55 : Nat) (r : Int) (gv : Int → Int) (bv : Int) (a : Int) (Fv : Nat → va_E) (H : Heap) (locs : List Loc), (0 ≤ r ∧ r ≤ 100) → (va_P D vwCl (va_pl L Fv) H) → (va_D (AL L sz) (va_pl L Fv)) → (va_S (AL L sz) s.heap H locs) → (MP y L Fv O G (tM (tWr (tTh μ (ltR 1 1)) (vbk μ xb)) (vbk μ xb) gv bv)) → (OE O F Fv) → (keX μ (vbk μ xb) (vbk μ xc) xz = itrP (keU (vwk μ) (vbk μ xb) (vod μ (vbk μ xb)) (vod μ (vbk μ xc)) (vst μ (vbk μ xc)) xz) r 99 (gv, bv, a)) → (100 - r).toNat = n_LP55 → ∀ ls : Array Slot, lv_has ls 6 [(0, .ref ((ubg G))), (1, .int (iI xb)), (2, .int (iI xc)), (3, .int (iI xz)), (4, .int (iI a)), (5, .int (iI r))] → W p l e ({ frames := 2, cells := 0, slots := 0, locals := 45 } : Room) s m [.ref ((ubg G)), .int (iI xb), .int (iI xc), .int (iI xz)].toArray below meth c H locs 0 0 (MQ below (cMi D (AL L sz) (fun r L1 F1 => r = jR_keep μ xb xc xz ∧ ∃ (O1 : Nat → Prop) (G1 : MG), MP y L1 F1 O1 G1 (jS_keep μ xb xc xz) ∧ ubg G1 = ubg G ∧ Ext O O1 L L1 F F1)) [.ref ((ubg G)), .int (iI xb), .int (iI xc), .int (iI xz)].toArray s 0 0 (AL L sz)) (F0 m 55 ls []) := by
          intro n_LP55
          induction n_LP55 using Nat.strongRecOn with
          | ind n_LP55 ih_LP55 =>
            intro r gv bv a Fv H locs hr hP hD hS hC hO hI hm_LP55 ls hl
            refine lv_iload hx hb dX6_keep_55 (lv_at hl 5 rfl) ?_
            refine q_bipush hx hb dX6_keep_57 (by decide) ?_
            refine q_icmp_ge hx hb dX6_keep_59 (tgt := 101) (by decide) (by omega) (by omega) (fun c19 => ?_) (fun c19 => ?_)
            · refine lv_aload_n hx hb dX6_keep_101 rfl (lv_at hl 0 rfl) ?_
              refine lv_iload hx hb dX6_keep_102 (lv_at hl 4 rfl) ?_
              refine q_vMi C0 lX6_71 (c_X6_did l D y L Fv _ O G (tM (tWr (tTh μ (ltR 1 1)) (vbk μ xb)) (vbk μ xb) gv bv) a hC) ⟨rfl, rfl⟩ rfl hP hD hS hA hC.1.1 hC.1.2 rfl rfl rfl hl rfl (Nat.le_of_ble_eq_true rfl) dX6_keep_104 ⟨Nat.le_of_ble_eq_true rfl, Nat.le_of_ble_eq_true rfl⟩ (fun r20 H locs L21 F21 hP hD hS hz21 hp21 => ?_)
              obtain ⟨eL, hC, er, hO1⟩ := hp21
              subst eL
              replace er : a = r20 := er.symm
              subst er
              have hO := hO.tr hO1
              exact q_retMi C0 hret rfl hlk dX6_keep_107 hP hD hS (⟨(by 
    have lt_ := ltR_d 1 1
    unfold jR_keep ; (try rw [show ltR 1 1 = 0 by omega]); (repeat (first | rw [if_pos (by omega)] | rw [if_neg (by omega)])); rw [hI, itrP_e (by omega)]
    all_goals (first | rfl | omega)), O, G, MP_eq hC (by 
    have lt_ := ltR_d 1 1
    unfold jS_keep tX; rw [show ltR 1 1 = 0 by omega]; (repeat (first | rw [if_pos (by omega)] | rw [if_neg (by omega)])); rw [hI, itrP_e (by omega)]
    all_goals rfl), rfl, Ext0 hO⟩)
            · refine lv_aload_n hx hb dX6_keep_62 rfl (lv_at hl 0 rfl) ?_
              refine q_get C0 iX6 hP hC.1.1 hC.1.2 rfl 0 (by decide) flX6_11 rfl (v := .ref ((uab G))) rfl dX6_keep_63 ?_
              refine lv_iload_n hx hb dX6_keep_66 rfl (lv_at hl 2 rfl) ?_
              refine q_aald C0 hP hC.2.1.1 hC.2.1.2 (t := 3) rfl (by omega) (by decide) (v := .ref ((urh G (vbk μ xc)))) rfl dX6_keep_67 ?_
              refine lv_iload hx hb dX6_keep_68 (lv_at hl 5 rfl) ?_
              refine q_vS C0 lX6_49 (c_X5_has l D y L Fv (urh G (vbk μ xc)) (urw G (vbk μ xc)) (vod μ (vbk μ xc)) (vst μ (vbk μ xc)) r (MP_rx hC (hW.1 xc) (rfl) (va_up_ne _ _ (fun e => absurd (hW.2.2.2.2.2.2.2.2.2.1 _ _ (by omega) (by omega) (by omega) (by omega) e) (by omega)))) (by omega)) ⟨rfl, rfl⟩ rfl hP (MP_rx hC (hW.1 xc) (rfl) (va_up_ne _ _ (fun e => absurd (hW.2.2.2.2.2.2.2.2.2.1 _ _ (by omega) (by omega) (by omega) (by omega) e) (by omega)))).1 (MP_rx hC (hW.1 xc) (rfl) (va_up_ne _ _ (fun e => absurd (hW.2.2.2.2.2.2.2.2.2.1 _ _ (by omega) (by omega) (by omega) (by omega) e) (by omega)))).2.1 rfl rfl rfl hl rfl (Nat.le_of_ble_eq_true rfl) dX6_keep_70 ⟨Nat.zero_le _, Nat.zero_le _⟩ (fun r22 e_r22 => ?_)
              subst e_r22
              have b_23 := isT_b (vst μ (vbk μ xc)) (turn (vod μ (vbk μ xc)) r)
              refine lv_iload_n hx hb dX6_keep_73 rfl (lv_at hl 3 rfl) ?_
              refine q_icmp_eq hx hb dX6_keep_74 (tgt := 95) (by decide) (by omega) (by omega) (fun c24 => ?_) (fun c24 => ?_)
              · refine q_iinc (x := r) (n := 1) (lv' := [(5, .int (iI ((r + 1)))), (0, .ref ((ubg G))), (1, .int (iI xb)), (2, .int (iI xc)), (3, .int (iI xz)), (4, .int (iI a))]) hx hb dX6_keep_95 hl (k := 5) rfl (by decide) rfl (fun ls hl => ?_)
                refine lv_goto (tgt := 55) hx hb dX6_keep_98 (by decide) ?_
                exact ih_LP55 _ (by omega) (r + 1) gv bv a Fv _ _ (by omega) (hP) (hD) (hS) (hC) (hO) (by rw [hI, itrP_s (by omega)]; unfold keU; first | (rw [if_pos (by omega)]; done) | (rw [if_neg (by omega)]; done) | (rw [if_pos (by omega)]; rfl) | (rw [if_neg (by omega)]; rfl) | rfl) rfl ls (lv_sub hl [1, 2, 3, 4, 5, 0] rfl)
              · refine lv_iload hx hb dX6_keep_77 (lv_at hl 4 rfl) ?_
                refine lv_aload_n hx hb dX6_keep_79 rfl (lv_at hl 0 rfl) ?_
                refine lv_aload_n hx hb dX6_keep_80 rfl (lv_at hl 0 rfl) ?_
                refine q_get C0 iX6 hP hC.1.1 hC.1.2 rfl 0 (by decide) flX6_11 rfl (v := .ref ((uab G))) rfl dX6_keep_81 ?_
                refine lv_iload_n hx hb dX6_keep_84 rfl (lv_at hl 1 rfl) ?_
                refine q_aald C0 hP hC.2.1.1 hC.2.1.2 (t := 3) rfl (by omega) (by decide) (v := .ref ((urh G (vbk μ xb)))) rfl dX6_keep_85 ?_
                refine lv_iload hx hb dX6_keep_86 (lv_at hl 5 rfl) ?_
                refine q_iconst hx hb dX6_keep_88 ?_
                refine q_vMi C0 lX6_103 (c_X6_set l D y L Fv _ O G (tM (tWr (tTh μ (ltR 1 1)) (vbk μ xb)) (vbk μ xb) gv bv) (vbk μ xb) r (-1) hC (hW.1 xb) hW.2.2.2.1 (by omega) (by omega)) ⟨rfl, rfl⟩ rfl hP hD hS hA hC.1.1 hC.1.2 rfl rfl rfl hl rfl (Nat.le_of_ble_eq_true rfl) dX6_keep_89 ⟨Nat.le_of_ble_eq_true rfl, Nat.le_of_ble_eq_true rfl⟩ (fun r25 H locs L26 F26 hP hD hS hz26 hp26 => ?_)
                obtain ⟨eL, hC, er, hO1⟩ := hp26
                subst eL
                rw [tM_st] at er
                replace er : (seC gv (turn (vod μ (vbk μ xb)) r) (-1)) = r25 := er.symm
                subst er
                have hO := hO.tr hO1
                replace hC := MP_eq hC (tSe_tM _ _ _ _ _ _)
                refine q_iadd hx hb dX6_keep_92 ?_
                refine lv_istore (lv' := [(4, .int (iI ((a + (seC gv (turn (vod μ (vbk μ xb)) r) (-1)))))), (0, .ref ((ubg G))), (1, .int (iI xb)), (2, .int (iI xc)), (3, .int (iI xz)), (5, .int (iI r))]) hx hb dX6_keep_93 hl (by decide) rfl (fun ls hl => ?_)
                refine q_iinc (x := r) (n := 1) (lv' := [(5, .int (iI ((r + 1)))), (4, .int (iI ((a + (seC gv (turn (vod μ (vbk μ xb)) r) (-1)))))), (0, .ref ((ubg G))), (1, .int (iI xb)), (2, .int (iI xc)), (3, .int (iI xz))]) hx hb dX6_keep_95 hl (k := 5) rfl (by decide) rfl (fun ls hl => ?_)
                refine lv_goto (tgt := 55) hx hb dX6_keep_98 (by decide) ?_
                exact ih_LP55 _ (by omega) (r + 1) (iu gv (turn (vod μ (vbk μ xb)) r) (-1)) (seB (vwk μ) (vbk μ xb) gv (turn (vod μ (vbk μ xb)) r) (-1) bv) (a + (seC gv (turn (vod μ (vbk μ xb)) r) (-1))) F26 _ _ (by omega) (hP) (hD) (hS) (hC) (hO) (by rw [hI, itrP_s (by omega)]; unfold keU; first | (rw [if_pos (by omega)]; done) | (rw [if_neg (by omega)]; done) | (rw [if_pos (by omega)]; rfl) | (rw [if_neg (by omega)]; rfl) | rfl) rfl ls (lv_sub hl [2, 3, 4, 5, 1, 0] rfl)
        exact LP55 _ 0 (vst μ (vbk μ xb)) (vbr μ) 0 F18 _ _ (by omega) (hP) (hD) (hS) (MP_eq hC (tM_0 _ _)) (hO) (rfl) rfl ls (lv_sub hl [2, 3, 4, 5, 1, 0] rfl)
      · refine lv_aload_n hx hb dX6_keep_34 rfl (lv_at hl 0 rfl) ?_
        refine q_vMi C0 lX6_89 (c_X6_refuse l D y L F14 _ O G (tTh μ (ltR 1 1)) hC) ⟨rfl, rfl⟩ rfl hP hD hS hA hC.1.1 hC.1.2 rfl rfl rfl hl rfl (Nat.le_of_ble_eq_true rfl) dX6_keep_35 ⟨Nat.le_of_ble_eq_true rfl, Nat.le_of_ble_eq_true rfl⟩ (fun r27 H locs L28 F28 hP hD hS hz28 hp28 => ?_)
        obtain ⟨eL, hC, er, hO1⟩ := hp28
        subst eL
        replace er : (-9) = r27 := er.symm
        subst er
        have hO := hO.tr hO1
        exact q_retMi C0 hret rfl hlk dX6_keep_38 hP hD hS (⟨(by 
    have lt_ := ltR_d 1 1
    unfold jR_keep ; (try rw [show ltR 1 1 = 0 by omega]); (repeat (first | rw [if_pos (by omega)] | rw [if_neg (by omega)]))
    all_goals (first | rfl | omega)), O, G, MP_eq hC (by 
    have lt_ := ltR_d 1 1
    unfold jS_keep tX; rw [show ltR 1 1 = 0 by omega]; (repeat (first | rw [if_pos (by omega)] | rw [if_neg (by omega)]))
    all_goals rfl), rfl, Ext0 hO⟩)
set_option maxHeartbeats 3000000 in
set_option maxRecDepth 100000 in
theorem c_X6_shelfBoth (l : Launch) (D : va_G) (y : Nat → ClassId) (L : List Nat) (F : Nat → va_E) (sz : Nat) (O : Nat → Prop) (G : MG) (μ : MS) (xb : Int) (xc : Int) (xt : Int) (hC : MP y L F O G μ) (hW : MW μ) (h_xb : -2147483648 ≤ xb ∧ xb ≤ 2147483647) (h_xc : -2147483648 ≤ xc ∧ xc ≤ 2147483647) (h_xt : -2147483648 ≤ xt ∧ xt ≤ 2147483647) : Met l yX6_shelfBoth (.code yX6_shelfBoth cX6_shelfBoth 6 (some .int) :: Tt) ({ frames := 2, cells := 0, slots := 0, locals := 45 }) (PcM D y L F sz [.ref ((ubg G)), .int (iI xb), .int (iI xc), .int (iI xt)]) (cMi D (AL L sz) (fun r L1 F1 => r = jR_shelfBoth μ xb xc xt ∧ ∃ (O1 : Nat → Prop) (G1 : MG), MP y L1 F1 O1 G1 (jS_shelfBoth μ xb xc xt) ∧ ubg G1 = ubg G ∧ Ext O O1 L L1 F F1)) 0 0 (AL L sz) := by
  have hO : OE O F F := fun _ _ => rfl
  have hw5 := hW.2.2.2.2.2.1
  have hw6 := hW.2.2.2.2.2.2.1
  have hw7 := hW.2.2.2.2.2.2.2.1
  refine q_ofM (lv := [(0, .ref ((ubg G))), (1, .int (iI xb)), (2, .int (iI xc)), (3, .int (iI xt))]) (by decide) (Nat.le_of_ble_eq_true rfl) rfl (fun p e s m below meth c C0 hret hlk hnm hA hP hD hS ls hl => ?_)
  have hx := C0.1.1
  have hb := C0.1.2.1
  have hts := C0.1.2.2.2.2
  refine lv_aload_n hx hb dX6_shelfBoth_0 rfl (lv_at hl 0 rfl) ?_
  refine lv_iload_n hx hb dX6_shelfBoth_1 rfl (lv_at hl 1 rfl) ?_
  refine q_sS C0 lX6_193 (c_X6_isShelf l D y L F xb (by omega)) ⟨rfl, rfl⟩ rfl hP rfl hl rfl (Nat.le_of_ble_eq_true rfl) dX6_shelfBoth_2 ⟨Nat.zero_le _, Nat.zero_le _⟩ (fun r1 e_r1 => ?_)
  subst e_r1
  have b_2 := inR_d xb 0 2
  refine q_if_eq hx hb dX6_shelfBoth_5 (tgt := 19) (by decide) (by omega) (fun c3 => ?_) (fun c3 => ?_)
  · replace b_2 := b_2.resolve_left (fun h => absurd (h.1.symm.trans c3) (by decide))
    refine q_iconst hx hb dX6_shelfBoth_19 ?_
    refine lv_iload_n hx hb dX6_shelfBoth_20 rfl (lv_at hl 3 rfl) ?_
    refine q_iconst hx hb dX6_shelfBoth_21 ?_
    refine q_iconst hx hb dX6_shelfBoth_22 ?_
    refine q_sS C0 lX6_41 (c_X6_isIn l D y L F xt 0 2 (by omega) (by omega) (by omega)) ⟨rfl, rfl⟩ rfl hP rfl hl rfl (Nat.le_of_ble_eq_true rfl) dX6_shelfBoth_23 ⟨Nat.zero_le _, Nat.zero_le _⟩ (fun r4 e_r4 => ?_)
    subst e_r4
    have b_5 := inR_d xt 0 2
    refine q_vMi C0 lX6_63 (c_X6_isLet l D y L F _ O G μ 0 (inR xt 0 2) hC (by omega) (by omega)) ⟨rfl, rfl⟩ rfl hP hD hS hA hC.1.1 hC.1.2 rfl rfl rfl hl rfl (Nat.le_of_ble_eq_true rfl) dX6_shelfBoth_26 ⟨Nat.le_of_ble_eq_true rfl, Nat.le_of_ble_eq_true rfl⟩ (fun r6 H locs L7 F7 hP hD hS hz7 hp7 => ?_)
    obtain ⟨eL, hC, er, hO1⟩ := hp7
    subst eL
    replace er := (er.trans (okR_z0 _)).symm
    subst er
    have hO := hO.tr hO1
    refine q_if_ne hx hb dX6_shelfBoth_29 (tgt := 34) (by decide) (by omega) (fun c8 => absurd c8 (by omega)) (fun c8 => ?_)
    refine q_iconst hx hb dX6_shelfBoth_32 ?_
    exact q_retMi C0 hret rfl hlk dX6_shelfBoth_33 hP hD hS (⟨(by unfold jR_shelfBoth; rw [if_neg (by omega)]), O, G, MP_eq hC (by have lt_ := ltR_d 0 (inR xt 0 2); unfold jS_shelfBoth; rcases lt_ with lt_ | lt_ | lt_ <;> first | (rw [if_neg (by omega), lt_.1]; done) | (rw [if_pos (by omega), if_neg (by omega), lt_.1]; done) | (exfalso; omega)), rfl, Ext0 hO⟩)
  · replace b_2 := b_2.resolve_right (fun h => c3 h.1)
    refine lv_iload_n hx hb dX6_shelfBoth_8 rfl (lv_at hl 2 rfl) ?_
    refine q_sS C0 lX6_193 (c_X6_isShelf l D y L F xc (by omega)) ⟨rfl, rfl⟩ rfl hP rfl hl rfl (Nat.le_of_ble_eq_true rfl) dX6_shelfBoth_9 ⟨Nat.zero_le _, Nat.zero_le _⟩ (fun r9 e_r9 => ?_)
    subst e_r9
    have b_10 := inR_d xc 0 2
    refine q_if_eq hx hb dX6_shelfBoth_12 (tgt := 19) (by decide) (by omega) (fun c11 => ?_) (fun c11 => ?_)
    · replace b_10 := b_10.resolve_left (fun h => absurd (h.1.symm.trans c11) (by decide))
      refine q_iconst hx hb dX6_shelfBoth_19 ?_
      refine lv_iload_n hx hb dX6_shelfBoth_20 rfl (lv_at hl 3 rfl) ?_
      refine q_iconst hx hb dX6_shelfBoth_21 ?_
      refine q_iconst hx hb dX6_shelfBoth_22 ?_
      refine q_sS C0 lX6_41 (c_X6_isIn l D y L F xt 0 2 (by omega) (by omega) (by omega)) ⟨rfl, rfl⟩ rfl hP rfl hl rfl (Nat.le_of_ble_eq_true rfl) dX6_shelfBoth_23 ⟨Nat.zero_le _, Nat.zero_le _⟩ (fun r12 e_r12 => ?_)
      subst e_r12
      have b_13 := inR_d xt 0 2
      refine q_vMi C0 lX6_63 (c_X6_isLet l D y L F _ O G μ 0 (inR xt 0 2) hC (by omega) (by omega)) ⟨rfl, rfl⟩ rfl hP hD hS hA hC.1.1 hC.1.2 rfl rfl rfl hl rfl (Nat.le_of_ble_eq_true rfl) dX6_shelfBoth_26 ⟨Nat.le_of_ble_eq_true rfl, Nat.le_of_ble_eq_true rfl⟩ (fun r14 H locs L15 F15 hP hD hS hz15 hp15 => ?_)
      obtain ⟨eL, hC, er, hO1⟩ := hp15
      subst eL
      replace er := (er.trans (okR_z0 _)).symm
      subst er
      have hO := hO.tr hO1
      refine q_if_ne hx hb dX6_shelfBoth_29 (tgt := 34) (by decide) (by omega) (fun c16 => absurd c16 (by omega)) (fun c16 => ?_)
      refine q_iconst hx hb dX6_shelfBoth_32 ?_
      exact q_retMi C0 hret rfl hlk dX6_shelfBoth_33 hP hD hS (⟨(by unfold jR_shelfBoth; rw [if_neg (by omega)]), O, G, MP_eq hC (by have lt_ := ltR_d 0 (inR xt 0 2); unfold jS_shelfBoth; rcases lt_ with lt_ | lt_ | lt_ <;> first | (rw [if_neg (by omega), lt_.1]; done) | (rw [if_pos (by omega), if_neg (by omega), lt_.1]; done) | (exfalso; omega)), rfl, Ext0 hO⟩)
    · replace b_10 := b_10.resolve_right (fun h => c11 h.1)
      refine q_iconst hx hb dX6_shelfBoth_15 ?_
      refine lv_goto (tgt := 20) hx hb dX6_shelfBoth_16 (by decide) ?_
      refine lv_iload_n hx hb dX6_shelfBoth_20 rfl (lv_at hl 3 rfl) ?_
      refine q_iconst hx hb dX6_shelfBoth_21 ?_
      refine q_iconst hx hb dX6_shelfBoth_22 ?_
      refine q_sS C0 lX6_41 (c_X6_isIn l D y L F xt 0 2 (by omega) (by omega) (by omega)) ⟨rfl, rfl⟩ rfl hP rfl hl rfl (Nat.le_of_ble_eq_true rfl) dX6_shelfBoth_23 ⟨Nat.zero_le _, Nat.zero_le _⟩ (fun r17 e_r17 => ?_)
      subst e_r17
      have b_18 := inR_d xt 0 2
      refine q_vMi C0 lX6_63 (c_X6_isLet l D y L F _ O G μ 1 (inR xt 0 2) hC (by omega) (by omega)) ⟨rfl, rfl⟩ rfl hP hD hS hA hC.1.1 hC.1.2 rfl rfl rfl hl rfl (Nat.le_of_ble_eq_true rfl) dX6_shelfBoth_26 ⟨Nat.le_of_ble_eq_true rfl, Nat.le_of_ble_eq_true rfl⟩ (fun r19 H locs L20 F20 hP hD hS hz20 hp20 => ?_)
      obtain ⟨eL, hC, er, hO1⟩ := hp20
      subst eL
      replace er := er.symm
      subst er
      have hO := hO.tr hO1
      have k_21 := okR_d 1 (inR xt 0 2)
      refine q_if_ne hx hb dX6_shelfBoth_29 (tgt := 34) (by decide) (by omega) (fun c22 => ?_) (fun c22 => ?_)
      · replace k_21 := k_21.resolve_right (fun h => c22 h.1)
        refine lv_iload_n hx hb dX6_shelfBoth_34 rfl (lv_at hl 1 rfl) ?_
        refine lv_iload_n hx hb dX6_shelfBoth_35 rfl (lv_at hl 2 rfl) ?_
        refine q_icmp_ne hx hb dX6_shelfBoth_36 (tgt := 44) (by decide) (by omega) (by omega) (fun c23 => ?_) (fun c23 => ?_)
        · refine q_iconst hx hb dX6_shelfBoth_44 ?_
          refine lv_istore (lv' := [(4, .int (iI 0)), (0, .ref ((ubg G))), (1, .int (iI xb)), (2, .int (iI xc)), (3, .int (iI xt))]) hx hb dX6_shelfBoth_45 hl (by decide) rfl (fun ls hl => ?_)
          refine q_iconst hx hb dX6_shelfBoth_47 ?_
          refine lv_istore (lv' := [(5, .int (iI 0)), (4, .int (iI 0)), (0, .ref ((ubg G))), (1, .int (iI xb)), (2, .int (iI xc)), (3, .int (iI xt))]) hx hb dX6_shelfBoth_48 hl (by decide) rfl (fun ls hl => ?_)
          have LP50 : ∀ (n_LP50 : Nat) (r : Int) (gv : Int → Int) (bv : Int) (a : Int) (Fv : Nat → va_E) (H : Heap) (locs : List Loc), (0 ≤ r ∧ r ≤ 100) → (va_P D vwCl (va_pl L Fv) H) → (va_D (AL L sz) (va_pl L Fv)) → (va_S (AL L sz) s.heap H locs) → (MP y L Fv O G (tM (tTh μ (ltR 1 (inR xt 0 2))) (vsh μ xb) gv bv)) → (OE O F Fv) → (sbX μ (vsh μ xb) (vsh μ xc) xt = itrP (sbU (vwk μ) (vsh μ xb) (vod μ (vsh μ xb)) (vod μ (vsh μ xc)) (vst μ (vsh μ xc)) xt) r 99 (gv, bv, a)) → (100 - r).toNat = n_LP50 → ∀ ls : Array Slot, lv_has ls 6 [(0, .ref ((ubg G))), (1, .int (iI xb)), (2, .int (iI xc)), (3, .int (iI xt)), (4, .int (iI a)), (5, .int (iI r))] → W p l e ({ frames := 2, cells := 0, slots := 0, locals := 45 } : Room) s m [.ref ((ubg G)), .int (iI xb), .int (iI xc), .int (iI xt)].toArray below meth c H locs 0 0 (MQ below (cMi D (AL L sz) (fun r L1 F1 => r = jR_shelfBoth μ xb xc xt ∧ ∃ (O1 : Nat → Prop) (G1 : MG), MP y L1 F1 O1 G1 (jS_shelfBoth μ xb xc xt) ∧ ubg G1 = ubg G ∧ Ext O O1 L L1 F F1)) [.ref ((ubg G)), .int (iI xb), .int (iI xc), .int (iI xt)].toArray s 0 0 (AL L sz)) (F0 m 50 ls []) := by
            intro n_LP50
            induction n_LP50 using Nat.strongRecOn with
            | ind n_LP50 ih_LP50 =>
              intro r gv bv a Fv H locs hr hP hD hS hC hO hI hm_LP50 ls hl
              refine lv_iload hx hb dX6_shelfBoth_50 (lv_at hl 5 rfl) ?_
              refine q_bipush hx hb dX6_shelfBoth_52 (by decide) ?_
              refine q_icmp_ge hx hb dX6_shelfBoth_54 (tgt := 113) (by decide) (by omega) (by omega) (fun c24 => ?_) (fun c24 => ?_)
              · refine lv_aload_n hx hb dX6_shelfBoth_113 rfl (lv_at hl 0 rfl) ?_
                refine lv_iload hx hb dX6_shelfBoth_114 (lv_at hl 4 rfl) ?_
                refine q_vMi C0 lX6_196 (c_X6_laid l D y L Fv _ O G (tM (tTh μ (ltR 1 (inR xt 0 2))) (vsh μ xb) gv bv) a hC) ⟨rfl, rfl⟩ rfl hP hD hS hA hC.1.1 hC.1.2 rfl rfl rfl hl rfl (Nat.le_of_ble_eq_true rfl) dX6_shelfBoth_116 ⟨Nat.le_of_ble_eq_true rfl, Nat.le_of_ble_eq_true rfl⟩ (fun r25 H locs L26 F26 hP hD hS hz26 hp26 => ?_)
                obtain ⟨eL, hC, er, hO1⟩ := hp26
                subst eL
                replace er : a = r25 := er.symm
                subst er
                have hO := hO.tr hO1
                exact q_retMi C0 hret rfl hlk dX6_shelfBoth_119 hP hD hS (⟨(by 
    have lt_ := ltR_d 1 (inR xt 0 2)
    unfold jR_shelfBoth ; (try rw [show ltR 1 (inR xt 0 2) = 0 by omega]); (repeat (first | rw [if_pos (by omega)] | rw [if_neg (by omega)])); rw [hI, itrP_e (by omega)]
    all_goals (first | rfl | omega)), O, G, MP_eq hC (by 
    have lt_ := ltR_d 1 (inR xt 0 2)
    unfold jS_shelfBoth tX; rw [show ltR 1 (inR xt 0 2) = 0 by omega]; (repeat (first | rw [if_pos (by omega)] | rw [if_neg (by omega)])); rw [hI, itrP_e (by omega)]
    all_goals rfl), rfl, Ext0 hO⟩)
              · refine lv_aload_n hx hb dX6_shelfBoth_57 rfl (lv_at hl 0 rfl) ?_
                refine q_get C0 iX6 hP hC.1.1 hC.1.2 rfl 1 (by decide) flX6_15 rfl (v := .ref ((uas G))) rfl dX6_shelfBoth_58 ?_
                refine lv_iload_n hx hb dX6_shelfBoth_61 rfl (lv_at hl 2 rfl) ?_
                refine q_aald C0 hP hC.2.2.1.1 hC.2.2.1.2 (t := 3) rfl (by omega) (by decide) (v := .ref ((urh G (vsh μ xc)))) rfl dX6_shelfBoth_62 ?_
                refine lv_iload hx hb dX6_shelfBoth_63 (lv_at hl 5 rfl) ?_
                refine q_vS C0 lX6_49 (c_X5_has l D y L Fv (urh G (vsh μ xc)) (urw G (vsh μ xc)) (vod μ (vsh μ xc)) (vst μ (vsh μ xc)) r (MP_rx hC (hW.2.1 xc) (rfl) (va_up_ne _ _ (fun e => absurd (hW.2.2.2.2.2.2.2.2.2.2 _ _ (by omega) (by omega) (by omega) (by omega) e) (by omega)))) (by omega)) ⟨rfl, rfl⟩ rfl hP (MP_rx hC (hW.2.1 xc) (rfl) (va_up_ne _ _ (fun e => absurd (hW.2.2.2.2.2.2.2.2.2.2 _ _ (by omega) (by omega) (by omega) (by omega) e) (by omega)))).1 (MP_rx hC (hW.2.1 xc) (rfl) (va_up_ne _ _ (fun e => absurd (hW.2.2.2.2.2.2.2.2.2.2 _ _ (by omega) (by omega) (by omega) (by omega) e) (by omega)))).2.1 rfl rfl rfl hl rfl (Nat.le_of_ble_eq_true rfl) dX6_shelfBoth_65 ⟨Nat.zero_le _, Nat.zero_le _⟩ (fun r27 e_r27 => ?_)
                subst e_r27
                have b_28 := isT_b (vst μ (vsh μ xc)) (turn (vod μ (vsh μ xc)) r)
                refine lv_iload_n hx hb dX6_shelfBoth_68 rfl (lv_at hl 3 rfl) ?_
                refine q_iconst hx hb dX6_shelfBoth_69 ?_
                refine q_icmp_eq hx hb dX6_shelfBoth_70 (tgt := 77) (by decide) (by omega) (by omega) (fun c29 => ?_) (fun c29 => ?_)
                · refine q_iconst hx hb dX6_shelfBoth_77 ?_
                  refine q_icmp_ne hx hb dX6_shelfBoth_78 (tgt := 107) (by decide) (by omega) (by omega) (fun c30 => ?_) (fun c30 => ?_)
                  · refine q_iinc (x := r) (n := 1) (lv' := [(5, .int (iI ((r + 1)))), (0, .ref ((ubg G))), (1, .int (iI xb)), (2, .int (iI xc)), (3, .int (iI xt)), (4, .int (iI a))]) hx hb dX6_shelfBoth_107 hl (k := 5) rfl (by decide) rfl (fun ls hl => ?_)
                    refine lv_goto (tgt := 50) hx hb dX6_shelfBoth_110 (by decide) ?_
                    exact ih_LP50 _ (by omega) (r + 1) gv bv a Fv _ _ (by omega) (hP) (hD) (hS) (hC) (hO) (by rw [hI, itrP_s (by omega)]; unfold sbU; (repeat' split) <;> first | rfl | (exfalso; omega)) rfl ls (lv_sub hl [1, 2, 3, 4, 5, 0] rfl)
                  · refine lv_iload hx hb dX6_shelfBoth_81 (lv_at hl 4 rfl) ?_
                    refine lv_aload_n hx hb dX6_shelfBoth_83 rfl (lv_at hl 0 rfl) ?_
                    refine lv_aload_n hx hb dX6_shelfBoth_84 rfl (lv_at hl 0 rfl) ?_
                    refine q_get C0 iX6 hP hC.1.1 hC.1.2 rfl 1 (by decide) flX6_15 rfl (v := .ref ((uas G))) rfl dX6_shelfBoth_85 ?_
                    refine lv_iload_n hx hb dX6_shelfBoth_88 rfl (lv_at hl 1 rfl) ?_
                    refine q_aald C0 hP hC.2.2.1.1 hC.2.2.1.2 (t := 3) rfl (by omega) (by decide) (v := .ref ((urh G (vsh μ xb)))) rfl dX6_shelfBoth_89 ?_
                    refine lv_iload hx hb dX6_shelfBoth_90 (lv_at hl 5 rfl) ?_
                    refine lv_iload_n hx hb dX6_shelfBoth_92 rfl (lv_at hl 3 rfl) ?_
                    refine q_if_ne hx hb dX6_shelfBoth_93 (tgt := 100) (by decide) (by omega) (fun c31 => ?_) (fun c31 => absurd c31 (by omega))
                    refine q_iconst hx hb dX6_shelfBoth_100 ?_
                    refine q_vMi C0 lX6_103 (c_X6_set l D y L Fv _ O G (tM (tTh μ (ltR 1 (inR xt 0 2))) (vsh μ xb) gv bv) (vsh μ xb) r (-1) hC (hW.2.1 xb) hW.2.2.2.1 (by omega) (by omega)) ⟨rfl, rfl⟩ rfl hP hD hS hA hC.1.1 hC.1.2 rfl rfl rfl hl rfl (Nat.le_of_ble_eq_true rfl) dX6_shelfBoth_101 ⟨Nat.le_of_ble_eq_true rfl, Nat.le_of_ble_eq_true rfl⟩ (fun r32 H locs L33 F33 hP hD hS hz33 hp33 => ?_)
                    obtain ⟨eL, hC, er, hO1⟩ := hp33
                    subst eL
                    rw [tM_st] at er
                    replace er : (seC gv (turn (vod μ (vsh μ xb)) r) (-1)) = r32 := er.symm
                    subst er
                    have hO := hO.tr hO1
                    replace hC := MP_eq hC (tSe_tM _ _ _ _ _ _)
                    refine q_iadd hx hb dX6_shelfBoth_104 ?_
                    refine lv_istore (lv' := [(4, .int (iI ((a + (seC gv (turn (vod μ (vsh μ xb)) r) (-1)))))), (0, .ref ((ubg G))), (1, .int (iI xb)), (2, .int (iI xc)), (3, .int (iI xt)), (5, .int (iI r))]) hx hb dX6_shelfBoth_105 hl (by decide) rfl (fun ls hl => ?_)
                    refine q_iinc (x := r) (n := 1) (lv' := [(5, .int (iI ((r + 1)))), (4, .int (iI ((a + (seC gv (turn (vod μ (vsh μ xb)) r) (-1)))))), (0, .ref ((ubg G))), (1, .int (iI xb)), (2, .int (iI xc)), (3, .int (iI xt))]) hx hb dX6_shelfBoth_107 hl (k := 5) rfl (by decide) rfl (fun ls hl => ?_)
                    refine lv_goto (tgt := 50) hx hb dX6_shelfBoth_110 (by decide) ?_
                    exact ih_LP50 _ (by omega) (r + 1) (iu gv (turn (vod μ (vsh μ xb)) r) (-1)) (seB (vwk μ) (vsh μ xb) gv (turn (vod μ (vsh μ xb)) r) (-1) bv) (a + (seC gv (turn (vod μ (vsh μ xb)) r) (-1))) F33 _ _ (by omega) (hP) (hD) (hS) (hC) (hO) (by rw [hI, itrP_s (by omega)]; unfold sbU; (repeat' split) <;> first | rfl | (exfalso; omega)) rfl ls (lv_sub hl [2, 3, 4, 5, 1, 0] rfl)
                · refine q_iconst hx hb dX6_shelfBoth_73 ?_
                  refine lv_goto (tgt := 78) hx hb dX6_shelfBoth_74 (by decide) ?_
                  refine q_icmp_ne hx hb dX6_shelfBoth_78 (tgt := 107) (by decide) (by omega) (by omega) (fun c34 => ?_) (fun c34 => ?_)
                  · refine q_iinc (x := r) (n := 1) (lv' := [(5, .int (iI ((r + 1)))), (0, .ref ((ubg G))), (1, .int (iI xb)), (2, .int (iI xc)), (3, .int (iI xt)), (4, .int (iI a))]) hx hb dX6_shelfBoth_107 hl (k := 5) rfl (by decide) rfl (fun ls hl => ?_)
                    refine lv_goto (tgt := 50) hx hb dX6_shelfBoth_110 (by decide) ?_
                    exact ih_LP50 _ (by omega) (r + 1) gv bv a Fv _ _ (by omega) (hP) (hD) (hS) (hC) (hO) (by rw [hI, itrP_s (by omega)]; unfold sbU; (repeat' split) <;> first | rfl | (exfalso; omega)) rfl ls (lv_sub hl [1, 2, 3, 4, 5, 0] rfl)
                  · refine lv_iload hx hb dX6_shelfBoth_81 (lv_at hl 4 rfl) ?_
                    refine lv_aload_n hx hb dX6_shelfBoth_83 rfl (lv_at hl 0 rfl) ?_
                    refine lv_aload_n hx hb dX6_shelfBoth_84 rfl (lv_at hl 0 rfl) ?_
                    refine q_get C0 iX6 hP hC.1.1 hC.1.2 rfl 1 (by decide) flX6_15 rfl (v := .ref ((uas G))) rfl dX6_shelfBoth_85 ?_
                    refine lv_iload_n hx hb dX6_shelfBoth_88 rfl (lv_at hl 1 rfl) ?_
                    refine q_aald C0 hP hC.2.2.1.1 hC.2.2.1.2 (t := 3) rfl (by omega) (by decide) (v := .ref ((urh G (vsh μ xb)))) rfl dX6_shelfBoth_89 ?_
                    refine lv_iload hx hb dX6_shelfBoth_90 (lv_at hl 5 rfl) ?_
                    refine lv_iload_n hx hb dX6_shelfBoth_92 rfl (lv_at hl 3 rfl) ?_
                    refine q_if_ne hx hb dX6_shelfBoth_93 (tgt := 100) (by decide) (by omega) (fun c35 => ?_) (fun c35 => ?_)
                    · refine q_iconst hx hb dX6_shelfBoth_100 ?_
                      refine q_vMi C0 lX6_103 (c_X6_set l D y L Fv _ O G (tM (tTh μ (ltR 1 (inR xt 0 2))) (vsh μ xb) gv bv) (vsh μ xb) r (-1) hC (hW.2.1 xb) hW.2.2.2.1 (by omega) (by omega)) ⟨rfl, rfl⟩ rfl hP hD hS hA hC.1.1 hC.1.2 rfl rfl rfl hl rfl (Nat.le_of_ble_eq_true rfl) dX6_shelfBoth_101 ⟨Nat.le_of_ble_eq_true rfl, Nat.le_of_ble_eq_true rfl⟩ (fun r36 H locs L37 F37 hP hD hS hz37 hp37 => ?_)
                      obtain ⟨eL, hC, er, hO1⟩ := hp37
                      subst eL
                      rw [tM_st] at er
                      replace er : (seC gv (turn (vod μ (vsh μ xb)) r) (-1)) = r36 := er.symm
                      subst er
                      have hO := hO.tr hO1
                      replace hC := MP_eq hC (tSe_tM _ _ _ _ _ _)
                      refine q_iadd hx hb dX6_shelfBoth_104 ?_
                      refine lv_istore (lv' := [(4, .int (iI ((a + (seC gv (turn (vod μ (vsh μ xb)) r) (-1)))))), (0, .ref ((ubg G))), (1, .int (iI xb)), (2, .int (iI xc)), (3, .int (iI xt)), (5, .int (iI r))]) hx hb dX6_shelfBoth_105 hl (by decide) rfl (fun ls hl => ?_)
                      refine q_iinc (x := r) (n := 1) (lv' := [(5, .int (iI ((r + 1)))), (4, .int (iI ((a + (seC gv (turn (vod μ (vsh μ xb)) r) (-1)))))), (0, .ref ((ubg G))), (1, .int (iI xb)), (2, .int (iI xc)), (3, .int (iI xt))]) hx hb dX6_shelfBoth_107 hl (k := 5) rfl (by decide) rfl (fun ls hl => ?_)
                      refine lv_goto (tgt := 50) hx hb dX6_shelfBoth_110 (by decide) ?_
                      exact ih_LP50 _ (by omega) (r + 1) (iu gv (turn (vod μ (vsh μ xb)) r) (-1)) (seB (vwk μ) (vsh μ xb) gv (turn (vod μ (vsh μ xb)) r) (-1) bv) (a + (seC gv (turn (vod μ (vsh μ xb)) r) (-1))) F37 _ _ (by omega) (hP) (hD) (hS) (hC) (hO) (by rw [hI, itrP_s (by omega)]; unfold sbU; (repeat' split) <;> first | rfl | (exfalso; omega)) rfl ls (lv_sub hl [2, 3, 4, 5, 1, 0] rfl)
                    · refine q_iconst hx hb dX6_shelfBoth_96 ?_
                      refine lv_goto (tgt := 101) hx hb dX6_shelfBoth_97 (by decide) ?_
                      refine q_vMi C0 lX6_103 (c_X6_set l D y L Fv _ O G (tM (tTh μ (ltR 1 (inR xt 0 2))) (vsh μ xb) gv bv) (vsh μ xb) r 0 hC (hW.2.1 xb) hW.2.2.2.1 (by omega) (by omega)) ⟨rfl, rfl⟩ rfl hP hD hS hA hC.1.1 hC.1.2 rfl rfl rfl hl rfl (Nat.le_of_ble_eq_true rfl) dX6_shelfBoth_101 ⟨Nat.le_of_ble_eq_true rfl, Nat.le_of_ble_eq_true rfl⟩ (fun r38 H locs L39 F39 hP hD hS hz39 hp39 => ?_)
                      obtain ⟨eL, hC, er, hO1⟩ := hp39
                      subst eL
                      rw [tM_st] at er
                      replace er : (seC gv (turn (vod μ (vsh μ xb)) r) 0) = r38 := er.symm
                      subst er
                      have hO := hO.tr hO1
                      replace hC := MP_eq hC (tSe_tM _ _ _ _ _ _)
                      refine q_iadd hx hb dX6_shelfBoth_104 ?_
                      refine lv_istore (lv' := [(4, .int (iI ((a + (seC gv (turn (vod μ (vsh μ xb)) r) 0))))), (0, .ref ((ubg G))), (1, .int (iI xb)), (2, .int (iI xc)), (3, .int (iI xt)), (5, .int (iI r))]) hx hb dX6_shelfBoth_105 hl (by decide) rfl (fun ls hl => ?_)
                      refine q_iinc (x := r) (n := 1) (lv' := [(5, .int (iI ((r + 1)))), (4, .int (iI ((a + (seC gv (turn (vod μ (vsh μ xb)) r) 0))))), (0, .ref ((ubg G))), (1, .int (iI xb)), (2, .int (iI xc)), (3, .int (iI xt))]) hx hb dX6_shelfBoth_107 hl (k := 5) rfl (by decide) rfl (fun ls hl => ?_)
                      refine lv_goto (tgt := 50) hx hb dX6_shelfBoth_110 (by decide) ?_
                      exact ih_LP50 _ (by omega) (r + 1) (iu gv (turn (vod μ (vsh μ xb)) r) 0) (seB (vwk μ) (vsh μ xb) gv (turn (vod μ (vsh μ xb)) r) 0 bv) (a + (seC gv (turn (vod μ (vsh μ xb)) r) 0)) F39 _ _ (by omega) (hP) (hD) (hS) (hC) (hO) (by rw [hI, itrP_s (by omega)]; unfold sbU; (repeat' split) <;> first | rfl | (exfalso; omega)) rfl ls (lv_sub hl [2, 3, 4, 5, 1, 0] rfl)
          exact LP50 _ 0 (vst μ (vsh μ xb)) (vbr μ) 0 F20 _ _ (by omega) (hP) (hD) (hS) (MP_eq hC (tM_0 _ _)) (hO) (rfl) rfl ls (lv_sub hl [2, 3, 4, 5, 1, 0] rfl)
        · refine lv_aload_n hx hb dX6_shelfBoth_39 rfl (lv_at hl 0 rfl) ?_
          refine q_vMi C0 lX6_89 (c_X6_refuse l D y L F20 _ O G (tTh μ (ltR 1 (inR xt 0 2))) hC) ⟨rfl, rfl⟩ rfl hP hD hS hA hC.1.1 hC.1.2 rfl rfl rfl hl rfl (Nat.le_of_ble_eq_true rfl) dX6_shelfBoth_40 ⟨Nat.le_of_ble_eq_true rfl, Nat.le_of_ble_eq_true rfl⟩ (fun r40 H locs L41 F41 hP hD hS hz41 hp41 => ?_)
          obtain ⟨eL, hC, er, hO1⟩ := hp41
          subst eL
          replace er : (-9) = r40 := er.symm
          subst er
          have hO := hO.tr hO1
          exact q_retMi C0 hret rfl hlk dX6_shelfBoth_43 hP hD hS (⟨(by 
    have lt_ := ltR_d 1 (inR xt 0 2)
    unfold jR_shelfBoth ; (try rw [show ltR 1 (inR xt 0 2) = 0 by omega]); (repeat (first | rw [if_pos (by omega)] | rw [if_neg (by omega)]))
    all_goals (first | rfl | omega)), O, G, MP_eq hC (by 
    have lt_ := ltR_d 1 (inR xt 0 2)
    unfold jS_shelfBoth tX; rw [show ltR 1 (inR xt 0 2) = 0 by omega]; (repeat (first | rw [if_pos (by omega)] | rw [if_neg (by omega)]))
    all_goals rfl), rfl, Ext0 hO⟩)
      · replace k_21 := k_21.resolve_left (fun h => absurd (h.1.symm.trans c22) (by decide))
        refine q_iconst hx hb dX6_shelfBoth_32 ?_
        exact q_retMi C0 hret rfl hlk dX6_shelfBoth_33 hP hD hS (⟨(by unfold jR_shelfBoth; rw [if_neg (by omega)]), O, G, MP_eq hC (by have lt_ := ltR_d 1 (inR xt 0 2); unfold jS_shelfBoth; rcases lt_ with lt_ | lt_ | lt_ <;> first | (rw [if_neg (by omega), lt_.1]; done) | (rw [if_pos (by omega), if_neg (by omega), lt_.1]; done) | (exfalso; omega)), rfl, Ext0 hO⟩)
set_option maxHeartbeats 3000000 in
set_option maxRecDepth 100000 in
theorem c_X6_has (l : Launch) (D : va_G) (y : Nat → ClassId) (L : List Nat) (F : Nat → va_E) (sz : Nat) (O : Nat → Prop) (G : MG) (μ : MS) (xb : Int) (xw : Int) (xn : Int) (hC : MP y L F O G μ) (hW : MW μ) (h_xb : -2147483648 ≤ xb ∧ xb ≤ 2147483647) (h_xw : 0 ≤ xw ∧ xw ≤ 1) (h_xn : -2147483648 ≤ xn ∧ xn ≤ 2147483647) : Met l yX6_has (.code yX6_has cX6_has 6 (some .boolean) :: Tt) ({ frames := 2, cells := 0, slots := 0, locals := 42 }) (PcM D y L F sz [.ref ((ubg G)), .int (iI xb), .int (iI xw), .int (iI xn)]) (cMi D (AL L sz) (fun r L1 F1 => r = jR_has μ xb xw xn ∧ ∃ (O1 : Nat → Prop) (G1 : MG), MP y L1 F1 O1 G1 (jS_has μ xb xw xn) ∧ ubg G1 = ubg G ∧ Ext O O1 L L1 F F1)) 0 0 (AL L sz) := by
  have hO : OE O F F := fun _ _ => rfl
  have hw5 := hW.2.2.2.2.2.1
  have hw6 := hW.2.2.2.2.2.2.1
  have hw7 := hW.2.2.2.2.2.2.2.1
  refine q_ofM (lv := [(0, .ref ((ubg G))), (1, .int (iI xb)), (2, .int (iI xw)), (3, .int (iI xn))]) (by decide) (Nat.le_of_ble_eq_true rfl) rfl (fun p e s m below meth c C0 hret hlk hnm hA hP hD hS ls hl => ?_)
  have hx := C0.1.1
  have hb := C0.1.2.1
  have hts := C0.1.2.2.2.2
  refine lv_aload_n hx hb dX6_has_0 rfl (lv_at hl 0 rfl) ?_
  refine lv_iload_n hx hb dX6_has_1 rfl (lv_at hl 1 rfl) ?_
  refine q_sS C0 lX6_60 (c_X6_isBook l D y L F xb (by omega)) ⟨rfl, rfl⟩ rfl hP rfl hl rfl (Nat.le_of_ble_eq_true rfl) dX6_has_2 ⟨Nat.zero_le _, Nat.zero_le _⟩ (fun r1 e_r1 => ?_)
  subst e_r1
  have b_2 := inR_d xb 0 3
  refine lv_iload_n hx hb dX6_has_5 rfl (lv_at hl 3 rfl) ?_
  refine q_sS C0 lX6_86 (c_X6_isKey l D y L F xn (by omega)) ⟨rfl, rfl⟩ rfl hP rfl hl rfl (Nat.le_of_ble_eq_true rfl) dX6_has_6 ⟨Nat.zero_le _, Nat.zero_le _⟩ (fun r3 e_r3 => ?_)
  subst e_r3
  have b_4 := inR_d xn 0 99
  refine q_vMi C0 lX6_63 (c_X6_isLet l D y L F _ O G μ (inR xb 0 3) (inR xn 0 99) hC (by omega) (by omega)) ⟨rfl, rfl⟩ rfl hP hD hS hA hC.1.1 hC.1.2 rfl rfl rfl hl rfl (Nat.le_of_ble_eq_true rfl) dX6_has_9 ⟨Nat.le_of_ble_eq_true rfl, Nat.le_of_ble_eq_true rfl⟩ (fun r5 H locs L6 F6 hP hD hS hz6 hp6 => ?_)
  obtain ⟨eL, hC, er, hO1⟩ := hp6
  subst eL
  replace er := er.symm
  subst er
  have hO := hO.tr hO1
  have k_7 := okR_d (inR xb 0 3) (inR xn 0 99)
  refine q_if_ne hx hb dX6_has_12 (tgt := 17) (by decide) (by omega) (fun c8 => ?_) (fun c8 => ?_)
  · replace k_7 := k_7.resolve_right (fun h => c8 h.1)
    refine lv_iload_n hx hb dX6_has_17 rfl (lv_at hl 2 rfl) ?_
    refine q_if_eq hx hb dX6_has_18 (tgt := 38) (by decide) (by omega) (fun c9 => ?_) (fun c9 => ?_)
    · refine q_iconst hx hb dX6_has_38 ?_
      refine lv_istore (lv' := [(4, .int (iI 0)), (0, .ref ((ubg G))), (1, .int (iI xb)), (2, .int (iI xw)), (3, .int (iI xn))]) hx hb dX6_has_39 hl (by decide) rfl (fun ls hl => ?_)
      refine q_iconst hx hb dX6_has_41 ?_
      refine lv_istore (lv' := [(5, .int (iI 0)), (4, .int (iI 0)), (0, .ref ((ubg G))), (1, .int (iI xb)), (2, .int (iI xw)), (3, .int (iI xn))]) hx hb dX6_has_42 hl (by decide) rfl (fun ls hl => ?_)
      have LP44 : ∀ (n_LP44 : Nat) (z : Int) (r : Int), (0 ≤ r ∧ r ≤ 100) → (0 ≤ z ∧ z ≤ 1) → ((xw ≠ 0 ∧ z = isT (vst μ (vbk μ xb)) (turn (vod μ (vbk μ xb)) xn)) ∨ (xw = 0 ∧ allP (hmW (vod μ (vbk μ xb)) (vst μ (vbk μ xb)) xn) 0 = if z = 0 then allP (hmW (vod μ (vbk μ xb)) (vst μ (vbk μ xb)) xn) r else 0)) → (100 - r).toNat = n_LP44 → ∀ ls : Array Slot, lv_has ls 6 [(0, .ref ((ubg G))), (1, .int (iI xb)), (2, .int (iI xw)), (3, .int (iI xn)), (4, .int (iI z)), (5, .int (iI r))] → W p l e ({ frames := 2, cells := 0, slots := 0, locals := 42 } : Room) s m [.ref ((ubg G)), .int (iI xb), .int (iI xw), .int (iI xn)].toArray below meth c H locs 0 0 (MQ below (cMi D (AL L sz) (fun r L1 F1 => r = jR_has μ xb xw xn ∧ ∃ (O1 : Nat → Prop) (G1 : MG), MP y L1 F1 O1 G1 (jS_has μ xb xw xn) ∧ ubg G1 = ubg G ∧ Ext O O1 L L1 F F1)) [.ref ((ubg G)), .int (iI xb), .int (iI xw), .int (iI xn)].toArray s 0 0 (AL L sz)) (F0 m 44 ls []) := by
        intro n_LP44
        induction n_LP44 using Nat.strongRecOn with
        | ind n_LP44 ih_LP44 =>
          intro z r hr hz hI hm_LP44 ls hl
          refine lv_iload hx hb dX6_has_44 (lv_at hl 5 rfl) ?_
          refine q_bipush hx hb dX6_has_46 (by decide) ?_
          refine q_icmp_ge hx hb dX6_has_48 (tgt := 89) (by decide) (by omega) (by omega) (fun c10 => ?_) (fun c10 => ?_)
          · refine lv_iload hx hb dX6_has_89 (lv_at hl 4 rfl) ?_
            exact q_retMi C0 hret (narB (by omega)) hlk dX6_has_91 hP hD hS (⟨(by 
    unfold jR_has; (try unfold bkF); (try unfold bkO); (try unfold shF); (try unfold shO); rw [if_pos ⟨by omega, by omega⟩]; rcases hI with ⟨h1, h2⟩ | ⟨h1, h2⟩
    · rw [if_pos h1]; exact h2
    · rw [if_neg (by omega), h2]; split
      · rw [allP_e (by omega)]; omega
      · omega), O, G, MP_eq hC (by 
    have lt_ := ltR_d (inR xb 0 3) (inR xn 0 99)
    unfold jS_has ; rw [show ltR (inR xb 0 3) (inR xn 0 99) = 0 by omega]; (repeat (first | rw [if_pos (by omega)] | rw [if_neg (by omega)]))
    all_goals rfl), rfl, Ext0 hO⟩)
          · refine lv_iload_n hx hb dX6_has_51 rfl (lv_at hl 2 rfl) ?_
            refine q_if_ne hx hb dX6_has_52 (tgt := 89) (by decide) (by omega) (fun c11 => absurd c11 (by omega)) (fun c11 => ?_)
            refine lv_iload hx hb dX6_has_55 (lv_at hl 4 rfl) ?_
            refine q_if_ne hx hb dX6_has_57 (tgt := 76) (by decide) (by omega) (fun c12 => ?_) (fun c12 => ?_)
            · refine q_iconst hx hb dX6_has_76 ?_
              refine lv_goto (tgt := 81) hx hb dX6_has_77 (by decide) ?_
              refine lv_istore (lv' := [(4, .int (iI 1)), (0, .ref ((ubg G))), (1, .int (iI xb)), (2, .int (iI xw)), (3, .int (iI xn)), (5, .int (iI r))]) hx hb dX6_has_81 hl (by decide) rfl (fun ls hl => ?_)
              refine q_iinc (x := r) (n := 1) (lv' := [(5, .int (iI ((r + 1)))), (4, .int (iI 1)), (0, .ref ((ubg G))), (1, .int (iI xb)), (2, .int (iI xw)), (3, .int (iI xn))]) hx hb dX6_has_83 hl (k := 5) rfl (by decide) rfl (fun ls hl => ?_)
              refine lv_goto (tgt := 44) hx hb dX6_has_86 (by decide) ?_
              exact ih_LP44 _ (by omega) 1 (r + 1) (by omega) (by omega) (by
    rcases hI with h9 | ⟨h8, h9⟩
    · exact absurd h9.1 (by omega)
    · refine Or.inr ⟨h8, ?_⟩
      first | (rw [h9, if_neg (by omega), if_neg (by omega)]; done) | (rw [h9, if_pos (by omega), allP_n (by unfold hmW; rw [if_pos (by omega)]) (by omega), if_neg (by omega)]; done) | (rw [h9, if_pos (by omega), allP_s (by unfold hmW; rw [if_neg (by omega)]; decide) (by omega), if_pos (by omega)])) rfl ls (lv_sub hl [2, 3, 4, 5, 1, 0] rfl)
            · refine lv_aload_n hx hb dX6_has_60 rfl (lv_at hl 0 rfl) ?_
              refine q_get C0 iX6 hP hC.1.1 hC.1.2 rfl 0 (by decide) flX6_11 rfl (v := .ref ((uab G))) rfl dX6_has_61 ?_
              refine lv_iload_n hx hb dX6_has_64 rfl (lv_at hl 1 rfl) ?_
              refine q_aald C0 hP hC.2.1.1 hC.2.1.2 (t := 3) rfl (by omega) (by decide) (v := .ref ((urh G (vbk μ xb)))) rfl dX6_has_65 ?_
              refine q_getN C0 iX5 hP (MP_r hC (hW.1 xb)).1 (MP_r hC (hW.1 xb)).2.1 rfl 1 (by decide) C0.2.2.2.2.2.2.1 rfl (v := .ref ((urw G (vbk μ xb)))) rfl dX6_has_66 ?_
              refine lv_iload hx hb dX6_has_69 (lv_at hl 5 rfl) ?_
              refine q_iald C0 hP (f := (mwd (vod μ (vbk μ xb)) (vst μ (vbk μ xb)))) (MP_r hC (hW.1 xb)).2.2.1 (MP_r hC (hW.1 xb)).2.2.2.1 (by omega) (by decide) dX6_has_71 ?_
              have b_13 := (fun k => show -1 ≤ mwd (vod μ (vbk μ xb)) (vst μ (vbk μ xb)) k ∧ mwd (vod μ (vbk μ xb)) (vst μ (vbk μ xb)) k ≤ 99 from (MP_r hC (hW.1 xb)).2.2.2.2.2 (turn (vod μ (vbk μ xb)) k)) r
              refine lv_iload_n hx hb dX6_has_72 rfl (lv_at hl 3 rfl) ?_
              refine q_icmp_ne hx hb dX6_has_73 (tgt := 80) (by decide) (by omega) (by omega) (fun c14 => ?_) (fun c14 => ?_)
              · refine q_iconst hx hb dX6_has_80 ?_
                refine lv_istore (lv' := [(4, .int (iI 0)), (0, .ref ((ubg G))), (1, .int (iI xb)), (2, .int (iI xw)), (3, .int (iI xn)), (5, .int (iI r))]) hx hb dX6_has_81 hl (by decide) rfl (fun ls hl => ?_)
                refine q_iinc (x := r) (n := 1) (lv' := [(5, .int (iI ((r + 1)))), (4, .int (iI 0)), (0, .ref ((ubg G))), (1, .int (iI xb)), (2, .int (iI xw)), (3, .int (iI xn))]) hx hb dX6_has_83 hl (k := 5) rfl (by decide) rfl (fun ls hl => ?_)
                refine lv_goto (tgt := 44) hx hb dX6_has_86 (by decide) ?_
                exact ih_LP44 _ (by omega) 0 (r + 1) (by omega) (by omega) (by
    rcases hI with h9 | ⟨h8, h9⟩
    · exact absurd h9.1 (by omega)
    · refine Or.inr ⟨h8, ?_⟩
      first | (rw [h9, if_neg (by omega), if_neg (by omega)]; done) | (rw [h9, if_pos (by omega), allP_n (by unfold hmW; rw [if_pos (by omega)]) (by omega), if_neg (by omega)]; done) | (rw [h9, if_pos (by omega), allP_s (by unfold hmW; rw [if_neg (by omega)]; decide) (by omega), if_pos (by omega)])) rfl ls (lv_sub hl [2, 3, 4, 5, 1, 0] rfl)
              · refine q_iconst hx hb dX6_has_76 ?_
                refine lv_goto (tgt := 81) hx hb dX6_has_77 (by decide) ?_
                refine lv_istore (lv' := [(4, .int (iI 1)), (0, .ref ((ubg G))), (1, .int (iI xb)), (2, .int (iI xw)), (3, .int (iI xn)), (5, .int (iI r))]) hx hb dX6_has_81 hl (by decide) rfl (fun ls hl => ?_)
                refine q_iinc (x := r) (n := 1) (lv' := [(5, .int (iI ((r + 1)))), (4, .int (iI 1)), (0, .ref ((ubg G))), (1, .int (iI xb)), (2, .int (iI xw)), (3, .int (iI xn))]) hx hb dX6_has_83 hl (k := 5) rfl (by decide) rfl (fun ls hl => ?_)
                refine lv_goto (tgt := 44) hx hb dX6_has_86 (by decide) ?_
                exact ih_LP44 _ (by omega) 1 (r + 1) (by omega) (by omega) (by
    rcases hI with h9 | ⟨h8, h9⟩
    · exact absurd h9.1 (by omega)
    · refine Or.inr ⟨h8, ?_⟩
      first | (rw [h9, if_neg (by omega), if_neg (by omega)]; done) | (rw [h9, if_pos (by omega), allP_n (by unfold hmW; rw [if_pos (by omega)]) (by omega), if_neg (by omega)]; done) | (rw [h9, if_pos (by omega), allP_s (by unfold hmW; rw [if_neg (by omega)]; decide) (by omega), if_pos (by omega)])) rfl ls (lv_sub hl [2, 3, 4, 5, 1, 0] rfl)
      exact LP44 _ 0 0 (by omega) (by omega) (by first | exact Or.inl ⟨by omega, by omega⟩ | exact Or.inr ⟨by omega, by rw [if_pos rfl]⟩) rfl ls (lv_sub hl [2, 3, 4, 5, 1, 0] rfl)
    · refine lv_aload_n hx hb dX6_has_21 rfl (lv_at hl 0 rfl) ?_
      refine q_get C0 iX6 hP hC.1.1 hC.1.2 rfl 0 (by decide) flX6_11 rfl (v := .ref ((uab G))) rfl dX6_has_22 ?_
      refine lv_iload_n hx hb dX6_has_25 rfl (lv_at hl 1 rfl) ?_
      refine q_aald C0 hP hC.2.1.1 hC.2.1.2 (t := 3) rfl (by omega) (by decide) (v := .ref ((urh G (vbk μ xb)))) rfl dX6_has_26 ?_
      refine lv_iload_n hx hb dX6_has_27 rfl (lv_at hl 3 rfl) ?_
      refine q_vS C0 lX6_49 (c_X5_has l D y L F6 (urh G (vbk μ xb)) (urw G (vbk μ xb)) (vod μ (vbk μ xb)) (vst μ (vbk μ xb)) xn (MP_r hC (hW.1 xb)) (by omega)) ⟨rfl, rfl⟩ rfl hP (MP_r hC (hW.1 xb)).1 (MP_r hC (hW.1 xb)).2.1 rfl rfl rfl hl rfl (Nat.le_of_ble_eq_true rfl) dX6_has_28 ⟨Nat.zero_le _, Nat.zero_le _⟩ (fun r15 e_r15 => ?_)
      subst e_r15
      have b_16 := isT_b (vst μ (vbk μ xb)) (turn (vod μ (vbk μ xb)) xn)
      refine q_if_eq hx hb dX6_has_31 (tgt := 38) (by decide) (by omega) (fun c17 => ?_) (fun c17 => ?_)
      · refine q_iconst hx hb dX6_has_38 ?_
        refine lv_istore (lv' := [(4, .int (iI 0)), (0, .ref ((ubg G))), (1, .int (iI xb)), (2, .int (iI xw)), (3, .int (iI xn))]) hx hb dX6_has_39 hl (by decide) rfl (fun ls hl => ?_)
        refine q_iconst hx hb dX6_has_41 ?_
        refine lv_istore (lv' := [(5, .int (iI 0)), (4, .int (iI 0)), (0, .ref ((ubg G))), (1, .int (iI xb)), (2, .int (iI xw)), (3, .int (iI xn))]) hx hb dX6_has_42 hl (by decide) rfl (fun ls hl => ?_)
        have LP44 : ∀ (n_LP44 : Nat) (z : Int) (r : Int), (0 ≤ r ∧ r ≤ 100) → (0 ≤ z ∧ z ≤ 1) → ((xw ≠ 0 ∧ z = isT (vst μ (vbk μ xb)) (turn (vod μ (vbk μ xb)) xn)) ∨ (xw = 0 ∧ allP (hmW (vod μ (vbk μ xb)) (vst μ (vbk μ xb)) xn) 0 = if z = 0 then allP (hmW (vod μ (vbk μ xb)) (vst μ (vbk μ xb)) xn) r else 0)) → (100 - r).toNat = n_LP44 → ∀ ls : Array Slot, lv_has ls 6 [(0, .ref ((ubg G))), (1, .int (iI xb)), (2, .int (iI xw)), (3, .int (iI xn)), (4, .int (iI z)), (5, .int (iI r))] → W p l e ({ frames := 2, cells := 0, slots := 0, locals := 42 } : Room) s m [.ref ((ubg G)), .int (iI xb), .int (iI xw), .int (iI xn)].toArray below meth c H locs 0 0 (MQ below (cMi D (AL L sz) (fun r L1 F1 => r = jR_has μ xb xw xn ∧ ∃ (O1 : Nat → Prop) (G1 : MG), MP y L1 F1 O1 G1 (jS_has μ xb xw xn) ∧ ubg G1 = ubg G ∧ Ext O O1 L L1 F F1)) [.ref ((ubg G)), .int (iI xb), .int (iI xw), .int (iI xn)].toArray s 0 0 (AL L sz)) (F0 m 44 ls []) := by
          intro n_LP44
          induction n_LP44 using Nat.strongRecOn with
          | ind n_LP44 ih_LP44 =>
            intro z r hr hz hI hm_LP44 ls hl
            refine lv_iload hx hb dX6_has_44 (lv_at hl 5 rfl) ?_
            refine q_bipush hx hb dX6_has_46 (by decide) ?_
            refine q_icmp_ge hx hb dX6_has_48 (tgt := 89) (by decide) (by omega) (by omega) (fun c18 => ?_) (fun c18 => ?_)
            · refine lv_iload hx hb dX6_has_89 (lv_at hl 4 rfl) ?_
              exact q_retMi C0 hret (narB (by omega)) hlk dX6_has_91 hP hD hS (⟨(by 
    unfold jR_has; (try unfold bkF); (try unfold bkO); (try unfold shF); (try unfold shO); rw [if_pos ⟨by omega, by omega⟩]; rcases hI with ⟨h1, h2⟩ | ⟨h1, h2⟩
    · rw [if_pos h1]; exact h2
    · rw [if_neg (by omega), h2]; split
      · rw [allP_e (by omega)]; omega
      · omega), O, G, MP_eq hC (by 
    have lt_ := ltR_d (inR xb 0 3) (inR xn 0 99)
    unfold jS_has ; rw [show ltR (inR xb 0 3) (inR xn 0 99) = 0 by omega]; (repeat (first | rw [if_pos (by omega)] | rw [if_neg (by omega)]))
    all_goals rfl), rfl, Ext0 hO⟩)
            · refine lv_iload_n hx hb dX6_has_51 rfl (lv_at hl 2 rfl) ?_
              refine q_if_ne hx hb dX6_has_52 (tgt := 89) (by decide) (by omega) (fun c19 => ?_) (fun c19 => absurd c19 (by omega))
              refine lv_iload hx hb dX6_has_89 (lv_at hl 4 rfl) ?_
              exact q_retMi C0 hret (narB (by omega)) hlk dX6_has_91 hP hD hS (⟨(by 
    unfold jR_has; (try unfold bkF); (try unfold bkO); (try unfold shF); (try unfold shO); rw [if_pos ⟨by omega, by omega⟩]; rcases hI with ⟨h1, h2⟩ | ⟨h1, h2⟩
    · rw [if_pos h1]; exact h2
    · rw [if_neg (by omega), h2]; split
      · rw [allP_e (by omega)]; omega
      · omega), O, G, MP_eq hC (by 
    have lt_ := ltR_d (inR xb 0 3) (inR xn 0 99)
    unfold jS_has ; rw [show ltR (inR xb 0 3) (inR xn 0 99) = 0 by omega]; (repeat (first | rw [if_pos (by omega)] | rw [if_neg (by omega)]))
    all_goals rfl), rfl, Ext0 hO⟩)
        exact LP44 _ 0 0 (by omega) (by omega) (by first | exact Or.inl ⟨by omega, by omega⟩ | exact Or.inr ⟨by omega, by rw [if_pos rfl]⟩) rfl ls (lv_sub hl [2, 3, 4, 5, 1, 0] rfl)
      · refine q_iconst hx hb dX6_has_34 ?_
        refine lv_goto (tgt := 39) hx hb dX6_has_35 (by decide) ?_
        refine lv_istore (lv' := [(4, .int (iI 1)), (0, .ref ((ubg G))), (1, .int (iI xb)), (2, .int (iI xw)), (3, .int (iI xn))]) hx hb dX6_has_39 hl (by decide) rfl (fun ls hl => ?_)
        refine q_iconst hx hb dX6_has_41 ?_
        refine lv_istore (lv' := [(5, .int (iI 0)), (4, .int (iI 1)), (0, .ref ((ubg G))), (1, .int (iI xb)), (2, .int (iI xw)), (3, .int (iI xn))]) hx hb dX6_has_42 hl (by decide) rfl (fun ls hl => ?_)
        have LP44 : ∀ (n_LP44 : Nat) (z : Int) (r : Int), (0 ≤ r ∧ r ≤ 100) → (0 ≤ z ∧ z ≤ 1) → ((xw ≠ 0 ∧ z = isT (vst μ (vbk μ xb)) (turn (vod μ (vbk μ xb)) xn)) ∨ (xw = 0 ∧ allP (hmW (vod μ (vbk μ xb)) (vst μ (vbk μ xb)) xn) 0 = if z = 0 then allP (hmW (vod μ (vbk μ xb)) (vst μ (vbk μ xb)) xn) r else 0)) → (100 - r).toNat = n_LP44 → ∀ ls : Array Slot, lv_has ls 6 [(0, .ref ((ubg G))), (1, .int (iI xb)), (2, .int (iI xw)), (3, .int (iI xn)), (4, .int (iI z)), (5, .int (iI r))] → W p l e ({ frames := 2, cells := 0, slots := 0, locals := 42 } : Room) s m [.ref ((ubg G)), .int (iI xb), .int (iI xw), .int (iI xn)].toArray below meth c H locs 0 0 (MQ below (cMi D (AL L sz) (fun r L1 F1 => r = jR_has μ xb xw xn ∧ ∃ (O1 : Nat → Prop) (G1 : MG), MP y L1 F1 O1 G1 (jS_has μ xb xw xn) ∧ ubg G1 = ubg G ∧ Ext O O1 L L1 F F1)) [.ref ((ubg G)), .int (iI xb), .int (iI xw), .int (iI xn)].toArray s 0 0 (AL L sz)) (F0 m 44 ls []) := by
          intro n_LP44
          induction n_LP44 using Nat.strongRecOn with
          | ind n_LP44 ih_LP44 =>
            intro z r hr hz hI hm_LP44 ls hl
            refine lv_iload hx hb dX6_has_44 (lv_at hl 5 rfl) ?_
            refine q_bipush hx hb dX6_has_46 (by decide) ?_
            refine q_icmp_ge hx hb dX6_has_48 (tgt := 89) (by decide) (by omega) (by omega) (fun c20 => ?_) (fun c20 => ?_)
            · refine lv_iload hx hb dX6_has_89 (lv_at hl 4 rfl) ?_
              exact q_retMi C0 hret (narB (by omega)) hlk dX6_has_91 hP hD hS (⟨(by 
    unfold jR_has; (try unfold bkF); (try unfold bkO); (try unfold shF); (try unfold shO); rw [if_pos ⟨by omega, by omega⟩]; rcases hI with ⟨h1, h2⟩ | ⟨h1, h2⟩
    · rw [if_pos h1]; exact h2
    · rw [if_neg (by omega), h2]; split
      · rw [allP_e (by omega)]; omega
      · omega), O, G, MP_eq hC (by 
    have lt_ := ltR_d (inR xb 0 3) (inR xn 0 99)
    unfold jS_has ; rw [show ltR (inR xb 0 3) (inR xn 0 99) = 0 by omega]; (repeat (first | rw [if_pos (by omega)] | rw [if_neg (by omega)]))
    all_goals rfl), rfl, Ext0 hO⟩)
            · refine lv_iload_n hx hb dX6_has_51 rfl (lv_at hl 2 rfl) ?_
              refine q_if_ne hx hb dX6_has_52 (tgt := 89) (by decide) (by omega) (fun c21 => ?_) (fun c21 => absurd c21 (by omega))
              refine lv_iload hx hb dX6_has_89 (lv_at hl 4 rfl) ?_
              exact q_retMi C0 hret (narB (by omega)) hlk dX6_has_91 hP hD hS (⟨(by 
    unfold jR_has; (try unfold bkF); (try unfold bkO); (try unfold shF); (try unfold shO); rw [if_pos ⟨by omega, by omega⟩]; rcases hI with ⟨h1, h2⟩ | ⟨h1, h2⟩
    · rw [if_pos h1]; exact h2
    · rw [if_neg (by omega), h2]; split
      · rw [allP_e (by omega)]; omega
      · omega), O, G, MP_eq hC (by 
    have lt_ := ltR_d (inR xb 0 3) (inR xn 0 99)
    unfold jS_has ; rw [show ltR (inR xb 0 3) (inR xn 0 99) = 0 by omega]; (repeat (first | rw [if_pos (by omega)] | rw [if_neg (by omega)]))
    all_goals rfl), rfl, Ext0 hO⟩)
        exact LP44 _ 1 0 (by omega) (by omega) (by first | exact Or.inl ⟨by omega, by omega⟩ | exact Or.inr ⟨by omega, by rw [if_pos rfl]⟩) rfl ls (lv_sub hl [2, 3, 4, 5, 1, 0] rfl)
  · replace k_7 := k_7.resolve_left (fun h => absurd (h.1.symm.trans c8) (by decide))
    refine q_iconst hx hb dX6_has_15 ?_
    exact q_retMi C0 hret (by decide) hlk dX6_has_16 hP hD hS (⟨(by unfold jR_has; (try unfold bkF); (try unfold bkO); (try unfold shF); (try unfold shO); rw [if_neg (by omega)]), O, G, MP_eq hC (by have lt_ := ltR_d (inR xb 0 3) (inR xn 0 99); unfold jS_has; rcases lt_ with lt_ | lt_ | lt_ <;> first | (rw [if_neg (by omega), lt_.1]; done) | (rw [if_pos (by omega), if_neg (by omega), lt_.1]; done) | (exfalso; omega)), rfl, Ext0 hO⟩)
set_option maxHeartbeats 3000000 in
set_option maxRecDepth 100000 in
theorem c_X6_keyAt (l : Launch) (D : va_G) (y : Nat → ClassId) (L : List Nat) (F : Nat → va_E) (sz : Nat) (O : Nat → Prop) (G : MG) (μ : MS) (xb : Int) (xn : Int) (xz : Int) (hC : MP y L F O G μ) (hW : MW μ) (h_xb : -2147483648 ≤ xb ∧ xb ≤ 2147483647) (h_xn : -2147483648 ≤ xn ∧ xn ≤ 2147483647) (h_xz : 0 ≤ xz ∧ xz ≤ 1) : Met l yX6_keyAt (.code yX6_keyAt cX6_keyAt 7 (some .int) :: Tt) ({ frames := 2, cells := 0, slots := 0, locals := 42 }) (PcM D y L F sz [.ref ((ubg G)), .int (iI xb), .int (iI xn), .int (iI xz)]) (cMi D (AL L sz) (fun r L1 F1 => r = jR_keyAt μ xb xn xz ∧ ∃ (O1 : Nat → Prop) (G1 : MG), MP y L1 F1 O1 G1 (jS_keyAt μ xb xn xz) ∧ ubg G1 = ubg G ∧ Ext O O1 L L1 F F1)) 0 0 (AL L sz) := by
  have hO : OE O F F := fun _ _ => rfl
  have hw5 := hW.2.2.2.2.2.1
  have hw6 := hW.2.2.2.2.2.2.1
  have hw7 := hW.2.2.2.2.2.2.2.1
  refine q_ofM (lv := [(0, .ref ((ubg G))), (1, .int (iI xb)), (2, .int (iI xn)), (3, .int (iI xz))]) (by decide) (Nat.le_of_ble_eq_true rfl) rfl (fun p e s m below meth c C0 hret hlk hnm hA hP hD hS ls hl => ?_)
  have hx := C0.1.1
  have hb := C0.1.2.1
  have hts := C0.1.2.2.2.2
  refine lv_aload_n hx hb dX6_keyAt_0 rfl (lv_at hl 0 rfl) ?_
  refine lv_iload_n hx hb dX6_keyAt_1 rfl (lv_at hl 1 rfl) ?_
  refine q_sS C0 lX6_60 (c_X6_isBook l D y L F xb (by omega)) ⟨rfl, rfl⟩ rfl hP rfl hl rfl (Nat.le_of_ble_eq_true rfl) dX6_keyAt_2 ⟨Nat.zero_le _, Nat.zero_le _⟩ (fun r1 e_r1 => ?_)
  subst e_r1
  have b_2 := inR_d xb 0 3
  refine lv_iload_n hx hb dX6_keyAt_5 rfl (lv_at hl 2 rfl) ?_
  refine q_iconst hx hb dX6_keyAt_6 ?_
  refine q_bipush hx hb dX6_keyAt_7 (by decide) ?_
  refine q_sS C0 lX6_41 (c_X6_isIn l D y L F xn 0 99 (by omega) (by omega) (by omega)) ⟨rfl, rfl⟩ rfl hP rfl hl rfl (Nat.le_of_ble_eq_true rfl) dX6_keyAt_9 ⟨Nat.zero_le _, Nat.zero_le _⟩ (fun r3 e_r3 => ?_)
  subst e_r3
  have b_4 := inR_d xn 0 99
  refine q_vMi C0 lX6_63 (c_X6_isLet l D y L F _ O G μ (inR xb 0 3) (inR xn 0 99) hC (by omega) (by omega)) ⟨rfl, rfl⟩ rfl hP hD hS hA hC.1.1 hC.1.2 rfl rfl rfl hl rfl (Nat.le_of_ble_eq_true rfl) dX6_keyAt_12 ⟨Nat.le_of_ble_eq_true rfl, Nat.le_of_ble_eq_true rfl⟩ (fun r5 H locs L6 F6 hP hD hS hz6 hp6 => ?_)
  obtain ⟨eL, hC, er, hO1⟩ := hp6
  subst eL
  replace er := er.symm
  subst er
  have hO := hO.tr hO1
  have k_7 := okR_d (inR xb 0 3) (inR xn 0 99)
  refine q_if_ne hx hb dX6_keyAt_15 (tgt := 20) (by decide) (by omega) (fun c8 => ?_) (fun c8 => ?_)
  · replace k_7 := k_7.resolve_right (fun h => c8 h.1)
    refine lv_iload_n hx hb dX6_keyAt_20 rfl (lv_at hl 2 rfl) ?_
    refine lv_istore (lv' := [(4, .int (iI xn)), (0, .ref ((ubg G))), (1, .int (iI xb)), (2, .int (iI xn)), (3, .int (iI xz))]) hx hb dX6_keyAt_21 hl (by decide) rfl (fun ls hl => ?_)
    refine q_iconst hx hb dX6_keyAt_23 ?_
    refine lv_istore (lv' := [(5, .int (iI 0)), (4, .int (iI xn)), (0, .ref ((ubg G))), (1, .int (iI xb)), (2, .int (iI xn)), (3, .int (iI xz))]) hx hb dX6_keyAt_24 hl (by decide) rfl (fun ls hl => ?_)
    have LP26 : ∀ (n_LP26 : Nat) (r : Int) (u : Int), (0 ≤ r ∧ r ≤ 100) → (0 ≤ u ∧ u ≤ 99) → (kaP (vst μ (vbk μ xb)) xz 0 xn = kaP (vst μ (vbk μ xb)) xz r u) → (100 - r).toNat = n_LP26 → ∀ ls : Array Slot, lv_has ls 7 [(0, .ref ((ubg G))), (1, .int (iI xb)), (2, .int (iI xn)), (3, .int (iI xz)), (4, .int (iI u)), (5, .int (iI r))] → W p l e ({ frames := 2, cells := 0, slots := 0, locals := 42 } : Room) s m [.ref ((ubg G)), .int (iI xb), .int (iI xn), .int (iI xz)].toArray below meth c H locs 0 0 (MQ below (cMi D (AL L sz) (fun r L1 F1 => r = jR_keyAt μ xb xn xz ∧ ∃ (O1 : Nat → Prop) (G1 : MG), MP y L1 F1 O1 G1 (jS_keyAt μ xb xn xz) ∧ ubg G1 = ubg G ∧ Ext O O1 L L1 F F1)) [.ref ((ubg G)), .int (iI xb), .int (iI xn), .int (iI xz)].toArray s 0 0 (AL L sz)) (F0 m 26 ls []) := by
      intro n_LP26
      induction n_LP26 using Nat.strongRecOn with
      | ind n_LP26 ih_LP26 =>
        intro r u hr hu hI hm_LP26 ls hl
        refine lv_iload hx hb dX6_keyAt_26 (lv_at hl 5 rfl) ?_
        refine q_bipush hx hb dX6_keyAt_28 (by decide) ?_
        refine q_icmp_ge hx hb dX6_keyAt_30 (tgt := 89) (by decide) (by omega) (by omega) (fun c9 => ?_) (fun c9 => ?_)
        · refine q_iconst hx hb dX6_keyAt_89 ?_
          exact q_retMi C0 hret rfl hlk dX6_keyAt_90 hP hD hS (⟨(by unfold jR_keyAt; (try unfold bkF); (try unfold bkO); (try unfold shF); (try unfold shO); rw [if_pos ⟨by omega, by omega⟩, hI, kaP_e (by omega)]; rfl), O, G, MP_eq hC (by 
    have lt_ := ltR_d (inR xb 0 3) (inR xn 0 99)
    unfold jS_keyAt ; rw [show ltR (inR xb 0 3) (inR xn 0 99) = 0 by omega]; (repeat (first | rw [if_pos (by omega)] | rw [if_neg (by omega)]))
    all_goals rfl), rfl, Ext0 hO⟩)
        · refine lv_aload_n hx hb dX6_keyAt_33 rfl (lv_at hl 0 rfl) ?_
          refine q_get C0 iX6 hP hC.1.1 hC.1.2 rfl 0 (by decide) flX6_11 rfl (v := .ref ((uab G))) rfl dX6_keyAt_34 ?_
          refine lv_iload_n hx hb dX6_keyAt_37 rfl (lv_at hl 1 rfl) ?_
          refine q_aald C0 hP hC.2.1.1 hC.2.1.2 (t := 3) rfl (by omega) (by decide) (v := .ref ((urh G (vbk μ xb)))) rfl dX6_keyAt_38 ?_
          refine lv_iload_n hx hb dX6_keyAt_39 rfl (lv_at hl 3 rfl) ?_
          refine q_if_eq hx hb dX6_keyAt_40 (tgt := 51) (by decide) (by omega) (fun c10 => ?_) (fun c10 => ?_)
          · have kr_ : kaR xz r = r := if_neg (by omega)
            have t_ := isT_turn (vst μ (vbk μ xb)) (vod μ (vbk μ xb)) (r := r) (by omega)
            refine lv_iload hx hb dX6_keyAt_51 (lv_at hl 5 rfl) ?_
            refine q_vS C0 lX6_100 (c_X5_key l D y L F6 (urh G (vbk μ xb)) (urw G (vbk μ xb)) (vod μ (vbk μ xb)) (vst μ (vbk μ xb)) r (MP_r hC (hW.1 xb)) (by omega)) ⟨rfl, rfl⟩ rfl hP (MP_r hC (hW.1 xb)).1 (MP_r hC (hW.1 xb)).2.1 rfl rfl rfl hl rfl (Nat.le_of_ble_eq_true rfl) dX6_keyAt_53 ⟨Nat.zero_le _, Nat.zero_le _⟩ (fun r11 e_r11 => ?_)
            subst e_r11
            have b_12 := @turn_b (vod μ (vbk μ xb)) r (by omega)
            refine lv_istore (lv' := [(6, .int (iI ((turn (vod μ (vbk μ xb)) r)))), (0, .ref ((ubg G))), (1, .int (iI xb)), (2, .int (iI xn)), (3, .int (iI xz)), (4, .int (iI u)), (5, .int (iI r))]) hx hb dX6_keyAt_56 hl (by decide) rfl (fun ls hl => ?_)
            refine lv_aload_n hx hb dX6_keyAt_58 rfl (lv_at hl 1 rfl) ?_
            refine q_get C0 iX6 hP hC.1.1 hC.1.2 rfl 0 (by decide) flX6_11 rfl (v := .ref ((uab G))) rfl dX6_keyAt_59 ?_
            refine lv_iload_n hx hb dX6_keyAt_62 rfl (lv_at hl 2 rfl) ?_
            refine q_aald C0 hP hC.2.1.1 hC.2.1.2 (t := 3) rfl (by omega) (by decide) (v := .ref ((urh G (vbk μ xb)))) rfl dX6_keyAt_63 ?_
            refine lv_iload hx hb dX6_keyAt_64 (lv_at hl 0 rfl) ?_
            refine q_vS C0 lX6_49 (c_X5_has l D y L F6 (urh G (vbk μ xb)) (urw G (vbk μ xb)) (vod μ (vbk μ xb)) (vst μ (vbk μ xb)) (turn (vod μ (vbk μ xb)) r) (MP_r hC (hW.1 xb)) (by omega)) ⟨rfl, rfl⟩ rfl hP (MP_r hC (hW.1 xb)).1 (MP_r hC (hW.1 xb)).2.1 rfl rfl rfl hl rfl (Nat.le_of_ble_eq_true rfl) dX6_keyAt_66 ⟨Nat.zero_le _, Nat.zero_le _⟩ (fun r13 e_r13 => ?_)
            subst e_r13
            have b_14 := isT_b (vst μ (vbk μ xb)) (turn (vod μ (vbk μ xb)) (turn (vod μ (vbk μ xb)) r))
            refine q_if_eq hx hb dX6_keyAt_69 (tgt := 83) (by decide) (by omega) (fun c15 => ?_) (fun c15 => ?_)
            · refine q_iinc (x := r) (n := 1) (lv' := [(5, .int (iI ((r + 1)))), (6, .int (iI ((turn (vod μ (vbk μ xb)) r)))), (0, .ref ((ubg G))), (1, .int (iI xb)), (2, .int (iI xn)), (3, .int (iI xz)), (4, .int (iI u))]) hx hb dX6_keyAt_83 hl (k := 6) rfl (by decide) rfl (fun ls hl => ?_)
              refine lv_goto (tgt := 26) hx hb dX6_keyAt_86 (by decide) ?_
              exact ih_LP26 _ (by omega) (r + 1) u (by omega) (by omega) (by rw [hI, kaP_s (by omega), kr_]; first | (rw [if_pos (by omega), if_neg (by omega)]; rfl) | (rw [if_neg (by omega)]; done)) rfl ls (lv_sub hl [2, 3, 4, 5, 6, 0] rfl)
            · refine lv_iload hx hb dX6_keyAt_72 (lv_at hl 5 rfl) ?_
              refine q_iinc (x := u) (n := -1) (lv' := [(4, .int (iI ((u + (-1))))), (6, .int (iI ((turn (vod μ (vbk μ xb)) r)))), (0, .ref ((ubg G))), (1, .int (iI xb)), (2, .int (iI xn)), (3, .int (iI xz)), (5, .int (iI r))]) hx hb dX6_keyAt_74 hl (k := 5) rfl (by decide) rfl (fun ls hl => ?_)
              refine q_if_ne hx hb dX6_keyAt_77 (tgt := 83) (by decide) (by omega) (fun c16 => ?_) (fun c16 => ?_)
              · refine q_iinc (x := r) (n := 1) (lv' := [(5, .int (iI ((r + 1)))), (4, .int (iI ((u + (-1))))), (6, .int (iI ((turn (vod μ (vbk μ xb)) r)))), (0, .ref ((ubg G))), (1, .int (iI xb)), (2, .int (iI xn)), (3, .int (iI xz))]) hx hb dX6_keyAt_83 hl (k := 6) rfl (by decide) rfl (fun ls hl => ?_)
                refine lv_goto (tgt := 26) hx hb dX6_keyAt_86 (by decide) ?_
                exact ih_LP26 _ (by omega) (r + 1) (u + (-1)) (by omega) (by omega) (by rw [hI, kaP_s (by omega), kr_]; first | (rw [if_pos (by omega), if_neg (by omega)]; rfl) | (rw [if_neg (by omega)]; done)) rfl ls (lv_sub hl [3, 4, 5, 6, 1, 0] rfl)
              · refine lv_iload hx hb dX6_keyAt_80 (lv_at hl 1 rfl) ?_
                exact q_retMi C0 hret rfl hlk dX6_keyAt_82 hP hD hS (⟨(by unfold jR_keyAt; (try unfold bkF); (try unfold bkO); (try unfold shF); (try unfold shO); rw [if_pos ⟨by omega, by omega⟩, hI, kaP_s (by omega), kr_, if_pos (by omega), if_pos (by omega)]; unfold keyR; rw [if_neg (by omega)]), O, G, MP_eq hC (by 
    have lt_ := ltR_d (inR xb 0 3) (inR xn 0 99)
    unfold jS_keyAt ; rw [show ltR (inR xb 0 3) (inR xn 0 99) = 0 by omega]; (repeat (first | rw [if_pos (by omega)] | rw [if_neg (by omega)]))
    all_goals rfl), rfl, Ext0 hO⟩)
          · have kr_ : kaR xz r = 99 - r := if_pos (by omega)
            have t_ := isT_turn (vst μ (vbk μ xb)) (vod μ (vbk μ xb)) (r := (99 - r)) (by omega)
            refine q_bipush hx hb dX6_keyAt_43 (by decide) ?_
            refine lv_iload hx hb dX6_keyAt_45 (lv_at hl 5 rfl) ?_
            refine q_isub hx hb dX6_keyAt_47 ?_
            refine lv_goto (tgt := 53) hx hb dX6_keyAt_48 (by decide) ?_
            refine q_vS C0 lX6_100 (c_X5_key l D y L F6 (urh G (vbk μ xb)) (urw G (vbk μ xb)) (vod μ (vbk μ xb)) (vst μ (vbk μ xb)) (99 - r) (MP_r hC (hW.1 xb)) (by omega)) ⟨rfl, rfl⟩ rfl hP (MP_r hC (hW.1 xb)).1 (MP_r hC (hW.1 xb)).2.1 rfl rfl rfl hl rfl (Nat.le_of_ble_eq_true rfl) dX6_keyAt_53 ⟨Nat.zero_le _, Nat.zero_le _⟩ (fun r17 e_r17 => ?_)
            subst e_r17
            have b_18 := @turn_b (vod μ (vbk μ xb)) (99 - r) (by omega)
            refine lv_istore (lv' := [(6, .int (iI ((turn (vod μ (vbk μ xb)) (99 - r))))), (0, .ref ((ubg G))), (1, .int (iI xb)), (2, .int (iI xn)), (3, .int (iI xz)), (4, .int (iI u)), (5, .int (iI r))]) hx hb dX6_keyAt_56 hl (by decide) rfl (fun ls hl => ?_)
            refine lv_aload_n hx hb dX6_keyAt_58 rfl (lv_at hl 1 rfl) ?_
            refine q_get C0 iX6 hP hC.1.1 hC.1.2 rfl 0 (by decide) flX6_11 rfl (v := .ref ((uab G))) rfl dX6_keyAt_59 ?_
            refine lv_iload_n hx hb dX6_keyAt_62 rfl (lv_at hl 2 rfl) ?_
            refine q_aald C0 hP hC.2.1.1 hC.2.1.2 (t := 3) rfl (by omega) (by decide) (v := .ref ((urh G (vbk μ xb)))) rfl dX6_keyAt_63 ?_
            refine lv_iload hx hb dX6_keyAt_64 (lv_at hl 0 rfl) ?_
            refine q_vS C0 lX6_49 (c_X5_has l D y L F6 (urh G (vbk μ xb)) (urw G (vbk μ xb)) (vod μ (vbk μ xb)) (vst μ (vbk μ xb)) (turn (vod μ (vbk μ xb)) (99 - r)) (MP_r hC (hW.1 xb)) (by omega)) ⟨rfl, rfl⟩ rfl hP (MP_r hC (hW.1 xb)).1 (MP_r hC (hW.1 xb)).2.1 rfl rfl rfl hl rfl (Nat.le_of_ble_eq_true rfl) dX6_keyAt_66 ⟨Nat.zero_le _, Nat.zero_le _⟩ (fun r19 e_r19 => ?_)
            subst e_r19
            have b_20 := isT_b (vst μ (vbk μ xb)) (turn (vod μ (vbk μ xb)) (turn (vod μ (vbk μ xb)) (99 - r)))
            refine q_if_eq hx hb dX6_keyAt_69 (tgt := 83) (by decide) (by omega) (fun c21 => ?_) (fun c21 => ?_)
            · refine q_iinc (x := r) (n := 1) (lv' := [(5, .int (iI ((r + 1)))), (6, .int (iI ((turn (vod μ (vbk μ xb)) (99 - r))))), (0, .ref ((ubg G))), (1, .int (iI xb)), (2, .int (iI xn)), (3, .int (iI xz)), (4, .int (iI u))]) hx hb dX6_keyAt_83 hl (k := 6) rfl (by decide) rfl (fun ls hl => ?_)
              refine lv_goto (tgt := 26) hx hb dX6_keyAt_86 (by decide) ?_
              exact ih_LP26 _ (by omega) (r + 1) u (by omega) (by omega) (by rw [hI, kaP_s (by omega), kr_]; first | (rw [if_pos (by omega), if_neg (by omega)]; rfl) | (rw [if_neg (by omega)]; done)) rfl ls (lv_sub hl [2, 3, 4, 5, 6, 0] rfl)
            · refine lv_iload hx hb dX6_keyAt_72 (lv_at hl 5 rfl) ?_
              refine q_iinc (x := u) (n := -1) (lv' := [(4, .int (iI ((u + (-1))))), (6, .int (iI ((turn (vod μ (vbk μ xb)) (99 - r))))), (0, .ref ((ubg G))), (1, .int (iI xb)), (2, .int (iI xn)), (3, .int (iI xz)), (5, .int (iI r))]) hx hb dX6_keyAt_74 hl (k := 5) rfl (by decide) rfl (fun ls hl => ?_)
              refine q_if_ne hx hb dX6_keyAt_77 (tgt := 83) (by decide) (by omega) (fun c22 => ?_) (fun c22 => ?_)
              · refine q_iinc (x := r) (n := 1) (lv' := [(5, .int (iI ((r + 1)))), (4, .int (iI ((u + (-1))))), (6, .int (iI ((turn (vod μ (vbk μ xb)) (99 - r))))), (0, .ref ((ubg G))), (1, .int (iI xb)), (2, .int (iI xn)), (3, .int (iI xz))]) hx hb dX6_keyAt_83 hl (k := 6) rfl (by decide) rfl (fun ls hl => ?_)
                refine lv_goto (tgt := 26) hx hb dX6_keyAt_86 (by decide) ?_
                exact ih_LP26 _ (by omega) (r + 1) (u + (-1)) (by omega) (by omega) (by rw [hI, kaP_s (by omega), kr_]; first | (rw [if_pos (by omega), if_neg (by omega)]; rfl) | (rw [if_neg (by omega)]; done)) rfl ls (lv_sub hl [3, 4, 5, 6, 1, 0] rfl)
              · refine lv_iload hx hb dX6_keyAt_80 (lv_at hl 1 rfl) ?_
                exact q_retMi C0 hret rfl hlk dX6_keyAt_82 hP hD hS (⟨(by unfold jR_keyAt; (try unfold bkF); (try unfold bkO); (try unfold shF); (try unfold shO); rw [if_pos ⟨by omega, by omega⟩, hI, kaP_s (by omega), kr_, if_pos (by omega), if_pos (by omega)]; unfold keyR; rw [if_neg (by omega)]), O, G, MP_eq hC (by 
    have lt_ := ltR_d (inR xb 0 3) (inR xn 0 99)
    unfold jS_keyAt ; rw [show ltR (inR xb 0 3) (inR xn 0 99) = 0 by omega]; (repeat (first | rw [if_pos (by omega)] | rw [if_neg (by omega)]))
    all_goals rfl), rfl, Ext0 hO⟩)
    exact LP26 _ 0 xn (by omega) (by omega) (rfl) rfl ls (lv_sub hl [2, 3, 4, 5, 1, 0] rfl)
  · replace k_7 := k_7.resolve_left (fun h => absurd (h.1.symm.trans c8) (by decide))
    refine q_iconst hx hb dX6_keyAt_18 ?_
    exact q_retMi C0 hret rfl hlk dX6_keyAt_19 hP hD hS (⟨(by unfold jR_keyAt; (try unfold bkF); (try unfold bkO); (try unfold shF); (try unfold shO); rw [if_neg (by omega)]), O, G, MP_eq hC (by have lt_ := ltR_d (inR xb 0 3) (inR xn 0 99); unfold jS_keyAt; rcases lt_ with lt_ | lt_ | lt_ <;> first | (rw [if_neg (by omega), lt_.1]; done) | (rw [if_pos (by omega), if_neg (by omega), lt_.1]; done) | (exfalso; omega)), rfl, Ext0 hO⟩)
set_option maxHeartbeats 3000000 in
set_option maxRecDepth 100000 in
theorem c_X6_sameShelves (l : Launch) (D : va_G) (y : Nat → ClassId) (L : List Nat) (F : Nat → va_E) (sz : Nat) (O : Nat → Prop) (G : MG) (μ : MS) (xb : Int) (xc : Int) (xt : Int) (hC : MP y L F O G μ) (hW : MW μ) (h_xb : -2147483648 ≤ xb ∧ xb ≤ 2147483647) (h_xc : -2147483648 ≤ xc ∧ xc ≤ 2147483647) (h_xt : -2147483648 ≤ xt ∧ xt ≤ 2147483647) : Met l yX6_sameShelves (.code yX6_sameShelves cX6_sameShelves 6 (some .boolean) :: Tt) ({ frames := 2, cells := 0, slots := 0, locals := 42 }) (PcM D y L F sz [.ref ((ubg G)), .int (iI xb), .int (iI xc), .int (iI xt)]) (cMi D (AL L sz) (fun r L1 F1 => r = jR_sameShelves μ xb xc xt ∧ ∃ (O1 : Nat → Prop) (G1 : MG), MP y L1 F1 O1 G1 (jS_sameShelves μ xb xc xt) ∧ ubg G1 = ubg G ∧ Ext O O1 L L1 F F1)) 0 0 (AL L sz) := by
  have hO : OE O F F := fun _ _ => rfl
  have hw5 := hW.2.2.2.2.2.1
  have hw6 := hW.2.2.2.2.2.2.1
  have hw7 := hW.2.2.2.2.2.2.2.1
  refine q_ofM (lv := [(0, .ref ((ubg G))), (1, .int (iI xb)), (2, .int (iI xc)), (3, .int (iI xt))]) (by decide) (Nat.le_of_ble_eq_true rfl) rfl (fun p e s m below meth c C0 hret hlk hnm hA hP hD hS ls hl => ?_)
  have hx := C0.1.1
  have hb := C0.1.2.1
  have hts := C0.1.2.2.2.2
  refine lv_aload_n hx hb dX6_sameShelves_0 rfl (lv_at hl 0 rfl) ?_
  refine lv_iload_n hx hb dX6_sameShelves_1 rfl (lv_at hl 1 rfl) ?_
  refine q_sS C0 lX6_193 (c_X6_isShelf l D y L F xb (by omega)) ⟨rfl, rfl⟩ rfl hP rfl hl rfl (Nat.le_of_ble_eq_true rfl) dX6_sameShelves_2 ⟨Nat.zero_le _, Nat.zero_le _⟩ (fun r1 e_r1 => ?_)
  subst e_r1
  have b_2 := inR_d xb 0 2
  refine q_if_eq hx hb dX6_sameShelves_5 (tgt := 19) (by decide) (by omega) (fun c3 => ?_) (fun c3 => ?_)
  · replace b_2 := b_2.resolve_left (fun h => absurd (h.1.symm.trans c3) (by decide))
    refine q_iconst hx hb dX6_sameShelves_19 ?_
    refine lv_iload_n hx hb dX6_sameShelves_20 rfl (lv_at hl 3 rfl) ?_
    refine q_iconst hx hb dX6_sameShelves_21 ?_
    refine q_iconst hx hb dX6_sameShelves_22 ?_
    refine q_sS C0 lX6_41 (c_X6_isIn l D y L F xt 0 1 (by omega) (by omega) (by omega)) ⟨rfl, rfl⟩ rfl hP rfl hl rfl (Nat.le_of_ble_eq_true rfl) dX6_sameShelves_23 ⟨Nat.zero_le _, Nat.zero_le _⟩ (fun r4 e_r4 => ?_)
    subst e_r4
    have b_5 := inR_d xt 0 1
    refine q_vMi C0 lX6_63 (c_X6_isLet l D y L F _ O G μ 0 (inR xt 0 1) hC (by omega) (by omega)) ⟨rfl, rfl⟩ rfl hP hD hS hA hC.1.1 hC.1.2 rfl rfl rfl hl rfl (Nat.le_of_ble_eq_true rfl) dX6_sameShelves_26 ⟨Nat.le_of_ble_eq_true rfl, Nat.le_of_ble_eq_true rfl⟩ (fun r6 H locs L7 F7 hP hD hS hz7 hp7 => ?_)
    obtain ⟨eL, hC, er, hO1⟩ := hp7
    subst eL
    replace er := (er.trans (okR_z0 _)).symm
    subst er
    have hO := hO.tr hO1
    refine q_if_ne hx hb dX6_sameShelves_29 (tgt := 34) (by decide) (by omega) (fun c8 => absurd c8 (by omega)) (fun c8 => ?_)
    refine q_iconst hx hb dX6_sameShelves_32 ?_
    exact q_retMi C0 hret (by decide) hlk dX6_sameShelves_33 hP hD hS (⟨(by unfold jR_sameShelves; (try unfold bkF); (try unfold bkO); (try unfold shF); (try unfold shO); rw [if_neg (by omega)]), O, G, MP_eq hC (by have lt_ := ltR_d 0 (inR xt 0 1); unfold jS_sameShelves; rcases lt_ with lt_ | lt_ | lt_ <;> first | (rw [if_neg (by omega), lt_.1]; done) | (rw [if_pos (by omega), if_neg (by omega), lt_.1]; done) | (exfalso; omega)), rfl, Ext0 hO⟩)
  · replace b_2 := b_2.resolve_right (fun h => c3 h.1)
    refine lv_iload_n hx hb dX6_sameShelves_8 rfl (lv_at hl 2 rfl) ?_
    refine q_sS C0 lX6_193 (c_X6_isShelf l D y L F xc (by omega)) ⟨rfl, rfl⟩ rfl hP rfl hl rfl (Nat.le_of_ble_eq_true rfl) dX6_sameShelves_9 ⟨Nat.zero_le _, Nat.zero_le _⟩ (fun r9 e_r9 => ?_)
    subst e_r9
    have b_10 := inR_d xc 0 2
    refine q_if_eq hx hb dX6_sameShelves_12 (tgt := 19) (by decide) (by omega) (fun c11 => ?_) (fun c11 => ?_)
    · replace b_10 := b_10.resolve_left (fun h => absurd (h.1.symm.trans c11) (by decide))
      refine q_iconst hx hb dX6_sameShelves_19 ?_
      refine lv_iload_n hx hb dX6_sameShelves_20 rfl (lv_at hl 3 rfl) ?_
      refine q_iconst hx hb dX6_sameShelves_21 ?_
      refine q_iconst hx hb dX6_sameShelves_22 ?_
      refine q_sS C0 lX6_41 (c_X6_isIn l D y L F xt 0 1 (by omega) (by omega) (by omega)) ⟨rfl, rfl⟩ rfl hP rfl hl rfl (Nat.le_of_ble_eq_true rfl) dX6_sameShelves_23 ⟨Nat.zero_le _, Nat.zero_le _⟩ (fun r12 e_r12 => ?_)
      subst e_r12
      have b_13 := inR_d xt 0 1
      refine q_vMi C0 lX6_63 (c_X6_isLet l D y L F _ O G μ 0 (inR xt 0 1) hC (by omega) (by omega)) ⟨rfl, rfl⟩ rfl hP hD hS hA hC.1.1 hC.1.2 rfl rfl rfl hl rfl (Nat.le_of_ble_eq_true rfl) dX6_sameShelves_26 ⟨Nat.le_of_ble_eq_true rfl, Nat.le_of_ble_eq_true rfl⟩ (fun r14 H locs L15 F15 hP hD hS hz15 hp15 => ?_)
      obtain ⟨eL, hC, er, hO1⟩ := hp15
      subst eL
      replace er := (er.trans (okR_z0 _)).symm
      subst er
      have hO := hO.tr hO1
      refine q_if_ne hx hb dX6_sameShelves_29 (tgt := 34) (by decide) (by omega) (fun c16 => absurd c16 (by omega)) (fun c16 => ?_)
      refine q_iconst hx hb dX6_sameShelves_32 ?_
      exact q_retMi C0 hret (by decide) hlk dX6_sameShelves_33 hP hD hS (⟨(by unfold jR_sameShelves; (try unfold bkF); (try unfold bkO); (try unfold shF); (try unfold shO); rw [if_neg (by omega)]), O, G, MP_eq hC (by have lt_ := ltR_d 0 (inR xt 0 1); unfold jS_sameShelves; rcases lt_ with lt_ | lt_ | lt_ <;> first | (rw [if_neg (by omega), lt_.1]; done) | (rw [if_pos (by omega), if_neg (by omega), lt_.1]; done) | (exfalso; omega)), rfl, Ext0 hO⟩)
    · replace b_10 := b_10.resolve_right (fun h => c11 h.1)
      refine q_iconst hx hb dX6_sameShelves_15 ?_
      refine lv_goto (tgt := 20) hx hb dX6_sameShelves_16 (by decide) ?_
      refine lv_iload_n hx hb dX6_sameShelves_20 rfl (lv_at hl 3 rfl) ?_
      refine q_iconst hx hb dX6_sameShelves_21 ?_
      refine q_iconst hx hb dX6_sameShelves_22 ?_
      refine q_sS C0 lX6_41 (c_X6_isIn l D y L F xt 0 1 (by omega) (by omega) (by omega)) ⟨rfl, rfl⟩ rfl hP rfl hl rfl (Nat.le_of_ble_eq_true rfl) dX6_sameShelves_23 ⟨Nat.zero_le _, Nat.zero_le _⟩ (fun r17 e_r17 => ?_)
      subst e_r17
      have b_18 := inR_d xt 0 1
      refine q_vMi C0 lX6_63 (c_X6_isLet l D y L F _ O G μ 1 (inR xt 0 1) hC (by omega) (by omega)) ⟨rfl, rfl⟩ rfl hP hD hS hA hC.1.1 hC.1.2 rfl rfl rfl hl rfl (Nat.le_of_ble_eq_true rfl) dX6_sameShelves_26 ⟨Nat.le_of_ble_eq_true rfl, Nat.le_of_ble_eq_true rfl⟩ (fun r19 H locs L20 F20 hP hD hS hz20 hp20 => ?_)
      obtain ⟨eL, hC, er, hO1⟩ := hp20
      subst eL
      replace er := er.symm
      subst er
      have hO := hO.tr hO1
      have k_21 := okR_d 1 (inR xt 0 1)
      refine q_if_ne hx hb dX6_sameShelves_29 (tgt := 34) (by decide) (by omega) (fun c22 => ?_) (fun c22 => ?_)
      · replace k_21 := k_21.resolve_right (fun h => c22 h.1)
        refine q_iconst hx hb dX6_sameShelves_34 ?_
        refine lv_istore (lv' := [(4, .int (iI 1)), (0, .ref ((ubg G))), (1, .int (iI xb)), (2, .int (iI xc)), (3, .int (iI xt))]) hx hb dX6_sameShelves_35 hl (by decide) rfl (fun ls hl => ?_)
        refine q_iconst hx hb dX6_sameShelves_37 ?_
        refine lv_istore (lv' := [(5, .int (iI 0)), (4, .int (iI 1)), (0, .ref ((ubg G))), (1, .int (iI xb)), (2, .int (iI xc)), (3, .int (iI xt))]) hx hb dX6_sameShelves_38 hl (by decide) rfl (fun ls hl => ?_)
        have LP40 : ∀ (n_LP40 : Nat) (z : Int) (r : Int), (0 ≤ r ∧ r ≤ 100) → (0 ≤ z ∧ z ≤ 1) → (allP (ssU (vod μ (vsh μ xb)) (vod μ (vsh μ xc)) (vst μ (vsh μ xb)) (vst μ (vsh μ xc)) xt) 0 = if z = 0 then 0 else allP (ssU (vod μ (vsh μ xb)) (vod μ (vsh μ xc)) (vst μ (vsh μ xb)) (vst μ (vsh μ xc)) xt) r) → (100 - r).toNat = n_LP40 → ∀ ls : Array Slot, lv_has ls 6 [(0, .ref ((ubg G))), (1, .int (iI xb)), (2, .int (iI xc)), (3, .int (iI xt)), (4, .int (iI z)), (5, .int (iI r))] → W p l e ({ frames := 2, cells := 0, slots := 0, locals := 42 } : Room) s m [.ref ((ubg G)), .int (iI xb), .int (iI xc), .int (iI xt)].toArray below meth c H locs 0 0 (MQ below (cMi D (AL L sz) (fun r L1 F1 => r = jR_sameShelves μ xb xc xt ∧ ∃ (O1 : Nat → Prop) (G1 : MG), MP y L1 F1 O1 G1 (jS_sameShelves μ xb xc xt) ∧ ubg G1 = ubg G ∧ Ext O O1 L L1 F F1)) [.ref ((ubg G)), .int (iI xb), .int (iI xc), .int (iI xt)].toArray s 0 0 (AL L sz)) (F0 m 40 ls []) := by
          intro n_LP40
          induction n_LP40 using Nat.strongRecOn with
          | ind n_LP40 ih_LP40 =>
            intro z r hr hz hI hm_LP40 ls hl
            refine lv_iload hx hb dX6_sameShelves_40 (lv_at hl 5 rfl) ?_
            refine q_bipush hx hb dX6_sameShelves_42 (by decide) ?_
            refine q_icmp_ge hx hb dX6_sameShelves_44 (tgt := 109) (by decide) (by omega) (by omega) (fun c23 => ?_) (fun c23 => ?_)
            · refine lv_iload hx hb dX6_sameShelves_109 (lv_at hl 4 rfl) ?_
              exact q_retMi C0 hret (narB (by omega)) hlk dX6_sameShelves_111 hP hD hS (⟨(by 
    unfold jR_sameShelves; (try unfold bkF); (try unfold bkO); (try unfold shF); (try unfold shO); rw [if_pos ⟨by omega, by omega⟩, hI]; split
    · omega
    · rw [allP_e (by omega)]; omega), O, G, MP_eq hC (by 
    have lt_ := ltR_d 1 (inR xt 0 1)
    unfold jS_sameShelves ; rw [show ltR 1 (inR xt 0 1) = 0 by omega]; (repeat (first | rw [if_pos (by omega)] | rw [if_neg (by omega)]))
    all_goals rfl), rfl, Ext0 hO⟩)
            · refine lv_iload hx hb dX6_sameShelves_47 (lv_at hl 4 rfl) ?_
              refine q_if_eq hx hb dX6_sameShelves_49 (tgt := 100) (by decide) (by omega) (fun c24 => ?_) (fun c24 => ?_)
              · refine q_iconst hx hb dX6_sameShelves_100 ?_
                refine lv_istore (lv' := [(4, .int (iI 0)), (0, .ref ((ubg G))), (1, .int (iI xb)), (2, .int (iI xc)), (3, .int (iI xt)), (5, .int (iI r))]) hx hb dX6_sameShelves_101 hl (by decide) rfl (fun ls hl => ?_)
                refine q_iinc (x := r) (n := 1) (lv' := [(5, .int (iI ((r + 1)))), (4, .int (iI 0)), (0, .ref ((ubg G))), (1, .int (iI xb)), (2, .int (iI xc)), (3, .int (iI xt))]) hx hb dX6_sameShelves_103 hl (k := 5) rfl (by decide) rfl (fun ls hl => ?_)
                refine lv_goto (tgt := 40) hx hb dX6_sameShelves_106 (by decide) ?_
                exact ih_LP40 _ (by omega) 0 (r + 1) (by omega) (by omega) (by first | (rw [hI, if_pos (by omega), if_pos (by omega)]; done) | (rw [hI, if_neg (by omega), allP_s (by unfold ssU; rw [if_pos (by omega)]; decide) (by omega), if_neg (by omega)]; done) | (rw [hI, if_neg (by omega), allP_n (by unfold ssU; rw [if_neg (by omega)]) (by omega), if_pos (by omega)])) rfl ls (lv_sub hl [2, 3, 4, 5, 1, 0] rfl)
              · refine lv_aload_n hx hb dX6_sameShelves_52 rfl (lv_at hl 0 rfl) ?_
                refine q_get C0 iX6 hP hC.1.1 hC.1.2 rfl 1 (by decide) flX6_15 rfl (v := .ref ((uas G))) rfl dX6_sameShelves_53 ?_
                refine lv_iload_n hx hb dX6_sameShelves_56 rfl (lv_at hl 1 rfl) ?_
                refine q_aald C0 hP hC.2.2.1.1 hC.2.2.1.2 (t := 3) rfl (by omega) (by decide) (v := .ref ((urh G (vsh μ xb)))) rfl dX6_sameShelves_57 ?_
                refine lv_iload hx hb dX6_sameShelves_58 (lv_at hl 5 rfl) ?_
                refine q_vS C0 lX6_49 (c_X5_has l D y L F20 (urh G (vsh μ xb)) (urw G (vsh μ xb)) (vod μ (vsh μ xb)) (vst μ (vsh μ xb)) r (MP_r hC (hW.2.1 xb)) (by omega)) ⟨rfl, rfl⟩ rfl hP (MP_r hC (hW.2.1 xb)).1 (MP_r hC (hW.2.1 xb)).2.1 rfl rfl rfl hl rfl (Nat.le_of_ble_eq_true rfl) dX6_sameShelves_60 ⟨Nat.zero_le _, Nat.zero_le _⟩ (fun r25 e_r25 => ?_)
                subst e_r25
                have b_26 := isT_b (vst μ (vsh μ xb)) (turn (vod μ (vsh μ xb)) r)
                refine lv_aload_n hx hb dX6_sameShelves_63 rfl (lv_at hl 0 rfl) ?_
                refine q_get C0 iX6 hP hC.1.1 hC.1.2 rfl 1 (by decide) flX6_15 rfl (v := .ref ((uas G))) rfl dX6_sameShelves_64 ?_
                refine lv_iload_n hx hb dX6_sameShelves_67 rfl (lv_at hl 2 rfl) ?_
                refine q_aald C0 hP hC.2.2.1.1 hC.2.2.1.2 (t := 3) rfl (by omega) (by decide) (v := .ref ((urh G (vsh μ xc)))) rfl dX6_sameShelves_68 ?_
                refine lv_iload hx hb dX6_sameShelves_69 (lv_at hl 5 rfl) ?_
                refine q_vS C0 lX6_49 (c_X5_has l D y L F20 (urh G (vsh μ xc)) (urw G (vsh μ xc)) (vod μ (vsh μ xc)) (vst μ (vsh μ xc)) r (MP_r hC (hW.2.1 xc)) (by omega)) ⟨rfl, rfl⟩ rfl hP (MP_r hC (hW.2.1 xc)).1 (MP_r hC (hW.2.1 xc)).2.1 rfl rfl rfl hl rfl (Nat.le_of_ble_eq_true rfl) dX6_sameShelves_71 ⟨Nat.zero_le _, Nat.zero_le _⟩ (fun r27 e_r27 => ?_)
                subst e_r27
                have b_28 := isT_b (vst μ (vsh μ xc)) (turn (vod μ (vsh μ xc)) r)
                refine q_icmp_eq hx hb dX6_sameShelves_74 (tgt := 96) (by decide) (by omega) (by omega) (fun c29 => ?_) (fun c29 => ?_)
                · refine q_iconst hx hb dX6_sameShelves_96 ?_
                  refine lv_goto (tgt := 101) hx hb dX6_sameShelves_97 (by decide) ?_
                  refine lv_istore (lv' := [(4, .int (iI 1)), (0, .ref ((ubg G))), (1, .int (iI xb)), (2, .int (iI xc)), (3, .int (iI xt)), (5, .int (iI r))]) hx hb dX6_sameShelves_101 hl (by decide) rfl (fun ls hl => ?_)
                  refine q_iinc (x := r) (n := 1) (lv' := [(5, .int (iI ((r + 1)))), (4, .int (iI 1)), (0, .ref ((ubg G))), (1, .int (iI xb)), (2, .int (iI xc)), (3, .int (iI xt))]) hx hb dX6_sameShelves_103 hl (k := 5) rfl (by decide) rfl (fun ls hl => ?_)
                  refine lv_goto (tgt := 40) hx hb dX6_sameShelves_106 (by decide) ?_
                  exact ih_LP40 _ (by omega) 1 (r + 1) (by omega) (by omega) (by first | (rw [hI, if_pos (by omega), if_pos (by omega)]; done) | (rw [hI, if_neg (by omega), allP_s (by unfold ssU; rw [if_pos (by omega)]; decide) (by omega), if_neg (by omega)]; done) | (rw [hI, if_neg (by omega), allP_n (by unfold ssU; rw [if_neg (by omega)]) (by omega), if_pos (by omega)])) rfl ls (lv_sub hl [2, 3, 4, 5, 1, 0] rfl)
                · refine lv_iload_n hx hb dX6_sameShelves_77 rfl (lv_at hl 3 rfl) ?_
                  refine q_iconst hx hb dX6_sameShelves_78 ?_
                  refine q_icmp_ne hx hb dX6_sameShelves_79 (tgt := 100) (by decide) (by omega) (by omega) (fun c30 => ?_) (fun c30 => ?_)
                  · refine q_iconst hx hb dX6_sameShelves_100 ?_
                    refine lv_istore (lv' := [(4, .int (iI 0)), (0, .ref ((ubg G))), (1, .int (iI xb)), (2, .int (iI xc)), (3, .int (iI xt)), (5, .int (iI r))]) hx hb dX6_sameShelves_101 hl (by decide) rfl (fun ls hl => ?_)
                    refine q_iinc (x := r) (n := 1) (lv' := [(5, .int (iI ((r + 1)))), (4, .int (iI 0)), (0, .ref ((ubg G))), (1, .int (iI xb)), (2, .int (iI xc)), (3, .int (iI xt))]) hx hb dX6_sameShelves_103 hl (k := 5) rfl (by decide) rfl (fun ls hl => ?_)
                    refine lv_goto (tgt := 40) hx hb dX6_sameShelves_106 (by decide) ?_
                    exact ih_LP40 _ (by omega) 0 (r + 1) (by omega) (by omega) (by first | (rw [hI, if_pos (by omega), if_pos (by omega)]; done) | (rw [hI, if_neg (by omega), allP_s (by unfold ssU; rw [if_pos (by omega)]; decide) (by omega), if_neg (by omega)]; done) | (rw [hI, if_neg (by omega), allP_n (by unfold ssU; rw [if_neg (by omega)]) (by omega), if_pos (by omega)])) rfl ls (lv_sub hl [2, 3, 4, 5, 1, 0] rfl)
                  · refine lv_aload_n hx hb dX6_sameShelves_82 rfl (lv_at hl 0 rfl) ?_
                    refine q_get C0 iX6 hP hC.1.1 hC.1.2 rfl 1 (by decide) flX6_15 rfl (v := .ref ((uas G))) rfl dX6_sameShelves_83 ?_
                    refine lv_iload_n hx hb dX6_sameShelves_86 rfl (lv_at hl 1 rfl) ?_
                    refine q_aald C0 hP hC.2.2.1.1 hC.2.2.1.2 (t := 3) rfl (by omega) (by decide) (v := .ref ((urh G (vsh μ xb)))) rfl dX6_sameShelves_87 ?_
                    refine lv_iload hx hb dX6_sameShelves_88 (lv_at hl 5 rfl) ?_
                    refine q_vS C0 lX6_49 (c_X5_has l D y L F20 (urh G (vsh μ xb)) (urw G (vsh μ xb)) (vod μ (vsh μ xb)) (vst μ (vsh μ xb)) r (MP_r hC (hW.2.1 xb)) (by omega)) ⟨rfl, rfl⟩ rfl hP (MP_r hC (hW.2.1 xb)).1 (MP_r hC (hW.2.1 xb)).2.1 rfl rfl rfl hl rfl (Nat.le_of_ble_eq_true rfl) dX6_sameShelves_90 ⟨Nat.zero_le _, Nat.zero_le _⟩ (fun r31 e_r31 => ?_)
                    subst e_r31
                    have b_32 := isT_b (vst μ (vsh μ xb)) (turn (vod μ (vsh μ xb)) r)
                    refine q_if_eq hx hb dX6_sameShelves_93 (tgt := 100) (by decide) (by omega) (fun c33 => ?_) (fun c33 => ?_)
                    · refine q_iconst hx hb dX6_sameShelves_100 ?_
                      refine lv_istore (lv' := [(4, .int (iI 0)), (0, .ref ((ubg G))), (1, .int (iI xb)), (2, .int (iI xc)), (3, .int (iI xt)), (5, .int (iI r))]) hx hb dX6_sameShelves_101 hl (by decide) rfl (fun ls hl => ?_)
                      refine q_iinc (x := r) (n := 1) (lv' := [(5, .int (iI ((r + 1)))), (4, .int (iI 0)), (0, .ref ((ubg G))), (1, .int (iI xb)), (2, .int (iI xc)), (3, .int (iI xt))]) hx hb dX6_sameShelves_103 hl (k := 5) rfl (by decide) rfl (fun ls hl => ?_)
                      refine lv_goto (tgt := 40) hx hb dX6_sameShelves_106 (by decide) ?_
                      exact ih_LP40 _ (by omega) 0 (r + 1) (by omega) (by omega) (by first | (rw [hI, if_pos (by omega), if_pos (by omega)]; done) | (rw [hI, if_neg (by omega), allP_s (by unfold ssU; rw [if_pos (by omega)]; decide) (by omega), if_neg (by omega)]; done) | (rw [hI, if_neg (by omega), allP_n (by unfold ssU; rw [if_neg (by omega)]) (by omega), if_pos (by omega)])) rfl ls (lv_sub hl [2, 3, 4, 5, 1, 0] rfl)
                    · refine q_iconst hx hb dX6_sameShelves_96 ?_
                      refine lv_goto (tgt := 101) hx hb dX6_sameShelves_97 (by decide) ?_
                      refine lv_istore (lv' := [(4, .int (iI 1)), (0, .ref ((ubg G))), (1, .int (iI xb)), (2, .int (iI xc)), (3, .int (iI xt)), (5, .int (iI r))]) hx hb dX6_sameShelves_101 hl (by decide) rfl (fun ls hl => ?_)
                      refine q_iinc (x := r) (n := 1) (lv' := [(5, .int (iI ((r + 1)))), (4, .int (iI 1)), (0, .ref ((ubg G))), (1, .int (iI xb)), (2, .int (iI xc)), (3, .int (iI xt))]) hx hb dX6_sameShelves_103 hl (k := 5) rfl (by decide) rfl (fun ls hl => ?_)
                      refine lv_goto (tgt := 40) hx hb dX6_sameShelves_106 (by decide) ?_
                      exact ih_LP40 _ (by omega) 1 (r + 1) (by omega) (by omega) (by first | (rw [hI, if_pos (by omega), if_pos (by omega)]; done) | (rw [hI, if_neg (by omega), allP_s (by unfold ssU; rw [if_pos (by omega)]; decide) (by omega), if_neg (by omega)]; done) | (rw [hI, if_neg (by omega), allP_n (by unfold ssU; rw [if_neg (by omega)]) (by omega), if_pos (by omega)])) rfl ls (lv_sub hl [2, 3, 4, 5, 1, 0] rfl)
        exact LP40 _ 1 0 (by omega) (by omega) (by rw [if_neg (by omega)]) rfl ls (lv_sub hl [2, 3, 4, 5, 1, 0] rfl)
      · replace k_21 := k_21.resolve_left (fun h => absurd (h.1.symm.trans c22) (by decide))
        refine q_iconst hx hb dX6_sameShelves_32 ?_
        exact q_retMi C0 hret (by decide) hlk dX6_sameShelves_33 hP hD hS (⟨(by unfold jR_sameShelves; (try unfold bkF); (try unfold bkO); (try unfold shF); (try unfold shO); rw [if_neg (by omega)]), O, G, MP_eq hC (by have lt_ := ltR_d 1 (inR xt 0 1); unfold jS_sameShelves; rcases lt_ with lt_ | lt_ | lt_ <;> first | (rw [if_neg (by omega), lt_.1]; done) | (rw [if_pos (by omega), if_neg (by omega), lt_.1]; done) | (exfalso; omega)), rfl, Ext0 hO⟩)
