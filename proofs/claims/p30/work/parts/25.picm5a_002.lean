set_option maxHeartbeats 3000000 in
set_option maxRecDepth 100000 in
theorem c_X6_dropped (l : Launch) (D : va_G) (y : Nat → ClassId) (L : List Nat) (F : Nat → va_E) (sz : Nat) (O : Nat → Prop) (G : MG) (μ : MS) (i : Nat) (t : Int) (lo : Int) (hi : Int) (hC : MP y L F O G μ) (hW : MW μ) (hi0 : i < vn μ) (ht : 0 ≤ t ∧ t ≤ 2) (hlo : 0 ≤ lo ∧ lo ≤ 900) (hhi : -900 ≤ hi ∧ hi ≤ 99) : Met l yX6_dropped (.code yX6_dropped cX6_dropped 7 (some .int) :: Tt) ({ frames := 2, cells := 0, slots := 0, locals := 45 }) (PcM D y L F sz [.ref ((ubg G)), .ref ((urh G i)), .int (iI t), .int (iI lo), .int (iI hi)]) (cMi D (AL L sz) (fun r L1 F1 => L = L1 ∧ MP y L1 F1 O G (dpS μ i t lo hi) ∧ r = dpR μ i t lo hi ∧ OE O F F1)) 0 0 (AL L sz) := by
  have hO : OE O F F := fun _ _ => rfl
  have m1_ := @keyR_m1 (vod μ i) (lasP (vst μ i) lo hi) (lasP_r _ _ _)
  have m2_ := @keyR_m1 (vod μ i) (firP (vst μ i) lo hi) (firP_r _ _ _)
  have ho_ := (MP_r hC hi0).2.2.2.2.1
  refine q_ofM (lv := [(0, .ref ((ubg G))), (1, .ref ((urh G i))), (2, .int (iI t)), (3, .int (iI lo)), (4, .int (iI hi))]) (by decide) (Nat.le_of_ble_eq_true rfl) rfl (fun p e s m below meth c C0 hret hlk hnm hA hP hD hS ls hl => ?_)
  have hx := C0.1.1
  have hb := C0.1.2.1
  have hts := C0.1.2.2.2.2
  refine lv_aload_n hx hb dX6_dropped_0 rfl (lv_at hl 0 rfl) ?_
  refine lv_aload_n hx hb dX6_dropped_1 rfl (lv_at hl 1 rfl) ?_
  refine q_vMv C0 lX6_96 (c_X6_write l D y L F _ O G μ i hC hi0 hW.2.2.2.1) ⟨rfl, rfl⟩ rfl hP hD hS hA hC.1.1 hC.1.2 rfl rfl rfl hl rfl (Nat.le_of_ble_eq_true rfl) dX6_dropped_2 ⟨Nat.le_of_ble_eq_true rfl, Nat.le_of_ble_eq_true rfl⟩ (fun _ H locs L2 F2 hP hD hS hz2 hp2 => ?_)
  obtain ⟨eL, hC, er, hO1⟩ := hp2
  subst eL
  have hO := hO.tr hO1
  refine lv_iload_n hx hb dX6_dropped_5 rfl (lv_at hl 2 rfl) ?_
  refine q_iconst hx hb dX6_dropped_6 ?_
  refine q_icmp_ne hx hb dX6_dropped_7 (tgt := 49) (by decide) (by omega) (by omega) (fun c3 => ?_) (fun c3 => ?_)
  · refine lv_iload_n hx hb dX6_dropped_49 rfl (lv_at hl 2 rfl) ?_
    refine q_if_ne hx hb dX6_dropped_50 (tgt := 63) (by decide) (by omega) (fun c4 => ?_) (fun c4 => ?_)
    · refine lv_aload_n hx hb dX6_dropped_63 rfl (lv_at hl 1 rfl) ?_
      refine lv_iload_n hx hb dX6_dropped_64 rfl (lv_at hl 3 rfl) ?_
      refine lv_iload hx hb dX6_dropped_65 (lv_at hl 4 rfl) ?_
      refine q_vS C0 lX6_114 (c_X5_last l D y L F2 (urh G i) (urw G i) (vod μ i) (vst μ i) lo hi (MP_r hC hi0) (by omega) (by omega)) ⟨rfl, rfl⟩ rfl hP (MP_r hC hi0).1 (MP_r hC hi0).2.1 rfl rfl rfl hl rfl (Nat.le_of_ble_eq_true rfl) dX6_dropped_67 ⟨Nat.zero_le _, Nat.zero_le _⟩ (fun r5 e_r5 => ?_)
      subst e_r5
      have b_6 := @keyR_b (vod μ i) (lasP (vst μ i) lo hi) (lasP_r (vst μ i) lo hi)
      refine lv_istore (lv' := [(5, .int (iI ((keyR (vod μ i) (lasP (vst μ i) lo hi))))), (0, .ref ((ubg G))), (1, .ref ((urh G i))), (2, .int (iI t)), (3, .int (iI lo)), (4, .int (iI hi))]) hx hb dX6_dropped_70 hl (by decide) rfl (fun ls hl => ?_)
      refine lv_iload hx hb dX6_dropped_72 (lv_at hl 0 rfl) ?_
      refine q_iconst hx hb dX6_dropped_74 ?_
      refine q_icmp_ne hx hb dX6_dropped_75 (tgt := 80) (by decide) (by omega) (by omega) (fun c7 => ?_) (fun c7 => ?_)
      · refine lv_aload_n hx hb dX6_dropped_80 rfl (lv_at hl 2 rfl) ?_
        refine lv_iload hx hb dX6_dropped_81 (lv_at hl 0 rfl) ?_
        refine q_vS C0 lX6_117 (c_X5_pair l D y L F2 (urh G i) (urw G i) (vod μ i) (vst μ i) (keyR (vod μ i) (lasP (vst μ i) lo hi)) (MP_r hC hi0) (by omega)) ⟨rfl, rfl⟩ rfl hP (MP_r hC hi0).1 (MP_r hC hi0).2.1 rfl rfl rfl hl rfl (Nat.le_of_ble_eq_true rfl) dX6_dropped_83 ⟨Nat.zero_le _, Nat.zero_le _⟩ (fun r8 e_r8 => ?_)
        subst e_r8
        refine lv_istore (lv' := [(6, .int (iI (((keyR (vod μ i) (lasP (vst μ i) lo hi)) * 100 + (vst μ i) (turn (vod μ i) (keyR (vod μ i) (lasP (vst μ i) lo hi))))))), (5, .int (iI ((keyR (vod μ i) (lasP (vst μ i) lo hi))))), (0, .ref ((ubg G))), (1, .ref ((urh G i))), (2, .int (iI t)), (3, .int (iI lo)), (4, .int (iI hi))]) hx hb dX6_dropped_86 hl (by decide) rfl (fun ls hl => ?_)
        refine lv_aload_n hx hb dX6_dropped_88 rfl (lv_at hl 2 rfl) ?_
        refine lv_aload_n hx hb dX6_dropped_89 rfl (lv_at hl 3 rfl) ?_
        refine lv_iload hx hb dX6_dropped_90 (lv_at hl 1 rfl) ?_
        refine q_iconst hx hb dX6_dropped_92 ?_
        refine q_vMi C0 lX6_103 (c_X6_set l D y L F2 _ O G (tWr μ i) i (keyR (vod μ i) (lasP (vst μ i) lo hi)) (-1) hC hi0 hW.2.2.2.1 (by omega) (by omega)) ⟨rfl, rfl⟩ rfl hP hD hS hA hC.1.1 hC.1.2 rfl rfl rfl hl rfl (Nat.le_of_ble_eq_true rfl) dX6_dropped_93 ⟨Nat.le_of_ble_eq_true rfl, Nat.le_of_ble_eq_true rfl⟩ (fun r9 H locs L10 F10 hP hD hS hz10 hp10 => ?_)
        obtain ⟨eL, hC, er, hO1⟩ := hp10
        subst eL
        replace er : (seC (vst μ i) (turn (vod μ i) (keyR (vod μ i) (lasP (vst μ i) lo hi))) (-1)) = r9 := er.symm
        subst er
        have hO := hO.tr hO1
        refine lv_pop hx hb dX6_dropped_96 rfl ?_
        refine lv_iload hx hb dX6_dropped_97 (lv_at hl 0 rfl) ?_
        exact q_retMi C0 hret rfl hlk dX6_dropped_99 hP hD hS (⟨rfl, MP_eq hC (by unfold dpS drN endP; rw [if_neg (by omega)]; (repeat' split) <;> first | rfl | (exfalso; omega)), (by unfold dpR drN endP; rw [if_neg (by omega)]; (repeat' split) <;> first | rfl | omega | (exfalso; omega)), hO⟩)
      · refine q_iconst hx hb dX6_dropped_78 ?_
        exact q_retMi C0 hret rfl hlk dX6_dropped_79 hP hD hS (⟨rfl, MP_eq hC (by unfold dpS drN endP; rw [if_neg (by omega)]; (repeat' split) <;> first | rfl | (exfalso; omega)), (by unfold dpR drN endP; rw [if_neg (by omega)]; (repeat' split) <;> first | rfl | omega | (exfalso; omega)), hO⟩)
    · refine lv_aload_n hx hb dX6_dropped_53 rfl (lv_at hl 1 rfl) ?_
      refine lv_iload_n hx hb dX6_dropped_54 rfl (lv_at hl 3 rfl) ?_
      refine lv_iload hx hb dX6_dropped_55 (lv_at hl 4 rfl) ?_
      refine q_vS C0 lX6_111 (c_X5_first l D y L F2 (urh G i) (urw G i) (vod μ i) (vst μ i) lo hi (MP_r hC hi0) (by omega) (by omega)) ⟨rfl, rfl⟩ rfl hP (MP_r hC hi0).1 (MP_r hC hi0).2.1 rfl rfl rfl hl rfl (Nat.le_of_ble_eq_true rfl) dX6_dropped_57 ⟨Nat.zero_le _, Nat.zero_le _⟩ (fun r11 e_r11 => ?_)
      subst e_r11
      have b_12 := @keyR_b (vod μ i) (firP (vst μ i) lo hi) (firP_r (vst μ i) lo hi)
      refine lv_goto (tgt := 70) hx hb dX6_dropped_60 (by decide) ?_
      refine lv_istore (lv' := [(5, .int (iI ((keyR (vod μ i) (firP (vst μ i) lo hi))))), (0, .ref ((ubg G))), (1, .ref ((urh G i))), (2, .int (iI t)), (3, .int (iI lo)), (4, .int (iI hi))]) hx hb dX6_dropped_70 hl (by decide) rfl (fun ls hl => ?_)
      refine lv_iload hx hb dX6_dropped_72 (lv_at hl 0 rfl) ?_
      refine q_iconst hx hb dX6_dropped_74 ?_
      refine q_icmp_ne hx hb dX6_dropped_75 (tgt := 80) (by decide) (by omega) (by omega) (fun c13 => ?_) (fun c13 => ?_)
      · refine lv_aload_n hx hb dX6_dropped_80 rfl (lv_at hl 2 rfl) ?_
        refine lv_iload hx hb dX6_dropped_81 (lv_at hl 0 rfl) ?_
        refine q_vS C0 lX6_117 (c_X5_pair l D y L F2 (urh G i) (urw G i) (vod μ i) (vst μ i) (keyR (vod μ i) (firP (vst μ i) lo hi)) (MP_r hC hi0) (by omega)) ⟨rfl, rfl⟩ rfl hP (MP_r hC hi0).1 (MP_r hC hi0).2.1 rfl rfl rfl hl rfl (Nat.le_of_ble_eq_true rfl) dX6_dropped_83 ⟨Nat.zero_le _, Nat.zero_le _⟩ (fun r14 e_r14 => ?_)
        subst e_r14
        refine lv_istore (lv' := [(6, .int (iI (((keyR (vod μ i) (firP (vst μ i) lo hi)) * 100 + (vst μ i) (turn (vod μ i) (keyR (vod μ i) (firP (vst μ i) lo hi))))))), (5, .int (iI ((keyR (vod μ i) (firP (vst μ i) lo hi))))), (0, .ref ((ubg G))), (1, .ref ((urh G i))), (2, .int (iI t)), (3, .int (iI lo)), (4, .int (iI hi))]) hx hb dX6_dropped_86 hl (by decide) rfl (fun ls hl => ?_)
        refine lv_aload_n hx hb dX6_dropped_88 rfl (lv_at hl 2 rfl) ?_
        refine lv_aload_n hx hb dX6_dropped_89 rfl (lv_at hl 3 rfl) ?_
        refine lv_iload hx hb dX6_dropped_90 (lv_at hl 1 rfl) ?_
        refine q_iconst hx hb dX6_dropped_92 ?_
        refine q_vMi C0 lX6_103 (c_X6_set l D y L F2 _ O G (tWr μ i) i (keyR (vod μ i) (firP (vst μ i) lo hi)) (-1) hC hi0 hW.2.2.2.1 (by omega) (by omega)) ⟨rfl, rfl⟩ rfl hP hD hS hA hC.1.1 hC.1.2 rfl rfl rfl hl rfl (Nat.le_of_ble_eq_true rfl) dX6_dropped_93 ⟨Nat.le_of_ble_eq_true rfl, Nat.le_of_ble_eq_true rfl⟩ (fun r15 H locs L16 F16 hP hD hS hz16 hp16 => ?_)
        obtain ⟨eL, hC, er, hO1⟩ := hp16
        subst eL
        replace er : (seC (vst μ i) (turn (vod μ i) (keyR (vod μ i) (firP (vst μ i) lo hi))) (-1)) = r15 := er.symm
        subst er
        have hO := hO.tr hO1
        refine lv_pop hx hb dX6_dropped_96 rfl ?_
        refine lv_iload hx hb dX6_dropped_97 (lv_at hl 0 rfl) ?_
        exact q_retMi C0 hret rfl hlk dX6_dropped_99 hP hD hS (⟨rfl, MP_eq hC (by unfold dpS drN endP; rw [if_neg (by omega)]; (repeat' split) <;> first | rfl | (exfalso; omega)), (by unfold dpR drN endP; rw [if_neg (by omega)]; (repeat' split) <;> first | rfl | omega | (exfalso; omega)), hO⟩)
      · refine q_iconst hx hb dX6_dropped_78 ?_
        exact q_retMi C0 hret rfl hlk dX6_dropped_79 hP hD hS (⟨rfl, MP_eq hC (by unfold dpS drN endP; rw [if_neg (by omega)]; (repeat' split) <;> first | rfl | (exfalso; omega)), (by unfold dpR drN endP; rw [if_neg (by omega)]; (repeat' split) <;> first | rfl | omega | (exfalso; omega)), hO⟩)
  · refine q_iconst hx hb dX6_dropped_10 ?_
    refine lv_istore (lv' := [(5, .int (iI 0)), (0, .ref ((ubg G))), (1, .ref ((urh G i))), (2, .int (iI t)), (3, .int (iI lo)), (4, .int (iI hi))]) hx hb dX6_dropped_11 hl (by decide) rfl (fun ls hl => ?_)
    refine lv_iload_n hx hb dX6_dropped_13 rfl (lv_at hl 4 rfl) ?_
    refine lv_istore (lv' := [(6, .int (iI lo)), (5, .int (iI 0)), (0, .ref ((ubg G))), (1, .ref ((urh G i))), (2, .int (iI t)), (3, .int (iI lo)), (4, .int (iI hi))]) hx hb dX6_dropped_14 hl (by decide) rfl (fun ls hl => ?_)
    have LP16 : ∀ (n_LP16 : Nat) (r : Int) (gv : Int → Int) (bv : Int) (a : Int) (Fv : Nat → va_E) (H : Heap) (locs : List Loc), (lo ≤ r ∧ r ≤ 1001) → (va_P D vwCl (va_pl L Fv) H) → (va_D (AL L sz) (va_pl L Fv)) → (va_S (AL L sz) s.heap H locs) → (MP y L Fv O G (tM (tWr μ i) i gv bv)) → (OE O F Fv) → (clX μ i lo hi = itrP (clU (vwk μ) i (vod μ i)) r hi (gv, bv, a)) → (hi + 1 - r).toNat = n_LP16 → ∀ ls : Array Slot, lv_has ls 7 [(0, .ref ((ubg G))), (1, .ref ((urh G i))), (2, .int (iI t)), (3, .int (iI lo)), (4, .int (iI hi)), (5, .int (iI a)), (6, .int (iI r))] → W p l e ({ frames := 2, cells := 0, slots := 0, locals := 45 } : Room) s m [.ref ((ubg G)), .ref ((urh G i)), .int (iI t), .int (iI lo), .int (iI hi)].toArray below meth c H locs 0 0 (MQ below (cMi D (AL L sz) (fun r L1 F1 => L = L1 ∧ MP y L1 F1 O G (dpS μ i t lo hi) ∧ r = dpR μ i t lo hi ∧ OE O F F1)) [.ref ((ubg G)), .ref ((urh G i)), .int (iI t), .int (iI lo), .int (iI hi)].toArray s 0 0 (AL L sz)) (F0 m 16 ls []) := by
      intro n_LP16
      induction n_LP16 using Nat.strongRecOn with
      | ind n_LP16 ih_LP16 =>
        intro r gv bv a Fv H locs hr hP hD hS hC hO hI hm_LP16 ls hl
        refine lv_iload hx hb dX6_dropped_16 (lv_at hl 6 rfl) ?_
        refine lv_iload hx hb dX6_dropped_18 (lv_at hl 4 rfl) ?_
        refine q_icmp_gt hx hb dX6_dropped_20 (tgt := 46) (by decide) (by omega) (by omega) (fun c17 => ?_) (fun c17 => ?_)
        · refine lv_iload hx hb dX6_dropped_46 (lv_at hl 5 rfl) ?_
          exact q_retMi C0 hret rfl hlk dX6_dropped_48 hP hD hS (⟨rfl, MP_eq hC (by unfold dpS tX; rw [if_pos (by omega), hI, itrP_e (by omega)]), (by unfold dpR; rw [if_pos (by omega), hI, itrP_e (by omega)]), hO⟩)
        · refine lv_iload hx hb dX6_dropped_23 (lv_at hl 5 rfl) ?_
          refine lv_aload_n hx hb dX6_dropped_25 rfl (lv_at hl 0 rfl) ?_
          refine lv_aload_n hx hb dX6_dropped_26 rfl (lv_at hl 1 rfl) ?_
          refine lv_aload_n hx hb dX6_dropped_27 rfl (lv_at hl 1 rfl) ?_
          refine lv_iload hx hb dX6_dropped_28 (lv_at hl 6 rfl) ?_
          refine q_vS C0 lX6_100 (c_X5_key l D y L Fv (urh G i) (urw G i) (vod μ i) gv r (MP_rx hC hi0 (rfl) (va_up_self _ _ _)) (by omega)) ⟨rfl, rfl⟩ rfl hP (MP_rx hC hi0 (rfl) (va_up_self _ _ _)).1 (MP_rx hC hi0 (rfl) (va_up_self _ _ _)).2.1 rfl rfl rfl hl rfl (Nat.le_of_ble_eq_true rfl) dX6_dropped_30 ⟨Nat.zero_le _, Nat.zero_le _⟩ (fun r18 e_r18 => ?_)
          subst e_r18
          have b_19 := @turn_b (vod μ i) r (by omega)
          refine q_iconst hx hb dX6_dropped_33 ?_
          refine q_vMi C0 lX6_103 (c_X6_set l D y L Fv _ O G (tM (tWr μ i) i gv bv) i (turn (vod μ i) r) (-1) hC hi0 hW.2.2.2.1 (by omega) (by omega)) ⟨rfl, rfl⟩ rfl hP hD hS hA hC.1.1 hC.1.2 rfl rfl rfl hl rfl (Nat.le_of_ble_eq_true rfl) dX6_dropped_34 ⟨Nat.le_of_ble_eq_true rfl, Nat.le_of_ble_eq_true rfl⟩ (fun r20 H locs L21 F21 hP hD hS hz21 hp21 => ?_)
          obtain ⟨eL, hC, er, hO1⟩ := hp21
          subst eL
          rw [tM_st] at er
          replace er : (seC gv (turn (vod μ i) (turn (vod μ i) r)) (-1)) = r20 := er.symm
          subst er
          have hO := hO.tr hO1
          replace hC := MP_eq hC (tSe_tM _ _ _ _ _ _)
          refine q_iadd hx hb dX6_dropped_37 ?_
          refine lv_istore (lv' := [(5, .int (iI ((a + (seC gv (turn (vod μ i) (turn (vod μ i) r)) (-1)))))), (0, .ref ((ubg G))), (1, .ref ((urh G i))), (2, .int (iI t)), (3, .int (iI lo)), (4, .int (iI hi)), (6, .int (iI r))]) hx hb dX6_dropped_38 hl (by decide) rfl (fun ls hl => ?_)
          refine q_iinc (x := r) (n := 1) (lv' := [(6, .int (iI ((r + 1)))), (5, .int (iI ((a + (seC gv (turn (vod μ i) (turn (vod μ i) r)) (-1)))))), (0, .ref ((ubg G))), (1, .ref ((urh G i))), (2, .int (iI t)), (3, .int (iI lo)), (4, .int (iI hi))]) hx hb dX6_dropped_40 hl (k := 6) rfl (by decide) rfl (fun ls hl => ?_)
          refine lv_goto (tgt := 16) hx hb dX6_dropped_43 (by decide) ?_
          exact ih_LP16 _ (by omega) (r + 1) (iu gv (turn (vod μ i) (turn (vod μ i) r)) (-1)) (seB (vwk μ) i gv (turn (vod μ i) (turn (vod μ i) r)) (-1) bv) (a + (seC gv (turn (vod μ i) (turn (vod μ i) r)) (-1))) F21 _ _ (by omega) (hP) (hD) (hS) (hC) (hO) (by rw [hI, itrP_s (by omega)]; unfold clU; first | (rw [if_pos (by omega)]; done) | (rw [if_neg (by omega)]; done) | (rw [if_pos (by omega)]; rfl) | (rw [if_neg (by omega)]; rfl) | rfl) rfl ls (lv_sub hl [2, 3, 4, 5, 6, 1, 0] rfl)
    exact LP16 _ lo (vst μ i) (vbr μ) 0 F2 _ _ (by omega) (hP) (hD) (hS) (MP_eq hC (tM_0 _ _)) (hO) (rfl) rfl ls (lv_sub hl [2, 3, 4, 5, 6, 1, 0] rfl)
