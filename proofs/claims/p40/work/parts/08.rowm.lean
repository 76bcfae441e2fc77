set_option maxHeartbeats 800000 in
set_option maxRecDepth 100000 in
theorem c_X0_come (l : Launch) (D : va_G) (y : Nat → ClassId) (L : List Nat) (F : Nat → va_E) (sz : Nat) (h : Nat) (w : Nat) (o : Int) (S : RS) (n : Int) (v : Int) (hR : RwS y L F h w o S) (hn : -2147483648 ≤ n ∧ n ≤ 2147483647) (hv : 0 ≤ v ∧ v ≤ 99) : Met l yX0_come (.code yX0_come cX0_come 4 (some .int) :: Tt) ({ frames := 0, cells := 0, slots := 0, locals := 0 }) (PcM D y L F sz [.ref h, .int (iI n), .int (iI v)]) (cMi D (AL L sz) (fun r L1 F1 => L = L1 ∧ r = wAt S.2.2 n ∧ RwS y L1 F1 h w o (comeS S n v) ∧ FrE h w F F1)) 0 0 (AL L sz) := by
  have ho := hR.2.2.2.2.1
  have hfr : FrE h w F F := FrE.rf h w F
  refine q_ofM (lv := [(0, .ref h), (1, .int (iI n)), (2, .int (iI v))]) (by decide) (Nat.le_of_ble_eq_true rfl) rfl (fun p e s m below meth c C0 hret hlk hnm hA hP hD hS ls hl => ?_)
  have hx := C0.1.1
  have hb := C0.1.2.1
  have hts := C0.1.2.2.2.2
  refine lv_iload_n hx hb dX0_come_0 rfl (lv_at hl 1 rfl) ?_
  refine q_if_lt hx hb dX0_come_1 (tgt := 10) (by decide) (by omega) (fun c1 => ?_) (fun c1 => ?_)
  · refine q_iconst hx hb dX0_come_10 ?_
    exact q_retMi C0 hret rfl hlk dX0_come_11 hP hD hS (⟨rfl, by unfold wAt; rw [if_pos (by omega)], by rw [comeS_out (by omega)]; exact hR, hfr⟩)
  · refine lv_iload_n hx hb dX0_come_4 rfl (lv_at hl 1 rfl) ?_
    refine q_bipush hx hb dX0_come_5 (by decide) ?_
    refine q_icmp_lt hx hb dX0_come_7 (tgt := 12) (by decide) (by omega) (by omega) (fun c2 => ?_) (fun c2 => ?_)
    · refine lv_aload_n hx hb dX0_come_12 rfl (lv_at hl 0 rfl) ?_
      refine q_get C0 iX0 hP hR.1 hR.2.1 rfl 1 (by decide) flX0_15 rfl rfl dX0_come_13 ?_
      refine lv_iload_n hx hb dX0_come_16 rfl (lv_at hl 1 rfl) ?_
      refine q_iald C0 hP hR.2.2.1 hR.2.2.2.1 (by omega) (by decide) dX0_come_17 ?_
      have b_3 := hR.2.2.2.2.2 n
      refine lv_istore_n (lv' := [(3, .int (iI ((S.2.2 n)))), (0, .ref h), (1, .int (iI n)), (2, .int (iI v))]) hx hb dX0_come_18 rfl hl (by decide) rfl (fun ls hl => ?_)
      refine lv_aload_n hx hb dX0_come_19 rfl (lv_at hl 1 rfl) ?_
      refine q_get C0 iX0 hP hR.1 hR.2.1 rfl 1 (by decide) flX0_15 rfl rfl dX0_come_20 ?_
      refine lv_iload_n hx hb dX0_come_23 rfl (lv_at hl 2 rfl) ?_
      refine lv_iload_n hx hb dX0_come_24 rfl (lv_at hl 3 rfl) ?_
      refine q_iast C0 hP hD hS hR.2.2.1 hR.2.2.2.1 (i := n) (v := v) (by omega) (by decide) dX0_come_25 (fun H locs hP hD hS => ?_)
      obtain ⟨F4, eF4⟩ : ∃ z, z = va_up F w (arrI (y 0) 100 (iu S.2.2 n v)) := ⟨_, rfl⟩
      have hP : va_P D vwCl (va_pl L F4) H := by rw [eF4]; exact hP
      have hD : va_D (AL L sz) (va_pl L F4) := by rw [eF4]; exact hD
      have hfr : FrE h w F F4 := by rw [eF4]; exact hfr.tr FrE_w
      have hR : Rw y L F4 h w o S.1 S.2.1 (iu S.2.2 n v) := by rw [eF4]; exact Rw_st hR (by omega)
      refine lv_iload_n hx hb dX0_come_26 rfl (lv_at hl 0 rfl) ?_
      refine q_iconst hx hb dX0_come_27 ?_
      refine q_icmp_ne hx hb dX0_come_28 (tgt := 51) (by decide) (by omega) (by omega) (fun c5 => ?_) (fun c5 => ?_)
      · refine lv_iload_n hx hb dX0_come_51 rfl (lv_at hl 0 rfl) ?_
        exact q_retMi C0 hret rfl hlk dX0_come_52 hP hD hS (⟨rfl, by unfold wAt; rw [if_neg (by omega)], by first | (rw [comeS_new (by omega) (by omega)]; exact hR) | (rw [comeS_old (by omega) (by omega)]; exact hR), hfr⟩)
      · refine lv_aload_n hx hb dX0_come_31 rfl (lv_at hl 1 rfl) ?_
        refine lv_dup hx hb dX0_come_32 rfl ?_
        refine q_get C0 iX0 hP hR.1 hR.2.1 rfl 2 (by decide) flX0_42 rfl rfl dX0_come_33 ?_
        refine q_iconst hx hb dX0_come_36 ?_
        refine q_iadd hx hb dX0_come_37 ?_
        refine q_put C0 iX0 tyX0 tyX0_ok nmX0 hP hD hS hR.1 hR.2.1 rfl 2 (by decide) flX0_42 rfl rfl rfl rfl (Nat.le_of_ble_eq_true rfl) dX0_come_38 (fun H locs hP hD hS => ?_)
        obtain ⟨F6, eF6⟩ : ∃ z, z = va_up F4 h (rowE o w (S.1 + 1) S.2.1) := ⟨_, rfl⟩
        have hP : va_P D vwCl (va_pl L F6) H := by rw [eF6]; exact hP
        have hD : va_D (AL L sz) (va_pl L F6) := by rw [eF6]; exact hD
        have hfr : FrE h w F F6 := by rw [eF6]; exact hfr.tr FrE_h
        have hR : Rw y L F6 h w o (S.1 + 1) S.2.1 (iu S.2.2 n v) := by rw [eF6]; exact Rw_ct hR
        refine lv_aload_n hx hb dX0_come_41 rfl (lv_at hl 1 rfl) ?_
        refine lv_dup hx hb dX0_come_42 rfl ?_
        refine q_get C0 iX0 hP hR.1 hR.2.1 rfl 3 (by decide) flX0_45 rfl rfl dX0_come_43 ?_
        refine q_iconst hx hb dX0_come_46 ?_
        refine q_iadd hx hb dX0_come_47 ?_
        refine q_put C0 iX0 tyX0 tyX0_ok nmX0 hP hD hS hR.1 hR.2.1 rfl 3 (by decide) flX0_45 rfl rfl rfl rfl (Nat.le_of_ble_eq_true rfl) dX0_come_48 (fun H locs hP hD hS => ?_)
        obtain ⟨F7, eF7⟩ : ∃ z, z = va_up F6 h (rowE o w (S.1 + 1) (S.2.1 + 1)) := ⟨_, rfl⟩
        have hP : va_P D vwCl (va_pl L F7) H := by rw [eF7]; exact hP
        have hD : va_D (AL L sz) (va_pl L F7) := by rw [eF7]; exact hD
        have hfr : FrE h w F F7 := by rw [eF7]; exact hfr.tr FrE_h
        have hR : Rw y L F7 h w o (S.1 + 1) (S.2.1 + 1) (iu S.2.2 n v) := by rw [eF7]; exact Rw_ct hR
        refine lv_iload_n hx hb dX0_come_51 rfl (lv_at hl 0 rfl) ?_
        exact q_retMi C0 hret rfl hlk dX0_come_52 hP hD hS (⟨rfl, by unfold wAt; rw [if_neg (by omega)], by first | (rw [comeS_new (by omega) (by omega)]; exact hR) | (rw [comeS_old (by omega) (by omega)]; exact hR), hfr⟩)
    · refine q_iconst hx hb dX0_come_10 ?_
      exact q_retMi C0 hret rfl hlk dX0_come_11 hP hD hS (⟨rfl, by unfold wAt; rw [if_pos (by omega)], by rw [comeS_out (by omega)]; exact hR, hfr⟩)
set_option maxHeartbeats 800000 in
set_option maxRecDepth 100000 in
theorem c_X0_go (l : Launch) (D : va_G) (y : Nat → ClassId) (L : List Nat) (F : Nat → va_E) (sz : Nat) (h : Nat) (w : Nat) (o : Int) (S : RS) (n : Int) (hR : RwS y L F h w o S) (hn : -2147483648 ≤ n ∧ n ≤ 2147483647) : Met l yX0_go (.code yX0_go cX0_go 3 (some .int) :: Tt) ({ frames := 0, cells := 0, slots := 0, locals := 0 }) (PcM D y L F sz [.ref h, .int (iI n)]) (cMi D (AL L sz) (fun r L1 F1 => L = L1 ∧ r = wAt S.2.2 n ∧ RwS y L1 F1 h w o (goS S n) ∧ FrE h w F F1)) 0 0 (AL L sz) := by
  have ho := hR.2.2.2.2.1
  have hfr : FrE h w F F := FrE.rf h w F
  refine q_ofM (lv := [(0, .ref h), (1, .int (iI n))]) (by decide) (Nat.le_of_ble_eq_true rfl) rfl (fun p e s m below meth c C0 hret hlk hnm hA hP hD hS ls hl => ?_)
  have hx := C0.1.1
  have hb := C0.1.2.1
  have hts := C0.1.2.2.2.2
  refine lv_iload_n hx hb dX0_go_0 rfl (lv_at hl 1 rfl) ?_
  refine q_if_lt hx hb dX0_go_1 (tgt := 10) (by decide) (by omega) (fun c1 => ?_) (fun c1 => ?_)
  · refine q_iconst hx hb dX0_go_10 ?_
    exact q_retMi C0 hret rfl hlk dX0_go_11 hP hD hS (⟨rfl, by unfold wAt; rw [if_pos (by omega)], by rw [goS_out (by omega)]; exact hR, hfr⟩)
  · refine lv_iload_n hx hb dX0_go_4 rfl (lv_at hl 1 rfl) ?_
    refine q_bipush hx hb dX0_go_5 (by decide) ?_
    refine q_icmp_lt hx hb dX0_go_7 (tgt := 12) (by decide) (by omega) (by omega) (fun c2 => ?_) (fun c2 => ?_)
    · refine lv_aload_n hx hb dX0_go_12 rfl (lv_at hl 0 rfl) ?_
      refine q_get C0 iX0 hP hR.1 hR.2.1 rfl 1 (by decide) flX0_15 rfl rfl dX0_go_13 ?_
      refine lv_iload_n hx hb dX0_go_16 rfl (lv_at hl 1 rfl) ?_
      refine q_iald C0 hP hR.2.2.1 hR.2.2.2.1 (by omega) (by decide) dX0_go_17 ?_
      have b_3 := hR.2.2.2.2.2 n
      refine lv_istore_n (lv' := [(2, .int (iI ((S.2.2 n)))), (0, .ref h), (1, .int (iI n))]) hx hb dX0_go_18 rfl hl (by decide) rfl (fun ls hl => ?_)
      refine lv_aload_n hx hb dX0_go_19 rfl (lv_at hl 1 rfl) ?_
      refine q_get C0 iX0 hP hR.1 hR.2.1 rfl 1 (by decide) flX0_15 rfl rfl dX0_go_20 ?_
      refine lv_iload_n hx hb dX0_go_23 rfl (lv_at hl 2 rfl) ?_
      refine q_iconst hx hb dX0_go_24 ?_
      refine q_iast C0 hP hD hS hR.2.2.1 hR.2.2.2.1 (i := n) (v := (-1)) (by omega) (by decide) dX0_go_25 (fun H locs hP hD hS => ?_)
      obtain ⟨F4, eF4⟩ : ∃ z, z = va_up F w (arrI (y 0) 100 (iu S.2.2 n (-1))) := ⟨_, rfl⟩
      have hP : va_P D vwCl (va_pl L F4) H := by rw [eF4]; exact hP
      have hD : va_D (AL L sz) (va_pl L F4) := by rw [eF4]; exact hD
      have hfr : FrE h w F F4 := by rw [eF4]; exact hfr.tr FrE_w
      have hR : Rw y L F4 h w o S.1 S.2.1 (iu S.2.2 n (-1)) := by rw [eF4]; exact Rw_st hR (by omega)
      refine lv_iload_n hx hb dX0_go_26 rfl (lv_at hl 0 rfl) ?_
      refine q_iconst hx hb dX0_go_27 ?_
      refine q_icmp_eq hx hb dX0_go_28 (tgt := 51) (by decide) (by omega) (by omega) (fun c5 => ?_) (fun c5 => ?_)
      · refine lv_iload_n hx hb dX0_go_51 rfl (lv_at hl 0 rfl) ?_
        exact q_retMi C0 hret rfl hlk dX0_go_52 hP hD hS (⟨rfl, by unfold wAt; rw [if_neg (by omega)], by first | (rw [goS_old (by omega) (by omega)]; exact hR) | (rw [goS_new (by omega) (by omega)]; exact hR), hfr⟩)
      · refine lv_aload_n hx hb dX0_go_31 rfl (lv_at hl 1 rfl) ?_
        refine lv_dup hx hb dX0_go_32 rfl ?_
        refine q_get C0 iX0 hP hR.1 hR.2.1 rfl 2 (by decide) flX0_42 rfl rfl dX0_go_33 ?_
        refine q_iconst hx hb dX0_go_36 ?_
        refine q_isub hx hb dX0_go_37 ?_
        refine q_put C0 iX0 tyX0 tyX0_ok nmX0 hP hD hS hR.1 hR.2.1 rfl 2 (by decide) flX0_42 rfl rfl rfl rfl (Nat.le_of_ble_eq_true rfl) dX0_go_38 (fun H locs hP hD hS => ?_)
        obtain ⟨F6, eF6⟩ : ∃ z, z = va_up F4 h (rowE o w (S.1 - 1) S.2.1) := ⟨_, rfl⟩
        have hP : va_P D vwCl (va_pl L F6) H := by rw [eF6]; exact hP
        have hD : va_D (AL L sz) (va_pl L F6) := by rw [eF6]; exact hD
        have hfr : FrE h w F F6 := by rw [eF6]; exact hfr.tr FrE_h
        have hR : Rw y L F6 h w o (S.1 - 1) S.2.1 (iu S.2.2 n (-1)) := by rw [eF6]; exact Rw_ct hR
        refine lv_aload_n hx hb dX0_go_41 rfl (lv_at hl 1 rfl) ?_
        refine lv_dup hx hb dX0_go_42 rfl ?_
        refine q_get C0 iX0 hP hR.1 hR.2.1 rfl 3 (by decide) flX0_45 rfl rfl dX0_go_43 ?_
        refine q_iconst hx hb dX0_go_46 ?_
        refine q_iadd hx hb dX0_go_47 ?_
        refine q_put C0 iX0 tyX0 tyX0_ok nmX0 hP hD hS hR.1 hR.2.1 rfl 3 (by decide) flX0_45 rfl rfl rfl rfl (Nat.le_of_ble_eq_true rfl) dX0_go_48 (fun H locs hP hD hS => ?_)
        obtain ⟨F7, eF7⟩ : ∃ z, z = va_up F6 h (rowE o w (S.1 - 1) (S.2.1 + 1)) := ⟨_, rfl⟩
        have hP : va_P D vwCl (va_pl L F7) H := by rw [eF7]; exact hP
        have hD : va_D (AL L sz) (va_pl L F7) := by rw [eF7]; exact hD
        have hfr : FrE h w F F7 := by rw [eF7]; exact hfr.tr FrE_h
        have hR : Rw y L F7 h w o (S.1 - 1) (S.2.1 + 1) (iu S.2.2 n (-1)) := by rw [eF7]; exact Rw_ct hR
        refine lv_iload_n hx hb dX0_go_51 rfl (lv_at hl 0 rfl) ?_
        exact q_retMi C0 hret rfl hlk dX0_go_52 hP hD hS (⟨rfl, by unfold wAt; rw [if_neg (by omega)], by first | (rw [goS_old (by omega) (by omega)]; exact hR) | (rw [goS_new (by omega) (by omega)]; exact hR), hfr⟩)
    · refine q_iconst hx hb dX0_go_10 ?_
      exact q_retMi C0 hret rfl hlk dX0_go_11 hP hD hS (⟨rfl, by unfold wAt; rw [if_pos (by omega)], by rw [goS_out (by omega)]; exact hR, hfr⟩)
set_option maxHeartbeats 800000 in
set_option maxRecDepth 100000 in
theorem c_X0_addPart (l : Launch) (D : va_G) (y : Nat → ClassId) (L : List Nat) (F : Nat → va_E) (sz : Nat) (h : Nat) (w : Nat) (o : Int) (S : RS) (h2 : Nat) (w2 : Nat) (o2 : Int) (k2 : Int) (g2 : Int) (f2 : Int → Int) (lo : Int) (hi : Int) (hR : RwS y L F h w o S) (hR2 : Rw y L F h2 w2 o2 k2 g2 f2) (n1 : h2 ≠ h) (n2 : w2 ≠ w) (hlo : -1000 ≤ lo ∧ lo ≤ 1000) (hhi : -1000 ≤ hi ∧ hi ≤ 1000) : Met l yX0_addPart (.code yX0_addPart cX0_addPart 6 (some .int) :: Tt) ({ frames := 2, cells := 0, slots := 0, locals := 42 }) (PcM D y L F sz [.ref h, .ref h2, .int (iI lo), .int (iI hi)]) (cMi D (AL L sz) (fun r L1 F1 => L = L1 ∧ r = (addS o o2 f2 lo hi S).1 - S.1 ∧ RwS y L1 F1 h w o (addS o o2 f2 lo hi S) ∧ FrE h w F F1)) 0 0 (AL L sz) := by
  have ho := hR.2.2.2.2.1
  have hfr : FrE h w F F := FrE.rf h w F
  have ho2 := hR2.2.2.2.2.1
  refine q_ofM (lv := [(0, .ref h), (1, .ref h2), (2, .int (iI lo)), (3, .int (iI hi))]) (by decide) (Nat.le_of_ble_eq_true rfl) rfl (fun p e s m below meth c C0 hret hlk hnm hA hP hD hS ls hl => ?_)
  have hx := C0.1.1
  have hb := C0.1.2.1
  have hts := C0.1.2.2.2.2
  refine lv_aload_n hx hb dX0_addPart_0 rfl (lv_at hl 0 rfl) ?_
  refine q_get C0 iX0 hP hR.1 hR.2.1 rfl 2 (by decide) flX0_42 rfl rfl dX0_addPart_1 ?_
  refine lv_istore (lv' := [(4, .int (iI (S.1))), (0, .ref h), (1, .ref h2), (2, .int (iI lo)), (3, .int (iI hi))]) hx hb dX0_addPart_4 hl (by decide) rfl (fun ls hl => ?_)
  refine lv_iload_n hx hb dX0_addPart_6 rfl (lv_at hl 3 rfl) ?_
  refine lv_istore (lv' := [(5, .int (iI lo)), (4, .int (iI (S.1))), (0, .ref h), (1, .ref h2), (2, .int (iI lo)), (3, .int (iI hi))]) hx hb dX0_addPart_7 hl (by decide) rfl (fun ls hl => ?_)
  have LP9 : ∀ (n_LP9 : Nat) (r : Int) (Fv : Nat → va_E) (Sv : RS) (H : Heap) (locs : List Loc), (lo ≤ r ∧ r ≤ 1001) → (va_P D vwCl (va_pl L Fv) H) → (va_D (AL L sz) (va_pl L Fv)) → (va_S (AL L sz) s.heap H locs) → (RwS y L Fv h w o Sv) → (FrE h w F Fv) → (addS o o2 f2 lo hi S = itrP (addU o o2 f2) r hi Sv) → (Rw y L Fv h2 w2 o2 k2 g2 f2) → (hi + 1 - r).toNat = n_LP9 → ∀ ls : Array Slot, lv_has ls 6 [(0, .ref h), (1, .ref h2), (2, .int (iI lo)), (3, .int (iI hi)), (4, .int (iI (S.1))), (5, .int (iI r))] → W p l e ({ frames := 2, cells := 0, slots := 0, locals := 42 } : Room) s m [.ref h, .ref h2, .int (iI lo), .int (iI hi)].toArray below meth c H locs 0 0 (MQ below (cMi D (AL L sz) (fun r L1 F1 => L = L1 ∧ r = (addS o o2 f2 lo hi S).1 - S.1 ∧ RwS y L1 F1 h w o (addS o o2 f2 lo hi S) ∧ FrE h w F F1)) [.ref h, .ref h2, .int (iI lo), .int (iI hi)].toArray s 0 0 (AL L sz)) (F0 m 9 ls []) := by
    intro n_LP9
    induction n_LP9 using Nat.strongRecOn with
    | ind n_LP9 ih_LP9 =>
      intro r Fv Sv H locs hr hP hD hS hR hfr hI hR2 hm_LP9 ls hl
      refine lv_iload hx hb dX0_addPart_9 (lv_at hl 5 rfl) ?_
      refine lv_iload_n hx hb dX0_addPart_11 rfl (lv_at hl 3 rfl) ?_
      refine q_icmp_gt hx hb dX0_addPart_12 (tgt := 51) (by decide) (by omega) (by omega) (fun c1 => ?_) (fun c1 => ?_)
      · refine lv_aload_n hx hb dX0_addPart_51 rfl (lv_at hl 0 rfl) ?_
        refine q_get C0 iX0 hP hR.1 hR.2.1 rfl 2 (by decide) flX0_42 rfl rfl dX0_addPart_52 ?_
        refine lv_iload hx hb dX0_addPart_55 (lv_at hl 4 rfl) ?_
        refine q_isub hx hb dX0_addPart_57 ?_
        exact q_retMi C0 hret rfl hlk dX0_addPart_58 hP hD hS (⟨rfl, by rw [hI, itrP_e (by omega)], by rw [hI, itrP_e (by omega)]; exact hR, hfr⟩)
      · refine lv_aload_n hx hb dX0_addPart_15 rfl (lv_at hl 1 rfl) ?_
        refine lv_iload hx hb dX0_addPart_16 (lv_at hl 5 rfl) ?_
        refine q_vS C0 lX0_32 (c_X0_isThere l D y L Fv h2 w2 o2 k2 g2 f2 r hR2 (by omega)) ⟨rfl, rfl⟩ rfl hP hR2.1 hR2.2.1 rfl rfl rfl hl rfl (Nat.le_of_ble_eq_true rfl) dX0_addPart_18 ⟨Nat.zero_le _, Nat.zero_le _⟩ (fun r2 e_r2 => ?_)
        subst e_r2
        have b_3 := isT_b f2 r
        refine q_if_eq hx hb dX0_addPart_21 (tgt := 45) (by decide) (by omega) (fun c4 => ?_) (fun c4 => ?_)
        · refine q_iinc (x := r) (n := 1) (lv' := [(5, .int (iI ((r + 1)))), (0, .ref h), (1, .ref h2), (2, .int (iI lo)), (3, .int (iI hi)), (4, .int (iI (S.1)))]) hx hb dX0_addPart_45 hl (k := 5) rfl (by decide) rfl (fun ls hl => ?_)
          refine lv_goto (tgt := 9) hx hb dX0_addPart_48 (by decide) ?_
          exact ih_LP9 _ (by omega) (r + 1) Fv Sv _ _ (by omega) (hP) (hD) (hS) (hR) (hfr) (by first | (rw [hI, itrP_s (by omega)]; unfold addU; rw [if_pos (by omega)]; done) | (rw [hI, itrP_s (by omega)]; unfold addU; rw [if_neg (by omega)])) (hR2) rfl ls (lv_sub hl [1, 2, 3, 4, 5, 0] rfl)
        · have q_ := isT_w c4
          refine lv_aload_n hx hb dX0_addPart_24 rfl (lv_at hl 0 rfl) ?_
          refine lv_aload_n hx hb dX0_addPart_25 rfl (lv_at hl 0 rfl) ?_
          refine lv_aload_n hx hb dX0_addPart_26 rfl (lv_at hl 1 rfl) ?_
          refine lv_iload hx hb dX0_addPart_27 (lv_at hl 5 rfl) ?_
          refine q_vS C0 lX0_36 (c_X0_keyOf l D y L Fv h2 w2 o2 k2 g2 f2 r hR2 (by omega)) ⟨rfl, rfl⟩ rfl hP hR2.1 hR2.2.1 rfl rfl rfl hl rfl (Nat.le_of_ble_eq_true rfl) dX0_addPart_29 ⟨Nat.zero_le _, Nat.zero_le _⟩ (fun r5 e_r5 => ?_)
          subst e_r5
          have b_6 := @keyR_b o2 r (by omega)
          refine q_vS C0 lX0_29 (c_X0_rankOf l D y L Fv h w o Sv.1 Sv.2.1 Sv.2.2 (keyR o2 r) hR (by omega)) ⟨rfl, rfl⟩ rfl hP hR.1 hR.2.1 rfl rfl rfl hl rfl (Nat.le_of_ble_eq_true rfl) dX0_addPart_32 ⟨Nat.zero_le _, Nat.zero_le _⟩ (fun r7 e_r7 => ?_)
          subst e_r7
          have b_8 := @turn_b o (keyR o2 r) (by omega)
          refine lv_aload_n hx hb dX0_addPart_35 rfl (lv_at hl 1 rfl) ?_
          refine lv_iload hx hb dX0_addPart_36 (lv_at hl 5 rfl) ?_
          refine q_vS C0 lX0_39 (c_X0_worthAt l D y L Fv h2 w2 o2 k2 g2 f2 r hR2 (by omega)) ⟨rfl, rfl⟩ rfl hP hR2.1 hR2.2.1 rfl rfl rfl hl rfl (Nat.le_of_ble_eq_true rfl) dX0_addPart_38 ⟨Nat.zero_le _, Nat.zero_le _⟩ (fun r9 e_r9 => ?_)
          subst e_r9
          have b_10 := @wAt_b f2 (hR2.2.2.2.2.2) r
          refine q_vMi C0 lX0_70 (c_X0_come l D y L Fv _ h w o Sv (turn o (keyR o2 r)) (wAt f2 r) hR (by omega) (by omega)) ⟨rfl, rfl⟩ rfl hP hD hS hA hR.1 hR.2.1 rfl rfl rfl hl rfl (Nat.le_of_ble_eq_true rfl) dX0_addPart_41 ⟨Nat.le_of_ble_eq_true rfl, Nat.le_of_ble_eq_true rfl⟩ (fun r11 H locs L12 F12 hP hD hS hz12 hp12 => ?_)
          have hRo := hR
          obtain ⟨eL, er, hR, hfr1⟩ := hp12
          subst eL
          subst er
          have hR2 := Rw_fr hRo hR2 n1 n2 hfr1
          have hfr := hfr.tr hfr1
          refine lv_pop hx hb dX0_addPart_44 rfl ?_
          refine q_iinc (x := r) (n := 1) (lv' := [(5, .int (iI ((r + 1)))), (0, .ref h), (1, .ref h2), (2, .int (iI lo)), (3, .int (iI hi)), (4, .int (iI (S.1)))]) hx hb dX0_addPart_45 hl (k := 5) rfl (by decide) rfl (fun ls hl => ?_)
          refine lv_goto (tgt := 9) hx hb dX0_addPart_48 (by decide) ?_
          exact ih_LP9 _ (by omega) (r + 1) F12 (comeS Sv (turn o (keyR o2 r)) (wAt f2 r)) _ _ (by omega) (hP) (hD) (hS) (hR) (hfr) (by first | (rw [hI, itrP_s (by omega)]; unfold addU; rw [if_pos (by omega)]; done) | (rw [hI, itrP_s (by omega)]; unfold addU; rw [if_neg (by omega)])) (hR2) rfl ls (lv_sub hl [1, 2, 3, 4, 5, 0] rfl)
  exact LP9 _ lo F S _ _ (by omega) (hP) (hD) (hS) (hR) (hfr) (rfl) (hR2) rfl ls (lv_sub hl [2, 3, 4, 5, 1, 0] rfl)
set_option maxHeartbeats 800000 in
set_option maxRecDepth 100000 in
theorem c_X0_addSteps (l : Launch) (D : va_G) (y : Nat → ClassId) (L : List Nat) (F : Nat → va_E) (sz : Nat) (h : Nat) (w : Nat) (o : Int) (S : RS) (a : Int) (b : Int) (n : Int) (v : Int) (hR : RwS y L F h w o S) (hfi : 0 ≤ a ∧ a ≤ 99) (hst : 0 ≤ b ∧ b ≤ 99) (hma : 0 ≤ n ∧ n ≤ 100) (hv : 0 ≤ v ∧ v ≤ 99) : Met l yX0_addSteps (.code yX0_addSteps cX0_addSteps 7 (some .int) :: Tt) ({ frames := 2, cells := 0, slots := 0, locals := 42 }) (PcM D y L F sz [.ref h, .int (iI a), .int (iI b), .int (iI n), .int (iI v)]) (cMi D (AL L sz) (fun r L1 F1 => L = L1 ∧ r = (stpS o a b n v S).1 - S.1 ∧ RwS y L1 F1 h w o (stpS o a b n v S) ∧ FrE h w F F1)) 0 0 (AL L sz) := by
  have ho := hR.2.2.2.2.1
  have hfr : FrE h w F F := FrE.rf h w F
  refine q_ofM (lv := [(0, .ref h), (1, .int (iI a)), (2, .int (iI b)), (3, .int (iI n)), (4, .int (iI v))]) (by decide) (Nat.le_of_ble_eq_true rfl) rfl (fun p e s m below meth c C0 hret hlk hnm hA hP hD hS ls hl => ?_)
  have hx := C0.1.1
  have hb := C0.1.2.1
  have hts := C0.1.2.2.2.2
  refine lv_aload_n hx hb dX0_addSteps_0 rfl (lv_at hl 0 rfl) ?_
  refine q_get C0 iX0 hP hR.1 hR.2.1 rfl 2 (by decide) flX0_42 rfl rfl dX0_addSteps_1 ?_
  refine lv_istore (lv' := [(5, .int (iI (S.1))), (0, .ref h), (1, .int (iI a)), (2, .int (iI b)), (3, .int (iI n)), (4, .int (iI v))]) hx hb dX0_addSteps_4 hl (by decide) rfl (fun ls hl => ?_)
  refine q_iconst hx hb dX0_addSteps_6 ?_
  refine lv_istore (lv' := [(6, .int (iI 0)), (5, .int (iI (S.1))), (0, .ref h), (1, .int (iI a)), (2, .int (iI b)), (3, .int (iI n)), (4, .int (iI v))]) hx hb dX0_addSteps_7 hl (by decide) rfl (fun ls hl => ?_)
  have LP9 : ∀ (n_LP9 : Nat) (r : Int) (Fv : Nat → va_E) (Sv : RS) (H : Heap) (locs : List Loc), (0 ≤ r ∧ r ≤ 100) → (va_P D vwCl (va_pl L Fv) H) → (va_D (AL L sz) (va_pl L Fv)) → (va_S (AL L sz) s.heap H locs) → (RwS y L Fv h w o Sv) → (FrE h w F Fv) → (stpS o a b n v S = itrP (stpU o a b v) r (n - 1) Sv) → (n - r).toNat = n_LP9 → ∀ ls : Array Slot, lv_has ls 7 [(0, .ref h), (1, .int (iI a)), (2, .int (iI b)), (3, .int (iI n)), (4, .int (iI v)), (5, .int (iI (S.1))), (6, .int (iI r))] → W p l e ({ frames := 2, cells := 0, slots := 0, locals := 42 } : Room) s m [.ref h, .int (iI a), .int (iI b), .int (iI n), .int (iI v)].toArray below meth c H locs 0 0 (MQ below (cMi D (AL L sz) (fun r L1 F1 => L = L1 ∧ r = (stpS o a b n v S).1 - S.1 ∧ RwS y L1 F1 h w o (stpS o a b n v S) ∧ FrE h w F F1)) [.ref h, .int (iI a), .int (iI b), .int (iI n), .int (iI v)].toArray s 0 0 (AL L sz)) (F0 m 9 ls []) := by
    intro n_LP9
    induction n_LP9 using Nat.strongRecOn with
    | ind n_LP9 ih_LP9 =>
      intro r Fv Sv H locs hr hP hD hS hR hfr hI hm_LP9 ls hl
      refine lv_iload hx hb dX0_addSteps_9 (lv_at hl 6 rfl) ?_
      refine lv_iload_n hx hb dX0_addSteps_11 rfl (lv_at hl 3 rfl) ?_
      refine q_icmp_ge hx hb dX0_addSteps_12 (tgt := 47) (by decide) (by omega) (by omega) (fun c1 => ?_) (fun c1 => ?_)
      · refine lv_aload_n hx hb dX0_addSteps_47 rfl (lv_at hl 0 rfl) ?_
        refine q_get C0 iX0 hP hR.1 hR.2.1 rfl 2 (by decide) flX0_42 rfl rfl dX0_addSteps_48 ?_
        refine lv_iload hx hb dX0_addSteps_51 (lv_at hl 5 rfl) ?_
        refine q_isub hx hb dX0_addSteps_53 ?_
        exact q_retMi C0 hret rfl hlk dX0_addSteps_54 hP hD hS (⟨rfl, by rw [hI, itrP_e (by omega)], by rw [hI, itrP_e (by omega)]; exact hR, hfr⟩)
      · have mb_ := mul99 (a := r) (b := b) (by omega) (by omega)
        refine lv_aload_n hx hb dX0_addSteps_15 rfl (lv_at hl 0 rfl) ?_
        refine lv_aload_n hx hb dX0_addSteps_16 rfl (lv_at hl 0 rfl) ?_
        refine lv_iload_n hx hb dX0_addSteps_17 rfl (lv_at hl 1 rfl) ?_
        refine lv_iload hx hb dX0_addSteps_18 (lv_at hl 6 rfl) ?_
        refine lv_iload_n hx hb dX0_addSteps_20 rfl (lv_at hl 2 rfl) ?_
        refine q_imul hx hb dX0_addSteps_21 ?_
        refine q_iadd hx hb dX0_addSteps_22 ?_
        refine q_bipush hx hb dX0_addSteps_23 (by decide) ?_
        refine q_irem hx hb dX0_addSteps_25 (by omega) (by omega) ?_
        refine q_vS C0 lX0_29 (c_X0_rankOf l D y L Fv h w o Sv.1 Sv.2.1 Sv.2.2 ((a + (r * b)) % 100) hR (by omega)) ⟨rfl, rfl⟩ rfl hP hR.1 hR.2.1 rfl rfl rfl hl rfl (Nat.le_of_ble_eq_true rfl) dX0_addSteps_26 ⟨Nat.zero_le _, Nat.zero_le _⟩ (fun r2 e_r2 => ?_)
        subst e_r2
        have b_3 := @turn_b o ((a + (r * b)) % 100) (by omega)
        refine lv_iload hx hb dX0_addSteps_29 (lv_at hl 4 rfl) ?_
        refine lv_iload hx hb dX0_addSteps_31 (lv_at hl 6 rfl) ?_
        refine q_iadd hx hb dX0_addSteps_33 ?_
        refine q_bipush hx hb dX0_addSteps_34 (by decide) ?_
        refine q_irem hx hb dX0_addSteps_36 (by omega) (by omega) ?_
        refine q_vMi C0 lX0_70 (c_X0_come l D y L Fv _ h w o Sv (turn o ((a + (r * b)) % 100)) ((v + r) % 100) hR (by omega) (by omega)) ⟨rfl, rfl⟩ rfl hP hD hS hA hR.1 hR.2.1 rfl rfl rfl hl rfl (Nat.le_of_ble_eq_true rfl) dX0_addSteps_37 ⟨Nat.le_of_ble_eq_true rfl, Nat.le_of_ble_eq_true rfl⟩ (fun r4 H locs L5 F5 hP hD hS hz5 hp5 => ?_)
        have hRo := hR
        obtain ⟨eL, er, hR, hfr1⟩ := hp5
        subst eL
        subst er
        have hfr := hfr.tr hfr1
        refine lv_pop hx hb dX0_addSteps_40 rfl ?_
        refine q_iinc (x := r) (n := 1) (lv' := [(6, .int (iI ((r + 1)))), (0, .ref h), (1, .int (iI a)), (2, .int (iI b)), (3, .int (iI n)), (4, .int (iI v)), (5, .int (iI (S.1)))]) hx hb dX0_addSteps_41 hl (k := 6) rfl (by decide) rfl (fun ls hl => ?_)
        refine lv_goto (tgt := 9) hx hb dX0_addSteps_44 (by decide) ?_
        exact ih_LP9 _ (by omega) (r + 1) F5 (comeS Sv (turn o ((a + (r * b)) % 100)) ((v + r) % 100)) _ _ (by omega) (hP) (hD) (hS) (hR) (hfr) (by rw [hI, itrP_s (by omega)]; rfl) rfl ls (lv_sub hl [1, 2, 3, 4, 5, 6, 0] rfl)
  exact LP9 _ 0 F S _ _ (by omega) (hP) (hD) (hS) (hR) (hfr) (rfl) rfl ls (lv_sub hl [2, 3, 4, 5, 6, 1, 0] rfl)
set_option maxHeartbeats 800000 in
set_option maxRecDepth 100000 in
theorem c_X0_addKeySteps (l : Launch) (D : va_G) (y : Nat → ClassId) (L : List Nat) (F : Nat → va_E) (sz : Nat) (h : Nat) (w : Nat) (o : Int) (S : RS) (a : Int) (b : Int) (n : Int) (hR : RwS y L F h w o S) (hfi : 0 ≤ a ∧ a ≤ 99) (hst : 0 ≤ b ∧ b ≤ 99) (hma : 0 ≤ n ∧ n ≤ 100) : Met l yX0_addKeySteps (.code yX0_addKeySteps cX0_addKeySteps 6 (some .int) :: Tt) ({ frames := 2, cells := 0, slots := 0, locals := 42 }) (PcM D y L F sz [.ref h, .int (iI a), .int (iI b), .int (iI n)]) (cMi D (AL L sz) (fun r L1 F1 => L = L1 ∧ r = (kstS o a b n S).1 - S.1 ∧ RwS y L1 F1 h w o (kstS o a b n S) ∧ FrE h w F F1)) 0 0 (AL L sz) := by
  have ho := hR.2.2.2.2.1
  have hfr : FrE h w F F := FrE.rf h w F
  refine q_ofM (lv := [(0, .ref h), (1, .int (iI a)), (2, .int (iI b)), (3, .int (iI n))]) (by decide) (Nat.le_of_ble_eq_true rfl) rfl (fun p e s m below meth c C0 hret hlk hnm hA hP hD hS ls hl => ?_)
  have hx := C0.1.1
  have hb := C0.1.2.1
  have hts := C0.1.2.2.2.2
  refine lv_aload_n hx hb dX0_addKeySteps_0 rfl (lv_at hl 0 rfl) ?_
  refine q_get C0 iX0 hP hR.1 hR.2.1 rfl 2 (by decide) flX0_42 rfl rfl dX0_addKeySteps_1 ?_
  refine lv_istore (lv' := [(4, .int (iI (S.1))), (0, .ref h), (1, .int (iI a)), (2, .int (iI b)), (3, .int (iI n))]) hx hb dX0_addKeySteps_4 hl (by decide) rfl (fun ls hl => ?_)
  refine q_iconst hx hb dX0_addKeySteps_6 ?_
  refine lv_istore (lv' := [(5, .int (iI 0)), (4, .int (iI (S.1))), (0, .ref h), (1, .int (iI a)), (2, .int (iI b)), (3, .int (iI n))]) hx hb dX0_addKeySteps_7 hl (by decide) rfl (fun ls hl => ?_)
  have LP9 : ∀ (n_LP9 : Nat) (r : Int) (Fv : Nat → va_E) (Sv : RS) (H : Heap) (locs : List Loc), (0 ≤ r ∧ r ≤ 100) → (va_P D vwCl (va_pl L Fv) H) → (va_D (AL L sz) (va_pl L Fv)) → (va_S (AL L sz) s.heap H locs) → (RwS y L Fv h w o Sv) → (FrE h w F Fv) → (kstS o a b n S = itrP (kstU o a b) r (n - 1) Sv) → (n - r).toNat = n_LP9 → ∀ ls : Array Slot, lv_has ls 6 [(0, .ref h), (1, .int (iI a)), (2, .int (iI b)), (3, .int (iI n)), (4, .int (iI (S.1))), (5, .int (iI r))] → W p l e ({ frames := 2, cells := 0, slots := 0, locals := 42 } : Room) s m [.ref h, .int (iI a), .int (iI b), .int (iI n)].toArray below meth c H locs 0 0 (MQ below (cMi D (AL L sz) (fun r L1 F1 => L = L1 ∧ r = (kstS o a b n S).1 - S.1 ∧ RwS y L1 F1 h w o (kstS o a b n S) ∧ FrE h w F F1)) [.ref h, .int (iI a), .int (iI b), .int (iI n)].toArray s 0 0 (AL L sz)) (F0 m 9 ls []) := by
    intro n_LP9
    induction n_LP9 using Nat.strongRecOn with
    | ind n_LP9 ih_LP9 =>
      intro r Fv Sv H locs hr hP hD hS hR hfr hI hm_LP9 ls hl
      refine lv_iload hx hb dX0_addKeySteps_9 (lv_at hl 5 rfl) ?_
      refine lv_iload_n hx hb dX0_addKeySteps_11 rfl (lv_at hl 3 rfl) ?_
      refine q_icmp_ge hx hb dX0_addKeySteps_12 (tgt := 40) (by decide) (by omega) (by omega) (fun c1 => ?_) (fun c1 => ?_)
      · refine lv_aload_n hx hb dX0_addKeySteps_40 rfl (lv_at hl 0 rfl) ?_
        refine q_get C0 iX0 hP hR.1 hR.2.1 rfl 2 (by decide) flX0_42 rfl rfl dX0_addKeySteps_41 ?_
        refine lv_iload hx hb dX0_addKeySteps_44 (lv_at hl 4 rfl) ?_
        refine q_isub hx hb dX0_addKeySteps_46 ?_
        exact q_retMi C0 hret rfl hlk dX0_addKeySteps_47 hP hD hS (⟨rfl, by rw [hI, itrP_e (by omega)], by rw [hI, itrP_e (by omega)]; exact hR, hfr⟩)
      · have mb_ := mul99 (a := r) (b := b) (by omega) (by omega)
        refine lv_aload_n hx hb dX0_addKeySteps_15 rfl (lv_at hl 0 rfl) ?_
        refine lv_aload_n hx hb dX0_addKeySteps_16 rfl (lv_at hl 0 rfl) ?_
        refine lv_iload_n hx hb dX0_addKeySteps_17 rfl (lv_at hl 1 rfl) ?_
        refine lv_iload hx hb dX0_addKeySteps_18 (lv_at hl 5 rfl) ?_
        refine lv_iload_n hx hb dX0_addKeySteps_20 rfl (lv_at hl 2 rfl) ?_
        refine q_imul hx hb dX0_addKeySteps_21 ?_
        refine q_iadd hx hb dX0_addKeySteps_22 ?_
        refine q_bipush hx hb dX0_addKeySteps_23 (by decide) ?_
        refine q_irem hx hb dX0_addKeySteps_25 (by omega) (by omega) ?_
        refine q_vS C0 lX0_29 (c_X0_rankOf l D y L Fv h w o Sv.1 Sv.2.1 Sv.2.2 ((a + (r * b)) % 100) hR (by omega)) ⟨rfl, rfl⟩ rfl hP hR.1 hR.2.1 rfl rfl rfl hl rfl (Nat.le_of_ble_eq_true rfl) dX0_addKeySteps_26 ⟨Nat.zero_le _, Nat.zero_le _⟩ (fun r2 e_r2 => ?_)
        subst e_r2
        have b_3 := @turn_b o ((a + (r * b)) % 100) (by omega)
        refine q_iconst hx hb dX0_addKeySteps_29 ?_
        refine q_vMi C0 lX0_70 (c_X0_come l D y L Fv _ h w o Sv (turn o ((a + (r * b)) % 100)) 0 hR (by omega) (by omega)) ⟨rfl, rfl⟩ rfl hP hD hS hA hR.1 hR.2.1 rfl rfl rfl hl rfl (Nat.le_of_ble_eq_true rfl) dX0_addKeySteps_30 ⟨Nat.le_of_ble_eq_true rfl, Nat.le_of_ble_eq_true rfl⟩ (fun r4 H locs L5 F5 hP hD hS hz5 hp5 => ?_)
        have hRo := hR
        obtain ⟨eL, er, hR, hfr1⟩ := hp5
        subst eL
        subst er
        have hfr := hfr.tr hfr1
        refine lv_pop hx hb dX0_addKeySteps_33 rfl ?_
        refine q_iinc (x := r) (n := 1) (lv' := [(5, .int (iI ((r + 1)))), (0, .ref h), (1, .int (iI a)), (2, .int (iI b)), (3, .int (iI n)), (4, .int (iI (S.1)))]) hx hb dX0_addKeySteps_34 hl (k := 5) rfl (by decide) rfl (fun ls hl => ?_)
        refine lv_goto (tgt := 9) hx hb dX0_addKeySteps_37 (by decide) ?_
        exact ih_LP9 _ (by omega) (r + 1) F5 (comeS Sv (turn o ((a + (r * b)) % 100)) 0) _ _ (by omega) (hP) (hD) (hS) (hR) (hfr) (by rw [hI, itrP_s (by omega)]; rfl) rfl ls (lv_sub hl [1, 2, 3, 4, 5, 0] rfl)
  exact LP9 _ 0 F S _ _ (by omega) (hP) (hD) (hS) (hR) (hfr) (rfl) rfl ls (lv_sub hl [2, 3, 4, 5, 1, 0] rfl)
set_option maxHeartbeats 800000 in
set_option maxRecDepth 100000 in
theorem c_X0_removeSteps (l : Launch) (D : va_G) (y : Nat → ClassId) (L : List Nat) (F : Nat → va_E) (sz : Nat) (h : Nat) (w : Nat) (o : Int) (S : RS) (a : Int) (b : Int) (n : Int) (hR : RwS y L F h w o S) (hfi : 0 ≤ a ∧ a ≤ 99) (hst : 0 ≤ b ∧ b ≤ 99) (hma : 0 ≤ n ∧ n ≤ 100) : Met l yX0_removeSteps (.code yX0_removeSteps cX0_removeSteps 6 (some .int) :: Tt) ({ frames := 2, cells := 0, slots := 0, locals := 42 }) (PcM D y L F sz [.ref h, .int (iI a), .int (iI b), .int (iI n)]) (cMi D (AL L sz) (fun r L1 F1 => L = L1 ∧ r = S.1 - (rstS o a b n S).1 ∧ RwS y L1 F1 h w o (rstS o a b n S) ∧ FrE h w F F1)) 0 0 (AL L sz) := by
  have ho := hR.2.2.2.2.1
  have hfr : FrE h w F F := FrE.rf h w F
  refine q_ofM (lv := [(0, .ref h), (1, .int (iI a)), (2, .int (iI b)), (3, .int (iI n))]) (by decide) (Nat.le_of_ble_eq_true rfl) rfl (fun p e s m below meth c C0 hret hlk hnm hA hP hD hS ls hl => ?_)
  have hx := C0.1.1
  have hb := C0.1.2.1
  have hts := C0.1.2.2.2.2
  refine lv_aload_n hx hb dX0_removeSteps_0 rfl (lv_at hl 0 rfl) ?_
  refine q_get C0 iX0 hP hR.1 hR.2.1 rfl 2 (by decide) flX0_42 rfl rfl dX0_removeSteps_1 ?_
  refine lv_istore (lv' := [(4, .int (iI (S.1))), (0, .ref h), (1, .int (iI a)), (2, .int (iI b)), (3, .int (iI n))]) hx hb dX0_removeSteps_4 hl (by decide) rfl (fun ls hl => ?_)
  refine q_iconst hx hb dX0_removeSteps_6 ?_
  refine lv_istore (lv' := [(5, .int (iI 0)), (4, .int (iI (S.1))), (0, .ref h), (1, .int (iI a)), (2, .int (iI b)), (3, .int (iI n))]) hx hb dX0_removeSteps_7 hl (by decide) rfl (fun ls hl => ?_)
  have LP9 : ∀ (n_LP9 : Nat) (r : Int) (Fv : Nat → va_E) (Sv : RS) (H : Heap) (locs : List Loc), (0 ≤ r ∧ r ≤ 100) → (va_P D vwCl (va_pl L Fv) H) → (va_D (AL L sz) (va_pl L Fv)) → (va_S (AL L sz) s.heap H locs) → (RwS y L Fv h w o Sv) → (FrE h w F Fv) → (rstS o a b n S = itrP (rstU o a b) r (n - 1) Sv) → (n - r).toNat = n_LP9 → ∀ ls : Array Slot, lv_has ls 6 [(0, .ref h), (1, .int (iI a)), (2, .int (iI b)), (3, .int (iI n)), (4, .int (iI (S.1))), (5, .int (iI r))] → W p l e ({ frames := 2, cells := 0, slots := 0, locals := 42 } : Room) s m [.ref h, .int (iI a), .int (iI b), .int (iI n)].toArray below meth c H locs 0 0 (MQ below (cMi D (AL L sz) (fun r L1 F1 => L = L1 ∧ r = S.1 - (rstS o a b n S).1 ∧ RwS y L1 F1 h w o (rstS o a b n S) ∧ FrE h w F F1)) [.ref h, .int (iI a), .int (iI b), .int (iI n)].toArray s 0 0 (AL L sz)) (F0 m 9 ls []) := by
    intro n_LP9
    induction n_LP9 using Nat.strongRecOn with
    | ind n_LP9 ih_LP9 =>
      intro r Fv Sv H locs hr hP hD hS hR hfr hI hm_LP9 ls hl
      refine lv_iload hx hb dX0_removeSteps_9 (lv_at hl 5 rfl) ?_
      refine lv_iload_n hx hb dX0_removeSteps_11 rfl (lv_at hl 3 rfl) ?_
      refine q_icmp_ge hx hb dX0_removeSteps_12 (tgt := 39) (by decide) (by omega) (by omega) (fun c1 => ?_) (fun c1 => ?_)
      · refine lv_iload hx hb dX0_removeSteps_39 (lv_at hl 4 rfl) ?_
        refine lv_aload_n hx hb dX0_removeSteps_41 rfl (lv_at hl 0 rfl) ?_
        refine q_get C0 iX0 hP hR.1 hR.2.1 rfl 2 (by decide) flX0_42 rfl rfl dX0_removeSteps_42 ?_
        refine q_isub hx hb dX0_removeSteps_45 ?_
        exact q_retMi C0 hret rfl hlk dX0_removeSteps_46 hP hD hS (⟨rfl, by rw [hI, itrP_e (by omega)], by rw [hI, itrP_e (by omega)]; exact hR, hfr⟩)
      · have mb_ := mul99 (a := r) (b := b) (by omega) (by omega)
        refine lv_aload_n hx hb dX0_removeSteps_15 rfl (lv_at hl 0 rfl) ?_
        refine lv_aload_n hx hb dX0_removeSteps_16 rfl (lv_at hl 0 rfl) ?_
        refine lv_iload_n hx hb dX0_removeSteps_17 rfl (lv_at hl 1 rfl) ?_
        refine lv_iload hx hb dX0_removeSteps_18 (lv_at hl 5 rfl) ?_
        refine lv_iload_n hx hb dX0_removeSteps_20 rfl (lv_at hl 2 rfl) ?_
        refine q_imul hx hb dX0_removeSteps_21 ?_
        refine q_iadd hx hb dX0_removeSteps_22 ?_
        refine q_bipush hx hb dX0_removeSteps_23 (by decide) ?_
        refine q_irem hx hb dX0_removeSteps_25 (by omega) (by omega) ?_
        refine q_vS C0 lX0_29 (c_X0_rankOf l D y L Fv h w o Sv.1 Sv.2.1 Sv.2.2 ((a + (r * b)) % 100) hR (by omega)) ⟨rfl, rfl⟩ rfl hP hR.1 hR.2.1 rfl rfl rfl hl rfl (Nat.le_of_ble_eq_true rfl) dX0_removeSteps_26 ⟨Nat.zero_le _, Nat.zero_le _⟩ (fun r2 e_r2 => ?_)
        subst e_r2
        have b_3 := @turn_b o ((a + (r * b)) % 100) (by omega)
        refine q_vMi C0 lX0_73 (c_X0_go l D y L Fv _ h w o Sv (turn o ((a + (r * b)) % 100)) hR (by omega)) ⟨rfl, rfl⟩ rfl hP hD hS hA hR.1 hR.2.1 rfl rfl rfl hl rfl (Nat.le_of_ble_eq_true rfl) dX0_removeSteps_29 ⟨Nat.le_of_ble_eq_true rfl, Nat.le_of_ble_eq_true rfl⟩ (fun r4 H locs L5 F5 hP hD hS hz5 hp5 => ?_)
        have hRo := hR
        obtain ⟨eL, er, hR, hfr1⟩ := hp5
        subst eL
        subst er
        have hfr := hfr.tr hfr1
        refine lv_pop hx hb dX0_removeSteps_32 rfl ?_
        refine q_iinc (x := r) (n := 1) (lv' := [(5, .int (iI ((r + 1)))), (0, .ref h), (1, .int (iI a)), (2, .int (iI b)), (3, .int (iI n)), (4, .int (iI (S.1)))]) hx hb dX0_removeSteps_33 hl (k := 5) rfl (by decide) rfl (fun ls hl => ?_)
        refine lv_goto (tgt := 9) hx hb dX0_removeSteps_36 (by decide) ?_
        exact ih_LP9 _ (by omega) (r + 1) F5 (goS Sv (turn o ((a + (r * b)) % 100))) _ _ (by omega) (hP) (hD) (hS) (hR) (hfr) (by rw [hI, itrP_s (by omega)]; rfl) rfl ls (lv_sub hl [1, 2, 3, 4, 5, 0] rfl)
  exact LP9 _ 0 F S _ _ (by omega) (hP) (hD) (hS) (hR) (hfr) (rfl) rfl ls (lv_sub hl [2, 3, 4, 5, 1, 0] rfl)
set_option maxHeartbeats 800000 in
set_option maxRecDepth 100000 in
theorem c_X0_retain (l : Launch) (D : va_G) (y : Nat → ClassId) (L : List Nat) (F : Nat → va_E) (sz : Nat) (h : Nat) (w : Nat) (o : Int) (S : RS) (h2 : Nat) (w2 : Nat) (o2 : Int) (k2 : Int) (g2 : Int) (f2 : Int → Int) (b : Int) (hR : RwS y L F h w o S) (hR2 : Rw y L F h2 w2 o2 k2 g2 f2) (n1 : h2 ≠ h) (n2 : w2 ≠ w) (hb0 : 0 ≤ b ∧ b ≤ 1) : Met l yX0_retain (.code yX0_retain cX0_retain 5 (some .int) :: Tt) ({ frames := 2, cells := 0, slots := 0, locals := 42 }) (PcM D y L F sz [.ref h, .ref h2, .int (iI b)]) (cMi D (AL L sz) (fun r L1 F1 => L = L1 ∧ r = S.1 - (retS o o2 b f2 S).1 ∧ RwS y L1 F1 h w o (retS o o2 b f2 S) ∧ FrE h w F F1)) 0 0 (AL L sz) := by
  have ho := hR.2.2.2.2.1
  have hfr : FrE h w F F := FrE.rf h w F
  have ho2 := hR2.2.2.2.2.1
  refine q_ofM (lv := [(0, .ref h), (1, .ref h2), (2, .int (iI b))]) (by decide) (Nat.le_of_ble_eq_true rfl) rfl (fun p e s m below meth c C0 hret hlk hnm hA hP hD hS ls hl => ?_)
  have hx := C0.1.1
  have hb := C0.1.2.1
  have hts := C0.1.2.2.2.2
  refine lv_aload_n hx hb dX0_retain_0 rfl (lv_at hl 0 rfl) ?_
  refine q_get C0 iX0 hP hR.1 hR.2.1 rfl 2 (by decide) flX0_42 rfl rfl dX0_retain_1 ?_
  refine lv_istore_n (lv' := [(3, .int (iI (S.1))), (0, .ref h), (1, .ref h2), (2, .int (iI b))]) hx hb dX0_retain_4 rfl hl (by decide) rfl (fun ls hl => ?_)
  refine q_iconst hx hb dX0_retain_5 ?_
  refine lv_istore (lv' := [(4, .int (iI 0)), (3, .int (iI (S.1))), (0, .ref h), (1, .ref h2), (2, .int (iI b))]) hx hb dX0_retain_6 hl (by decide) rfl (fun ls hl => ?_)
  have LP8 : ∀ (n_LP8 : Nat) (r : Int) (Fv : Nat → va_E) (Sv : RS) (H : Heap) (locs : List Loc), (0 ≤ r ∧ r ≤ 100) → (va_P D vwCl (va_pl L Fv) H) → (va_D (AL L sz) (va_pl L Fv)) → (va_S (AL L sz) s.heap H locs) → (RwS y L Fv h w o Sv) → (FrE h w F Fv) → (retS o o2 b f2 S = itrP (retU o o2 b f2) r 99 Sv) → (Rw y L Fv h2 w2 o2 k2 g2 f2) → (100 - r).toNat = n_LP8 → ∀ ls : Array Slot, lv_has ls 5 [(0, .ref h), (1, .ref h2), (2, .int (iI b)), (3, .int (iI (S.1))), (4, .int (iI r))] → W p l e ({ frames := 2, cells := 0, slots := 0, locals := 42 } : Room) s m [.ref h, .ref h2, .int (iI b)].toArray below meth c H locs 0 0 (MQ below (cMi D (AL L sz) (fun r L1 F1 => L = L1 ∧ r = S.1 - (retS o o2 b f2 S).1 ∧ RwS y L1 F1 h w o (retS o o2 b f2 S) ∧ FrE h w F F1)) [.ref h, .ref h2, .int (iI b)].toArray s 0 0 (AL L sz)) (F0 m 8 ls []) := by
    intro n_LP8
    induction n_LP8 using Nat.strongRecOn with
    | ind n_LP8 ih_LP8 =>
      intro r Fv Sv H locs hr hP hD hS hR hfr hI hR2 hm_LP8 ls hl
      refine lv_iload hx hb dX0_retain_8 (lv_at hl 4 rfl) ?_
      refine q_bipush hx hb dX0_retain_10 (by decide) ?_
      refine q_icmp_ge hx hb dX0_retain_12 (tgt := 46) (by decide) (by omega) (by omega) (fun c1 => ?_) (fun c1 => ?_)
      · refine lv_iload_n hx hb dX0_retain_46 rfl (lv_at hl 3 rfl) ?_
        refine lv_aload_n hx hb dX0_retain_47 rfl (lv_at hl 0 rfl) ?_
        refine q_get C0 iX0 hP hR.1 hR.2.1 rfl 2 (by decide) flX0_42 rfl rfl dX0_retain_48 ?_
        refine q_isub hx hb dX0_retain_51 ?_
        exact q_retMi C0 hret rfl hlk dX0_retain_52 hP hD hS (⟨rfl, by rw [hI, itrP_e (by omega)], by rw [hI, itrP_e (by omega)]; exact hR, hfr⟩)
      · refine lv_aload_n hx hb dX0_retain_15 rfl (lv_at hl 1 rfl) ?_
        refine lv_aload_n hx hb dX0_retain_16 rfl (lv_at hl 1 rfl) ?_
        refine lv_aload_n hx hb dX0_retain_17 rfl (lv_at hl 0 rfl) ?_
        refine lv_iload hx hb dX0_retain_18 (lv_at hl 4 rfl) ?_
        refine q_vS C0 lX0_36 (c_X0_keyOf l D y L Fv h w o Sv.1 Sv.2.1 Sv.2.2 r hR (by omega)) ⟨rfl, rfl⟩ rfl hP hR.1 hR.2.1 rfl rfl rfl hl rfl (Nat.le_of_ble_eq_true rfl) dX0_retain_20 ⟨Nat.zero_le _, Nat.zero_le _⟩ (fun r2 e_r2 => ?_)
        subst e_r2
        have b_3 := @keyR_b o r (by omega)
        refine q_vS C0 lX0_29 (c_X0_rankOf l D y L Fv h2 w2 o2 k2 g2 f2 (keyR o r) hR2 (by omega)) ⟨rfl, rfl⟩ rfl hP hR2.1 hR2.2.1 rfl rfl rfl hl rfl (Nat.le_of_ble_eq_true rfl) dX0_retain_23 ⟨Nat.zero_le _, Nat.zero_le _⟩ (fun r4 e_r4 => ?_)
        subst e_r4
        have b_5 := @turn_b o2 (keyR o r) (by omega)
        refine q_vS C0 lX0_32 (c_X0_isThere l D y L Fv h2 w2 o2 k2 g2 f2 (turn o2 (keyR o r)) hR2 (by omega)) ⟨rfl, rfl⟩ rfl hP hR2.1 hR2.2.1 rfl rfl rfl hl rfl (Nat.le_of_ble_eq_true rfl) dX0_retain_26 ⟨Nat.zero_le _, Nat.zero_le _⟩ (fun r6 e_r6 => ?_)
        subst e_r6
        have b_7 := isT_b f2 (turn o2 (keyR o r))
        refine lv_iload_n hx hb dX0_retain_29 rfl (lv_at hl 2 rfl) ?_
        refine q_icmp_eq hx hb dX0_retain_30 (tgt := 40) (by decide) (by omega) (by omega) (fun c8 => ?_) (fun c8 => ?_)
        · refine q_iinc (x := r) (n := 1) (lv' := [(4, .int (iI ((r + 1)))), (0, .ref h), (1, .ref h2), (2, .int (iI b)), (3, .int (iI (S.1)))]) hx hb dX0_retain_40 hl (k := 4) rfl (by decide) rfl (fun ls hl => ?_)
          refine lv_goto (tgt := 8) hx hb dX0_retain_43 (by decide) ?_
          exact ih_LP8 _ (by omega) (r + 1) Fv Sv _ _ (by omega) (hP) (hD) (hS) (hR) (hfr) (by first | (rw [hI, itrP_s (by omega)]; unfold retU; rw [if_pos (by omega)]; done) | (rw [hI, itrP_s (by omega)]; unfold retU; rw [if_neg (by omega)])) (hR2) rfl ls (lv_sub hl [1, 2, 3, 4, 0] rfl)
        · refine lv_aload_n hx hb dX0_retain_33 rfl (lv_at hl 0 rfl) ?_
          refine lv_iload hx hb dX0_retain_34 (lv_at hl 4 rfl) ?_
          refine q_vMi C0 lX0_73 (c_X0_go l D y L Fv _ h w o Sv r hR (by omega)) ⟨rfl, rfl⟩ rfl hP hD hS hA hR.1 hR.2.1 rfl rfl rfl hl rfl (Nat.le_of_ble_eq_true rfl) dX0_retain_36 ⟨Nat.le_of_ble_eq_true rfl, Nat.le_of_ble_eq_true rfl⟩ (fun r9 H locs L10 F10 hP hD hS hz10 hp10 => ?_)
          have hRo := hR
          obtain ⟨eL, er, hR, hfr1⟩ := hp10
          subst eL
          subst er
          have hR2 := Rw_fr hRo hR2 n1 n2 hfr1
          have hfr := hfr.tr hfr1
          refine lv_pop hx hb dX0_retain_39 rfl ?_
          refine q_iinc (x := r) (n := 1) (lv' := [(4, .int (iI ((r + 1)))), (0, .ref h), (1, .ref h2), (2, .int (iI b)), (3, .int (iI (S.1)))]) hx hb dX0_retain_40 hl (k := 4) rfl (by decide) rfl (fun ls hl => ?_)
          refine lv_goto (tgt := 8) hx hb dX0_retain_43 (by decide) ?_
          exact ih_LP8 _ (by omega) (r + 1) F10 (goS Sv r) _ _ (by omega) (hP) (hD) (hS) (hR) (hfr) (by first | (rw [hI, itrP_s (by omega)]; unfold retU; rw [if_pos (by omega)]; done) | (rw [hI, itrP_s (by omega)]; unfold retU; rw [if_neg (by omega)])) (hR2) rfl ls (lv_sub hl [1, 2, 3, 4, 0] rfl)
  exact LP8 _ 0 F S _ _ (by omega) (hP) (hD) (hS) (hR) (hfr) (rfl) (hR2) rfl ls (lv_sub hl [2, 3, 4, 1, 0] rfl)
set_option maxHeartbeats 800000 in
set_option maxRecDepth 100000 in
theorem c_X0_clearPart (l : Launch) (D : va_G) (y : Nat → ClassId) (L : List Nat) (F : Nat → va_E) (sz : Nat) (h : Nat) (w : Nat) (o : Int) (S : RS) (lo : Int) (hi : Int) (hR : RwS y L F h w o S) (hlo : -1000 ≤ lo ∧ lo ≤ 1000) (hhi : -1000 ≤ hi ∧ hi ≤ 1000) : Met l yX0_clearPart (.code yX0_clearPart cX0_clearPart 5 (some .int) :: Tt) ({ frames := 1, cells := 0, slots := 0, locals := 22 }) (PcM D y L F sz [.ref h, .int (iI lo), .int (iI hi)]) (cMi D (AL L sz) (fun r L1 F1 => L = L1 ∧ r = S.1 - (clrS lo hi S).1 ∧ RwS y L1 F1 h w o (clrS lo hi S) ∧ FrE h w F F1)) 0 0 (AL L sz) := by
  have ho := hR.2.2.2.2.1
  have hfr : FrE h w F F := FrE.rf h w F
  refine q_ofM (lv := [(0, .ref h), (1, .int (iI lo)), (2, .int (iI hi))]) (by decide) (Nat.le_of_ble_eq_true rfl) rfl (fun p e s m below meth c C0 hret hlk hnm hA hP hD hS ls hl => ?_)
  have hx := C0.1.1
  have hb := C0.1.2.1
  have hts := C0.1.2.2.2.2
  refine lv_aload_n hx hb dX0_clearPart_0 rfl (lv_at hl 0 rfl) ?_
  refine q_get C0 iX0 hP hR.1 hR.2.1 rfl 2 (by decide) flX0_42 rfl rfl dX0_clearPart_1 ?_
  refine lv_istore_n (lv' := [(3, .int (iI (S.1))), (0, .ref h), (1, .int (iI lo)), (2, .int (iI hi))]) hx hb dX0_clearPart_4 rfl hl (by decide) rfl (fun ls hl => ?_)
  refine lv_iload_n hx hb dX0_clearPart_5 rfl (lv_at hl 2 rfl) ?_
  refine lv_istore (lv' := [(4, .int (iI lo)), (3, .int (iI (S.1))), (0, .ref h), (1, .int (iI lo)), (2, .int (iI hi))]) hx hb dX0_clearPart_6 hl (by decide) rfl (fun ls hl => ?_)
  have LP8 : ∀ (n_LP8 : Nat) (r : Int) (Fv : Nat → va_E) (Sv : RS) (H : Heap) (locs : List Loc), (lo ≤ r ∧ r ≤ 1001) → (va_P D vwCl (va_pl L Fv) H) → (va_D (AL L sz) (va_pl L Fv)) → (va_S (AL L sz) s.heap H locs) → (RwS y L Fv h w o Sv) → (FrE h w F Fv) → (clrS lo hi S = itrP (fun r S => goS S r) r hi Sv) → (hi + 1 - r).toNat = n_LP8 → ∀ ls : Array Slot, lv_has ls 5 [(0, .ref h), (1, .int (iI lo)), (2, .int (iI hi)), (3, .int (iI (S.1))), (4, .int (iI r))] → W p l e ({ frames := 1, cells := 0, slots := 0, locals := 22 } : Room) s m [.ref h, .int (iI lo), .int (iI hi)].toArray below meth c H locs 0 0 (MQ below (cMi D (AL L sz) (fun r L1 F1 => L = L1 ∧ r = S.1 - (clrS lo hi S).1 ∧ RwS y L1 F1 h w o (clrS lo hi S) ∧ FrE h w F F1)) [.ref h, .int (iI lo), .int (iI hi)].toArray s 0 0 (AL L sz)) (F0 m 8 ls []) := by
    intro n_LP8
    induction n_LP8 using Nat.strongRecOn with
    | ind n_LP8 ih_LP8 =>
      intro r Fv Sv H locs hr hP hD hS hR hfr hI hm_LP8 ls hl
      refine lv_iload hx hb dX0_clearPart_8 (lv_at hl 4 rfl) ?_
      refine lv_iload_n hx hb dX0_clearPart_10 rfl (lv_at hl 2 rfl) ?_
      refine q_icmp_gt hx hb dX0_clearPart_11 (tgt := 27) (by decide) (by omega) (by omega) (fun c1 => ?_) (fun c1 => ?_)
      · refine lv_iload_n hx hb dX0_clearPart_27 rfl (lv_at hl 3 rfl) ?_
        refine lv_aload_n hx hb dX0_clearPart_28 rfl (lv_at hl 0 rfl) ?_
        refine q_get C0 iX0 hP hR.1 hR.2.1 rfl 2 (by decide) flX0_42 rfl rfl dX0_clearPart_29 ?_
        refine q_isub hx hb dX0_clearPart_32 ?_
        exact q_retMi C0 hret rfl hlk dX0_clearPart_33 hP hD hS (⟨rfl, by rw [hI, itrP_e (by omega)], by rw [hI, itrP_e (by omega)]; exact hR, hfr⟩)
      · refine lv_aload_n hx hb dX0_clearPart_14 rfl (lv_at hl 0 rfl) ?_
        refine lv_iload hx hb dX0_clearPart_15 (lv_at hl 4 rfl) ?_
        refine q_vMi C0 lX0_73 (c_X0_go l D y L Fv _ h w o Sv r hR (by omega)) ⟨rfl, rfl⟩ rfl hP hD hS hA hR.1 hR.2.1 rfl rfl rfl hl rfl (Nat.le_of_ble_eq_true rfl) dX0_clearPart_17 ⟨Nat.le_of_ble_eq_true rfl, Nat.le_of_ble_eq_true rfl⟩ (fun r2 H locs L3 F3 hP hD hS hz3 hp3 => ?_)
        have hRo := hR
        obtain ⟨eL, er, hR, hfr1⟩ := hp3
        subst eL
        subst er
        have hfr := hfr.tr hfr1
        refine lv_pop hx hb dX0_clearPart_20 rfl ?_
        refine q_iinc (x := r) (n := 1) (lv' := [(4, .int (iI ((r + 1)))), (0, .ref h), (1, .int (iI lo)), (2, .int (iI hi)), (3, .int (iI (S.1)))]) hx hb dX0_clearPart_21 hl (k := 4) rfl (by decide) rfl (fun ls hl => ?_)
        refine lv_goto (tgt := 8) hx hb dX0_clearPart_24 (by decide) ?_
        exact ih_LP8 _ (by omega) (r + 1) F3 (goS Sv r) _ _ (by omega) (hP) (hD) (hS) (hR) (hfr) (by rw [hI, itrP_s (by omega)]) rfl ls (lv_sub hl [1, 2, 3, 4, 0] rfl)
  exact LP8 _ lo F S _ _ (by omega) (hP) (hD) (hS) (hR) (hfr) (rfl) rfl ls (lv_sub hl [2, 3, 4, 1, 0] rfl)
set_option maxHeartbeats 800000 in
set_option maxRecDepth 100000 in
theorem c_X0_dropOfPart (l : Launch) (D : va_G) (y : Nat → ClassId) (L : List Nat) (F : Nat → va_E) (sz : Nat) (h : Nat) (w : Nat) (o : Int) (S : RS) (lo : Int) (hi : Int) (what : Int) (hR : RwS y L F h w o S) (hlo : -1000 ≤ lo ∧ lo ≤ 1000) (hhi : -1000 ≤ hi ∧ hi ≤ 1000) (hwt : -2147483648 ≤ what ∧ what ≤ 2147483647) : Met l yX0_dropOfPart (.code yX0_dropOfPart cX0_dropOfPart 6 (some .int) :: Tt) ({ frames := 3, cells := 0, slots := 0, locals := 67 }) (PcM D y L F sz [.ref h, .int (iI lo), .int (iI hi), .int (iI what)]) (cMi D (AL L sz) (fun r L1 F1 => L = L1 ∧ r = drpR o lo hi what S ∧ RwS y L1 F1 h w o (drpS lo hi what S) ∧ FrE h w F F1)) 0 0 (AL L sz) := by
  have ho := hR.2.2.2.2.1
  have hfr : FrE h w F F := FrE.rf h w F
  refine q_ofM (lv := [(0, .ref h), (1, .int (iI lo)), (2, .int (iI hi)), (3, .int (iI what))]) (by decide) (Nat.le_of_ble_eq_true rfl) rfl (fun p e s m below meth c C0 hret hlk hnm hA hP hD hS ls hl => ?_)
  have hx := C0.1.1
  have hb := C0.1.2.1
  have hts := C0.1.2.2.2.2
  refine lv_iload_n hx hb dX0_dropOfPart_0 rfl (lv_at hl 3 rfl) ?_
  refine q_iconst hx hb dX0_dropOfPart_1 ?_
  refine q_icmp_ne hx hb dX0_dropOfPart_2 (tgt := 12) (by decide) (by omega) (by omega) (fun c1 => ?_) (fun c1 => ?_)
  · refine lv_aload_n hx hb dX0_dropOfPart_12 rfl (lv_at hl 0 rfl) ?_
    refine lv_iload_n hx hb dX0_dropOfPart_13 rfl (lv_at hl 1 rfl) ?_
    refine lv_iload_n hx hb dX0_dropOfPart_14 rfl (lv_at hl 2 rfl) ?_
    refine lv_iload_n hx hb dX0_dropOfPart_15 rfl (lv_at hl 3 rfl) ?_
    refine q_iconst hx hb dX0_dropOfPart_16 ?_
    refine q_icmp_ne hx hb dX0_dropOfPart_17 (tgt := 24) (by decide) (by omega) (by omega) (fun c2 => ?_) (fun c2 => ?_)
    · refine q_iconst hx hb dX0_dropOfPart_24 ?_
      refine q_vS C0 lX0_79 (c_X0_endOfPart l D y L F h w o S.1 S.2.1 S.2.2 lo hi 0 hR (by omega) (by omega) (by omega)) ⟨rfl, rfl⟩ rfl hP hR.1 hR.2.1 rfl rfl rfl hl rfl (Nat.le_of_ble_eq_true rfl) dX0_dropOfPart_25 ⟨Nat.zero_le _, Nat.zero_le _⟩ (fun r3 e_r3 => ?_)
      subst e_r3
      have b_4 := endP_r S.2.2 lo hi 0
      refine lv_istore (lv' := [(4, .int (iI ((endP S.2.2 lo hi 0)))), (0, .ref h), (1, .int (iI lo)), (2, .int (iI hi)), (3, .int (iI what))]) hx hb dX0_dropOfPart_28 hl (by decide) rfl (fun ls hl => ?_)
      refine lv_aload_n hx hb dX0_dropOfPart_30 rfl (lv_at hl 1 rfl) ?_
      refine lv_iload hx hb dX0_dropOfPart_31 (lv_at hl 0 rfl) ?_
      refine q_vS C0 lX0_83 (c_X0_pairAt l D y L F h w o S.1 S.2.1 S.2.2 (endP S.2.2 lo hi 0) hR (by omega)) ⟨rfl, rfl⟩ rfl hP hR.1 hR.2.1 rfl rfl rfl hl rfl (Nat.le_of_ble_eq_true rfl) dX0_dropOfPart_33 ⟨Nat.zero_le _, Nat.zero_le _⟩ (fun r5 e_r5 => ?_)
      subst e_r5
      refine lv_istore (lv' := [(5, .int (iI ((pairR o S.2.2 (endP S.2.2 lo hi 0))))), (4, .int (iI ((endP S.2.2 lo hi 0)))), (0, .ref h), (1, .int (iI lo)), (2, .int (iI hi)), (3, .int (iI what))]) hx hb dX0_dropOfPart_36 hl (by decide) rfl (fun ls hl => ?_)
      refine lv_aload_n hx hb dX0_dropOfPart_38 rfl (lv_at hl 2 rfl) ?_
      refine lv_iload hx hb dX0_dropOfPart_39 (lv_at hl 1 rfl) ?_
      refine q_vMi C0 lX0_73 (c_X0_go l D y L F _ h w o S (endP S.2.2 lo hi 0) hR (by omega)) ⟨rfl, rfl⟩ rfl hP hD hS hA hR.1 hR.2.1 rfl rfl rfl hl rfl (Nat.le_of_ble_eq_true rfl) dX0_dropOfPart_41 ⟨Nat.le_of_ble_eq_true rfl, Nat.le_of_ble_eq_true rfl⟩ (fun r6 H locs L7 F7 hP hD hS hz7 hp7 => ?_)
      have hRo := hR
      obtain ⟨eL, er, hR, hfr1⟩ := hp7
      subst eL
      subst er
      have hfr := hfr.tr hfr1
      refine lv_pop hx hb dX0_dropOfPart_44 rfl ?_
      refine lv_iload hx hb dX0_dropOfPart_45 (lv_at hl 0 rfl) ?_
      exact q_retMi C0 hret rfl hlk dX0_dropOfPart_47 hP hD hS (⟨rfl, by unfold drpR; first | (rw [if_pos (by omega)]; done) | (rw [if_neg (by omega), if_pos (by omega)]; done) | (rw [if_neg (by omega), if_neg (by omega)]), by unfold drpS; first | (rw [if_pos (by omega)]; exact hR) | (rw [if_neg (by omega), if_pos (by omega)]; exact hR) | (rw [if_neg (by omega), if_neg (by omega)]; exact hR), hfr⟩)
    · refine q_iconst hx hb dX0_dropOfPart_20 ?_
      refine lv_goto (tgt := 25) hx hb dX0_dropOfPart_21 (by decide) ?_
      refine q_vS C0 lX0_79 (c_X0_endOfPart l D y L F h w o S.1 S.2.1 S.2.2 lo hi 1 hR (by omega) (by omega) (by omega)) ⟨rfl, rfl⟩ rfl hP hR.1 hR.2.1 rfl rfl rfl hl rfl (Nat.le_of_ble_eq_true rfl) dX0_dropOfPart_25 ⟨Nat.zero_le _, Nat.zero_le _⟩ (fun r8 e_r8 => ?_)
      subst e_r8
      have b_9 := endP_r S.2.2 lo hi 1
      refine lv_istore (lv' := [(4, .int (iI ((endP S.2.2 lo hi 1)))), (0, .ref h), (1, .int (iI lo)), (2, .int (iI hi)), (3, .int (iI what))]) hx hb dX0_dropOfPart_28 hl (by decide) rfl (fun ls hl => ?_)
      refine lv_aload_n hx hb dX0_dropOfPart_30 rfl (lv_at hl 1 rfl) ?_
      refine lv_iload hx hb dX0_dropOfPart_31 (lv_at hl 0 rfl) ?_
      refine q_vS C0 lX0_83 (c_X0_pairAt l D y L F h w o S.1 S.2.1 S.2.2 (endP S.2.2 lo hi 1) hR (by omega)) ⟨rfl, rfl⟩ rfl hP hR.1 hR.2.1 rfl rfl rfl hl rfl (Nat.le_of_ble_eq_true rfl) dX0_dropOfPart_33 ⟨Nat.zero_le _, Nat.zero_le _⟩ (fun r10 e_r10 => ?_)
      subst e_r10
      refine lv_istore (lv' := [(5, .int (iI ((pairR o S.2.2 (endP S.2.2 lo hi 1))))), (4, .int (iI ((endP S.2.2 lo hi 1)))), (0, .ref h), (1, .int (iI lo)), (2, .int (iI hi)), (3, .int (iI what))]) hx hb dX0_dropOfPart_36 hl (by decide) rfl (fun ls hl => ?_)
      refine lv_aload_n hx hb dX0_dropOfPart_38 rfl (lv_at hl 2 rfl) ?_
      refine lv_iload hx hb dX0_dropOfPart_39 (lv_at hl 1 rfl) ?_
      refine q_vMi C0 lX0_73 (c_X0_go l D y L F _ h w o S (endP S.2.2 lo hi 1) hR (by omega)) ⟨rfl, rfl⟩ rfl hP hD hS hA hR.1 hR.2.1 rfl rfl rfl hl rfl (Nat.le_of_ble_eq_true rfl) dX0_dropOfPart_41 ⟨Nat.le_of_ble_eq_true rfl, Nat.le_of_ble_eq_true rfl⟩ (fun r11 H locs L12 F12 hP hD hS hz12 hp12 => ?_)
      have hRo := hR
      obtain ⟨eL, er, hR, hfr1⟩ := hp12
      subst eL
      subst er
      have hfr := hfr.tr hfr1
      refine lv_pop hx hb dX0_dropOfPart_44 rfl ?_
      refine lv_iload hx hb dX0_dropOfPart_45 (lv_at hl 0 rfl) ?_
      exact q_retMi C0 hret rfl hlk dX0_dropOfPart_47 hP hD hS (⟨rfl, by unfold drpR; first | (rw [if_pos (by omega)]; done) | (rw [if_neg (by omega), if_pos (by omega)]; done) | (rw [if_neg (by omega), if_neg (by omega)]), by unfold drpS; first | (rw [if_pos (by omega)]; exact hR) | (rw [if_neg (by omega), if_pos (by omega)]; exact hR) | (rw [if_neg (by omega), if_neg (by omega)]; exact hR), hfr⟩)
  · refine lv_aload_n hx hb dX0_dropOfPart_5 rfl (lv_at hl 0 rfl) ?_
    refine lv_iload_n hx hb dX0_dropOfPart_6 rfl (lv_at hl 1 rfl) ?_
    refine lv_iload_n hx hb dX0_dropOfPart_7 rfl (lv_at hl 2 rfl) ?_
    refine q_vMi C0 lX0_76 (c_X0_clearPart l D y L F _ h w o S lo hi hR (by omega) (by omega)) ⟨rfl, rfl⟩ rfl hP hD hS hA hR.1 hR.2.1 rfl rfl rfl hl rfl (Nat.le_of_ble_eq_true rfl) dX0_dropOfPart_8 ⟨Nat.le_of_ble_eq_true rfl, Nat.le_of_ble_eq_true rfl⟩ (fun r13 H locs L14 F14 hP hD hS hz14 hp14 => ?_)
    have hRo := hR
    obtain ⟨eL, er, hR, hfr1⟩ := hp14
    subst eL
    subst er
    have hfr := hfr.tr hfr1
    exact q_retMi C0 hret rfl hlk dX0_dropOfPart_11 hP hD hS (⟨rfl, by unfold drpR; first | (rw [if_pos (by omega)]; done) | (rw [if_neg (by omega), if_pos (by omega)]; done) | (rw [if_neg (by omega), if_neg (by omega)]), by unfold drpS; first | (rw [if_pos (by omega)]; exact hR) | (rw [if_neg (by omega), if_pos (by omega)]; exact hR) | (rw [if_neg (by omega), if_neg (by omega)]; exact hR), hfr⟩)
set_option maxHeartbeats 800000 in
set_option maxRecDepth 100000 in
theorem c_X0_dropKeyOfPart (l : Launch) (D : va_G) (y : Nat → ClassId) (L : List Nat) (F : Nat → va_E) (sz : Nat) (h : Nat) (w : Nat) (o : Int) (S : RS) (lo : Int) (hi : Int) (b : Int) (hR : RwS y L F h w o S) (hlo : -1000 ≤ lo ∧ lo ≤ 1000) (hhi : -1000 ≤ hi ∧ hi ≤ 1000) (hb0 : 0 ≤ b ∧ b ≤ 1) : Met l yX0_dropKeyOfPart (.code yX0_dropKeyOfPart cX0_dropKeyOfPart 5 (some .int) :: Tt) ({ frames := 3, cells := 0, slots := 0, locals := 67 }) (PcM D y L F sz [.ref h, .int (iI lo), .int (iI hi), .int (iI b)]) (cMi D (AL L sz) (fun r L1 F1 => L = L1 ∧ r = keyR o (endP S.2.2 lo hi b) ∧ RwS y L1 F1 h w o (goS S (endP S.2.2 lo hi b)) ∧ FrE h w F F1)) 0 0 (AL L sz) := by
  have ho := hR.2.2.2.2.1
  have hfr : FrE h w F F := FrE.rf h w F
  refine q_ofM (lv := [(0, .ref h), (1, .int (iI lo)), (2, .int (iI hi)), (3, .int (iI b))]) (by decide) (Nat.le_of_ble_eq_true rfl) rfl (fun p e s m below meth c C0 hret hlk hnm hA hP hD hS ls hl => ?_)
  have hx := C0.1.1
  have hb := C0.1.2.1
  have hts := C0.1.2.2.2.2
  refine lv_aload_n hx hb dX0_dropKeyOfPart_0 rfl (lv_at hl 0 rfl) ?_
  refine lv_iload_n hx hb dX0_dropKeyOfPart_1 rfl (lv_at hl 1 rfl) ?_
  refine lv_iload_n hx hb dX0_dropKeyOfPart_2 rfl (lv_at hl 2 rfl) ?_
  refine lv_iload_n hx hb dX0_dropKeyOfPart_3 rfl (lv_at hl 3 rfl) ?_
  refine q_vS C0 lX0_79 (c_X0_endOfPart l D y L F h w o S.1 S.2.1 S.2.2 lo hi b hR (by omega) (by omega) (by omega)) ⟨rfl, rfl⟩ rfl hP hR.1 hR.2.1 rfl rfl rfl hl rfl (Nat.le_of_ble_eq_true rfl) dX0_dropKeyOfPart_4 ⟨Nat.zero_le _, Nat.zero_le _⟩ (fun r1 e_r1 => ?_)
  subst e_r1
  have b_2 := endP_r S.2.2 lo hi b
  refine lv_istore (lv' := [(4, .int (iI ((endP S.2.2 lo hi b)))), (0, .ref h), (1, .int (iI lo)), (2, .int (iI hi)), (3, .int (iI b))]) hx hb dX0_dropKeyOfPart_7 hl (by decide) rfl (fun ls hl => ?_)
  refine lv_aload_n hx hb dX0_dropKeyOfPart_9 rfl (lv_at hl 1 rfl) ?_
  refine lv_iload hx hb dX0_dropKeyOfPart_10 (lv_at hl 0 rfl) ?_
  refine q_vMi C0 lX0_73 (c_X0_go l D y L F _ h w o S (endP S.2.2 lo hi b) hR (by omega)) ⟨rfl, rfl⟩ rfl hP hD hS hA hR.1 hR.2.1 rfl rfl rfl hl rfl (Nat.le_of_ble_eq_true rfl) dX0_dropKeyOfPart_12 ⟨Nat.le_of_ble_eq_true rfl, Nat.le_of_ble_eq_true rfl⟩ (fun r3 H locs L4 F4 hP hD hS hz4 hp4 => ?_)
  have hRo := hR
  obtain ⟨eL, er, hR, hfr1⟩ := hp4
  subst eL
  subst er
  have hfr := hfr.tr hfr1
  refine lv_pop hx hb dX0_dropKeyOfPart_15 rfl ?_
  refine lv_aload_n hx hb dX0_dropKeyOfPart_16 rfl (lv_at hl 1 rfl) ?_
  refine lv_iload hx hb dX0_dropKeyOfPart_17 (lv_at hl 0 rfl) ?_
  refine q_vS C0 lX0_36 (c_X0_keyOf l D y L F4 h w o ((goS S (endP S.2.2 lo hi b)).1) ((goS S (endP S.2.2 lo hi b)).2.1) ((goS S (endP S.2.2 lo hi b)).2.2) (endP S.2.2 lo hi b) hR (by omega)) ⟨rfl, rfl⟩ rfl hP hR.1 hR.2.1 rfl rfl rfl hl rfl (Nat.le_of_ble_eq_true rfl) dX0_dropKeyOfPart_19 ⟨Nat.zero_le _, Nat.zero_le _⟩ (fun r5 e_r5 => ?_)
  subst e_r5
  have b_6 := @keyR_b o (endP S.2.2 lo hi b) (by omega)
  exact q_retMi C0 hret rfl hlk dX0_dropKeyOfPart_22 hP hD hS (⟨rfl, rfl, hR, hfr⟩)
