set_option maxHeartbeats 800000 in
set_option maxRecDepth 100000 in
theorem c_X1_isWithin (l : Launch) (D : va_G) (y : Nat → ClassId) (L : List Nat) (F : Nat → va_E) (v : Nat) (r : Nat) (lo : Int) (hi : Int) (n : Int) (ha : v ∈ L) (hF : F v = vwE r lo hi) (hlo : -1000 ≤ lo ∧ lo ≤ 1000) (hhi : -1000 ≤ hi ∧ hi ≤ 1000) (hn : -1000 ≤ n ∧ n ≤ 1000) : Met l yX1_isWithin (.code yX1_isWithin cX1_isWithin 2 (some .boolean) :: Tt) ({ frames := 0, cells := 0, slots := 0, locals := 0 }) (PcR D y L F [.ref v, .int (iI n)]) (cS (fun r => r = (if lo ≤ n ∧ n ≤ hi then 1 else 0))) 0 0 (fun _ => False) := by
  refine q_ofR (lv := [(0, .ref v), (1, .int (iI n))]) (by decide) (Nat.le_of_ble_eq_true rfl) rfl (fun p e s m below meth c C0 hret hlk hP ls hl => ?_)
  have hx := C0.1.1
  have hb := C0.1.2.1
  have hts := C0.1.2.2.2.2
  refine lv_aload_n hx hb dX1_isWithin_0 rfl (lv_at hl 0 rfl) ?_
  refine q_get C0 iX1 hP ha hF rfl 1 (by decide) flX1_19 rfl rfl dX1_isWithin_1 ?_
  refine lv_iload_n hx hb dX1_isWithin_4 rfl (lv_at hl 1 rfl) ?_
  refine q_icmp_gt hx hb dX1_isWithin_5 (tgt := 20) (by decide) (by omega) (by omega) (fun c1 => ?_) (fun c1 => ?_)
  · refine q_iconst hx hb dX1_isWithin_20 ?_
    exact q_iretS C0 hret hlk dX1_isWithin_21 (by decide) (by split <;> omega)
  · refine lv_iload_n hx hb dX1_isWithin_8 rfl (lv_at hl 1 rfl) ?_
    refine lv_aload_n hx hb dX1_isWithin_9 rfl (lv_at hl 0 rfl) ?_
    refine q_get C0 iX1 hP ha hF rfl 2 (by decide) flX1_15 rfl rfl dX1_isWithin_10 ?_
    refine q_icmp_gt hx hb dX1_isWithin_13 (tgt := 20) (by decide) (by omega) (by omega) (fun c2 => ?_) (fun c2 => ?_)
    · refine q_iconst hx hb dX1_isWithin_20 ?_
      exact q_iretS C0 hret hlk dX1_isWithin_21 (by decide) (by split <;> omega)
    · refine q_iconst hx hb dX1_isWithin_16 ?_
      refine lv_goto (tgt := 21) hx hb dX1_isWithin_17 (by decide) ?_
      exact q_iretS C0 hret hlk dX1_isWithin_21 (by decide) (by split <;> omega)
set_option maxHeartbeats 800000 in
set_option maxRecDepth 100000 in
theorem c_X2_begin (l : Launch) (D : va_G) (y : Nat → ClassId) (L : List Nat) (F : Nat → va_E) (sz : Nat) (O : Nat → Prop) (G : CG) (σ : CS) (i : Nat) (hC : CP y L F O G σ) (hi : i < zn σ) : Met l yX2_begin (.code yX2_begin cX2_begin 2 none :: Tt) ({ frames := 0, cells := 0, slots := 0, locals := 0 }) (PcM D y L F sz [.ref ((gkk G)), .ref ((grh G i))]) (cMv D (AL L sz) (fun r L1 F1 => L = L1 ∧ CP y L F1 O G (sWk σ (some i) (zst σ i).2.1 (-1) 0) ∧ True ∧ OE O F F1)) 0 0 (AL L sz) := by
  have hO : OE O F F := fun _ _ => rfl
  refine q_ofM (lv := [(0, .ref ((gkk G))), (1, .ref ((grh G i)))]) (by decide) (Nat.le_of_ble_eq_true rfl) rfl (fun p e s m below meth c C0 hret hlk hnm hA hP hD hS ls hl => ?_)
  have hx := C0.1.1
  have hb := C0.1.2.1
  have hts := C0.1.2.2.2.2
  refine lv_aload_n hx hb dX2_begin_0 rfl (lv_at hl 0 rfl) ?_
  refine lv_aload_n hx hb dX2_begin_1 rfl (lv_at hl 1 rfl) ?_
  refine q_put C0 iX2 tyX2 tyX2_ok nmX2 hP hD hS (CP_k hC).1 (CP_k hC).2 rfl 0 (by decide) flX2_9 rfl rfl rfl rfl (Nat.le_of_ble_eq_true rfl) dX2_begin_2 (fun H locs hP hD hS => ?_)
  obtain ⟨F1, eF1⟩ : ∃ z, z = va_up F (gkk G) (.inr (4, [.ref ((grh G i)), .int (iI (zwc σ)), .int (iI (zwl σ)), .int (iI (zwt σ))])) := ⟨_, rfl⟩
  have hP : va_P D vwCl (va_pl L F1) H := by rw [eF1]; exact hP
  have hD : va_D (AL L sz) (va_pl L F1) := by rw [eF1]; exact hD
  have hO : OE O F F1 := by rw [eF1]; exact hO.tr (OE1 (CP_O hC).2.2.2.2.1)
  have hC : CP y L F1 O G (sWk σ (some i) (zwc σ) (zwl σ) (zwt σ)) := by rw [eF1]; exact CP_wk hC (va_up_self _ _ _) (fun q hq => va_up_ne _ _ hq)
  refine lv_aload_n hx hb dX2_begin_5 rfl (lv_at hl 0 rfl) ?_
  refine lv_aload_n hx hb dX2_begin_6 rfl (lv_at hl 1 rfl) ?_
  refine q_get C0 iX0 hP (CP_r hC hi).1 (CP_r hC hi).2.1 rfl 3 (by decide) flX2_15 rfl rfl dX2_begin_7 ?_
  refine q_put C0 iX2 tyX2 tyX2_ok nmX2 hP hD hS (CP_k hC).1 (CP_k hC).2 rfl 1 (by decide) flX2_21 rfl rfl rfl rfl (Nat.le_of_ble_eq_true rfl) dX2_begin_10 (fun H locs hP hD hS => ?_)
  obtain ⟨F2, eF2⟩ : ∃ z, z = va_up F1 (gkk G) (.inr (4, [va_rf (Option.map (grh G) (some i)), .int (iI ((zst σ i).2.1)), .int (iI (zwl σ)), .int (iI (zwt σ))])) := ⟨_, rfl⟩
  have hP : va_P D vwCl (va_pl L F2) H := by rw [eF2]; exact hP
  have hD : va_D (AL L sz) (va_pl L F2) := by rw [eF2]; exact hD
  have hO : OE O F F2 := by rw [eF2]; exact hO.tr (OE1 (CP_O hC).2.2.2.2.1)
  have hC : CP y L F2 O G (sWk (sWk σ (some i) (zwc σ) (zwl σ) (zwt σ)) (some i) ((zst σ i).2.1) (zwl σ) (zwt σ)) := by rw [eF2]; exact CP_wk hC (va_up_self _ _ _) (fun q hq => va_up_ne _ _ hq)
  refine lv_aload_n hx hb dX2_begin_13 rfl (lv_at hl 0 rfl) ?_
  refine q_iconst hx hb dX2_begin_14 ?_
  refine q_put C0 iX2 tyX2 tyX2_ok nmX2 hP hD hS (CP_k hC).1 (CP_k hC).2 rfl 2 (by decide) flX2_24 rfl rfl rfl rfl (Nat.le_of_ble_eq_true rfl) dX2_begin_15 (fun H locs hP hD hS => ?_)
  obtain ⟨F3, eF3⟩ : ∃ z, z = va_up F2 (gkk G) (.inr (4, [va_rf (Option.map (grh G) (some i)), .int (iI ((zst σ i).2.1)), .int (iI ((-1))), .int (iI (zwt σ))])) := ⟨_, rfl⟩
  have hP : va_P D vwCl (va_pl L F3) H := by rw [eF3]; exact hP
  have hD : va_D (AL L sz) (va_pl L F3) := by rw [eF3]; exact hD
  have hO : OE O F F3 := by rw [eF3]; exact hO.tr (OE1 (CP_O hC).2.2.2.2.1)
  have hC : CP y L F3 O G (sWk (sWk (sWk σ (some i) (zwc σ) (zwl σ) (zwt σ)) (some i) ((zst σ i).2.1) (zwl σ) (zwt σ)) (some i) ((zst σ i).2.1) (-1) (zwt σ)) := by rw [eF3]; exact CP_wk hC (va_up_self _ _ _) (fun q hq => va_up_ne _ _ hq)
  refine lv_aload_n hx hb dX2_begin_18 rfl (lv_at hl 0 rfl) ?_
  refine q_iconst hx hb dX2_begin_19 ?_
  refine q_put C0 iX2 tyX2 tyX2_ok nmX2 hP hD hS (CP_k hC).1 (CP_k hC).2 rfl 3 (by decide) flX2_27 rfl rfl (by decide) (by decide) (Nat.le_of_ble_eq_true rfl) dX2_begin_20 (fun H locs hP hD hS => ?_)
  obtain ⟨F4, eF4⟩ : ∃ z, z = va_up F3 (gkk G) (.inr (4, [va_rf (Option.map (grh G) (some i)), .int (iI ((zst σ i).2.1)), .int (iI ((-1))), .int (iI 0)])) := ⟨_, rfl⟩
  have hP : va_P D vwCl (va_pl L F4) H := by rw [eF4]; exact hP
  have hD : va_D (AL L sz) (va_pl L F4) := by rw [eF4]; exact hD
  have hO : OE O F F4 := by rw [eF4]; exact hO.tr (OE1 (CP_O hC).2.2.2.2.1)
  have hC : CP y L F4 O G (sWk (sWk (sWk (sWk σ (some i) (zwc σ) (zwl σ) (zwt σ)) (some i) ((zst σ i).2.1) (zwl σ) (zwt σ)) (some i) ((zst σ i).2.1) (-1) (zwt σ)) (some i) ((zst σ i).2.1) (-1) 0) := by rw [eF4]; exact CP_wk hC (va_up_self _ _ _) (fun q hq => va_up_ne _ _ hq)
  exact q_retMv C0 hret hlk dX2_begin_23 hP hD hS (⟨rfl, hC, trivial, hO⟩)
set_option maxHeartbeats 800000 in
set_option maxRecDepth 100000 in
theorem c_X2_forgetIfOn (l : Launch) (D : va_G) (y : Nat → ClassId) (L : List Nat) (F : Nat → va_E) (sz : Nat) (O : Nat → Prop) (G : CG) (σ : CS) (i : Nat) (hC : CP y L F O G σ) (hi : i < zn σ) (hwf : ∀ i, zwk σ = some i → i < zn σ) : Met l yX2_forgetIfOn (.code yX2_forgetIfOn cX2_forgetIfOn 2 none :: Tt) ({ frames := 0, cells := 0, slots := 0, locals := 0 }) (PcM D y L F sz [.ref ((gkk G)), .ref ((grh G i))]) (cMv D (AL L sz) (fun r L1 F1 => L = L1 ∧ CP y L F1 O G (fgt σ i) ∧ True ∧ OE O F F1)) 0 0 (AL L sz) := by
  have hO : OE O F F := fun _ _ => rfl
  refine q_ofM (lv := [(0, .ref ((gkk G))), (1, .ref ((grh G i)))]) (by decide) (Nat.le_of_ble_eq_true rfl) rfl (fun p e s m below meth c C0 hret hlk hnm hA hP hD hS ls hl => ?_)
  have hx := C0.1.1
  have hb := C0.1.2.1
  have hts := C0.1.2.2.2.2
  refine lv_aload_n hx hb dX2_forgetIfOn_0 rfl (lv_at hl 0 rfl) ?_
  refine q_get C0 iX2 hP (CP_k hC).1 (CP_k hC).2 rfl 0 (by decide) flX2_9 rfl rfl dX2_forgetIfOn_1 ?_
  refine lv_aload_n hx hb dX2_forgetIfOn_4 rfl (lv_at hl 1 rfl) ?_
  refine lv_acmp_ne (rx := (Option.map (grh G) (zwk σ))) (ry := some (grh G i)) hx hb dX2_forgetIfOn_5 (tgt := 13) (by decide) (fun c1 => ?_) (fun c1 => ?_)
  · have e_ : fgt σ i = σ := by (have q := (not_congr (CP_wk_eq hC hwf hi)).mp c1; unfold fgt; rw [if_neg q]; rfl)
    exact q_retMv C0 hret hlk dX2_forgetIfOn_13 hP hD hS (⟨rfl, CP_eq hC e_.symm, trivial, hO⟩)
  · have q_ := (CP_wk_eq hC hwf hi).mp c1
    refine lv_aload_n hx hb dX2_forgetIfOn_8 rfl (lv_at hl 0 rfl) ?_
    refine q_iconst hx hb dX2_forgetIfOn_9 ?_
    refine q_put C0 iX2 tyX2 tyX2_ok nmX2 hP hD hS (CP_k hC).1 (CP_k hC).2 rfl 3 (by decide) flX2_27 rfl rfl (by decide) (by decide) (Nat.le_of_ble_eq_true rfl) dX2_forgetIfOn_10 (fun H locs hP hD hS => ?_)
    obtain ⟨F2, eF2⟩ : ∃ z, z = va_up F (gkk G) (.inr (4, [va_rf (Option.map (grh G) (zwk σ)), .int (iI (zwc σ)), .int (iI (zwl σ)), .int (iI 0)])) := ⟨_, rfl⟩
    have hP : va_P D vwCl (va_pl L F2) H := by rw [eF2]; exact hP
    have hD : va_D (AL L sz) (va_pl L F2) := by rw [eF2]; exact hD
    have hO : OE O F F2 := by rw [eF2]; exact hO.tr (OE1 (CP_O hC).2.2.2.2.1)
    have hC : CP y L F2 O G (sWk σ (zwk σ) (zwc σ) (zwl σ) 0) := by rw [eF2]; exact CP_wk hC (va_up_self _ _ _) (fun q hq => va_up_ne _ _ hq)
    exact q_retMv C0 hret hlk dX2_forgetIfOn_13 hP hD hS (⟨rfl, CP_eq hC (by unfold fgt; rw [if_pos q_]; rfl), trivial, hO⟩)
set_option maxHeartbeats 800000 in
set_option maxRecDepth 100000 in
theorem c_X2_isGoing0 (l : Launch) (D : va_G) (y : Nat → ClassId) (L : List Nat) (F : Nat → va_E) (O : Nat → Prop) (G : CG) (σ : CS) (hC : CP y L F O G σ) (hwk : zwk σ = none) : Met l yX2_isGoing (.code yX2_isGoing cX2_isGoing 1 (some .boolean) :: Tt) ({ frames := 0, cells := 0, slots := 0, locals := 0 }) (PcR D y L F [.ref ((gkk G))]) (cS (fun r => r = 0)) 0 0 (fun _ => False) := by
  refine q_ofR (lv := [(0, .ref ((gkk G)))]) (by decide) (Nat.le_of_ble_eq_true rfl) rfl (fun p e s m below meth c C0 hret hlk hP ls hl => ?_)
  have hx := C0.1.1
  have hb := C0.1.2.1
  have hts := C0.1.2.2.2.2
  refine lv_aload_n hx hb dX2_isGoing_0 rfl (lv_at hl 0 rfl) ?_
  refine q_get C0 iX2 hP (CP_k0 hC hwk).1 (CP_k0 hC hwk).2 rfl 0 (by decide) flX2_9 rfl rfl dX2_isGoing_1 ?_
  refine lv_ifnullN (tgt := 25) hx hb dX2_isGoing_4 (by decide) ?_
  refine q_iconst hx hb dX2_isGoing_25 ?_
  exact q_iretS C0 hret hlk dX2_isGoing_26 (by decide) (rfl)
set_option maxHeartbeats 800000 in
set_option maxRecDepth 100000 in
theorem c_X2_isGoing1 (l : Launch) (D : va_G) (y : Nat → ClassId) (L : List Nat) (F : Nat → va_E) (O : Nat → Prop) (G : CG) (σ : CS) (j : Nat) (hC : CP y L F O G σ) (hwk : zwk σ = some j) (hj : j < zn σ) (hch : -1000000 ≤ (zst σ j).2.1 ∧ (zst σ j).2.1 ≤ 1000000) (hwc : -1000000 ≤ zwc σ ∧ zwc σ ≤ 1000000) : Met l yX2_isGoing (.code yX2_isGoing cX2_isGoing 1 (some .boolean) :: Tt) ({ frames := 0, cells := 0, slots := 0, locals := 0 }) (PcR D y L F [.ref ((gkk G))]) (cS (fun r => r = goI σ j)) 0 0 (fun _ => False) := by
  refine q_ofR (lv := [(0, .ref ((gkk G)))]) (by decide) (Nat.le_of_ble_eq_true rfl) rfl (fun p e s m below meth c C0 hret hlk hP ls hl => ?_)
  have hx := C0.1.1
  have hb := C0.1.2.1
  have hts := C0.1.2.2.2.2
  refine lv_aload_n hx hb dX2_isGoing_0 rfl (lv_at hl 0 rfl) ?_
  refine q_get C0 iX2 hP (CP_k1 hC hwk).1 (CP_k1 hC hwk).2 rfl 0 (by decide) flX2_9 rfl rfl dX2_isGoing_1 ?_
  refine lv_ifnull hx hb dX2_isGoing_4 ?_
  refine lv_aload_n hx hb dX2_isGoing_7 rfl (lv_at hl 0 rfl) ?_
  refine q_get C0 iX2 hP (CP_k1 hC hwk).1 (CP_k1 hC hwk).2 rfl 0 (by decide) flX2_9 rfl rfl dX2_isGoing_8 ?_
  refine q_get C0 iX0 hP (CP_r hC hj).1 (CP_r hC hj).2.1 rfl 3 (by decide) flX2_15 rfl rfl dX2_isGoing_11 ?_
  refine lv_aload_n hx hb dX2_isGoing_14 rfl (lv_at hl 0 rfl) ?_
  refine q_get C0 iX2 hP (CP_k1 hC hwk).1 (CP_k1 hC hwk).2 rfl 1 (by decide) flX2_21 rfl rfl dX2_isGoing_15 ?_
  refine q_icmp_ne hx hb dX2_isGoing_18 (tgt := 25) (by decide) (by omega) (by omega) (fun c1 => ?_) (fun c1 => ?_)
  · refine q_iconst hx hb dX2_isGoing_25 ?_
    exact q_iretS C0 hret hlk dX2_isGoing_26 (by decide) (by unfold goI; split <;> omega)
  · refine q_iconst hx hb dX2_isGoing_21 ?_
    refine lv_goto (tgt := 26) hx hb dX2_isGoing_22 (by decide) ?_
    exact q_iretS C0 hret hlk dX2_isGoing_26 (by decide) (by unfold goI; split <;> omega)
set_option maxHeartbeats 800000 in
set_option maxRecDepth 100000 in
theorem c_X2_isTelling0 (l : Launch) (D : va_G) (y : Nat → ClassId) (L : List Nat) (F : Nat → va_E) (O : Nat → Prop) (G : CG) (σ : CS) (hC : CP y L F O G σ) (hwk : zwk σ = none) : Met l yX2_isTelling (.code yX2_isTelling cX2_isTelling 1 (some .boolean) :: Tt) ({ frames := 0, cells := 0, slots := 0, locals := 0 }) (PcR D y L F [.ref ((gkk G))]) (cS (fun r => r = 0)) 0 0 (fun _ => False) := by
  refine q_ofR (lv := [(0, .ref ((gkk G)))]) (by decide) (Nat.le_of_ble_eq_true rfl) rfl (fun p e s m below meth c C0 hret hlk hP ls hl => ?_)
  have hx := C0.1.1
  have hb := C0.1.2.1
  have hts := C0.1.2.2.2.2
  refine lv_aload_n hx hb dX2_isTelling_0 rfl (lv_at hl 0 rfl) ?_
  refine q_get C0 iX2 hP (CP_k0 hC hwk).1 (CP_k0 hC hwk).2 rfl 0 (by decide) flX2_9 rfl rfl dX2_isTelling_1 ?_
  refine lv_ifnullN (tgt := 18) hx hb dX2_isTelling_4 (by decide) ?_
  refine q_iconst hx hb dX2_isTelling_18 ?_
  exact q_iretS C0 hret hlk dX2_isTelling_19 (by decide) (rfl)
set_option maxHeartbeats 800000 in
set_option maxRecDepth 100000 in
theorem c_X2_isTelling1 (l : Launch) (D : va_G) (y : Nat → ClassId) (L : List Nat) (F : Nat → va_E) (O : Nat → Prop) (G : CG) (σ : CS) (j : Nat) (hC : CP y L F O G σ) (hwk : zwk σ = some j) (hj : j < zn σ) (hwt : 0 ≤ zwt σ ∧ zwt σ ≤ 1) : Met l yX2_isTelling (.code yX2_isTelling cX2_isTelling 1 (some .boolean) :: Tt) ({ frames := 0, cells := 0, slots := 0, locals := 0 }) (PcR D y L F [.ref ((gkk G))]) (cS (fun r => r = zwt σ)) 0 0 (fun _ => False) := by
  refine q_ofR (lv := [(0, .ref ((gkk G)))]) (by decide) (Nat.le_of_ble_eq_true rfl) rfl (fun p e s m below meth c C0 hret hlk hP ls hl => ?_)
  have hx := C0.1.1
  have hb := C0.1.2.1
  have hts := C0.1.2.2.2.2
  refine lv_aload_n hx hb dX2_isTelling_0 rfl (lv_at hl 0 rfl) ?_
  refine q_get C0 iX2 hP (CP_k1 hC hwk).1 (CP_k1 hC hwk).2 rfl 0 (by decide) flX2_9 rfl rfl dX2_isTelling_1 ?_
  refine lv_ifnull hx hb dX2_isTelling_4 ?_
  refine lv_aload_n hx hb dX2_isTelling_7 rfl (lv_at hl 0 rfl) ?_
  refine q_get C0 iX2 hP (CP_k1 hC hwk).1 (CP_k1 hC hwk).2 rfl 3 (by decide) flX2_27 rfl rfl dX2_isTelling_8 ?_
  refine q_if_eq hx hb dX2_isTelling_11 (tgt := 18) (by decide) (by omega) (fun c1 => ?_) (fun c1 => ?_)
  · refine q_iconst hx hb dX2_isTelling_18 ?_
    exact q_iretS C0 hret hlk dX2_isTelling_19 (by decide) (by omega)
  · refine q_iconst hx hb dX2_isTelling_14 ?_
    refine lv_goto (tgt := 19) hx hb dX2_isTelling_15 (by decide) ?_
    exact q_iretS C0 hret hlk dX2_isTelling_19 (by decide) (by omega)
set_option maxHeartbeats 800000 in
set_option maxRecDepth 100000 in
theorem c_X2_toldKey0 (l : Launch) (D : va_G) (y : Nat → ClassId) (L : List Nat) (F : Nat → va_E) (O : Nat → Prop) (G : CG) (σ : CS) (hC : CP y L F O G σ) (hwk : zwk σ = none) : Met l yX2_toldKey (.code yX2_toldKey cX2_toldKey 1 (some .int) :: Tt) ({ frames := 0, cells := 0, slots := 0, locals := 0 }) (PcR D y L F [.ref ((gkk G))]) (cS (fun r => r = -1)) 0 0 (fun _ => False) := by
  refine q_ofR (lv := [(0, .ref ((gkk G)))]) (by decide) (Nat.le_of_ble_eq_true rfl) rfl (fun p e s m below meth c C0 hret hlk hP ls hl => ?_)
  have hx := C0.1.1
  have hb := C0.1.2.1
  have hts := C0.1.2.2.2.2
  refine lv_aload_n hx hb dX2_toldKey_0 rfl (lv_at hl 0 rfl) ?_
  refine q_get C0 iX2 hP (CP_k0 hC hwk).1 (CP_k0 hC hwk).2 rfl 0 (by decide) flX2_9 rfl rfl dX2_toldKey_1 ?_
  refine lv_ifnullN (tgt := 28) hx hb dX2_toldKey_4 (by decide) ?_
  refine q_iconst hx hb dX2_toldKey_28 ?_
  exact q_iretS C0 hret hlk dX2_toldKey_29 rfl (rfl)
set_option maxHeartbeats 800000 in
set_option maxRecDepth 100000 in
theorem c_X2_toldKey1 (l : Launch) (D : va_G) (y : Nat → ClassId) (L : List Nat) (F : Nat → va_E) (O : Nat → Prop) (G : CG) (σ : CS) (j : Nat) (hC : CP y L F O G σ) (hwk : zwk σ = some j) (hj : j < zn σ) (hwt : 0 ≤ zwt σ ∧ zwt σ ≤ 1) (hwl : -1 ≤ zwl σ ∧ zwl σ ≤ 99) : Met l yX2_toldKey (.code yX2_toldKey cX2_toldKey 1 (some .int) :: Tt) ({ frames := 2, cells := 0, slots := 0, locals := 42 }) (PcR D y L F [.ref ((gkk G))]) (cS (fun r => r = (if zwt σ = 0 then -1 else keyR (zod σ j) (zwl σ)))) 0 0 (fun _ => False) := by
  refine q_ofR (lv := [(0, .ref ((gkk G)))]) (by decide) (Nat.le_of_ble_eq_true rfl) rfl (fun p e s m below meth c C0 hret hlk hP ls hl => ?_)
  have hx := C0.1.1
  have hb := C0.1.2.1
  have hts := C0.1.2.2.2.2
  refine lv_aload_n hx hb dX2_toldKey_0 rfl (lv_at hl 0 rfl) ?_
  refine q_get C0 iX2 hP (CP_k1 hC hwk).1 (CP_k1 hC hwk).2 rfl 0 (by decide) flX2_9 rfl rfl dX2_toldKey_1 ?_
  refine lv_ifnull hx hb dX2_toldKey_4 ?_
  refine lv_aload_n hx hb dX2_toldKey_7 rfl (lv_at hl 0 rfl) ?_
  refine q_get C0 iX2 hP (CP_k1 hC hwk).1 (CP_k1 hC hwk).2 rfl 3 (by decide) flX2_27 rfl rfl dX2_toldKey_8 ?_
  refine q_if_eq hx hb dX2_toldKey_11 (tgt := 28) (by decide) (by omega) (fun c1 => ?_) (fun c1 => ?_)
  · refine q_iconst hx hb dX2_toldKey_28 ?_
    exact q_iretS C0 hret hlk dX2_toldKey_29 rfl (by split <;> first | rfl | omega)
  · refine lv_aload_n hx hb dX2_toldKey_14 rfl (lv_at hl 0 rfl) ?_
    refine q_get C0 iX2 hP (CP_k1 hC hwk).1 (CP_k1 hC hwk).2 rfl 0 (by decide) flX2_9 rfl rfl dX2_toldKey_15 ?_
    refine lv_aload_n hx hb dX2_toldKey_18 rfl (lv_at hl 0 rfl) ?_
    refine q_get C0 iX2 hP (CP_k1 hC hwk).1 (CP_k1 hC hwk).2 rfl 2 (by decide) flX2_24 rfl rfl dX2_toldKey_19 ?_
    refine q_vS C0 lX2_45 (c_X0_keyOf l D y L F (grh G j) (grw G j) (zod σ j) ((zst σ j).1) ((zst σ j).2.1) ((zst σ j).2.2) (zwl σ) (CP_r hC hj) (by omega)) ⟨rfl, rfl⟩ rfl hP (CP_r hC hj).1 (CP_r hC hj).2.1 rfl rfl rfl hl rfl (Nat.le_of_ble_eq_true rfl) dX2_toldKey_22 ⟨Nat.zero_le _, Nat.zero_le _⟩ (fun r2 e_r2 => ?_)
    subst e_r2
    have b_3 := @keyR_b (zod σ j) (zwl σ) (by omega)
    refine lv_goto (tgt := 29) hx hb dX2_toldKey_25 (by decide) ?_
    exact q_iretS C0 hret hlk dX2_toldKey_29 rfl (by split <;> first | rfl | omega)
set_option maxHeartbeats 800000 in
set_option maxRecDepth 100000 in
theorem c_X2_tellNext (l : Launch) (D : va_G) (y : Nat → ClassId) (L : List Nat) (F : Nat → va_E) (sz : Nat) (O : Nat → Prop) (G : CG) (σ : CS) (j : Nat) (hC : CP y L F O G σ) (hwk : zwk σ = some j) (hj : j < zn σ) (hwl : -1 ≤ zwl σ ∧ zwl σ ≤ 99) : Met l yX2_tellNext (.code yX2_tellNext cX2_tellNext 2 (some .int) :: Tt) ({ frames := 3, cells := 0, slots := 0, locals := 63 }) (PcM D y L F sz [.ref ((gkk G))]) (cMi D (AL L sz) (fun r L1 F1 => L = L1 ∧ CP y L F1 O G (tnS σ j) ∧ r = tnR σ j ∧ OE O F F1)) 0 0 (AL L sz) := by
  have hO : OE O F F := fun _ _ => rfl
  refine q_ofM (lv := [(0, .ref ((gkk G)))]) (by decide) (Nat.le_of_ble_eq_true rfl) rfl (fun p e s m below meth c C0 hret hlk hnm hA hP hD hS ls hl => ?_)
  have hx := C0.1.1
  have hb := C0.1.2.1
  have hts := C0.1.2.2.2.2
  refine lv_aload_n hx hb dX2_tellNext_0 rfl (lv_at hl 0 rfl) ?_
  refine q_get C0 iX2 hP (CP_k1 hC hwk).1 (CP_k1 hC hwk).2 rfl 0 (by decide) flX2_9 rfl rfl dX2_tellNext_1 ?_
  refine lv_ifnonnull (tgt := 9) hx hb dX2_tellNext_4 (by decide) ?_
  refine lv_aload_n hx hb dX2_tellNext_9 rfl (lv_at hl 0 rfl) ?_
  refine q_get C0 iX2 hP (CP_k1 hC hwk).1 (CP_k1 hC hwk).2 rfl 0 (by decide) flX2_9 rfl rfl dX2_tellNext_10 ?_
  refine lv_aload_n hx hb dX2_tellNext_13 rfl (lv_at hl 0 rfl) ?_
  refine q_get C0 iX2 hP (CP_k1 hC hwk).1 (CP_k1 hC hwk).2 rfl 2 (by decide) flX2_24 rfl rfl dX2_tellNext_14 ?_
  refine q_iconst hx hb dX2_tellNext_17 ?_
  refine q_iadd hx hb dX2_tellNext_18 ?_
  refine q_bipush hx hb dX2_tellNext_19 (by decide) ?_
  refine q_vS C0 lX2_31 (c_X0_firstInPart l D y L F (grh G j) (grw G j) (zod σ j) ((zst σ j).1) ((zst σ j).2.1) ((zst σ j).2.2) (zwl σ + 1) 99 (CP_r hC hj) (by omega) (by omega)) ⟨rfl, rfl⟩ rfl hP (CP_r hC hj).1 (CP_r hC hj).2.1 rfl rfl rfl hl rfl (Nat.le_of_ble_eq_true rfl) dX2_tellNext_21 ⟨Nat.zero_le _, Nat.zero_le _⟩ (fun r1 e_r1 => ?_)
  subst e_r1
  have b_2 := firP_r ((zst σ j).2.2) (zwl σ + 1) 99
  refine lv_istore_n (lv' := [(1, .int (iI ((firP ((zst σ j).2.2) (zwl σ + 1) 99)))), (0, .ref ((gkk G)))]) hx hb dX2_tellNext_24 rfl hl (by decide) rfl (fun ls hl => ?_)
  refine lv_iload_n hx hb dX2_tellNext_25 rfl (lv_at hl 0 rfl) ?_
  refine q_iconst hx hb dX2_tellNext_26 ?_
  refine q_icmp_ne hx hb dX2_tellNext_27 (tgt := 32) (by decide) (by omega) (by omega) (fun c3 => ?_) (fun c3 => ?_)
  · refine lv_aload_n hx hb dX2_tellNext_32 rfl (lv_at hl 1 rfl) ?_
    refine lv_iload_n hx hb dX2_tellNext_33 rfl (lv_at hl 0 rfl) ?_
    refine q_put C0 iX2 tyX2 tyX2_ok nmX2 hP hD hS (CP_k1 hC hwk).1 (CP_k1 hC hwk).2 rfl 2 (by decide) flX2_24 rfl rfl rfl rfl (Nat.le_of_ble_eq_true rfl) dX2_tellNext_34 (fun H locs hP hD hS => ?_)
    obtain ⟨F4, eF4⟩ : ∃ z, z = va_up F (gkk G) (.inr (4, [.ref ((grh G j)), .int (iI (zwc σ)), .int (iI ((firP ((zst σ j).2.2) (zwl σ + 1) 99))), .int (iI (zwt σ))])) := ⟨_, rfl⟩
    have hP : va_P D vwCl (va_pl L F4) H := by rw [eF4]; exact hP
    have hD : va_D (AL L sz) (va_pl L F4) := by rw [eF4]; exact hD
    have hO : OE O F F4 := by rw [eF4]; exact hO.tr (OE1 (CP_O hC).2.2.2.2.1)
    have hC : CP y L F4 O G (sWk σ (some j) (zwc σ) (firP ((zst σ j).2.2) (zwl σ + 1) 99) (zwt σ)) := by rw [eF4]; exact CP_wk hC (va_up_self _ _ _) (fun q hq => va_up_ne _ _ hq)
    have hwk : zwk (sWk σ (some j) (zwc σ) (firP ((zst σ j).2.2) (zwl σ + 1) 99) (zwt σ)) = (some j) := rfl
    refine lv_aload_n hx hb dX2_tellNext_37 rfl (lv_at hl 1 rfl) ?_
    refine q_iconst hx hb dX2_tellNext_38 ?_
    refine q_put C0 iX2 tyX2 tyX2_ok nmX2 hP hD hS (CP_k1 hC hwk).1 (CP_k1 hC hwk).2 rfl 3 (by decide) flX2_27 rfl rfl (by decide) (by decide) (Nat.le_of_ble_eq_true rfl) dX2_tellNext_39 (fun H locs hP hD hS => ?_)
    obtain ⟨F5, eF5⟩ : ∃ z, z = va_up F4 (gkk G) (.inr (4, [.ref ((grh G j)), .int (iI (zwc σ)), .int (iI ((firP ((zst σ j).2.2) (zwl σ + 1) 99))), .int (iI 1)])) := ⟨_, rfl⟩
    have hP : va_P D vwCl (va_pl L F5) H := by rw [eF5]; exact hP
    have hD : va_D (AL L sz) (va_pl L F5) := by rw [eF5]; exact hD
    have hO : OE O F F5 := by rw [eF5]; exact hO.tr (OE1 (CP_O hC).2.2.2.2.1)
    have hC : CP y L F5 O G (sWk (sWk σ (some j) (zwc σ) (firP ((zst σ j).2.2) (zwl σ + 1) 99) (zwt σ)) (some j) (zwc σ) (firP ((zst σ j).2.2) (zwl σ + 1) 99) 1) := by rw [eF5]; exact CP_wk hC (va_up_self _ _ _) (fun q hq => va_up_ne _ _ hq)
    have hwk : zwk (sWk (sWk σ (some j) (zwc σ) (firP ((zst σ j).2.2) (zwl σ + 1) 99) (zwt σ)) (some j) (zwc σ) (firP ((zst σ j).2.2) (zwl σ + 1) 99) 1) = (some j) := rfl
    refine lv_aload_n hx hb dX2_tellNext_42 rfl (lv_at hl 1 rfl) ?_
    refine q_get C0 iX2 hP (CP_k1 hC hwk).1 (CP_k1 hC hwk).2 rfl 0 (by decide) flX2_9 rfl rfl dX2_tellNext_43 ?_
    refine lv_iload_n hx hb dX2_tellNext_46 rfl (lv_at hl 0 rfl) ?_
    refine q_vS C0 lX2_35 (c_X0_pairAt l D y L F5 (grh G j) (grw G j) (zod σ j) ((zst σ j).1) ((zst σ j).2.1) ((zst σ j).2.2) (firP ((zst σ j).2.2) (zwl σ + 1) 99) (CP_r hC hj) (by omega)) ⟨rfl, rfl⟩ rfl hP (CP_r hC hj).1 (CP_r hC hj).2.1 rfl rfl rfl hl rfl (Nat.le_of_ble_eq_true rfl) dX2_tellNext_47 ⟨Nat.zero_le _, Nat.zero_le _⟩ (fun r6 e_r6 => ?_)
    subst e_r6
    exact q_retMi C0 hret rfl hlk dX2_tellNext_50 hP hD hS (⟨rfl, CP_eq hC (by unfold tnS; rw [if_neg (by unfold tnx; omega)]; rfl), by unfold tnR; rw [if_neg (by unfold tnx; omega)]; rfl, hO⟩)
  · refine q_iconst hx hb dX2_tellNext_30 ?_
    exact q_retMi C0 hret rfl hlk dX2_tellNext_31 hP hD hS (⟨rfl, CP_eq hC (by unfold tnS; rw [if_pos (by unfold tnx; omega)]), by unfold tnR; rw [if_pos (by unfold tnx; omega)], hO⟩)
set_option maxHeartbeats 800000 in
set_option maxRecDepth 100000 in
theorem c_X2_setTold (l : Launch) (D : va_G) (y : Nat → ClassId) (L : List Nat) (F : Nat → va_E) (sz : Nat) (O : Nat → Prop) (G : CG) (σ : CS) (j : Nat) (v : Int) (hC : CP y L F O G σ) (hwk : zwk σ = some j) (hj : j < zn σ) (hwl : -1 ≤ zwl σ ∧ zwl σ ≤ 99) (hv : 0 ≤ v ∧ v ≤ 99) : Met l yX2_setTold (.code yX2_setTold cX2_setTold 2 (some .int) :: Tt) ({ frames := 1, cells := 0, slots := 0, locals := 23 }) (PcM D y L F sz [.ref ((gkk G)), .int (iI v)]) (cMi D (AL L sz) (fun r L1 F1 => L = L1 ∧ CP y L F1 O G (sSt σ j (comeS (zst σ j) (zwl σ) v)) ∧ r = wAt (zst σ j).2.2 (zwl σ) ∧ OE O F F1)) 0 0 (AL L sz) := by
  have hO : OE O F F := fun _ _ => rfl
  refine q_ofM (lv := [(0, .ref ((gkk G))), (1, .int (iI v))]) (by decide) (Nat.le_of_ble_eq_true rfl) rfl (fun p e s m below meth c C0 hret hlk hnm hA hP hD hS ls hl => ?_)
  have hx := C0.1.1
  have hb := C0.1.2.1
  have hts := C0.1.2.2.2.2
  refine lv_aload_n hx hb dX2_setTold_0 rfl (lv_at hl 0 rfl) ?_
  refine q_get C0 iX2 hP (CP_k1 hC hwk).1 (CP_k1 hC hwk).2 rfl 0 (by decide) flX2_9 rfl rfl dX2_setTold_1 ?_
  refine lv_ifnonnull (tgt := 11) hx hb dX2_setTold_4 (by decide) ?_
  refine lv_aload_n hx hb dX2_setTold_11 rfl (lv_at hl 0 rfl) ?_
  refine q_get C0 iX2 hP (CP_k1 hC hwk).1 (CP_k1 hC hwk).2 rfl 0 (by decide) flX2_9 rfl rfl dX2_setTold_12 ?_
  refine lv_aload_n hx hb dX2_setTold_15 rfl (lv_at hl 0 rfl) ?_
  refine q_get C0 iX2 hP (CP_k1 hC hwk).1 (CP_k1 hC hwk).2 rfl 2 (by decide) flX2_24 rfl rfl dX2_setTold_16 ?_
  refine lv_iload_n hx hb dX2_setTold_19 rfl (lv_at hl 1 rfl) ?_
  refine q_vMi C0 lX2_39 (c_X0_come l D y L F _ (grh G j) (grw G j) (zod σ j) (zst σ j) (zwl σ) v (CP_r hC hj) (by omega) (by omega)) ⟨rfl, rfl⟩ rfl hP hD hS hA (CP_r hC hj).1 (CP_r hC hj).2.1 rfl rfl rfl hl rfl (Nat.le_of_ble_eq_true rfl) dX2_setTold_20 ⟨Nat.le_of_ble_eq_true rfl, Nat.le_of_ble_eq_true rfl⟩ (fun r1 H locs L2 F2 hP hD hS hz2 hp2 => ?_)
  obtain ⟨eL, er, hRn, hfr1⟩ := hp2
  subst eL
  subst er
  have hO := hO.tr (OEf hC hj hfr1)
  have hC := CP_row hC hj hRn hfr1
  exact q_retMi C0 hret rfl hlk dX2_setTold_23 hP hD hS (⟨rfl, hC, rfl, hO⟩)
set_option maxHeartbeats 800000 in
set_option maxRecDepth 100000 in
theorem c_X2_removeTold (l : Launch) (D : va_G) (y : Nat → ClassId) (L : List Nat) (F : Nat → va_E) (sz : Nat) (O : Nat → Prop) (G : CG) (σ : CS) (j : Nat) (hC : CP y L F O G σ) (hwk : zwk σ = some j) (hj : j < zn σ) (hwl : -1 ≤ zwl σ ∧ zwl σ ≤ 99) : Met l yX2_removeTold (.code yX2_removeTold cX2_removeTold 2 (some .int) :: Tt) ({ frames := 3, cells := 0, slots := 0, locals := 63 }) (PcM D y L F sz [.ref ((gkk G))]) (cMi D (AL L sz) (fun r L1 F1 => L = L1 ∧ CP y L F1 O G (rtS σ j) ∧ r = pairR (zod σ j) (zst σ j).2.2 (zwl σ) ∧ OE O F F1)) 0 0 (AL L sz) := by
  have hO : OE O F F := fun _ _ => rfl
  refine q_ofM (lv := [(0, .ref ((gkk G)))]) (by decide) (Nat.le_of_ble_eq_true rfl) rfl (fun p e s m below meth c C0 hret hlk hnm hA hP hD hS ls hl => ?_)
  have hx := C0.1.1
  have hb := C0.1.2.1
  have hts := C0.1.2.2.2.2
  refine lv_aload_n hx hb dX2_removeTold_0 rfl (lv_at hl 0 rfl) ?_
  refine q_get C0 iX2 hP (CP_k1 hC hwk).1 (CP_k1 hC hwk).2 rfl 0 (by decide) flX2_9 rfl rfl dX2_removeTold_1 ?_
  refine lv_ifnonnull (tgt := 9) hx hb dX2_removeTold_4 (by decide) ?_
  refine lv_aload_n hx hb dX2_removeTold_9 rfl (lv_at hl 0 rfl) ?_
  refine q_get C0 iX2 hP (CP_k1 hC hwk).1 (CP_k1 hC hwk).2 rfl 0 (by decide) flX2_9 rfl rfl dX2_removeTold_10 ?_
  refine lv_aload_n hx hb dX2_removeTold_13 rfl (lv_at hl 0 rfl) ?_
  refine q_get C0 iX2 hP (CP_k1 hC hwk).1 (CP_k1 hC hwk).2 rfl 2 (by decide) flX2_24 rfl rfl dX2_removeTold_14 ?_
  refine q_vS C0 lX2_35 (c_X0_pairAt l D y L F (grh G j) (grw G j) (zod σ j) ((zst σ j).1) ((zst σ j).2.1) ((zst σ j).2.2) (zwl σ) (CP_r hC hj) (by omega)) ⟨rfl, rfl⟩ rfl hP (CP_r hC hj).1 (CP_r hC hj).2.1 rfl rfl rfl hl rfl (Nat.le_of_ble_eq_true rfl) dX2_removeTold_17 ⟨Nat.zero_le _, Nat.zero_le _⟩ (fun r1 e_r1 => ?_)
  subst e_r1
  refine lv_istore_n (lv' := [(1, .int (iI ((pairR (zod σ j) ((zst σ j).2.2) (zwl σ))))), (0, .ref ((gkk G)))]) hx hb dX2_removeTold_20 rfl hl (by decide) rfl (fun ls hl => ?_)
  refine lv_aload_n hx hb dX2_removeTold_21 rfl (lv_at hl 1 rfl) ?_
  refine q_get C0 iX2 hP (CP_k1 hC hwk).1 (CP_k1 hC hwk).2 rfl 0 (by decide) flX2_9 rfl rfl dX2_removeTold_22 ?_
  refine lv_aload_n hx hb dX2_removeTold_25 rfl (lv_at hl 1 rfl) ?_
  refine q_get C0 iX2 hP (CP_k1 hC hwk).1 (CP_k1 hC hwk).2 rfl 2 (by decide) flX2_24 rfl rfl dX2_removeTold_26 ?_
  refine q_vMi C0 lX2_42 (c_X0_go l D y L F _ (grh G j) (grw G j) (zod σ j) (zst σ j) (zwl σ) (CP_r hC hj) (by omega)) ⟨rfl, rfl⟩ rfl hP hD hS hA (CP_r hC hj).1 (CP_r hC hj).2.1 rfl rfl rfl hl rfl (Nat.le_of_ble_eq_true rfl) dX2_removeTold_29 ⟨Nat.le_of_ble_eq_true rfl, Nat.le_of_ble_eq_true rfl⟩ (fun r2 H locs L3 F3 hP hD hS hz3 hp3 => ?_)
  obtain ⟨eL, er, hRn, hfr1⟩ := hp3
  subst eL
  subst er
  have hO := hO.tr (OEf hC hj hfr1)
  have hC := CP_row hC hj hRn hfr1
  refine lv_pop hx hb dX2_removeTold_32 rfl ?_
  refine lv_aload_n hx hb dX2_removeTold_33 rfl (lv_at hl 1 rfl) ?_
  refine lv_aload_n hx hb dX2_removeTold_34 rfl (lv_at hl 1 rfl) ?_
  refine q_get C0 iX2 hP (CP_k1 hC hwk).1 (CP_k1 hC hwk).2 rfl 0 (by decide) flX2_9 rfl rfl dX2_removeTold_35 ?_
  refine q_get C0 iX0 hP hRn.1 hRn.2.1 rfl 3 (by decide) flX2_15 rfl rfl dX2_removeTold_38 ?_
  refine q_put C0 iX2 tyX2 tyX2_ok nmX2 hP hD hS (CP_k1 hC hwk).1 (CP_k1 hC hwk).2 rfl 1 (by decide) flX2_21 rfl rfl rfl rfl (Nat.le_of_ble_eq_true rfl) dX2_removeTold_41 (fun H locs hP hD hS => ?_)
  obtain ⟨F4, eF4⟩ : ∃ z, z = va_up F3 (gkk G) (.inr (4, [.ref ((grh G j)), .int (iI ((goS (zst σ j) (zwl σ)).2.1)), .int (iI (zwl σ)), .int (iI (zwt σ))])) := ⟨_, rfl⟩
  have hP : va_P D vwCl (va_pl L F4) H := by rw [eF4]; exact hP
  have hD : va_D (AL L sz) (va_pl L F4) := by rw [eF4]; exact hD
  have hO : OE O F F4 := by rw [eF4]; exact hO.tr (OE1 (CP_O hC).2.2.2.2.1)
  have hC : CP y L F4 O G (sWk (sSt σ j (goS (zst σ j) (zwl σ))) (some j) ((goS (zst σ j) (zwl σ)).2.1) (zwl σ) (zwt σ)) := by rw [eF4]; exact CP_wk hC (va_up_self _ _ _) (fun q hq => va_up_ne _ _ hq)
  have hwk : zwk (sWk (sSt σ j (goS (zst σ j) (zwl σ))) (some j) ((goS (zst σ j) (zwl σ)).2.1) (zwl σ) (zwt σ)) = (some j) := rfl
  refine lv_aload_n hx hb dX2_removeTold_44 rfl (lv_at hl 1 rfl) ?_
  refine q_iconst hx hb dX2_removeTold_45 ?_
  refine q_put C0 iX2 tyX2 tyX2_ok nmX2 hP hD hS (CP_k1 hC hwk).1 (CP_k1 hC hwk).2 rfl 3 (by decide) flX2_27 rfl rfl (by decide) (by decide) (Nat.le_of_ble_eq_true rfl) dX2_removeTold_46 (fun H locs hP hD hS => ?_)
  obtain ⟨F5, eF5⟩ : ∃ z, z = va_up F4 (gkk G) (.inr (4, [.ref ((grh G j)), .int (iI ((goS (zst σ j) (zwl σ)).2.1)), .int (iI (zwl σ)), .int (iI 0)])) := ⟨_, rfl⟩
  have hP : va_P D vwCl (va_pl L F5) H := by rw [eF5]; exact hP
  have hD : va_D (AL L sz) (va_pl L F5) := by rw [eF5]; exact hD
  have hO : OE O F F5 := by rw [eF5]; exact hO.tr (OE1 (CP_O hC).2.2.2.2.1)
  have hC : CP y L F5 O G (sWk (sWk (sSt σ j (goS (zst σ j) (zwl σ))) (some j) ((goS (zst σ j) (zwl σ)).2.1) (zwl σ) (zwt σ)) (some j) ((goS (zst σ j) (zwl σ)).2.1) (zwl σ) 0) := by rw [eF5]; exact CP_wk hC (va_up_self _ _ _) (fun q hq => va_up_ne _ _ hq)
  have hwk : zwk (sWk (sWk (sSt σ j (goS (zst σ j) (zwl σ))) (some j) ((goS (zst σ j) (zwl σ)).2.1) (zwl σ) (zwt σ)) (some j) ((goS (zst σ j) (zwl σ)).2.1) (zwl σ) 0) = (some j) := rfl
  refine lv_iload_n hx hb dX2_removeTold_49 rfl (lv_at hl 0 rfl) ?_
  exact q_retMi C0 hret rfl hlk dX2_removeTold_50 hP hD hS (⟨rfl, CP_eq hC rfl, rfl, hO⟩)
