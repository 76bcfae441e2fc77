theorem kb_has (σ : CS) (b w n : Int) : 0 ≤ kR_has σ b w n ∧ kR_has σ b w n ≤ 1 := by
  unfold kR_has
  split
  · exact isT_b _ _
  · unfold hasW
    have := allP_b (hwU (zst σ (zbk σ b)).2.2 n) 0
    omega
theorem kb_sameBooks (σ : CS) (b c : Int) : 0 ≤ kR_sameBooks σ b c ∧ kR_sameBooks σ b c ≤ 1 := sameR_b _ _ _ _
theorem kb_sameShelves (σ : CS) (b c t : Int) : 0 ≤ kR_sameShelves σ b c t ∧ kR_sameShelves σ b c t ≤ 1 := by
  unfold kR_sameShelves
  split
  · exact sameR_b _ _ _ _
  · exact hasK_b _ _ _ _
set_option maxHeartbeats 800000 in
set_option maxRecDepth 100000 in
theorem c_L_freshBook (l : Launch) (hfl : l.stackTraces = false) (D : va_G) (y : Nat → ClassId) (sl : List (Nat × Nat × Nat)) (L : List Nat) (F : Nat → va_E) (sz : Nat) (O : Nat → Prop) (G : CG) (σ : CS) (xb : Int) (xo : Int) (ou : Nat) (nv : Int64) (sv : Value) (hC : CP y L F O G σ) (hW : CW σ) (h_xb : -2147483648 ≤ xb ∧ xb ≤ 2147483647) (h_xo : -2147483648 ≤ xo ∧ xo ≤ 2147483647) (ha_ou : ou ∈ L) (hF_ou : F ou = .inr (6, [.long nv, sv])) (hO_ou : ¬ O ou) : Met l yL_freshBook (.codeWith yL_freshBook cL_freshBook 5 (some .int) [(0, 11, 14, 19), (0, 11, 18, 21)] :: Tt) ({ frames := 8, cells := 6, slots := 124, locals := 126 }) (PcT D y sl L F sz [.ref ((gbg G)), .int (iI xb), .int (iI xo), .ref ou]) (cMi D (AL L sz) (LWp y O G ou L F σ (kS_freshBook σ xb xo) ((0 ≤ xb ∧ xb ≤ 3)) ((0 ≤ xo ∧ xo ≤ 2)) (iI (kR_freshBook σ xb xo)).toInt64 2)) 6 124 (AL L sz) := by
  refine q_ofT (lv := [(0, .ref ((gbg G))), (1, .int (iI xb)), (2, .int (iI xo)), (3, .ref ou)]) (by decide) (Nat.le_of_ble_eq_true rfl) rfl (fun p e s m below meth c C0 hret hlk hT hsz hA hP hD hS hX hJ hN ls hl => ?_)
  subst hsz
  have hx := C0.1.1
  have hb := C0.1.2.1
  have hts := C0.1.2.2.2.2
  refine lv_aload_n hx hb dL_freshBook_0 rfl (lv_at hl 3 rfl) ?_
  refine lv_aload_n hx hb dL_freshBook_1 rfl (lv_at hl 0 rfl) ?_
  refine lv_iload_n hx hb dL_freshBook_2 rfl (lv_at hl 1 rfl) ?_
  refine lv_iload_n hx hb dL_freshBook_3 rfl (lv_at hl 2 rfl) ?_
  refine q_vTi C0 lL_7 (c_X3_freshBook l hfl D y L F _ O G σ xb xo hC hW h_xb h_xo) ⟨rfl, rfl⟩ rfl hP hD hA hX hC.1.1 hC.1.2 rfl rfl rfl hl rfl (Nat.le_of_ble_eq_true rfl) dL_freshBook_4 ⟨(Nat.le_of_ble_eq_true rfl), (Nat.le_of_ble_eq_true rfl)⟩ (fun ce q9 H locs hn1 hP hD hS hce hcv hcl => ?_) (fun ce q9 H locs ho1 hn1 hP hD hS hce hcv hcl => ?_) (fun r H locs L1 F1 hP hD hS hp => ?_)
  · refine q_cI C0 hT rfl hce hcv hcl ?_
    refine W.widen (k := 6) (n := 124) (Nat.le_of_ble_eq_true rfl) (Nat.le_of_ble_eq_true rfl) ?_
    refine lv_astore (lv' := [(4, .ref q9), (0, .ref ((gbg G))), (1, .int (iI xb)), (2, .int (iI xo)), (3, .ref ou)]) hx hb dL_freshBook_14 hl (by decide) rfl (fun ls hl => ?_)
    refine q_iconst hx hb dL_freshBook_16 ?_
    exact q_retMi (r := 1) (L := L) (F := F) C0 hret rfl hlk dL_freshBook_17 hP hD hS (LW_n1 hC hF_ou hn1)
  · refine q_cA C0 hN hT rfl hce hcv hcl ?_
    refine W.widen (k := 6) (n := 124) (Nat.le_of_ble_eq_true rfl) (Nat.le_of_ble_eq_true rfl) ?_
    refine lv_astore (lv' := [(4, .ref q9), (0, .ref ((gbg G))), (1, .int (iI xb)), (2, .int (iI xo)), (3, .ref ou)]) hx hb dL_freshBook_18 hl (by decide) rfl (fun ls hl => ?_)
    refine q_iconst hx hb dL_freshBook_20 ?_
    exact q_retMi (r := 2) (L := L) (F := F) C0 hret rfl hlk dL_freshBook_21 hP hD hS (LW_n2 hC hF_ou ho1 hn1)
  · refine W.widen (k := 6) (n := 124) (Nat.le_of_ble_eq_true rfl) (Nat.le_of_ble_eq_true rfl) ?_
    obtain ⟨hoA, hoB, hr, O1, G1, hC1, hg1, hE1⟩ := hp
    subst hr
    refine lv_i2l hx hb dL_freshBook_7 rfl ?_
    refine q_putN C0 iX4 tyX4 tyX4_ok nmX4 hP hD hS (hE1.1 _ ha_ou) ((hE1.2.1 _ ha_ou hO_ou).trans hF_ou) rfl 0 (by decide) C0.2.2.2.2.2.2.2.2.2.1 rfl rfl rfl rfl (Nat.le_of_ble_eq_true rfl) dL_freshBook_8 (fun H locs hP hD hS => ?_)
    refine lv_goto (tgt := 22) hx hb dL_freshBook_11 (by decide) ?_
    refine q_iconst hx hb dL_freshBook_22 ?_
    exact q_retMi (r := 0) (L := L1) (F := (va_up F1 ou (.inr (6, [.long ((iI (kR_freshBook σ xb xo)).toInt64), sv])))) C0 hret rfl hlk dL_freshBook_23 hP hD hS (LW_ok hC1 hg1 hE1 ha_ou hO_ou hoA hoB rfl)
set_option maxHeartbeats 800000 in
set_option maxRecDepth 100000 in
theorem c_L_buildBook (l : Launch) (hfl : l.stackTraces = false) (D : va_G) (y : Nat → ClassId) (sl : List (Nat × Nat × Nat)) (L : List Nat) (F : Nat → va_E) (sz : Nat) (O : Nat → Prop) (G : CG) (σ : CS) (xb : Int) (xa : Int) (xw : Int) (ou : Nat) (nv : Int64) (sv : Value) (hC : CP y L F O G σ) (hW : CW σ) (h_xb : -2147483648 ≤ xb ∧ xb ≤ 2147483647) (h_xa : -2147483648 ≤ xa ∧ xa ≤ 2147483647) (h_xw : -2147483648 ≤ xw ∧ xw ≤ 2147483647) (ha_ou : ou ∈ L) (hF_ou : F ou = .inr (6, [.long nv, sv])) (hO_ou : ¬ O ou) : Met l yL_buildBook (.codeWith yL_buildBook cL_buildBook 6 (some .int) [(0, 13, 16, 19), (0, 13, 20, 21)] :: Tt) ({ frames := 8, cells := 6, slots := 124, locals := 127 }) (PcT D y sl L F sz [.ref ((gbg G)), .int (iI xb), .int (iI xa), .int (iI xw), .ref ou]) (cMi D (AL L sz) (LWp y O G ou L F σ (kS_buildBook σ xb xa xw) ((0 ≤ xb ∧ xb ≤ 3) ∧ (0 ≤ xa ∧ xa ≤ 3)) ((0 ≤ xw ∧ xw ≤ 6)) (iI (kR_buildBook σ xb xa xw)).toInt64 2)) 6 124 (AL L sz) := by
  refine q_ofT (lv := [(0, .ref ((gbg G))), (1, .int (iI xb)), (2, .int (iI xa)), (3, .int (iI xw)), (4, .ref ou)]) (by decide) (Nat.le_of_ble_eq_true rfl) rfl (fun p e s m below meth c C0 hret hlk hT hsz hA hP hD hS hX hJ hN ls hl => ?_)
  subst hsz
  have hx := C0.1.1
  have hb := C0.1.2.1
  have hts := C0.1.2.2.2.2
  refine lv_aload hx hb dL_buildBook_0 (lv_at hl 4 rfl) ?_
  refine lv_aload_n hx hb dL_buildBook_2 rfl (lv_at hl 0 rfl) ?_
  refine lv_iload_n hx hb dL_buildBook_3 rfl (lv_at hl 1 rfl) ?_
  refine lv_iload_n hx hb dL_buildBook_4 rfl (lv_at hl 2 rfl) ?_
  refine lv_iload_n hx hb dL_buildBook_5 rfl (lv_at hl 3 rfl) ?_
  refine q_vTi C0 lL_23 (c_X3_buildBook l hfl D y L F _ O G σ xb xa xw hC hW h_xb h_xa h_xw) ⟨rfl, rfl⟩ rfl hP hD hA hX hC.1.1 hC.1.2 rfl rfl rfl hl rfl (Nat.le_of_ble_eq_true rfl) dL_buildBook_6 ⟨(Nat.le_of_ble_eq_true rfl), (Nat.le_of_ble_eq_true rfl)⟩ (fun ce q9 H locs hn1 hP hD hS hce hcv hcl => ?_) (fun ce q9 H locs ho1 hn1 hP hD hS hce hcv hcl => ?_) (fun r H locs L1 F1 hP hD hS hp => ?_)
  · refine q_cI C0 hT rfl hce hcv hcl ?_
    refine W.widen (k := 6) (n := 124) (Nat.le_of_ble_eq_true rfl) (Nat.le_of_ble_eq_true rfl) ?_
    refine lv_astore (lv' := [(5, .ref q9), (0, .ref ((gbg G))), (1, .int (iI xb)), (2, .int (iI xa)), (3, .int (iI xw)), (4, .ref ou)]) hx hb dL_buildBook_16 hl (by decide) rfl (fun ls hl => ?_)
    refine q_iconst hx hb dL_buildBook_18 ?_
    exact q_retMi (r := 1) (L := L) (F := F) C0 hret rfl hlk dL_buildBook_19 hP hD hS (LW_n1 hC hF_ou hn1)
  · refine q_cA C0 hN hT rfl hce hcv hcl ?_
    refine W.widen (k := 6) (n := 124) (Nat.le_of_ble_eq_true rfl) (Nat.le_of_ble_eq_true rfl) ?_
    refine lv_astore (lv' := [(5, .ref q9), (0, .ref ((gbg G))), (1, .int (iI xb)), (2, .int (iI xa)), (3, .int (iI xw)), (4, .ref ou)]) hx hb dL_buildBook_20 hl (by decide) rfl (fun ls hl => ?_)
    refine q_iconst hx hb dL_buildBook_22 ?_
    exact q_retMi (r := 2) (L := L) (F := F) C0 hret rfl hlk dL_buildBook_23 hP hD hS (LW_n2 hC hF_ou ho1 hn1)
  · refine W.widen (k := 6) (n := 124) (Nat.le_of_ble_eq_true rfl) (Nat.le_of_ble_eq_true rfl) ?_
    obtain ⟨hoA, hoB, hr, O1, G1, hC1, hg1, hE1⟩ := hp
    subst hr
    refine lv_i2l hx hb dL_buildBook_9 rfl ?_
    refine q_putN C0 iX4 tyX4 tyX4_ok nmX4 hP hD hS (hE1.1 _ ha_ou) ((hE1.2.1 _ ha_ou hO_ou).trans hF_ou) rfl 0 (by decide) C0.2.2.2.2.2.2.2.2.2.1 rfl rfl rfl rfl (Nat.le_of_ble_eq_true rfl) dL_buildBook_10 (fun H locs hP hD hS => ?_)
    refine lv_goto (tgt := 24) hx hb dL_buildBook_13 (by decide) ?_
    refine q_iconst hx hb dL_buildBook_24 ?_
    exact q_retMi (r := 0) (L := L1) (F := (va_up F1 ou (.inr (6, [.long ((iI (kR_buildBook σ xb xa xw)).toInt64), sv])))) C0 hret rfl hlk dL_buildBook_25 hP hD hS (LW_ok hC1 hg1 hE1 ha_ou hO_ou hoA hoB rfl)
set_option maxHeartbeats 800000 in
set_option maxRecDepth 100000 in
theorem c_L_splitBook (l : Launch) (hfl : l.stackTraces = false) (D : va_G) (y : Nat → ClassId) (sl : List (Nat × Nat × Nat)) (L : List Nat) (F : Nat → va_E) (sz : Nat) (O : Nat → Prop) (G : CG) (σ : CS) (xb : Int) (xk : Int) (xc : Int) (ou : Nat) (nv : Int64) (sv : Value) (hC : CP y L F O G σ) (hW : CW σ) (h_xb : -2147483648 ≤ xb ∧ xb ≤ 2147483647) (h_xk : -2147483648 ≤ xk ∧ xk ≤ 2147483647) (h_xc : -2147483648 ≤ xc ∧ xc ≤ 2147483647) (ha_ou : ou ∈ L) (hF_ou : F ou = .inr (6, [.long nv, sv])) (hO_ou : ¬ O ou) : Met l yL_splitBook (.codeWith yL_splitBook cL_splitBook 6 (some .int) [(0, 13, 16, 19), (0, 13, 20, 21)] :: Tt) ({ frames := 8, cells := 6, slots := 124, locals := 128 }) (PcT D y sl L F sz [.ref ((gbg G)), .int (iI xb), .int (iI xk), .int (iI xc), .ref ou]) (cMi D (AL L sz) (LWp y O G ou L F σ (kS_splitBook σ xb xk xc) ((0 ≤ xb ∧ xb ≤ 3) ∧ (0 ≤ xc ∧ xc ≤ 3)) ((0 ≤ xk ∧ xk ≤ 99)) (iI (kR_splitBook σ xb xk xc)).toInt64 2)) 6 124 (AL L sz) := by
  refine q_ofT (lv := [(0, .ref ((gbg G))), (1, .int (iI xb)), (2, .int (iI xk)), (3, .int (iI xc)), (4, .ref ou)]) (by decide) (Nat.le_of_ble_eq_true rfl) rfl (fun p e s m below meth c C0 hret hlk hT hsz hA hP hD hS hX hJ hN ls hl => ?_)
  subst hsz
  have hx := C0.1.1
  have hb := C0.1.2.1
  have hts := C0.1.2.2.2.2
  refine lv_aload hx hb dL_splitBook_0 (lv_at hl 4 rfl) ?_
  refine lv_aload_n hx hb dL_splitBook_2 rfl (lv_at hl 0 rfl) ?_
  refine lv_iload_n hx hb dL_splitBook_3 rfl (lv_at hl 1 rfl) ?_
  refine lv_iload_n hx hb dL_splitBook_4 rfl (lv_at hl 2 rfl) ?_
  refine lv_iload_n hx hb dL_splitBook_5 rfl (lv_at hl 3 rfl) ?_
  refine q_vTi C0 lL_27 (c_X3_splitBook l hfl D y L F _ O G σ xb xk xc hC hW h_xb h_xk h_xc) ⟨rfl, rfl⟩ rfl hP hD hA hX hC.1.1 hC.1.2 rfl rfl rfl hl rfl (Nat.le_of_ble_eq_true rfl) dL_splitBook_6 ⟨(Nat.le_of_ble_eq_true rfl), (Nat.le_of_ble_eq_true rfl)⟩ (fun ce q9 H locs hn1 hP hD hS hce hcv hcl => ?_) (fun ce q9 H locs ho1 hn1 hP hD hS hce hcv hcl => ?_) (fun r H locs L1 F1 hP hD hS hp => ?_)
  · refine q_cI C0 hT rfl hce hcv hcl ?_
    refine W.widen (k := 6) (n := 124) (Nat.le_of_ble_eq_true rfl) (Nat.le_of_ble_eq_true rfl) ?_
    refine lv_astore (lv' := [(5, .ref q9), (0, .ref ((gbg G))), (1, .int (iI xb)), (2, .int (iI xk)), (3, .int (iI xc)), (4, .ref ou)]) hx hb dL_splitBook_16 hl (by decide) rfl (fun ls hl => ?_)
    refine q_iconst hx hb dL_splitBook_18 ?_
    exact q_retMi (r := 1) (L := L) (F := F) C0 hret rfl hlk dL_splitBook_19 hP hD hS (LW_n1 hC hF_ou hn1)
  · refine q_cA C0 hN hT rfl hce hcv hcl ?_
    refine W.widen (k := 6) (n := 124) (Nat.le_of_ble_eq_true rfl) (Nat.le_of_ble_eq_true rfl) ?_
    refine lv_astore (lv' := [(5, .ref q9), (0, .ref ((gbg G))), (1, .int (iI xb)), (2, .int (iI xk)), (3, .int (iI xc)), (4, .ref ou)]) hx hb dL_splitBook_20 hl (by decide) rfl (fun ls hl => ?_)
    refine q_iconst hx hb dL_splitBook_22 ?_
    exact q_retMi (r := 2) (L := L) (F := F) C0 hret rfl hlk dL_splitBook_23 hP hD hS (LW_n2 hC hF_ou ho1 hn1)
  · refine W.widen (k := 6) (n := 124) (Nat.le_of_ble_eq_true rfl) (Nat.le_of_ble_eq_true rfl) ?_
    obtain ⟨hoA, hoB, hr, O1, G1, hC1, hg1, hE1⟩ := hp
    subst hr
    refine lv_i2l hx hb dL_splitBook_9 rfl ?_
    refine q_putN C0 iX4 tyX4 tyX4_ok nmX4 hP hD hS (hE1.1 _ ha_ou) ((hE1.2.1 _ ha_ou hO_ou).trans hF_ou) rfl 0 (by decide) C0.2.2.2.2.2.2.2.2.2.1 rfl rfl rfl rfl (Nat.le_of_ble_eq_true rfl) dL_splitBook_10 (fun H locs hP hD hS => ?_)
    refine lv_goto (tgt := 24) hx hb dL_splitBook_13 (by decide) ?_
    refine q_iconst hx hb dL_splitBook_24 ?_
    exact q_retMi (r := 0) (L := L1) (F := (va_up F1 ou (.inr (6, [.long ((iI (kR_splitBook σ xb xk xc)).toInt64), sv])))) C0 hret rfl hlk dL_splitBook_25 hP hD hS (LW_ok hC1 hg1 hE1 ha_ou hO_ou hoA hoB rfl)
set_option maxHeartbeats 800000 in
set_option maxRecDepth 100000 in
theorem c_L_fill (l : Launch) (hfl : l.stackTraces = false) (D : va_G) (y : Nat → ClassId) (sl : List (Nat × Nat × Nat)) (L : List Nat) (F : Nat → va_E) (sz : Nat) (O : Nat → Prop) (G : CG) (σ : CS) (xb : Int) (xf : Int) (xs : Int) (xn : Int) (xw : Int) (ou : Nat) (nv : Int64) (sv : Value) (hC : CP y L F O G σ) (hW : CW σ) (h_xb : -2147483648 ≤ xb ∧ xb ≤ 2147483647) (h_xf : -2147483648 ≤ xf ∧ xf ≤ 2147483647) (h_xs : -2147483648 ≤ xs ∧ xs ≤ 2147483647) (h_xn : -2147483648 ≤ xn ∧ xn ≤ 2147483647) (h_xw : -2147483648 ≤ xw ∧ xw ≤ 2147483647) (ha_ou : ou ∈ L) (hF_ou : F ou = .inr (6, [.long nv, sv])) (hO_ou : ¬ O ou) : Met l yL_fill (.codeWith yL_fill cL_fill 8 (some .int) [(0, 17, 20, 19), (0, 17, 24, 21)] :: Tt) ({ frames := 9, cells := 8, slots := 60, locals := 151 }) (PcT D y sl L F sz [.ref ((gbg G)), .int (iI xb), .int (iI xf), .int (iI xs), .int (iI xn), .int (iI xw), .ref ou]) (cMi D (AL L sz) (LWp y O G ou L F σ (kS_fill σ xb xf xs xn xw) ((0 ≤ xb ∧ xb ≤ 3)) ((0 ≤ xf ∧ xf ≤ 99) ∧ (0 ≤ xs ∧ xs ≤ 99) ∧ (0 ≤ xn ∧ xn ≤ 100) ∧ (-1 ≤ xw ∧ xw ≤ 99)) (iI (kR_fill σ xb xf xs xn xw)).toInt64 2)) 8 60 (AL L sz) := by
  refine q_ofT (lv := [(0, .ref ((gbg G))), (1, .int (iI xb)), (2, .int (iI xf)), (3, .int (iI xs)), (4, .int (iI xn)), (5, .int (iI xw)), (6, .ref ou)]) (by decide) (Nat.le_of_ble_eq_true rfl) rfl (fun p e s m below meth c C0 hret hlk hT hsz hA hP hD hS hX hJ hN ls hl => ?_)
  subst hsz
  have hx := C0.1.1
  have hb := C0.1.2.1
  have hts := C0.1.2.2.2.2
  refine lv_aload hx hb dL_fill_0 (lv_at hl 6 rfl) ?_
  refine lv_aload_n hx hb dL_fill_2 rfl (lv_at hl 0 rfl) ?_
  refine lv_iload_n hx hb dL_fill_3 rfl (lv_at hl 1 rfl) ?_
  refine lv_iload_n hx hb dL_fill_4 rfl (lv_at hl 2 rfl) ?_
  refine lv_iload_n hx hb dL_fill_5 rfl (lv_at hl 3 rfl) ?_
  refine lv_iload hx hb dL_fill_6 (lv_at hl 4 rfl) ?_
  refine lv_iload hx hb dL_fill_8 (lv_at hl 5 rfl) ?_
  refine q_vTi C0 lL_30 (c_X3_fill l hfl D y L F _ O G σ xb xf xs xn xw hC hW h_xb h_xf h_xs h_xn h_xw) ⟨rfl, rfl⟩ rfl hP hD hA hX hC.1.1 hC.1.2 rfl rfl rfl hl rfl (Nat.le_of_ble_eq_true rfl) dL_fill_10 ⟨(Nat.le_of_ble_eq_true rfl), (Nat.le_of_ble_eq_true rfl)⟩ (fun ce q9 H locs hn1 hP hD hS hce hcv hcl => ?_) (fun ce q9 H locs ho1 hn1 hP hD hS hce hcv hcl => ?_) (fun r H locs L1 F1 hP hD hS hp => ?_)
  · refine q_cI C0 hT rfl hce hcv hcl ?_
    refine W.widen (k := 8) (n := 60) (Nat.le_of_ble_eq_true rfl) (Nat.le_of_ble_eq_true rfl) ?_
    refine lv_astore (lv' := [(7, .ref q9), (0, .ref ((gbg G))), (1, .int (iI xb)), (2, .int (iI xf)), (3, .int (iI xs)), (4, .int (iI xn)), (5, .int (iI xw)), (6, .ref ou)]) hx hb dL_fill_20 hl (by decide) rfl (fun ls hl => ?_)
    refine q_iconst hx hb dL_fill_22 ?_
    exact q_retMi (r := 1) (L := L) (F := F) C0 hret rfl hlk dL_fill_23 hP hD hS (LW_n1 hC hF_ou hn1)
  · refine q_cA C0 hN hT rfl hce hcv hcl ?_
    refine W.widen (k := 8) (n := 60) (Nat.le_of_ble_eq_true rfl) (Nat.le_of_ble_eq_true rfl) ?_
    refine lv_astore (lv' := [(7, .ref q9), (0, .ref ((gbg G))), (1, .int (iI xb)), (2, .int (iI xf)), (3, .int (iI xs)), (4, .int (iI xn)), (5, .int (iI xw)), (6, .ref ou)]) hx hb dL_fill_24 hl (by decide) rfl (fun ls hl => ?_)
    refine q_iconst hx hb dL_fill_26 ?_
    exact q_retMi (r := 2) (L := L) (F := F) C0 hret rfl hlk dL_fill_27 hP hD hS (LW_n2 hC hF_ou ho1 hn1)
  · refine W.widen (k := 8) (n := 60) (Nat.le_of_ble_eq_true rfl) (Nat.le_of_ble_eq_true rfl) ?_
    obtain ⟨hoA, hoB, hr, O1, G1, hC1, hg1, hE1⟩ := hp
    subst hr
    refine lv_i2l hx hb dL_fill_13 rfl ?_
    refine q_putN C0 iX4 tyX4 tyX4_ok nmX4 hP hD hS (hE1.1 _ ha_ou) ((hE1.2.1 _ ha_ou hO_ou).trans hF_ou) rfl 0 (by decide) C0.2.2.2.2.2.2.2.2.2.1 rfl rfl rfl rfl (Nat.le_of_ble_eq_true rfl) dL_fill_14 (fun H locs hP hD hS => ?_)
    refine lv_goto (tgt := 28) hx hb dL_fill_17 (by decide) ?_
    refine q_iconst hx hb dL_fill_28 ?_
    exact q_retMi (r := 0) (L := L1) (F := (va_up F1 ou (.inr (6, [.long ((iI (kR_fill σ xb xf xs xn xw)).toInt64), sv])))) C0 hret rfl hlk dL_fill_29 hP hD hS (LW_ok hC1 hg1 hE1 ha_ou hO_ou hoA hoB rfl)
set_option maxHeartbeats 800000 in
set_option maxRecDepth 100000 in
theorem c_L_pour (l : Launch) (hfl : l.stackTraces = false) (D : va_G) (y : Nat → ClassId) (sl : List (Nat × Nat × Nat)) (L : List Nat) (F : Nat → va_E) (sz : Nat) (O : Nat → Prop) (G : CG) (σ : CS) (xb : Int) (xc : Int) (ou : Nat) (nv : Int64) (sv : Value) (hC : CP y L F O G σ) (hW : CW σ) (h_xb : -2147483648 ≤ xb ∧ xb ≤ 2147483647) (h_xc : -2147483648 ≤ xc ∧ xc ≤ 2147483647) (ha_ou : ou ∈ L) (hF_ou : F ou = .inr (6, [.long nv, sv])) (hO_ou : ¬ O ou) : Met l yL_pour (.codeWith yL_pour cL_pour 5 (some .int) [(0, 11, 14, 19)] :: Tt) ({ frames := 8, cells := 8, slots := 60, locals := 127 }) (PcT D y sl L F sz [.ref ((gbg G)), .int (iI xb), .int (iI xc), .ref ou]) (cMi D (AL L sz) (LWp y O G ou L F σ (kS_pour σ xb xc) ((0 ≤ xb ∧ xb ≤ 3) ∧ (0 ≤ xc ∧ xc ≤ 3)) (True) (iI (kR_pour σ xb xc)).toInt64 1)) 8 60 (AL L sz) := by
  refine q_ofT (lv := [(0, .ref ((gbg G))), (1, .int (iI xb)), (2, .int (iI xc)), (3, .ref ou)]) (by decide) (Nat.le_of_ble_eq_true rfl) rfl (fun p e s m below meth c C0 hret hlk hT hsz hA hP hD hS hX hJ hN ls hl => ?_)
  subst hsz
  have hx := C0.1.1
  have hb := C0.1.2.1
  have hts := C0.1.2.2.2.2
  refine lv_aload_n hx hb dL_pour_0 rfl (lv_at hl 3 rfl) ?_
  refine lv_aload_n hx hb dL_pour_1 rfl (lv_at hl 0 rfl) ?_
  refine lv_iload_n hx hb dL_pour_2 rfl (lv_at hl 1 rfl) ?_
  refine lv_iload_n hx hb dL_pour_3 rfl (lv_at hl 2 rfl) ?_
  refine q_vTi C0 lL_34 (c_X3_pour l hfl D y L F _ O G σ xb xc hC hW h_xb h_xc) ⟨rfl, rfl⟩ rfl hP hD hA hX hC.1.1 hC.1.2 rfl rfl rfl hl rfl (Nat.le_of_ble_eq_true rfl) dL_pour_4 ⟨(Nat.le_of_ble_eq_true rfl), (Nat.le_of_ble_eq_true rfl)⟩ (fun ce q9 H locs hn1 hP hD hS hce hcv hcl => ?_) (fun ce q9 H locs ho1 hn1 hP hD hS hce hcv hcl => ?_) (fun r H locs L1 F1 hP hD hS hp => ?_)
  · refine q_cI C0 hT rfl hce hcv hcl ?_
    refine W.widen (k := 8) (n := 60) (Nat.le_of_ble_eq_true rfl) (Nat.le_of_ble_eq_true rfl) ?_
    refine lv_astore (lv' := [(4, .ref q9), (0, .ref ((gbg G))), (1, .int (iI xb)), (2, .int (iI xc)), (3, .ref ou)]) hx hb dL_pour_14 hl (by decide) rfl (fun ls hl => ?_)
    refine q_iconst hx hb dL_pour_16 ?_
    exact q_retMi (r := 1) (L := L) (F := F) C0 hret rfl hlk dL_pour_17 hP hD hS (LW_n1 hC hF_ou hn1)
  · exact absurd trivial hn1
  · refine W.widen (k := 8) (n := 60) (Nat.le_of_ble_eq_true rfl) (Nat.le_of_ble_eq_true rfl) ?_
    obtain ⟨hoA, hoB, hr, O1, G1, hC1, hg1, hE1⟩ := hp
    subst hr
    refine lv_i2l hx hb dL_pour_7 rfl ?_
    refine q_putN C0 iX4 tyX4 tyX4_ok nmX4 hP hD hS (hE1.1 _ ha_ou) ((hE1.2.1 _ ha_ou hO_ou).trans hF_ou) rfl 0 (by decide) C0.2.2.2.2.2.2.2.2.2.1 rfl rfl rfl rfl (Nat.le_of_ble_eq_true rfl) dL_pour_8 (fun H locs hP hD hS => ?_)
    refine lv_goto (tgt := 18) hx hb dL_pour_11 (by decide) ?_
    refine q_iconst hx hb dL_pour_18 ?_
    exact q_retMi (r := 0) (L := L1) (F := (va_up F1 ou (.inr (6, [.long ((iI (kR_pour σ xb xc)).toInt64), sv])))) C0 hret rfl hlk dL_pour_19 hP hD hS (LW_ok hC1 hg1 hE1 ha_ou hO_ou hoA hoB rfl)
set_option maxHeartbeats 800000 in
set_option maxRecDepth 100000 in
theorem c_L_keep (l : Launch) (hfl : l.stackTraces = false) (D : va_G) (y : Nat → ClassId) (sl : List (Nat × Nat × Nat)) (L : List Nat) (F : Nat → va_E) (sz : Nat) (O : Nat → Prop) (G : CG) (σ : CS) (xb : Int) (xc : Int) (xw : Int) (ou : Nat) (nv : Int64) (sv : Value) (hC : CP y L F O G σ) (hW : CW σ) (h_xb : -2147483648 ≤ xb ∧ xb ≤ 2147483647) (h_xc : -2147483648 ≤ xc ∧ xc ≤ 2147483647) (h_xw : 0 ≤ xw ∧ xw ≤ 1) (ha_ou : ou ∈ L) (hF_ou : F ou = .inr (6, [.long nv, sv])) (hO_ou : ¬ O ou) : Met l yL_keep (.codeWith yL_keep cL_keep 6 (some .int) [(0, 13, 16, 19)] :: Tt) ({ frames := 8, cells := 8, slots := 60, locals := 128 }) (PcT D y sl L F sz [.ref ((gbg G)), .int (iI xb), .int (iI xc), .int (iI xw), .ref ou]) (cMi D (AL L sz) (LWp y O G ou L F σ (kS_keep σ xb xc xw) ((0 ≤ xb ∧ xb ≤ 3) ∧ (0 ≤ xc ∧ xc ≤ 3)) (True) (iI (kR_keep σ xb xc xw)).toInt64 1)) 8 60 (AL L sz) := by
  refine q_ofT (lv := [(0, .ref ((gbg G))), (1, .int (iI xb)), (2, .int (iI xc)), (3, .int (iI xw)), (4, .ref ou)]) (by decide) (Nat.le_of_ble_eq_true rfl) rfl (fun p e s m below meth c C0 hret hlk hT hsz hA hP hD hS hX hJ hN ls hl => ?_)
  subst hsz
  have hx := C0.1.1
  have hb := C0.1.2.1
  have hts := C0.1.2.2.2.2
  refine lv_aload hx hb dL_keep_0 (lv_at hl 4 rfl) ?_
  refine lv_aload_n hx hb dL_keep_2 rfl (lv_at hl 0 rfl) ?_
  refine lv_iload_n hx hb dL_keep_3 rfl (lv_at hl 1 rfl) ?_
  refine lv_iload_n hx hb dL_keep_4 rfl (lv_at hl 2 rfl) ?_
  refine lv_iload_n hx hb dL_keep_5 rfl (lv_at hl 3 rfl) ?_
  refine q_vTi C0 lL_37 (c_X3_keep l hfl D y L F _ O G σ xb xc xw hC hW h_xb h_xc h_xw) ⟨rfl, rfl⟩ rfl hP hD hA hX hC.1.1 hC.1.2 rfl rfl rfl hl rfl (Nat.le_of_ble_eq_true rfl) dL_keep_6 ⟨(Nat.le_of_ble_eq_true rfl), (Nat.le_of_ble_eq_true rfl)⟩ (fun ce q9 H locs hn1 hP hD hS hce hcv hcl => ?_) (fun ce q9 H locs ho1 hn1 hP hD hS hce hcv hcl => ?_) (fun r H locs L1 F1 hP hD hS hp => ?_)
  · refine q_cI C0 hT rfl hce hcv hcl ?_
    refine W.widen (k := 8) (n := 60) (Nat.le_of_ble_eq_true rfl) (Nat.le_of_ble_eq_true rfl) ?_
    refine lv_astore (lv' := [(5, .ref q9), (0, .ref ((gbg G))), (1, .int (iI xb)), (2, .int (iI xc)), (3, .int (iI xw)), (4, .ref ou)]) hx hb dL_keep_16 hl (by decide) rfl (fun ls hl => ?_)
    refine q_iconst hx hb dL_keep_18 ?_
    exact q_retMi (r := 1) (L := L) (F := F) C0 hret rfl hlk dL_keep_19 hP hD hS (LW_n1 hC hF_ou hn1)
  · exact absurd trivial hn1
  · refine W.widen (k := 8) (n := 60) (Nat.le_of_ble_eq_true rfl) (Nat.le_of_ble_eq_true rfl) ?_
    obtain ⟨hoA, hoB, hr, O1, G1, hC1, hg1, hE1⟩ := hp
    subst hr
    refine lv_i2l hx hb dL_keep_9 rfl ?_
    refine q_putN C0 iX4 tyX4 tyX4_ok nmX4 hP hD hS (hE1.1 _ ha_ou) ((hE1.2.1 _ ha_ou hO_ou).trans hF_ou) rfl 0 (by decide) C0.2.2.2.2.2.2.2.2.2.1 rfl rfl rfl rfl (Nat.le_of_ble_eq_true rfl) dL_keep_10 (fun H locs hP hD hS => ?_)
    refine lv_goto (tgt := 20) hx hb dL_keep_13 (by decide) ?_
    refine q_iconst hx hb dL_keep_20 ?_
    exact q_retMi (r := 0) (L := L1) (F := (va_up F1 ou (.inr (6, [.long ((iI (kR_keep σ xb xc xw)).toInt64), sv])))) C0 hret rfl hlk dL_keep_21 hP hD hS (LW_ok hC1 hg1 hE1 ha_ou hO_ou hoA hoB rfl)
set_option maxHeartbeats 800000 in
set_option maxRecDepth 100000 in
theorem c_L_put (l : Launch) (hfl : l.stackTraces = false) (D : va_G) (y : Nat → ClassId) (sl : List (Nat × Nat × Nat)) (L : List Nat) (F : Nat → va_E) (sz : Nat) (O : Nat → Prop) (G : CG) (σ : CS) (xb : Int) (xk : Int) (xw : Int) (xt : Int) (ou : Nat) (nv : Int64) (sv : Value) (hC : CP y L F O G σ) (hW : CW σ) (h_xb : -2147483648 ≤ xb ∧ xb ≤ 2147483647) (h_xk : -2147483648 ≤ xk ∧ xk ≤ 2147483647) (h_xw : -2147483648 ≤ xw ∧ xw ≤ 2147483647) (h_xt : -2147483648 ≤ xt ∧ xt ≤ 2147483647) (ha_ou : ou ∈ L) (hF_ou : F ou = .inr (6, [.long nv, sv])) (hO_ou : ¬ O ou) : Met l yL_put (.codeWith yL_put cL_put 7 (some .int) [(0, 15, 18, 19), (0, 15, 22, 21)] :: Tt) ({ frames := 8, cells := 8, slots := 60, locals := 131 }) (PcT D y sl L F sz [.ref ((gbg G)), .int (iI xb), .int (iI xk), .int (iI xw), .int (iI xt), .ref ou]) (cMi D (AL L sz) (LWp y O G ou L F σ (kS_put σ xb xk xw xt) ((0 ≤ xb ∧ xb ≤ 3)) ((0 ≤ xk ∧ xk ≤ 99) ∧ (0 ≤ xw ∧ xw ≤ 99) ∧ (0 ≤ xt ∧ xt ≤ 2)) (iI (kR_put σ xb xk xw xt)).toInt64 2)) 8 60 (AL L sz) := by
  refine q_ofT (lv := [(0, .ref ((gbg G))), (1, .int (iI xb)), (2, .int (iI xk)), (3, .int (iI xw)), (4, .int (iI xt)), (5, .ref ou)]) (by decide) (Nat.le_of_ble_eq_true rfl) rfl (fun p e s m below meth c C0 hret hlk hT hsz hA hP hD hS hX hJ hN ls hl => ?_)
  subst hsz
  have hx := C0.1.1
  have hb := C0.1.2.1
  have hts := C0.1.2.2.2.2
  refine lv_aload hx hb dL_put_0 (lv_at hl 5 rfl) ?_
  refine lv_aload_n hx hb dL_put_2 rfl (lv_at hl 0 rfl) ?_
  refine lv_iload_n hx hb dL_put_3 rfl (lv_at hl 1 rfl) ?_
  refine lv_iload_n hx hb dL_put_4 rfl (lv_at hl 2 rfl) ?_
  refine lv_iload_n hx hb dL_put_5 rfl (lv_at hl 3 rfl) ?_
  refine lv_iload hx hb dL_put_6 (lv_at hl 4 rfl) ?_
  refine q_vTi C0 lL_41 (c_X3_put l hfl D y L F _ O G σ xb xk xw xt hC hW h_xb h_xk h_xw h_xt) ⟨rfl, rfl⟩ rfl hP hD hA hX hC.1.1 hC.1.2 rfl rfl rfl hl rfl (Nat.le_of_ble_eq_true rfl) dL_put_8 ⟨(Nat.le_of_ble_eq_true rfl), (Nat.le_of_ble_eq_true rfl)⟩ (fun ce q9 H locs hn1 hP hD hS hce hcv hcl => ?_) (fun ce q9 H locs ho1 hn1 hP hD hS hce hcv hcl => ?_) (fun r H locs L1 F1 hP hD hS hp => ?_)
  · refine q_cI C0 hT rfl hce hcv hcl ?_
    refine W.widen (k := 8) (n := 60) (Nat.le_of_ble_eq_true rfl) (Nat.le_of_ble_eq_true rfl) ?_
    refine lv_astore (lv' := [(6, .ref q9), (0, .ref ((gbg G))), (1, .int (iI xb)), (2, .int (iI xk)), (3, .int (iI xw)), (4, .int (iI xt)), (5, .ref ou)]) hx hb dL_put_18 hl (by decide) rfl (fun ls hl => ?_)
    refine q_iconst hx hb dL_put_20 ?_
    exact q_retMi (r := 1) (L := L) (F := F) C0 hret rfl hlk dL_put_21 hP hD hS (LW_n1 hC hF_ou hn1)
  · refine q_cA C0 hN hT rfl hce hcv hcl ?_
    refine W.widen (k := 8) (n := 60) (Nat.le_of_ble_eq_true rfl) (Nat.le_of_ble_eq_true rfl) ?_
    refine lv_astore (lv' := [(6, .ref q9), (0, .ref ((gbg G))), (1, .int (iI xb)), (2, .int (iI xk)), (3, .int (iI xw)), (4, .int (iI xt)), (5, .ref ou)]) hx hb dL_put_22 hl (by decide) rfl (fun ls hl => ?_)
    refine q_iconst hx hb dL_put_24 ?_
    exact q_retMi (r := 2) (L := L) (F := F) C0 hret rfl hlk dL_put_25 hP hD hS (LW_n2 hC hF_ou ho1 hn1)
  · refine W.widen (k := 8) (n := 60) (Nat.le_of_ble_eq_true rfl) (Nat.le_of_ble_eq_true rfl) ?_
    obtain ⟨hoA, hoB, hr, O1, G1, hC1, hg1, hE1⟩ := hp
    subst hr
    refine lv_i2l hx hb dL_put_11 rfl ?_
    refine q_putN C0 iX4 tyX4 tyX4_ok nmX4 hP hD hS (hE1.1 _ ha_ou) ((hE1.2.1 _ ha_ou hO_ou).trans hF_ou) rfl 0 (by decide) C0.2.2.2.2.2.2.2.2.2.1 rfl rfl rfl rfl (Nat.le_of_ble_eq_true rfl) dL_put_12 (fun H locs hP hD hS => ?_)
    refine lv_goto (tgt := 26) hx hb dL_put_15 (by decide) ?_
    refine q_iconst hx hb dL_put_26 ?_
    exact q_retMi (r := 0) (L := L1) (F := (va_up F1 ou (.inr (6, [.long ((iI (kR_put σ xb xk xw xt)).toInt64), sv])))) C0 hret rfl hlk dL_put_27 hP hD hS (LW_ok hC1 hg1 hE1 ha_ou hO_ou hoA hoB rfl)
set_option maxHeartbeats 800000 in
set_option maxRecDepth 100000 in
theorem c_L_exchange (l : Launch) (hfl : l.stackTraces = false) (D : va_G) (y : Nat → ClassId) (sl : List (Nat × Nat × Nat)) (L : List Nat) (F : Nat → va_E) (sz : Nat) (O : Nat → Prop) (G : CG) (σ : CS) (xb : Int) (xk : Int) (xo : Int) (xw : Int) (ou : Nat) (nv : Int64) (sv : Value) (hC : CP y L F O G σ) (hW : CW σ) (h_xb : -2147483648 ≤ xb ∧ xb ≤ 2147483647) (h_xk : -2147483648 ≤ xk ∧ xk ≤ 2147483647) (h_xo : -2147483648 ≤ xo ∧ xo ≤ 2147483647) (h_xw : -2147483648 ≤ xw ∧ xw ≤ 2147483647) (ha_ou : ou ∈ L) (hF_ou : F ou = .inr (6, [.long nv, sv])) (hO_ou : ¬ O ou) : Met l yL_exchange (.codeWith yL_exchange cL_exchange 7 (some .int) [(0, 15, 18, 19), (0, 15, 22, 21)] :: Tt) ({ frames := 9, cells := 8, slots := 60, locals := 148 }) (PcT D y sl L F sz [.ref ((gbg G)), .int (iI xb), .int (iI xk), .int (iI xo), .int (iI xw), .ref ou]) (cMi D (AL L sz) (LWp y O G ou L F σ (kS_exchange σ xb xk xo xw) ((0 ≤ xb ∧ xb ≤ 3)) ((0 ≤ xk ∧ xk ≤ 99) ∧ (0 ≤ xo ∧ xo ≤ 99) ∧ (-1 ≤ xw ∧ xw ≤ 99)) (iI (kR_exchange σ xb xk xo xw)).toInt64 2)) 8 60 (AL L sz) := by
  refine q_ofT (lv := [(0, .ref ((gbg G))), (1, .int (iI xb)), (2, .int (iI xk)), (3, .int (iI xo)), (4, .int (iI xw)), (5, .ref ou)]) (by decide) (Nat.le_of_ble_eq_true rfl) rfl (fun p e s m below meth c C0 hret hlk hT hsz hA hP hD hS hX hJ hN ls hl => ?_)
  subst hsz
  have hx := C0.1.1
  have hb := C0.1.2.1
  have hts := C0.1.2.2.2.2
  refine lv_aload hx hb dL_exchange_0 (lv_at hl 5 rfl) ?_
  refine lv_aload_n hx hb dL_exchange_2 rfl (lv_at hl 0 rfl) ?_
  refine lv_iload_n hx hb dL_exchange_3 rfl (lv_at hl 1 rfl) ?_
  refine lv_iload_n hx hb dL_exchange_4 rfl (lv_at hl 2 rfl) ?_
  refine lv_iload_n hx hb dL_exchange_5 rfl (lv_at hl 3 rfl) ?_
  refine lv_iload hx hb dL_exchange_6 (lv_at hl 4 rfl) ?_
  refine q_vTi C0 lL_45 (c_X3_exchange l hfl D y L F _ O G σ xb xk xo xw hC hW h_xb h_xk h_xo h_xw) ⟨rfl, rfl⟩ rfl hP hD hA hX hC.1.1 hC.1.2 rfl rfl rfl hl rfl (Nat.le_of_ble_eq_true rfl) dL_exchange_8 ⟨(Nat.le_of_ble_eq_true rfl), (Nat.le_of_ble_eq_true rfl)⟩ (fun ce q9 H locs hn1 hP hD hS hce hcv hcl => ?_) (fun ce q9 H locs ho1 hn1 hP hD hS hce hcv hcl => ?_) (fun r H locs L1 F1 hP hD hS hp => ?_)
  · refine q_cI C0 hT rfl hce hcv hcl ?_
    refine W.widen (k := 8) (n := 60) (Nat.le_of_ble_eq_true rfl) (Nat.le_of_ble_eq_true rfl) ?_
    refine lv_astore (lv' := [(6, .ref q9), (0, .ref ((gbg G))), (1, .int (iI xb)), (2, .int (iI xk)), (3, .int (iI xo)), (4, .int (iI xw)), (5, .ref ou)]) hx hb dL_exchange_18 hl (by decide) rfl (fun ls hl => ?_)
    refine q_iconst hx hb dL_exchange_20 ?_
    exact q_retMi (r := 1) (L := L) (F := F) C0 hret rfl hlk dL_exchange_21 hP hD hS (LW_n1 hC hF_ou hn1)
  · refine q_cA C0 hN hT rfl hce hcv hcl ?_
    refine W.widen (k := 8) (n := 60) (Nat.le_of_ble_eq_true rfl) (Nat.le_of_ble_eq_true rfl) ?_
    refine lv_astore (lv' := [(6, .ref q9), (0, .ref ((gbg G))), (1, .int (iI xb)), (2, .int (iI xk)), (3, .int (iI xo)), (4, .int (iI xw)), (5, .ref ou)]) hx hb dL_exchange_22 hl (by decide) rfl (fun ls hl => ?_)
    refine q_iconst hx hb dL_exchange_24 ?_
    exact q_retMi (r := 2) (L := L) (F := F) C0 hret rfl hlk dL_exchange_25 hP hD hS (LW_n2 hC hF_ou ho1 hn1)
  · refine W.widen (k := 8) (n := 60) (Nat.le_of_ble_eq_true rfl) (Nat.le_of_ble_eq_true rfl) ?_
    obtain ⟨hoA, hoB, hr, O1, G1, hC1, hg1, hE1⟩ := hp
    subst hr
    refine lv_i2l hx hb dL_exchange_11 rfl ?_
    refine q_putN C0 iX4 tyX4 tyX4_ok nmX4 hP hD hS (hE1.1 _ ha_ou) ((hE1.2.1 _ ha_ou hO_ou).trans hF_ou) rfl 0 (by decide) C0.2.2.2.2.2.2.2.2.2.1 rfl rfl rfl rfl (Nat.le_of_ble_eq_true rfl) dL_exchange_12 (fun H locs hP hD hS => ?_)
    refine lv_goto (tgt := 26) hx hb dL_exchange_15 (by decide) ?_
    refine q_iconst hx hb dL_exchange_26 ?_
    exact q_retMi (r := 0) (L := L1) (F := (va_up F1 ou (.inr (6, [.long ((iI (kR_exchange σ xb xk xo xw)).toInt64), sv])))) C0 hret rfl hlk dL_exchange_27 hP hD hS (LW_ok hC1 hg1 hE1 ha_ou hO_ou hoA hoB rfl)
set_option maxHeartbeats 800000 in
set_option maxRecDepth 100000 in
theorem c_L_take (l : Launch) (hfl : l.stackTraces = false) (D : va_G) (y : Nat → ClassId) (sl : List (Nat × Nat × Nat)) (L : List Nat) (F : Nat → va_E) (sz : Nat) (O : Nat → Prop) (G : CG) (σ : CS) (xb : Int) (xk : Int) (ou : Nat) (nv : Int64) (sv : Value) (hC : CP y L F O G σ) (hW : CW σ) (h_xb : -2147483648 ≤ xb ∧ xb ≤ 2147483647) (h_xk : -2147483648 ≤ xk ∧ xk ≤ 2147483647) (ha_ou : ou ∈ L) (hF_ou : F ou = .inr (6, [.long nv, sv])) (hO_ou : ¬ O ou) : Met l yL_take (.codeWith yL_take cL_take 5 (some .int) [(0, 11, 14, 19), (0, 11, 18, 21)] :: Tt) ({ frames := 8, cells := 8, slots := 60, locals := 126 }) (PcT D y sl L F sz [.ref ((gbg G)), .int (iI xb), .int (iI xk), .ref ou]) (cMi D (AL L sz) (LWp y O G ou L F σ (kS_take σ xb xk) ((0 ≤ xb ∧ xb ≤ 3)) ((0 ≤ xk ∧ xk ≤ 99)) (iI (kR_take σ xb xk)).toInt64 2)) 8 60 (AL L sz) := by
  refine q_ofT (lv := [(0, .ref ((gbg G))), (1, .int (iI xb)), (2, .int (iI xk)), (3, .ref ou)]) (by decide) (Nat.le_of_ble_eq_true rfl) rfl (fun p e s m below meth c C0 hret hlk hT hsz hA hP hD hS hX hJ hN ls hl => ?_)
  subst hsz
  have hx := C0.1.1
  have hb := C0.1.2.1
  have hts := C0.1.2.2.2.2
  refine lv_aload_n hx hb dL_take_0 rfl (lv_at hl 3 rfl) ?_
  refine lv_aload_n hx hb dL_take_1 rfl (lv_at hl 0 rfl) ?_
  refine lv_iload_n hx hb dL_take_2 rfl (lv_at hl 1 rfl) ?_
  refine lv_iload_n hx hb dL_take_3 rfl (lv_at hl 2 rfl) ?_
  refine q_vTi C0 lL_48 (c_X3_take l hfl D y L F _ O G σ xb xk hC hW h_xb h_xk) ⟨rfl, rfl⟩ rfl hP hD hA hX hC.1.1 hC.1.2 rfl rfl rfl hl rfl (Nat.le_of_ble_eq_true rfl) dL_take_4 ⟨(Nat.le_of_ble_eq_true rfl), (Nat.le_of_ble_eq_true rfl)⟩ (fun ce q9 H locs hn1 hP hD hS hce hcv hcl => ?_) (fun ce q9 H locs ho1 hn1 hP hD hS hce hcv hcl => ?_) (fun r H locs L1 F1 hP hD hS hp => ?_)
  · refine q_cI C0 hT rfl hce hcv hcl ?_
    refine W.widen (k := 8) (n := 60) (Nat.le_of_ble_eq_true rfl) (Nat.le_of_ble_eq_true rfl) ?_
    refine lv_astore (lv' := [(4, .ref q9), (0, .ref ((gbg G))), (1, .int (iI xb)), (2, .int (iI xk)), (3, .ref ou)]) hx hb dL_take_14 hl (by decide) rfl (fun ls hl => ?_)
    refine q_iconst hx hb dL_take_16 ?_
    exact q_retMi (r := 1) (L := L) (F := F) C0 hret rfl hlk dL_take_17 hP hD hS (LW_n1 hC hF_ou hn1)
  · refine q_cA C0 hN hT rfl hce hcv hcl ?_
    refine W.widen (k := 8) (n := 60) (Nat.le_of_ble_eq_true rfl) (Nat.le_of_ble_eq_true rfl) ?_
    refine lv_astore (lv' := [(4, .ref q9), (0, .ref ((gbg G))), (1, .int (iI xb)), (2, .int (iI xk)), (3, .ref ou)]) hx hb dL_take_18 hl (by decide) rfl (fun ls hl => ?_)
    refine q_iconst hx hb dL_take_20 ?_
    exact q_retMi (r := 2) (L := L) (F := F) C0 hret rfl hlk dL_take_21 hP hD hS (LW_n2 hC hF_ou ho1 hn1)
  · refine W.widen (k := 8) (n := 60) (Nat.le_of_ble_eq_true rfl) (Nat.le_of_ble_eq_true rfl) ?_
    obtain ⟨hoA, hoB, hr, O1, G1, hC1, hg1, hE1⟩ := hp
    subst hr
    refine lv_i2l hx hb dL_take_7 rfl ?_
    refine q_putN C0 iX4 tyX4 tyX4_ok nmX4 hP hD hS (hE1.1 _ ha_ou) ((hE1.2.1 _ ha_ou hO_ou).trans hF_ou) rfl 0 (by decide) C0.2.2.2.2.2.2.2.2.2.1 rfl rfl rfl rfl (Nat.le_of_ble_eq_true rfl) dL_take_8 (fun H locs hP hD hS => ?_)
    refine lv_goto (tgt := 22) hx hb dL_take_11 (by decide) ?_
    refine q_iconst hx hb dL_take_22 ?_
    exact q_retMi (r := 0) (L := L1) (F := (va_up F1 ou (.inr (6, [.long ((iI (kR_take σ xb xk)).toInt64), sv])))) C0 hret rfl hlk dL_take_23 hP hD hS (LW_ok hC1 hg1 hE1 ha_ou hO_ou hoA hoB rfl)
set_option maxHeartbeats 800000 in
set_option maxRecDepth 100000 in
theorem c_L_drop (l : Launch) (hfl : l.stackTraces = false) (D : va_G) (y : Nat → ClassId) (sl : List (Nat × Nat × Nat)) (L : List Nat) (F : Nat → va_E) (sz : Nat) (O : Nat → Prop) (G : CG) (σ : CS) (xb : Int) (xt : Int) (ou : Nat) (nv : Int64) (sv : Value) (hC : CP y L F O G σ) (hW : CW σ) (h_xb : -2147483648 ≤ xb ∧ xb ≤ 2147483647) (h_xt : -2147483648 ≤ xt ∧ xt ≤ 2147483647) (ha_ou : ou ∈ L) (hF_ou : F ou = .inr (6, [.long nv, sv])) (hO_ou : ¬ O ou) : Met l yL_drop (.codeWith yL_drop cL_drop 5 (some .int) [(0, 11, 14, 19), (0, 11, 18, 21)] :: Tt) ({ frames := 8, cells := 8, slots := 60, locals := 126 }) (PcT D y sl L F sz [.ref ((gbg G)), .int (iI xb), .int (iI xt), .ref ou]) (cMi D (AL L sz) (LWp y O G ou L F σ (kS_drop σ xb xt) ((0 ≤ xb ∧ xb ≤ 3)) ((0 ≤ xt ∧ xt ≤ 2)) (iI (kR_drop σ xb xt)).toInt64 2)) 8 60 (AL L sz) := by
  refine q_ofT (lv := [(0, .ref ((gbg G))), (1, .int (iI xb)), (2, .int (iI xt)), (3, .ref ou)]) (by decide) (Nat.le_of_ble_eq_true rfl) rfl (fun p e s m below meth c C0 hret hlk hT hsz hA hP hD hS hX hJ hN ls hl => ?_)
  subst hsz
  have hx := C0.1.1
  have hb := C0.1.2.1
  have hts := C0.1.2.2.2.2
  refine lv_aload_n hx hb dL_drop_0 rfl (lv_at hl 3 rfl) ?_
  refine lv_aload_n hx hb dL_drop_1 rfl (lv_at hl 0 rfl) ?_
  refine lv_iload_n hx hb dL_drop_2 rfl (lv_at hl 1 rfl) ?_
  refine lv_iload_n hx hb dL_drop_3 rfl (lv_at hl 2 rfl) ?_
  refine q_vTi C0 lL_51 (c_X3_drop l hfl D y L F _ O G σ xb xt hC hW h_xb h_xt) ⟨rfl, rfl⟩ rfl hP hD hA hX hC.1.1 hC.1.2 rfl rfl rfl hl rfl (Nat.le_of_ble_eq_true rfl) dL_drop_4 ⟨(Nat.le_of_ble_eq_true rfl), (Nat.le_of_ble_eq_true rfl)⟩ (fun ce q9 H locs hn1 hP hD hS hce hcv hcl => ?_) (fun ce q9 H locs ho1 hn1 hP hD hS hce hcv hcl => ?_) (fun r H locs L1 F1 hP hD hS hp => ?_)
  · refine q_cI C0 hT rfl hce hcv hcl ?_
    refine W.widen (k := 8) (n := 60) (Nat.le_of_ble_eq_true rfl) (Nat.le_of_ble_eq_true rfl) ?_
    refine lv_astore (lv' := [(4, .ref q9), (0, .ref ((gbg G))), (1, .int (iI xb)), (2, .int (iI xt)), (3, .ref ou)]) hx hb dL_drop_14 hl (by decide) rfl (fun ls hl => ?_)
    refine q_iconst hx hb dL_drop_16 ?_
    exact q_retMi (r := 1) (L := L) (F := F) C0 hret rfl hlk dL_drop_17 hP hD hS (LW_n1 hC hF_ou hn1)
  · refine q_cA C0 hN hT rfl hce hcv hcl ?_
    refine W.widen (k := 8) (n := 60) (Nat.le_of_ble_eq_true rfl) (Nat.le_of_ble_eq_true rfl) ?_
    refine lv_astore (lv' := [(4, .ref q9), (0, .ref ((gbg G))), (1, .int (iI xb)), (2, .int (iI xt)), (3, .ref ou)]) hx hb dL_drop_18 hl (by decide) rfl (fun ls hl => ?_)
    refine q_iconst hx hb dL_drop_20 ?_
    exact q_retMi (r := 2) (L := L) (F := F) C0 hret rfl hlk dL_drop_21 hP hD hS (LW_n2 hC hF_ou ho1 hn1)
  · refine W.widen (k := 8) (n := 60) (Nat.le_of_ble_eq_true rfl) (Nat.le_of_ble_eq_true rfl) ?_
    obtain ⟨hoA, hoB, hr, O1, G1, hC1, hg1, hE1⟩ := hp
    subst hr
    refine lv_i2l hx hb dL_drop_7 rfl ?_
    refine q_putN C0 iX4 tyX4 tyX4_ok nmX4 hP hD hS (hE1.1 _ ha_ou) ((hE1.2.1 _ ha_ou hO_ou).trans hF_ou) rfl 0 (by decide) C0.2.2.2.2.2.2.2.2.2.1 rfl rfl rfl rfl (Nat.le_of_ble_eq_true rfl) dL_drop_8 (fun H locs hP hD hS => ?_)
    refine lv_goto (tgt := 22) hx hb dL_drop_11 (by decide) ?_
    refine q_iconst hx hb dL_drop_22 ?_
    exact q_retMi (r := 0) (L := L1) (F := (va_up F1 ou (.inr (6, [.long ((iI (kR_drop σ xb xt)).toInt64), sv])))) C0 hret rfl hlk dL_drop_23 hP hD hS (LW_ok hC1 hg1 hE1 ha_ou hO_ou hoA hoB rfl)
set_option maxHeartbeats 800000 in
set_option maxRecDepth 100000 in
theorem c_L_has (l : Launch) (hfl : l.stackTraces = false) (D : va_G) (y : Nat → ClassId) (sl : List (Nat × Nat × Nat)) (L : List Nat) (F : Nat → va_E) (sz : Nat) (O : Nat → Prop) (G : CG) (σ : CS) (xb : Int) (xw : Int) (xn : Int) (ou : Nat) (nv : Int64) (sv : Value) (hC : CP y L F O G σ) (hW : CW σ) (h_xb : -2147483648 ≤ xb ∧ xb ≤ 2147483647) (h_xw : 0 ≤ xw ∧ xw ≤ 1) (h_xn : -2147483648 ≤ xn ∧ xn ≤ 2147483647) (ha_ou : ou ∈ L) (hF_ou : F ou = .inr (6, [.long nv, sv])) (hO_ou : ¬ O ou) : Met l yL_has (.codeWith yL_has cL_has 6 (some .int) [(0, 20, 23, 19), (0, 20, 27, 21)] :: Tt) ({ frames := 8, cells := 8, slots := 60, locals := 127 }) (PcT D y sl L F sz [.ref ((gbg G)), .int (iI xb), .int (iI xw), .int (iI xn), .ref ou]) (cMi D (AL L sz) (LWp y O G ou L F σ (kS_has σ xb xw xn) ((0 ≤ xb ∧ xb ≤ 3)) ((0 ≤ xn ∧ xn ≤ 99)) (if (kR_has σ xb xw xn) = 0 then 0 else 1) 2)) 8 60 (AL L sz) := by
  refine q_ofT (lv := [(0, .ref ((gbg G))), (1, .int (iI xb)), (2, .int (iI xw)), (3, .int (iI xn)), (4, .ref ou)]) (by decide) (Nat.le_of_ble_eq_true rfl) rfl (fun p e s m below meth c C0 hret hlk hT hsz hA hP hD hS hX hJ hN ls hl => ?_)
  subst hsz
  have hx := C0.1.1
  have hb := C0.1.2.1
  have hts := C0.1.2.2.2.2
  refine lv_aload hx hb dL_has_0 (lv_at hl 4 rfl) ?_
  refine lv_aload_n hx hb dL_has_2 rfl (lv_at hl 0 rfl) ?_
  refine lv_iload_n hx hb dL_has_3 rfl (lv_at hl 1 rfl) ?_
  refine lv_iload_n hx hb dL_has_4 rfl (lv_at hl 2 rfl) ?_
  refine lv_iload_n hx hb dL_has_5 rfl (lv_at hl 3 rfl) ?_
  refine q_vTi C0 lL_54 (c_X3_has l hfl D y L F _ O G σ xb xw xn hC hW h_xb h_xw h_xn) ⟨rfl, rfl⟩ rfl hP hD hA hX hC.1.1 hC.1.2 rfl rfl rfl hl rfl (Nat.le_of_ble_eq_true rfl) dL_has_6 ⟨(Nat.le_of_ble_eq_true rfl), (Nat.le_of_ble_eq_true rfl)⟩ (fun ce q9 H locs hn1 hP hD hS hce hcv hcl => ?_) (fun ce q9 H locs ho1 hn1 hP hD hS hce hcv hcl => ?_) (fun r H locs L1 F1 hP hD hS hp => ?_)
  · refine q_cI C0 hT rfl hce hcv hcl ?_
    refine W.widen (k := 8) (n := 60) (Nat.le_of_ble_eq_true rfl) (Nat.le_of_ble_eq_true rfl) ?_
    refine lv_astore (lv' := [(5, .ref q9), (0, .ref ((gbg G))), (1, .int (iI xb)), (2, .int (iI xw)), (3, .int (iI xn)), (4, .ref ou)]) hx hb dL_has_23 hl (by decide) rfl (fun ls hl => ?_)
    refine q_iconst hx hb dL_has_25 ?_
    exact q_retMi (r := 1) (L := L) (F := F) C0 hret rfl hlk dL_has_26 hP hD hS (LW_n1 hC hF_ou hn1)
  · refine q_cA C0 hN hT rfl hce hcv hcl ?_
    refine W.widen (k := 8) (n := 60) (Nat.le_of_ble_eq_true rfl) (Nat.le_of_ble_eq_true rfl) ?_
    refine lv_astore (lv' := [(5, .ref q9), (0, .ref ((gbg G))), (1, .int (iI xb)), (2, .int (iI xw)), (3, .int (iI xn)), (4, .ref ou)]) hx hb dL_has_27 hl (by decide) rfl (fun ls hl => ?_)
    refine q_iconst hx hb dL_has_29 ?_
    exact q_retMi (r := 2) (L := L) (F := F) C0 hret rfl hlk dL_has_30 hP hD hS (LW_n2 hC hF_ou ho1 hn1)
  · refine W.widen (k := 8) (n := 60) (Nat.le_of_ble_eq_true rfl) (Nat.le_of_ble_eq_true rfl) ?_
    obtain ⟨hoA, hoB, hr, O1, G1, hC1, hg1, hE1⟩ := hp
    have rb_ := kb_has σ xb xw xn
    rw [← hr] at rb_
    refine q_if_eq hx hb dL_has_9 (tgt := 16) (by decide) (by omega) (fun c1 => ?_) (fun c1 => ?_)
    · refine lv_lconst (v := 0) hx hb dL_has_16 rfl ?_
      refine q_putN C0 iX4 tyX4 tyX4_ok nmX4 hP hD hS (hE1.1 _ ha_ou) ((hE1.2.1 _ ha_ou hO_ou).trans hF_ou) rfl 0 (by decide) C0.2.2.2.2.2.2.2.2.2.1 rfl rfl rfl rfl (Nat.le_of_ble_eq_true rfl) dL_has_17 (fun H locs hP hD hS => ?_)
      refine lv_goto (tgt := 31) hx hb dL_has_20 (by decide) ?_
      refine q_iconst hx hb dL_has_31 ?_
      exact q_retMi (r := 0) (L := L1) (F := (va_up F1 ou (.inr (6, [.long (0), sv])))) C0 hret rfl hlk dL_has_32 hP hD hS (LW_ok hC1 hg1 hE1 ha_ou hO_ou hoA hoB (by rw [← hr, if_pos c1]))
    · refine lv_lconst (v := 1) hx hb dL_has_12 rfl ?_
      refine lv_goto (tgt := 17) hx hb dL_has_13 (by decide) ?_
      refine q_putN C0 iX4 tyX4 tyX4_ok nmX4 hP hD hS (hE1.1 _ ha_ou) ((hE1.2.1 _ ha_ou hO_ou).trans hF_ou) rfl 0 (by decide) C0.2.2.2.2.2.2.2.2.2.1 rfl rfl rfl rfl (Nat.le_of_ble_eq_true rfl) dL_has_17 (fun H locs hP hD hS => ?_)
      refine lv_goto (tgt := 31) hx hb dL_has_20 (by decide) ?_
      refine q_iconst hx hb dL_has_31 ?_
      exact q_retMi (r := 0) (L := L1) (F := (va_up F1 ou (.inr (6, [.long (1), sv])))) C0 hret rfl hlk dL_has_32 hP hD hS (LW_ok hC1 hg1 hE1 ha_ou hO_ou hoA hoB (by rw [← hr, if_neg c1]))
set_option maxHeartbeats 800000 in
set_option maxRecDepth 100000 in
theorem c_L_near (l : Launch) (hfl : l.stackTraces = false) (D : va_G) (y : Nat → ClassId) (sl : List (Nat × Nat × Nat)) (L : List Nat) (F : Nat → va_E) (sz : Nat) (O : Nat → Prop) (G : CG) (σ : CS) (xb : Int) (xk : Int) (xt : Int) (xw : Int) (ou : Nat) (nv : Int64) (sv : Value) (hC : CP y L F O G σ) (hW : CW σ) (h_xb : -2147483648 ≤ xb ∧ xb ≤ 2147483647) (h_xk : -2147483648 ≤ xk ∧ xk ≤ 2147483647) (h_xt : -2147483648 ≤ xt ∧ xt ≤ 2147483647) (h_xw : 0 ≤ xw ∧ xw ≤ 1) (ha_ou : ou ∈ L) (hF_ou : F ou = .inr (6, [.long nv, sv])) (hO_ou : ¬ O ou) : Met l yL_near (.codeWith yL_near cL_near 7 (some .int) [(0, 15, 18, 19), (0, 15, 22, 21)] :: Tt) ({ frames := 8, cells := 8, slots := 60, locals := 129 }) (PcT D y sl L F sz [.ref ((gbg G)), .int (iI xb), .int (iI xk), .int (iI xt), .int (iI xw), .ref ou]) (cMi D (AL L sz) (LWp y O G ou L F σ (kS_near σ xb xk xt xw) ((0 ≤ xb ∧ xb ≤ 3)) ((0 ≤ xk ∧ xk ≤ 99) ∧ (0 ≤ xt ∧ xt ≤ 4)) (iI (kR_near σ xb xk xt xw)).toInt64 2)) 8 60 (AL L sz) := by
  refine q_ofT (lv := [(0, .ref ((gbg G))), (1, .int (iI xb)), (2, .int (iI xk)), (3, .int (iI xt)), (4, .int (iI xw)), (5, .ref ou)]) (by decide) (Nat.le_of_ble_eq_true rfl) rfl (fun p e s m below meth c C0 hret hlk hT hsz hA hP hD hS hX hJ hN ls hl => ?_)
  subst hsz
  have hx := C0.1.1
  have hb := C0.1.2.1
  have hts := C0.1.2.2.2.2
  refine lv_aload hx hb dL_near_0 (lv_at hl 5 rfl) ?_
  refine lv_aload_n hx hb dL_near_2 rfl (lv_at hl 0 rfl) ?_
  refine lv_iload_n hx hb dL_near_3 rfl (lv_at hl 1 rfl) ?_
  refine lv_iload_n hx hb dL_near_4 rfl (lv_at hl 2 rfl) ?_
  refine lv_iload_n hx hb dL_near_5 rfl (lv_at hl 3 rfl) ?_
  refine lv_iload hx hb dL_near_6 (lv_at hl 4 rfl) ?_
  refine q_vTi C0 lL_58 (c_X3_near l hfl D y L F _ O G σ xb xk xt xw hC hW h_xb h_xk h_xt h_xw) ⟨rfl, rfl⟩ rfl hP hD hA hX hC.1.1 hC.1.2 rfl rfl rfl hl rfl (Nat.le_of_ble_eq_true rfl) dL_near_8 ⟨(Nat.le_of_ble_eq_true rfl), (Nat.le_of_ble_eq_true rfl)⟩ (fun ce q9 H locs hn1 hP hD hS hce hcv hcl => ?_) (fun ce q9 H locs ho1 hn1 hP hD hS hce hcv hcl => ?_) (fun r H locs L1 F1 hP hD hS hp => ?_)
  · refine q_cI C0 hT rfl hce hcv hcl ?_
    refine W.widen (k := 8) (n := 60) (Nat.le_of_ble_eq_true rfl) (Nat.le_of_ble_eq_true rfl) ?_
    refine lv_astore (lv' := [(6, .ref q9), (0, .ref ((gbg G))), (1, .int (iI xb)), (2, .int (iI xk)), (3, .int (iI xt)), (4, .int (iI xw)), (5, .ref ou)]) hx hb dL_near_18 hl (by decide) rfl (fun ls hl => ?_)
    refine q_iconst hx hb dL_near_20 ?_
    exact q_retMi (r := 1) (L := L) (F := F) C0 hret rfl hlk dL_near_21 hP hD hS (LW_n1 hC hF_ou hn1)
  · refine q_cA C0 hN hT rfl hce hcv hcl ?_
    refine W.widen (k := 8) (n := 60) (Nat.le_of_ble_eq_true rfl) (Nat.le_of_ble_eq_true rfl) ?_
    refine lv_astore (lv' := [(6, .ref q9), (0, .ref ((gbg G))), (1, .int (iI xb)), (2, .int (iI xk)), (3, .int (iI xt)), (4, .int (iI xw)), (5, .ref ou)]) hx hb dL_near_22 hl (by decide) rfl (fun ls hl => ?_)
    refine q_iconst hx hb dL_near_24 ?_
    exact q_retMi (r := 2) (L := L) (F := F) C0 hret rfl hlk dL_near_25 hP hD hS (LW_n2 hC hF_ou ho1 hn1)
  · refine W.widen (k := 8) (n := 60) (Nat.le_of_ble_eq_true rfl) (Nat.le_of_ble_eq_true rfl) ?_
    obtain ⟨hoA, hoB, hr, O1, G1, hC1, hg1, hE1⟩ := hp
    subst hr
    refine lv_i2l hx hb dL_near_11 rfl ?_
    refine q_putN C0 iX4 tyX4 tyX4_ok nmX4 hP hD hS (hE1.1 _ ha_ou) ((hE1.2.1 _ ha_ou hO_ou).trans hF_ou) rfl 0 (by decide) C0.2.2.2.2.2.2.2.2.2.1 rfl rfl rfl rfl (Nat.le_of_ble_eq_true rfl) dL_near_12 (fun H locs hP hD hS => ?_)
    refine lv_goto (tgt := 26) hx hb dL_near_15 (by decide) ?_
    refine q_iconst hx hb dL_near_26 ?_
    exact q_retMi (r := 0) (L := L1) (F := (va_up F1 ou (.inr (6, [.long ((iI (kR_near σ xb xk xt xw)).toInt64), sv])))) C0 hret rfl hlk dL_near_27 hP hD hS (LW_ok hC1 hg1 hE1 ha_ou hO_ou hoA hoB rfl)
set_option maxHeartbeats 800000 in
set_option maxRecDepth 100000 in
theorem c_L_end (l : Launch) (hfl : l.stackTraces = false) (D : va_G) (y : Nat → ClassId) (sl : List (Nat × Nat × Nat)) (L : List Nat) (F : Nat → va_E) (sz : Nat) (O : Nat → Prop) (G : CG) (σ : CS) (xb : Int) (xw : Int) (xv : Int) (ou : Nat) (nv : Int64) (sv : Value) (hC : CP y L F O G σ) (hW : CW σ) (h_xb : -2147483648 ≤ xb ∧ xb ≤ 2147483647) (h_xw : 0 ≤ xw ∧ xw ≤ 1) (h_xv : 0 ≤ xv ∧ xv ≤ 1) (ha_ou : ou ∈ L) (hF_ou : F ou = .inr (6, [.long nv, sv])) (hO_ou : ¬ O ou) : Met l yL_end (.codeWith yL_end cL_end 6 (some .int) [(0, 13, 16, 19)] :: Tt) ({ frames := 8, cells := 8, slots := 60, locals := 128 }) (PcT D y sl L F sz [.ref ((gbg G)), .int (iI xb), .int (iI xw), .int (iI xv), .ref ou]) (cMi D (AL L sz) (LWp y O G ou L F σ (kS_end σ xb xw xv) ((0 ≤ xb ∧ xb ≤ 3)) (True) (iI (kR_end σ xb xw xv)).toInt64 1)) 8 60 (AL L sz) := by
  refine q_ofT (lv := [(0, .ref ((gbg G))), (1, .int (iI xb)), (2, .int (iI xw)), (3, .int (iI xv)), (4, .ref ou)]) (by decide) (Nat.le_of_ble_eq_true rfl) rfl (fun p e s m below meth c C0 hret hlk hT hsz hA hP hD hS hX hJ hN ls hl => ?_)
  subst hsz
  have hx := C0.1.1
  have hb := C0.1.2.1
  have hts := C0.1.2.2.2.2
  refine lv_aload hx hb dL_end_0 (lv_at hl 4 rfl) ?_
  refine lv_aload_n hx hb dL_end_2 rfl (lv_at hl 0 rfl) ?_
  refine lv_iload_n hx hb dL_end_3 rfl (lv_at hl 1 rfl) ?_
  refine lv_iload_n hx hb dL_end_4 rfl (lv_at hl 2 rfl) ?_
  refine lv_iload_n hx hb dL_end_5 rfl (lv_at hl 3 rfl) ?_
  refine q_vTi C0 lL_62 (c_X3_end l hfl D y L F _ O G σ xb xw xv hC hW h_xb h_xw h_xv) ⟨rfl, rfl⟩ rfl hP hD hA hX hC.1.1 hC.1.2 rfl rfl rfl hl rfl (Nat.le_of_ble_eq_true rfl) dL_end_6 ⟨(Nat.le_of_ble_eq_true rfl), (Nat.le_of_ble_eq_true rfl)⟩ (fun ce q9 H locs hn1 hP hD hS hce hcv hcl => ?_) (fun ce q9 H locs ho1 hn1 hP hD hS hce hcv hcl => ?_) (fun r H locs L1 F1 hP hD hS hp => ?_)
  · refine q_cI C0 hT rfl hce hcv hcl ?_
    refine W.widen (k := 8) (n := 60) (Nat.le_of_ble_eq_true rfl) (Nat.le_of_ble_eq_true rfl) ?_
    refine lv_astore (lv' := [(5, .ref q9), (0, .ref ((gbg G))), (1, .int (iI xb)), (2, .int (iI xw)), (3, .int (iI xv)), (4, .ref ou)]) hx hb dL_end_16 hl (by decide) rfl (fun ls hl => ?_)
    refine q_iconst hx hb dL_end_18 ?_
    exact q_retMi (r := 1) (L := L) (F := F) C0 hret rfl hlk dL_end_19 hP hD hS (LW_n1 hC hF_ou hn1)
  · exact absurd trivial hn1
  · refine W.widen (k := 8) (n := 60) (Nat.le_of_ble_eq_true rfl) (Nat.le_of_ble_eq_true rfl) ?_
    obtain ⟨hoA, hoB, hr, O1, G1, hC1, hg1, hE1⟩ := hp
    subst hr
    refine lv_i2l hx hb dL_end_9 rfl ?_
    refine q_putN C0 iX4 tyX4 tyX4_ok nmX4 hP hD hS (hE1.1 _ ha_ou) ((hE1.2.1 _ ha_ou hO_ou).trans hF_ou) rfl 0 (by decide) C0.2.2.2.2.2.2.2.2.2.1 rfl rfl rfl rfl (Nat.le_of_ble_eq_true rfl) dL_end_10 (fun H locs hP hD hS => ?_)
    refine lv_goto (tgt := 20) hx hb dL_end_13 (by decide) ?_
    refine q_iconst hx hb dL_end_20 ?_
    exact q_retMi (r := 0) (L := L1) (F := (va_up F1 ou (.inr (6, [.long ((iI (kR_end σ xb xw xv)).toInt64), sv])))) C0 hret rfl hlk dL_end_21 hP hD hS (LW_ok hC1 hg1 hE1 ha_ou hO_ou hoA hoB rfl)
set_option maxHeartbeats 800000 in
set_option maxRecDepth 100000 in
theorem c_L_keyAt (l : Launch) (hfl : l.stackTraces = false) (D : va_G) (y : Nat → ClassId) (sl : List (Nat × Nat × Nat)) (L : List Nat) (F : Nat → va_E) (sz : Nat) (O : Nat → Prop) (G : CG) (σ : CS) (xb : Int) (xn : Int) (xw : Int) (ou : Nat) (nv : Int64) (sv : Value) (hC : CP y L F O G σ) (hW : CW σ) (h_xb : -2147483648 ≤ xb ∧ xb ≤ 2147483647) (h_xn : -2147483648 ≤ xn ∧ xn ≤ 2147483647) (h_xw : 0 ≤ xw ∧ xw ≤ 1) (ha_ou : ou ∈ L) (hF_ou : F ou = .inr (6, [.long nv, sv])) (hO_ou : ¬ O ou) : Met l yL_keyAt (.codeWith yL_keyAt cL_keyAt 6 (some .int) [(0, 13, 16, 19), (0, 13, 20, 21)] :: Tt) ({ frames := 8, cells := 8, slots := 60, locals := 128 }) (PcT D y sl L F sz [.ref ((gbg G)), .int (iI xb), .int (iI xn), .int (iI xw), .ref ou]) (cMi D (AL L sz) (LWp y O G ou L F σ (kS_keyAt σ xb xn xw) ((0 ≤ xb ∧ xb ≤ 3)) ((0 ≤ xn ∧ xn ≤ 99)) (iI (kR_keyAt σ xb xn xw)).toInt64 2)) 8 60 (AL L sz) := by
  refine q_ofT (lv := [(0, .ref ((gbg G))), (1, .int (iI xb)), (2, .int (iI xn)), (3, .int (iI xw)), (4, .ref ou)]) (by decide) (Nat.le_of_ble_eq_true rfl) rfl (fun p e s m below meth c C0 hret hlk hT hsz hA hP hD hS hX hJ hN ls hl => ?_)
  subst hsz
  have hx := C0.1.1
  have hb := C0.1.2.1
  have hts := C0.1.2.2.2.2
  refine lv_aload hx hb dL_keyAt_0 (lv_at hl 4 rfl) ?_
  refine lv_aload_n hx hb dL_keyAt_2 rfl (lv_at hl 0 rfl) ?_
  refine lv_iload_n hx hb dL_keyAt_3 rfl (lv_at hl 1 rfl) ?_
  refine lv_iload_n hx hb dL_keyAt_4 rfl (lv_at hl 2 rfl) ?_
  refine lv_iload_n hx hb dL_keyAt_5 rfl (lv_at hl 3 rfl) ?_
  refine q_vTi C0 lL_66 (c_X3_keyAt l hfl D y L F _ O G σ xb xn xw hC hW h_xb h_xn h_xw) ⟨rfl, rfl⟩ rfl hP hD hA hX hC.1.1 hC.1.2 rfl rfl rfl hl rfl (Nat.le_of_ble_eq_true rfl) dL_keyAt_6 ⟨(Nat.le_of_ble_eq_true rfl), (Nat.le_of_ble_eq_true rfl)⟩ (fun ce q9 H locs hn1 hP hD hS hce hcv hcl => ?_) (fun ce q9 H locs ho1 hn1 hP hD hS hce hcv hcl => ?_) (fun r H locs L1 F1 hP hD hS hp => ?_)
  · refine q_cI C0 hT rfl hce hcv hcl ?_
    refine W.widen (k := 8) (n := 60) (Nat.le_of_ble_eq_true rfl) (Nat.le_of_ble_eq_true rfl) ?_
    refine lv_astore (lv' := [(5, .ref q9), (0, .ref ((gbg G))), (1, .int (iI xb)), (2, .int (iI xn)), (3, .int (iI xw)), (4, .ref ou)]) hx hb dL_keyAt_16 hl (by decide) rfl (fun ls hl => ?_)
    refine q_iconst hx hb dL_keyAt_18 ?_
    exact q_retMi (r := 1) (L := L) (F := F) C0 hret rfl hlk dL_keyAt_19 hP hD hS (LW_n1 hC hF_ou hn1)
  · refine q_cA C0 hN hT rfl hce hcv hcl ?_
    refine W.widen (k := 8) (n := 60) (Nat.le_of_ble_eq_true rfl) (Nat.le_of_ble_eq_true rfl) ?_
    refine lv_astore (lv' := [(5, .ref q9), (0, .ref ((gbg G))), (1, .int (iI xb)), (2, .int (iI xn)), (3, .int (iI xw)), (4, .ref ou)]) hx hb dL_keyAt_20 hl (by decide) rfl (fun ls hl => ?_)
    refine q_iconst hx hb dL_keyAt_22 ?_
    exact q_retMi (r := 2) (L := L) (F := F) C0 hret rfl hlk dL_keyAt_23 hP hD hS (LW_n2 hC hF_ou ho1 hn1)
  · refine W.widen (k := 8) (n := 60) (Nat.le_of_ble_eq_true rfl) (Nat.le_of_ble_eq_true rfl) ?_
    obtain ⟨hoA, hoB, hr, O1, G1, hC1, hg1, hE1⟩ := hp
    subst hr
    refine lv_i2l hx hb dL_keyAt_9 rfl ?_
    refine q_putN C0 iX4 tyX4 tyX4_ok nmX4 hP hD hS (hE1.1 _ ha_ou) ((hE1.2.1 _ ha_ou hO_ou).trans hF_ou) rfl 0 (by decide) C0.2.2.2.2.2.2.2.2.2.1 rfl rfl rfl rfl (Nat.le_of_ble_eq_true rfl) dL_keyAt_10 (fun H locs hP hD hS => ?_)
    refine lv_goto (tgt := 24) hx hb dL_keyAt_13 (by decide) ?_
    refine q_iconst hx hb dL_keyAt_24 ?_
    exact q_retMi (r := 0) (L := L1) (F := (va_up F1 ou (.inr (6, [.long ((iI (kR_keyAt σ xb xn xw)).toInt64), sv])))) C0 hret rfl hlk dL_keyAt_25 hP hD hS (LW_ok hC1 hg1 hE1 ha_ou hO_ou hoA hoB rfl)
set_option maxHeartbeats 800000 in
set_option maxRecDepth 100000 in
theorem c_L_tellBook (l : Launch) (hfl : l.stackTraces = false) (D : va_G) (y : Nat → ClassId) (sl : List (Nat × Nat × Nat)) (L : List Nat) (F : Nat → va_E) (sz : Nat) (O : Nat → Prop) (G : CG) (σ : CS) (xb : Int) (xt : Int) (ou : Nat) (nv : Int64) (sv : Value) (hC : CP y L F O G σ) (hW : CW σ) (h_xb : -2147483648 ≤ xb ∧ xb ≤ 2147483647) (h_xt : -2147483648 ≤ xt ∧ xt ≤ 2147483647) (ha_ou : ou ∈ L) (hF_ou : F ou = .inr (6, [.long nv, sv])) (hO_ou : ¬ O ou) : Met l yL_tellBook (.codeWith yL_tellBook cL_tellBook 5 (some .int) [(0, 11, 14, 19), (0, 11, 18, 21)] :: Tt) ({ frames := 8, cells := 8, slots := 60, locals := 126 }) (PcT D y sl L F sz [.ref ((gbg G)), .int (iI xb), .int (iI xt), .ref ou]) (cMi D (AL L sz) (LWp y O G ou L F σ (kS_tellBook σ xb xt) ((0 ≤ xb ∧ xb ≤ 3)) ((0 ≤ xt ∧ xt ≤ 3)) (iI (kR_tellBook σ xb xt)).toInt64 2)) 8 60 (AL L sz) := by
  refine q_ofT (lv := [(0, .ref ((gbg G))), (1, .int (iI xb)), (2, .int (iI xt)), (3, .ref ou)]) (by decide) (Nat.le_of_ble_eq_true rfl) rfl (fun p e s m below meth c C0 hret hlk hT hsz hA hP hD hS hX hJ hN ls hl => ?_)
  subst hsz
  have hx := C0.1.1
  have hb := C0.1.2.1
  have hts := C0.1.2.2.2.2
  refine lv_aload_n hx hb dL_tellBook_0 rfl (lv_at hl 3 rfl) ?_
  refine lv_aload_n hx hb dL_tellBook_1 rfl (lv_at hl 0 rfl) ?_
  refine lv_iload_n hx hb dL_tellBook_2 rfl (lv_at hl 1 rfl) ?_
  refine lv_iload_n hx hb dL_tellBook_3 rfl (lv_at hl 2 rfl) ?_
  refine q_vTi C0 lL_69 (c_X3_tellBook l hfl D y L F _ O G σ xb xt hC hW h_xb h_xt) ⟨rfl, rfl⟩ rfl hP hD hA hX hC.1.1 hC.1.2 rfl rfl rfl hl rfl (Nat.le_of_ble_eq_true rfl) dL_tellBook_4 ⟨(Nat.le_of_ble_eq_true rfl), (Nat.le_of_ble_eq_true rfl)⟩ (fun ce q9 H locs hn1 hP hD hS hce hcv hcl => ?_) (fun ce q9 H locs ho1 hn1 hP hD hS hce hcv hcl => ?_) (fun r H locs L1 F1 hP hD hS hp => ?_)
  · refine q_cI C0 hT rfl hce hcv hcl ?_
    refine W.widen (k := 8) (n := 60) (Nat.le_of_ble_eq_true rfl) (Nat.le_of_ble_eq_true rfl) ?_
    refine lv_astore (lv' := [(4, .ref q9), (0, .ref ((gbg G))), (1, .int (iI xb)), (2, .int (iI xt)), (3, .ref ou)]) hx hb dL_tellBook_14 hl (by decide) rfl (fun ls hl => ?_)
    refine q_iconst hx hb dL_tellBook_16 ?_
    exact q_retMi (r := 1) (L := L) (F := F) C0 hret rfl hlk dL_tellBook_17 hP hD hS (LW_n1 hC hF_ou hn1)
  · refine q_cA C0 hN hT rfl hce hcv hcl ?_
    refine W.widen (k := 8) (n := 60) (Nat.le_of_ble_eq_true rfl) (Nat.le_of_ble_eq_true rfl) ?_
    refine lv_astore (lv' := [(4, .ref q9), (0, .ref ((gbg G))), (1, .int (iI xb)), (2, .int (iI xt)), (3, .ref ou)]) hx hb dL_tellBook_18 hl (by decide) rfl (fun ls hl => ?_)
    refine q_iconst hx hb dL_tellBook_20 ?_
    exact q_retMi (r := 2) (L := L) (F := F) C0 hret rfl hlk dL_tellBook_21 hP hD hS (LW_n2 hC hF_ou ho1 hn1)
  · refine W.widen (k := 8) (n := 60) (Nat.le_of_ble_eq_true rfl) (Nat.le_of_ble_eq_true rfl) ?_
    obtain ⟨hoA, hoB, hr, O1, G1, hC1, hg1, hE1⟩ := hp
    subst hr
    refine lv_i2l hx hb dL_tellBook_7 rfl ?_
    refine q_putN C0 iX4 tyX4 tyX4_ok nmX4 hP hD hS (hE1.1 _ ha_ou) ((hE1.2.1 _ ha_ou hO_ou).trans hF_ou) rfl 0 (by decide) C0.2.2.2.2.2.2.2.2.2.1 rfl rfl rfl rfl (Nat.le_of_ble_eq_true rfl) dL_tellBook_8 (fun H locs hP hD hS => ?_)
    refine lv_goto (tgt := 22) hx hb dL_tellBook_11 (by decide) ?_
    refine q_iconst hx hb dL_tellBook_22 ?_
    exact q_retMi (r := 0) (L := L1) (F := (va_up F1 ou (.inr (6, [.long ((iI (kR_tellBook σ xb xt)).toInt64), sv])))) C0 hret rfl hlk dL_tellBook_23 hP hD hS (LW_ok hC1 hg1 hE1 ha_ou hO_ou hoA hoB rfl)
set_option maxHeartbeats 800000 in
set_option maxRecDepth 100000 in
theorem c_L_sameBooks (l : Launch) (hfl : l.stackTraces = false) (D : va_G) (y : Nat → ClassId) (sl : List (Nat × Nat × Nat)) (L : List Nat) (F : Nat → va_E) (sz : Nat) (O : Nat → Prop) (G : CG) (σ : CS) (xb : Int) (xc : Int) (ou : Nat) (nv : Int64) (sv : Value) (hC : CP y L F O G σ) (hW : CW σ) (h_xb : -2147483648 ≤ xb ∧ xb ≤ 2147483647) (h_xc : -2147483648 ≤ xc ∧ xc ≤ 2147483647) (ha_ou : ou ∈ L) (hF_ou : F ou = .inr (6, [.long nv, sv])) (hO_ou : ¬ O ou) : Met l yL_sameBooks (.codeWith yL_sameBooks cL_sameBooks 5 (some .int) [(0, 18, 21, 19)] :: Tt) ({ frames := 8, cells := 8, slots := 60, locals := 126 }) (PcT D y sl L F sz [.ref ((gbg G)), .int (iI xb), .int (iI xc), .ref ou]) (cMi D (AL L sz) (LWp y O G ou L F σ (kS_sameBooks σ xb xc) ((0 ≤ xb ∧ xb ≤ 3) ∧ (0 ≤ xc ∧ xc ≤ 3)) (True) (if (kR_sameBooks σ xb xc) = 0 then 0 else 1) 1)) 8 60 (AL L sz) := by
  refine q_ofT (lv := [(0, .ref ((gbg G))), (1, .int (iI xb)), (2, .int (iI xc)), (3, .ref ou)]) (by decide) (Nat.le_of_ble_eq_true rfl) rfl (fun p e s m below meth c C0 hret hlk hT hsz hA hP hD hS hX hJ hN ls hl => ?_)
  subst hsz
  have hx := C0.1.1
  have hb := C0.1.2.1
  have hts := C0.1.2.2.2.2
  refine lv_aload_n hx hb dL_sameBooks_0 rfl (lv_at hl 3 rfl) ?_
  refine lv_aload_n hx hb dL_sameBooks_1 rfl (lv_at hl 0 rfl) ?_
  refine lv_iload_n hx hb dL_sameBooks_2 rfl (lv_at hl 1 rfl) ?_
  refine lv_iload_n hx hb dL_sameBooks_3 rfl (lv_at hl 2 rfl) ?_
  refine q_vTi C0 lL_80 (c_X3_sameBooks l hfl D y L F _ O G σ xb xc hC hW h_xb h_xc) ⟨rfl, rfl⟩ rfl hP hD hA hX hC.1.1 hC.1.2 rfl rfl rfl hl rfl (Nat.le_of_ble_eq_true rfl) dL_sameBooks_4 ⟨(Nat.le_of_ble_eq_true rfl), (Nat.le_of_ble_eq_true rfl)⟩ (fun ce q9 H locs hn1 hP hD hS hce hcv hcl => ?_) (fun ce q9 H locs ho1 hn1 hP hD hS hce hcv hcl => ?_) (fun r H locs L1 F1 hP hD hS hp => ?_)
  · refine q_cI C0 hT rfl hce hcv hcl ?_
    refine W.widen (k := 8) (n := 60) (Nat.le_of_ble_eq_true rfl) (Nat.le_of_ble_eq_true rfl) ?_
    refine lv_astore (lv' := [(4, .ref q9), (0, .ref ((gbg G))), (1, .int (iI xb)), (2, .int (iI xc)), (3, .ref ou)]) hx hb dL_sameBooks_21 hl (by decide) rfl (fun ls hl => ?_)
    refine q_iconst hx hb dL_sameBooks_23 ?_
    exact q_retMi (r := 1) (L := L) (F := F) C0 hret rfl hlk dL_sameBooks_24 hP hD hS (LW_n1 hC hF_ou hn1)
  · exact absurd trivial hn1
  · refine W.widen (k := 8) (n := 60) (Nat.le_of_ble_eq_true rfl) (Nat.le_of_ble_eq_true rfl) ?_
    obtain ⟨hoA, hoB, hr, O1, G1, hC1, hg1, hE1⟩ := hp
    have rb_ := kb_sameBooks σ xb xc
    rw [← hr] at rb_
    refine q_if_eq hx hb dL_sameBooks_7 (tgt := 14) (by decide) (by omega) (fun c1 => ?_) (fun c1 => ?_)
    · refine lv_lconst (v := 0) hx hb dL_sameBooks_14 rfl ?_
      refine q_putN C0 iX4 tyX4 tyX4_ok nmX4 hP hD hS (hE1.1 _ ha_ou) ((hE1.2.1 _ ha_ou hO_ou).trans hF_ou) rfl 0 (by decide) C0.2.2.2.2.2.2.2.2.2.1 rfl rfl rfl rfl (Nat.le_of_ble_eq_true rfl) dL_sameBooks_15 (fun H locs hP hD hS => ?_)
      refine lv_goto (tgt := 25) hx hb dL_sameBooks_18 (by decide) ?_
      refine q_iconst hx hb dL_sameBooks_25 ?_
      exact q_retMi (r := 0) (L := L1) (F := (va_up F1 ou (.inr (6, [.long (0), sv])))) C0 hret rfl hlk dL_sameBooks_26 hP hD hS (LW_ok hC1 hg1 hE1 ha_ou hO_ou hoA hoB (by rw [← hr, if_pos c1]))
    · refine lv_lconst (v := 1) hx hb dL_sameBooks_10 rfl ?_
      refine lv_goto (tgt := 15) hx hb dL_sameBooks_11 (by decide) ?_
      refine q_putN C0 iX4 tyX4 tyX4_ok nmX4 hP hD hS (hE1.1 _ ha_ou) ((hE1.2.1 _ ha_ou hO_ou).trans hF_ou) rfl 0 (by decide) C0.2.2.2.2.2.2.2.2.2.1 rfl rfl rfl rfl (Nat.le_of_ble_eq_true rfl) dL_sameBooks_15 (fun H locs hP hD hS => ?_)
      refine lv_goto (tgt := 25) hx hb dL_sameBooks_18 (by decide) ?_
      refine q_iconst hx hb dL_sameBooks_25 ?_
      exact q_retMi (r := 0) (L := L1) (F := (va_up F1 ou (.inr (6, [.long (1), sv])))) C0 hret rfl hlk dL_sameBooks_26 hP hD hS (LW_ok hC1 hg1 hE1 ha_ou hO_ou hoA hoB (by rw [← hr, if_neg c1]))
set_option maxHeartbeats 800000 in
set_option maxRecDepth 100000 in
theorem c_L_openView (l : Launch) (hfl : l.stackTraces = false) (D : va_G) (y : Nat → ClassId) (sl : List (Nat × Nat × Nat)) (L : List Nat) (F : Nat → va_E) (sz : Nat) (O : Nat → Prop) (G : CG) (σ : CS) (xv : Int) (xb : Int) (xkind : Int) (xlow : Int) (xhigh : Int) (xends : Int) (ou : Nat) (nv : Int64) (sv : Value) (hC : CP y L F O G σ) (hW : CW σ) (h_xv : -2147483648 ≤ xv ∧ xv ≤ 2147483647) (h_xb : -2147483648 ≤ xb ∧ xb ≤ 2147483647) (h_xkind : -2147483648 ≤ xkind ∧ xkind ≤ 2147483647) (h_xlow : -2147483648 ≤ xlow ∧ xlow ≤ 2147483647) (h_xhigh : -2147483648 ≤ xhigh ∧ xhigh ≤ 2147483647) (h_xends : -2147483648 ≤ xends ∧ xends ≤ 2147483647) (ha_ou : ou ∈ L) (hF_ou : F ou = .inr (6, [.long nv, sv])) (hO_ou : ¬ O ou) : Met l yL_openView (.codeWith yL_openView cL_openView 9 (some .int) [(0, 19, 22, 19), (0, 19, 26, 21)] :: Tt) ({ frames := 9, cells := 8, slots := 60, locals := 159 }) (PcT D y sl L F sz [.ref ((gbg G)), .int (iI xv), .int (iI xb), .int (iI xkind), .int (iI xlow), .int (iI xhigh), .int (iI xends), .ref ou]) (cMi D (AL L sz) (LWp y O G ou L F σ (kS_openView σ xv xb xkind xlow xhigh xends) ((0 ≤ xv ∧ xv ≤ 1) ∧ (0 ≤ xb ∧ xb ≤ 3)) ((0 ≤ xkind ∧ xkind ≤ 2) ∧ (0 ≤ xlow ∧ xlow ≤ 99) ∧ (0 ≤ xhigh ∧ xhigh ≤ 99) ∧ (0 ≤ xends ∧ xends ≤ 3)) (iI (kR_openView σ xv xb xkind xlow xhigh xends)).toInt64 2)) 8 60 (AL L sz) := by
  refine q_ofT (lv := [(0, .ref ((gbg G))), (1, .int (iI xv)), (2, .int (iI xb)), (3, .int (iI xkind)), (4, .int (iI xlow)), (5, .int (iI xhigh)), (6, .int (iI xends)), (7, .ref ou)]) (by decide) (Nat.le_of_ble_eq_true rfl) rfl (fun p e s m below meth c C0 hret hlk hT hsz hA hP hD hS hX hJ hN ls hl => ?_)
  subst hsz
  have hx := C0.1.1
  have hb := C0.1.2.1
  have hts := C0.1.2.2.2.2
  refine lv_aload hx hb dL_openView_0 (lv_at hl 7 rfl) ?_
  refine lv_aload_n hx hb dL_openView_2 rfl (lv_at hl 0 rfl) ?_
  refine lv_iload_n hx hb dL_openView_3 rfl (lv_at hl 1 rfl) ?_
  refine lv_iload_n hx hb dL_openView_4 rfl (lv_at hl 2 rfl) ?_
  refine lv_iload_n hx hb dL_openView_5 rfl (lv_at hl 3 rfl) ?_
  refine lv_iload hx hb dL_openView_6 (lv_at hl 4 rfl) ?_
  refine lv_iload hx hb dL_openView_8 (lv_at hl 5 rfl) ?_
  refine lv_iload hx hb dL_openView_10 (lv_at hl 6 rfl) ?_
  refine q_vTi C0 lL_84 (c_X3_openView l hfl D y L F _ O G σ xv xb xkind xlow xhigh xends hC hW h_xv h_xb h_xkind h_xlow h_xhigh h_xends) ⟨rfl, rfl⟩ rfl hP hD hA hX hC.1.1 hC.1.2 rfl rfl rfl hl rfl (Nat.le_of_ble_eq_true rfl) dL_openView_12 ⟨(Nat.le_of_ble_eq_true rfl), (Nat.le_of_ble_eq_true rfl)⟩ (fun ce q9 H locs hn1 hP hD hS hce hcv hcl => ?_) (fun ce q9 H locs ho1 hn1 hP hD hS hce hcv hcl => ?_) (fun r H locs L1 F1 hP hD hS hp => ?_)
  · refine q_cI C0 hT rfl hce hcv hcl ?_
    refine W.widen (k := 8) (n := 60) (Nat.le_of_ble_eq_true rfl) (Nat.le_of_ble_eq_true rfl) ?_
    refine lv_astore (lv' := [(8, .ref q9), (0, .ref ((gbg G))), (1, .int (iI xv)), (2, .int (iI xb)), (3, .int (iI xkind)), (4, .int (iI xlow)), (5, .int (iI xhigh)), (6, .int (iI xends)), (7, .ref ou)]) hx hb dL_openView_22 hl (by decide) rfl (fun ls hl => ?_)
    refine q_iconst hx hb dL_openView_24 ?_
    exact q_retMi (r := 1) (L := L) (F := F) C0 hret rfl hlk dL_openView_25 hP hD hS (LW_n1 hC hF_ou hn1)
  · refine q_cA C0 hN hT rfl hce hcv hcl ?_
    refine W.widen (k := 8) (n := 60) (Nat.le_of_ble_eq_true rfl) (Nat.le_of_ble_eq_true rfl) ?_
    refine lv_astore (lv' := [(8, .ref q9), (0, .ref ((gbg G))), (1, .int (iI xv)), (2, .int (iI xb)), (3, .int (iI xkind)), (4, .int (iI xlow)), (5, .int (iI xhigh)), (6, .int (iI xends)), (7, .ref ou)]) hx hb dL_openView_26 hl (by decide) rfl (fun ls hl => ?_)
    refine q_iconst hx hb dL_openView_28 ?_
    exact q_retMi (r := 2) (L := L) (F := F) C0 hret rfl hlk dL_openView_29 hP hD hS (LW_n2 hC hF_ou ho1 hn1)
  · refine W.widen (k := 8) (n := 60) (Nat.le_of_ble_eq_true rfl) (Nat.le_of_ble_eq_true rfl) ?_
    obtain ⟨hoA, hoB, hr, O1, G1, hC1, hg1, hE1⟩ := hp
    subst hr
    refine lv_i2l hx hb dL_openView_15 rfl ?_
    refine q_putN C0 iX4 tyX4 tyX4_ok nmX4 hP hD hS (hE1.1 _ ha_ou) ((hE1.2.1 _ ha_ou hO_ou).trans hF_ou) rfl 0 (by decide) C0.2.2.2.2.2.2.2.2.2.1 rfl rfl rfl rfl (Nat.le_of_ble_eq_true rfl) dL_openView_16 (fun H locs hP hD hS => ?_)
    refine lv_goto (tgt := 30) hx hb dL_openView_19 (by decide) ?_
    refine q_iconst hx hb dL_openView_30 ?_
    exact q_retMi (r := 0) (L := L1) (F := (va_up F1 ou (.inr (6, [.long ((iI (kR_openView σ xv xb xkind xlow xhigh xends)).toInt64), sv])))) C0 hret rfl hlk dL_openView_31 hP hD hS (LW_ok hC1 hg1 hE1 ha_ou hO_ou hoA hoB rfl)
set_option maxHeartbeats 800000 in
set_option maxRecDepth 100000 in
theorem c_L_narrowView (l : Launch) (hfl : l.stackTraces = false) (D : va_G) (y : Nat → ClassId) (sl : List (Nat × Nat × Nat)) (L : List Nat) (F : Nat → va_E) (sz : Nat) (O : Nat → Prop) (G : CG) (σ : CS) (xv : Int) (xkind : Int) (xlow : Int) (xhigh : Int) (ou : Nat) (nv : Int64) (sv : Value) (hC : CP y L F O G σ) (hW : CW σ) (h_xv : -2147483648 ≤ xv ∧ xv ≤ 2147483647) (h_xkind : -2147483648 ≤ xkind ∧ xkind ≤ 2147483647) (h_xlow : -2147483648 ≤ xlow ∧ xlow ≤ 2147483647) (h_xhigh : -2147483648 ≤ xhigh ∧ xhigh ≤ 2147483647) (ha_ou : ou ∈ L) (hF_ou : F ou = .inr (6, [.long nv, sv])) (hO_ou : ¬ O ou) : Met l yL_narrowView (.codeWith yL_narrowView cL_narrowView 7 (some .int) [(0, 15, 18, 19), (0, 15, 22, 21)] :: Tt) ({ frames := 9, cells := 8, slots := 60, locals := 154 }) (PcT D y sl L F sz [.ref ((gbg G)), .int (iI xv), .int (iI xkind), .int (iI xlow), .int (iI xhigh), .ref ou]) (cMi D (AL L sz) (LWp y O G ou L F σ (kS_narrowView σ xv xkind xlow xhigh) ((0 ≤ xv ∧ xv ≤ 1)) ((0 ≤ xkind ∧ xkind ≤ 2) ∧ (0 ≤ xlow ∧ xlow ≤ 99) ∧ (0 ≤ xhigh ∧ xhigh ≤ 99)) (iI (kR_narrowView σ xv xkind xlow xhigh)).toInt64 2)) 8 60 (AL L sz) := by
  refine q_ofT (lv := [(0, .ref ((gbg G))), (1, .int (iI xv)), (2, .int (iI xkind)), (3, .int (iI xlow)), (4, .int (iI xhigh)), (5, .ref ou)]) (by decide) (Nat.le_of_ble_eq_true rfl) rfl (fun p e s m below meth c C0 hret hlk hT hsz hA hP hD hS hX hJ hN ls hl => ?_)
  subst hsz
  have hx := C0.1.1
  have hb := C0.1.2.1
  have hts := C0.1.2.2.2.2
  refine lv_aload hx hb dL_narrowView_0 (lv_at hl 5 rfl) ?_
  refine lv_aload_n hx hb dL_narrowView_2 rfl (lv_at hl 0 rfl) ?_
  refine lv_iload_n hx hb dL_narrowView_3 rfl (lv_at hl 1 rfl) ?_
  refine lv_iload_n hx hb dL_narrowView_4 rfl (lv_at hl 2 rfl) ?_
  refine lv_iload_n hx hb dL_narrowView_5 rfl (lv_at hl 3 rfl) ?_
  refine lv_iload hx hb dL_narrowView_6 (lv_at hl 4 rfl) ?_
  refine q_vTi C0 lL_88 (c_X3_narrowView l hfl D y L F _ O G σ xv xkind xlow xhigh hC hW h_xv h_xkind h_xlow h_xhigh) ⟨rfl, rfl⟩ rfl hP hD hA hX hC.1.1 hC.1.2 rfl rfl rfl hl rfl (Nat.le_of_ble_eq_true rfl) dL_narrowView_8 ⟨(Nat.le_of_ble_eq_true rfl), (Nat.le_of_ble_eq_true rfl)⟩ (fun ce q9 H locs hn1 hP hD hS hce hcv hcl => ?_) (fun ce q9 H locs ho1 hn1 hP hD hS hce hcv hcl => ?_) (fun r H locs L1 F1 hP hD hS hp => ?_)
  · refine q_cI C0 hT rfl hce hcv hcl ?_
    refine W.widen (k := 8) (n := 60) (Nat.le_of_ble_eq_true rfl) (Nat.le_of_ble_eq_true rfl) ?_
    refine lv_astore (lv' := [(6, .ref q9), (0, .ref ((gbg G))), (1, .int (iI xv)), (2, .int (iI xkind)), (3, .int (iI xlow)), (4, .int (iI xhigh)), (5, .ref ou)]) hx hb dL_narrowView_18 hl (by decide) rfl (fun ls hl => ?_)
    refine q_iconst hx hb dL_narrowView_20 ?_
    exact q_retMi (r := 1) (L := L) (F := F) C0 hret rfl hlk dL_narrowView_21 hP hD hS (LW_n1 hC hF_ou hn1)
  · refine q_cA C0 hN hT rfl hce hcv hcl ?_
    refine W.widen (k := 8) (n := 60) (Nat.le_of_ble_eq_true rfl) (Nat.le_of_ble_eq_true rfl) ?_
    refine lv_astore (lv' := [(6, .ref q9), (0, .ref ((gbg G))), (1, .int (iI xv)), (2, .int (iI xkind)), (3, .int (iI xlow)), (4, .int (iI xhigh)), (5, .ref ou)]) hx hb dL_narrowView_22 hl (by decide) rfl (fun ls hl => ?_)
    refine q_iconst hx hb dL_narrowView_24 ?_
    exact q_retMi (r := 2) (L := L) (F := F) C0 hret rfl hlk dL_narrowView_25 hP hD hS (LW_n2 hC hF_ou ho1 hn1)
  · refine W.widen (k := 8) (n := 60) (Nat.le_of_ble_eq_true rfl) (Nat.le_of_ble_eq_true rfl) ?_
    obtain ⟨hoA, hoB, hr, O1, G1, hC1, hg1, hE1⟩ := hp
    subst hr
    refine lv_i2l hx hb dL_narrowView_11 rfl ?_
    refine q_putN C0 iX4 tyX4 tyX4_ok nmX4 hP hD hS (hE1.1 _ ha_ou) ((hE1.2.1 _ ha_ou hO_ou).trans hF_ou) rfl 0 (by decide) C0.2.2.2.2.2.2.2.2.2.1 rfl rfl rfl rfl (Nat.le_of_ble_eq_true rfl) dL_narrowView_12 (fun H locs hP hD hS => ?_)
    refine lv_goto (tgt := 26) hx hb dL_narrowView_15 (by decide) ?_
    refine q_iconst hx hb dL_narrowView_26 ?_
    exact q_retMi (r := 0) (L := L1) (F := (va_up F1 ou (.inr (6, [.long ((iI (kR_narrowView σ xv xkind xlow xhigh)).toInt64), sv])))) C0 hret rfl hlk dL_narrowView_27 hP hD hS (LW_ok hC1 hg1 hE1 ha_ou hO_ou hoA hoB rfl)
set_option maxHeartbeats 800000 in
set_option maxRecDepth 100000 in
theorem c_L_buildFromView (l : Launch) (hfl : l.stackTraces = false) (D : va_G) (y : Nat → ClassId) (sl : List (Nat × Nat × Nat)) (L : List Nat) (F : Nat → va_E) (sz : Nat) (O : Nat → Prop) (G : CG) (σ : CS) (xb : Int) (xv : Int) (xw : Int) (ou : Nat) (nv : Int64) (sv : Value) (hC : CP y L F O G σ) (hW : CW σ) (h_xb : -2147483648 ≤ xb ∧ xb ≤ 2147483647) (h_xv : -2147483648 ≤ xv ∧ xv ≤ 2147483647) (h_xw : -2147483648 ≤ xw ∧ xw ≤ 2147483647) (ha_ou : ou ∈ L) (hF_ou : F ou = .inr (6, [.long nv, sv])) (hO_ou : ¬ O ou) : Met l yL_buildFromView (.codeWith yL_buildFromView cL_buildFromView 6 (some .int) [(0, 13, 16, 19), (0, 13, 20, 21)] :: Tt) ({ frames := 8, cells := 6, slots := 124, locals := 127 }) (PcT D y sl L F sz [.ref ((gbg G)), .int (iI xb), .int (iI xv), .int (iI xw), .ref ou]) (cMi D (AL L sz) (LWp y O G ou L F σ (kS_buildFromView σ xb xv xw) ((0 ≤ xb ∧ xb ≤ 3) ∧ (0 ≤ xv ∧ xv ≤ 1)) ((0 ≤ xw ∧ xw ≤ 1)) (iI (kR_buildFromView σ xb xv xw)).toInt64 2)) 6 124 (AL L sz) := by
  refine q_ofT (lv := [(0, .ref ((gbg G))), (1, .int (iI xb)), (2, .int (iI xv)), (3, .int (iI xw)), (4, .ref ou)]) (by decide) (Nat.le_of_ble_eq_true rfl) rfl (fun p e s m below meth c C0 hret hlk hT hsz hA hP hD hS hX hJ hN ls hl => ?_)
  subst hsz
  have hx := C0.1.1
  have hb := C0.1.2.1
  have hts := C0.1.2.2.2.2
  refine lv_aload hx hb dL_buildFromView_0 (lv_at hl 4 rfl) ?_
  refine lv_aload_n hx hb dL_buildFromView_2 rfl (lv_at hl 0 rfl) ?_
  refine lv_iload_n hx hb dL_buildFromView_3 rfl (lv_at hl 1 rfl) ?_
  refine lv_iload_n hx hb dL_buildFromView_4 rfl (lv_at hl 2 rfl) ?_
  refine lv_iload_n hx hb dL_buildFromView_5 rfl (lv_at hl 3 rfl) ?_
  refine q_vTi C0 lL_91 (c_X3_buildFromView l hfl D y L F _ O G σ xb xv xw hC hW h_xb h_xv h_xw) ⟨rfl, rfl⟩ rfl hP hD hA hX hC.1.1 hC.1.2 rfl rfl rfl hl rfl (Nat.le_of_ble_eq_true rfl) dL_buildFromView_6 ⟨(Nat.le_of_ble_eq_true rfl), (Nat.le_of_ble_eq_true rfl)⟩ (fun ce q9 H locs hn1 hP hD hS hce hcv hcl => ?_) (fun ce q9 H locs ho1 hn1 hP hD hS hce hcv hcl => ?_) (fun r H locs L1 F1 hP hD hS hp => ?_)
  · refine q_cI C0 hT rfl hce hcv hcl ?_
    refine W.widen (k := 6) (n := 124) (Nat.le_of_ble_eq_true rfl) (Nat.le_of_ble_eq_true rfl) ?_
    refine lv_astore (lv' := [(5, .ref q9), (0, .ref ((gbg G))), (1, .int (iI xb)), (2, .int (iI xv)), (3, .int (iI xw)), (4, .ref ou)]) hx hb dL_buildFromView_16 hl (by decide) rfl (fun ls hl => ?_)
    refine q_iconst hx hb dL_buildFromView_18 ?_
    exact q_retMi (r := 1) (L := L) (F := F) C0 hret rfl hlk dL_buildFromView_19 hP hD hS (LW_n1 hC hF_ou hn1)
  · refine q_cA C0 hN hT rfl hce hcv hcl ?_
    refine W.widen (k := 6) (n := 124) (Nat.le_of_ble_eq_true rfl) (Nat.le_of_ble_eq_true rfl) ?_
    refine lv_astore (lv' := [(5, .ref q9), (0, .ref ((gbg G))), (1, .int (iI xb)), (2, .int (iI xv)), (3, .int (iI xw)), (4, .ref ou)]) hx hb dL_buildFromView_20 hl (by decide) rfl (fun ls hl => ?_)
    refine q_iconst hx hb dL_buildFromView_22 ?_
    exact q_retMi (r := 2) (L := L) (F := F) C0 hret rfl hlk dL_buildFromView_23 hP hD hS (LW_n2 hC hF_ou ho1 hn1)
  · refine W.widen (k := 6) (n := 124) (Nat.le_of_ble_eq_true rfl) (Nat.le_of_ble_eq_true rfl) ?_
    obtain ⟨hoA, hoB, hr, O1, G1, hC1, hg1, hE1⟩ := hp
    subst hr
    refine lv_i2l hx hb dL_buildFromView_9 rfl ?_
    refine q_putN C0 iX4 tyX4 tyX4_ok nmX4 hP hD hS (hE1.1 _ ha_ou) ((hE1.2.1 _ ha_ou hO_ou).trans hF_ou) rfl 0 (by decide) C0.2.2.2.2.2.2.2.2.2.1 rfl rfl rfl rfl (Nat.le_of_ble_eq_true rfl) dL_buildFromView_10 (fun H locs hP hD hS => ?_)
    refine lv_goto (tgt := 24) hx hb dL_buildFromView_13 (by decide) ?_
    refine q_iconst hx hb dL_buildFromView_24 ?_
    exact q_retMi (r := 0) (L := L1) (F := (va_up F1 ou (.inr (6, [.long ((iI (kR_buildFromView σ xb xv xw)).toInt64), sv])))) C0 hret rfl hlk dL_buildFromView_25 hP hD hS (LW_ok hC1 hg1 hE1 ha_ou hO_ou hoA hoB rfl)
set_option maxHeartbeats 800000 in
set_option maxRecDepth 100000 in
theorem c_L_viewPut (l : Launch) (hfl : l.stackTraces = false) (D : va_G) (y : Nat → ClassId) (sl : List (Nat × Nat × Nat)) (L : List Nat) (F : Nat → va_E) (sz : Nat) (O : Nat → Prop) (G : CG) (σ : CS) (xv : Int) (xk : Int) (xw : Int) (ou : Nat) (nv : Int64) (sv : Value) (hC : CP y L F O G σ) (hW : CW σ) (h_xv : -2147483648 ≤ xv ∧ xv ≤ 2147483647) (h_xk : -2147483648 ≤ xk ∧ xk ≤ 2147483647) (h_xw : -2147483648 ≤ xw ∧ xw ≤ 2147483647) (ha_ou : ou ∈ L) (hF_ou : F ou = .inr (6, [.long nv, sv])) (hO_ou : ¬ O ou) : Met l yL_viewPut (.codeWith yL_viewPut cL_viewPut 6 (some .int) [(0, 13, 16, 19), (0, 13, 20, 21)] :: Tt) ({ frames := 8, cells := 8, slots := 60, locals := 128 }) (PcT D y sl L F sz [.ref ((gbg G)), .int (iI xv), .int (iI xk), .int (iI xw), .ref ou]) (cMi D (AL L sz) (LWp y O G ou L F σ (kS_viewPut σ xv xk xw) ((0 ≤ xv ∧ xv ≤ 1)) ((0 ≤ xk ∧ xk ≤ 99) ∧ (0 ≤ xw ∧ xw ≤ 99)) (iI (kR_viewPut σ xv xk xw)).toInt64 2)) 8 60 (AL L sz) := by
  refine q_ofT (lv := [(0, .ref ((gbg G))), (1, .int (iI xv)), (2, .int (iI xk)), (3, .int (iI xw)), (4, .ref ou)]) (by decide) (Nat.le_of_ble_eq_true rfl) rfl (fun p e s m below meth c C0 hret hlk hT hsz hA hP hD hS hX hJ hN ls hl => ?_)
  subst hsz
  have hx := C0.1.1
  have hb := C0.1.2.1
  have hts := C0.1.2.2.2.2
  refine lv_aload hx hb dL_viewPut_0 (lv_at hl 4 rfl) ?_
  refine lv_aload_n hx hb dL_viewPut_2 rfl (lv_at hl 0 rfl) ?_
  refine lv_iload_n hx hb dL_viewPut_3 rfl (lv_at hl 1 rfl) ?_
  refine lv_iload_n hx hb dL_viewPut_4 rfl (lv_at hl 2 rfl) ?_
  refine lv_iload_n hx hb dL_viewPut_5 rfl (lv_at hl 3 rfl) ?_
  refine q_vTi C0 lL_94 (c_X3_viewPut l hfl D y L F _ O G σ xv xk xw hC hW h_xv h_xk h_xw) ⟨rfl, rfl⟩ rfl hP hD hA hX hC.1.1 hC.1.2 rfl rfl rfl hl rfl (Nat.le_of_ble_eq_true rfl) dL_viewPut_6 ⟨(Nat.le_of_ble_eq_true rfl), (Nat.le_of_ble_eq_true rfl)⟩ (fun ce q9 H locs hn1 hP hD hS hce hcv hcl => ?_) (fun ce q9 H locs ho1 hn1 hP hD hS hce hcv hcl => ?_) (fun r H locs L1 F1 hP hD hS hp => ?_)
  · refine q_cI C0 hT rfl hce hcv hcl ?_
    refine W.widen (k := 8) (n := 60) (Nat.le_of_ble_eq_true rfl) (Nat.le_of_ble_eq_true rfl) ?_
    refine lv_astore (lv' := [(5, .ref q9), (0, .ref ((gbg G))), (1, .int (iI xv)), (2, .int (iI xk)), (3, .int (iI xw)), (4, .ref ou)]) hx hb dL_viewPut_16 hl (by decide) rfl (fun ls hl => ?_)
    refine q_iconst hx hb dL_viewPut_18 ?_
    exact q_retMi (r := 1) (L := L) (F := F) C0 hret rfl hlk dL_viewPut_19 hP hD hS (LW_n1 hC hF_ou hn1)
  · refine q_cA C0 hN hT rfl hce hcv hcl ?_
    refine W.widen (k := 8) (n := 60) (Nat.le_of_ble_eq_true rfl) (Nat.le_of_ble_eq_true rfl) ?_
    refine lv_astore (lv' := [(5, .ref q9), (0, .ref ((gbg G))), (1, .int (iI xv)), (2, .int (iI xk)), (3, .int (iI xw)), (4, .ref ou)]) hx hb dL_viewPut_20 hl (by decide) rfl (fun ls hl => ?_)
    refine q_iconst hx hb dL_viewPut_22 ?_
    exact q_retMi (r := 2) (L := L) (F := F) C0 hret rfl hlk dL_viewPut_23 hP hD hS (LW_n2 hC hF_ou ho1 hn1)
  · refine W.widen (k := 8) (n := 60) (Nat.le_of_ble_eq_true rfl) (Nat.le_of_ble_eq_true rfl) ?_
    obtain ⟨hoA, hoB, hr, O1, G1, hC1, hg1, hE1⟩ := hp
    subst hr
    refine lv_i2l hx hb dL_viewPut_9 rfl ?_
    refine q_putN C0 iX4 tyX4 tyX4_ok nmX4 hP hD hS (hE1.1 _ ha_ou) ((hE1.2.1 _ ha_ou hO_ou).trans hF_ou) rfl 0 (by decide) C0.2.2.2.2.2.2.2.2.2.1 rfl rfl rfl rfl (Nat.le_of_ble_eq_true rfl) dL_viewPut_10 (fun H locs hP hD hS => ?_)
    refine lv_goto (tgt := 24) hx hb dL_viewPut_13 (by decide) ?_
    refine q_iconst hx hb dL_viewPut_24 ?_
    exact q_retMi (r := 0) (L := L1) (F := (va_up F1 ou (.inr (6, [.long ((iI (kR_viewPut σ xv xk xw)).toInt64), sv])))) C0 hret rfl hlk dL_viewPut_25 hP hD hS (LW_ok hC1 hg1 hE1 ha_ou hO_ou hoA hoB rfl)
set_option maxHeartbeats 800000 in
set_option maxRecDepth 100000 in
theorem c_L_viewTake (l : Launch) (hfl : l.stackTraces = false) (D : va_G) (y : Nat → ClassId) (sl : List (Nat × Nat × Nat)) (L : List Nat) (F : Nat → va_E) (sz : Nat) (O : Nat → Prop) (G : CG) (σ : CS) (xv : Int) (xk : Int) (ou : Nat) (nv : Int64) (sv : Value) (hC : CP y L F O G σ) (hW : CW σ) (h_xv : -2147483648 ≤ xv ∧ xv ≤ 2147483647) (h_xk : -2147483648 ≤ xk ∧ xk ≤ 2147483647) (ha_ou : ou ∈ L) (hF_ou : F ou = .inr (6, [.long nv, sv])) (hO_ou : ¬ O ou) : Met l yL_viewTake (.codeWith yL_viewTake cL_viewTake 5 (some .int) [(0, 11, 14, 19), (0, 11, 18, 21)] :: Tt) ({ frames := 8, cells := 8, slots := 60, locals := 127 }) (PcT D y sl L F sz [.ref ((gbg G)), .int (iI xv), .int (iI xk), .ref ou]) (cMi D (AL L sz) (LWp y O G ou L F σ (kS_viewTake σ xv xk) ((0 ≤ xv ∧ xv ≤ 1)) ((0 ≤ xk ∧ xk ≤ 99)) (iI (kR_viewTake σ xv xk)).toInt64 2)) 8 60 (AL L sz) := by
  refine q_ofT (lv := [(0, .ref ((gbg G))), (1, .int (iI xv)), (2, .int (iI xk)), (3, .ref ou)]) (by decide) (Nat.le_of_ble_eq_true rfl) rfl (fun p e s m below meth c C0 hret hlk hT hsz hA hP hD hS hX hJ hN ls hl => ?_)
  subst hsz
  have hx := C0.1.1
  have hb := C0.1.2.1
  have hts := C0.1.2.2.2.2
  refine lv_aload_n hx hb dL_viewTake_0 rfl (lv_at hl 3 rfl) ?_
  refine lv_aload_n hx hb dL_viewTake_1 rfl (lv_at hl 0 rfl) ?_
  refine lv_iload_n hx hb dL_viewTake_2 rfl (lv_at hl 1 rfl) ?_
  refine lv_iload_n hx hb dL_viewTake_3 rfl (lv_at hl 2 rfl) ?_
  refine q_vTi C0 lL_97 (c_X3_viewTake l hfl D y L F _ O G σ xv xk hC hW h_xv h_xk) ⟨rfl, rfl⟩ rfl hP hD hA hX hC.1.1 hC.1.2 rfl rfl rfl hl rfl (Nat.le_of_ble_eq_true rfl) dL_viewTake_4 ⟨(Nat.le_of_ble_eq_true rfl), (Nat.le_of_ble_eq_true rfl)⟩ (fun ce q9 H locs hn1 hP hD hS hce hcv hcl => ?_) (fun ce q9 H locs ho1 hn1 hP hD hS hce hcv hcl => ?_) (fun r H locs L1 F1 hP hD hS hp => ?_)
  · refine q_cI C0 hT rfl hce hcv hcl ?_
    refine W.widen (k := 8) (n := 60) (Nat.le_of_ble_eq_true rfl) (Nat.le_of_ble_eq_true rfl) ?_
    refine lv_astore (lv' := [(4, .ref q9), (0, .ref ((gbg G))), (1, .int (iI xv)), (2, .int (iI xk)), (3, .ref ou)]) hx hb dL_viewTake_14 hl (by decide) rfl (fun ls hl => ?_)
    refine q_iconst hx hb dL_viewTake_16 ?_
    exact q_retMi (r := 1) (L := L) (F := F) C0 hret rfl hlk dL_viewTake_17 hP hD hS (LW_n1 hC hF_ou hn1)
  · refine q_cA C0 hN hT rfl hce hcv hcl ?_
    refine W.widen (k := 8) (n := 60) (Nat.le_of_ble_eq_true rfl) (Nat.le_of_ble_eq_true rfl) ?_
    refine lv_astore (lv' := [(4, .ref q9), (0, .ref ((gbg G))), (1, .int (iI xv)), (2, .int (iI xk)), (3, .ref ou)]) hx hb dL_viewTake_18 hl (by decide) rfl (fun ls hl => ?_)
    refine q_iconst hx hb dL_viewTake_20 ?_
    exact q_retMi (r := 2) (L := L) (F := F) C0 hret rfl hlk dL_viewTake_21 hP hD hS (LW_n2 hC hF_ou ho1 hn1)
  · refine W.widen (k := 8) (n := 60) (Nat.le_of_ble_eq_true rfl) (Nat.le_of_ble_eq_true rfl) ?_
    obtain ⟨hoA, hoB, hr, O1, G1, hC1, hg1, hE1⟩ := hp
    subst hr
    refine lv_i2l hx hb dL_viewTake_7 rfl ?_
    refine q_putN C0 iX4 tyX4 tyX4_ok nmX4 hP hD hS (hE1.1 _ ha_ou) ((hE1.2.1 _ ha_ou hO_ou).trans hF_ou) rfl 0 (by decide) C0.2.2.2.2.2.2.2.2.2.1 rfl rfl rfl rfl (Nat.le_of_ble_eq_true rfl) dL_viewTake_8 (fun H locs hP hD hS => ?_)
    refine lv_goto (tgt := 22) hx hb dL_viewTake_11 (by decide) ?_
    refine q_iconst hx hb dL_viewTake_22 ?_
    exact q_retMi (r := 0) (L := L1) (F := (va_up F1 ou (.inr (6, [.long ((iI (kR_viewTake σ xv xk)).toInt64), sv])))) C0 hret rfl hlk dL_viewTake_23 hP hD hS (LW_ok hC1 hg1 hE1 ha_ou hO_ou hoA hoB rfl)
set_option maxHeartbeats 800000 in
set_option maxRecDepth 100000 in
theorem c_L_viewDrop (l : Launch) (hfl : l.stackTraces = false) (D : va_G) (y : Nat → ClassId) (sl : List (Nat × Nat × Nat)) (L : List Nat) (F : Nat → va_E) (sz : Nat) (O : Nat → Prop) (G : CG) (σ : CS) (xv : Int) (xt : Int) (ou : Nat) (nv : Int64) (sv : Value) (hC : CP y L F O G σ) (hW : CW σ) (h_xv : -2147483648 ≤ xv ∧ xv ≤ 2147483647) (h_xt : -2147483648 ≤ xt ∧ xt ≤ 2147483647) (ha_ou : ou ∈ L) (hF_ou : F ou = .inr (6, [.long nv, sv])) (hO_ou : ¬ O ou) : Met l yL_viewDrop (.codeWith yL_viewDrop cL_viewDrop 5 (some .int) [(0, 11, 14, 19), (0, 11, 18, 21)] :: Tt) ({ frames := 8, cells := 8, slots := 60, locals := 126 }) (PcT D y sl L F sz [.ref ((gbg G)), .int (iI xv), .int (iI xt), .ref ou]) (cMi D (AL L sz) (LWp y O G ou L F σ (kS_viewDrop σ xv xt) ((0 ≤ xv ∧ xv ≤ 1)) ((0 ≤ xt ∧ xt ≤ 2)) (iI (kR_viewDrop σ xv xt)).toInt64 2)) 8 60 (AL L sz) := by
  refine q_ofT (lv := [(0, .ref ((gbg G))), (1, .int (iI xv)), (2, .int (iI xt)), (3, .ref ou)]) (by decide) (Nat.le_of_ble_eq_true rfl) rfl (fun p e s m below meth c C0 hret hlk hT hsz hA hP hD hS hX hJ hN ls hl => ?_)
  subst hsz
  have hx := C0.1.1
  have hb := C0.1.2.1
  have hts := C0.1.2.2.2.2
  refine lv_aload_n hx hb dL_viewDrop_0 rfl (lv_at hl 3 rfl) ?_
  refine lv_aload_n hx hb dL_viewDrop_1 rfl (lv_at hl 0 rfl) ?_
  refine lv_iload_n hx hb dL_viewDrop_2 rfl (lv_at hl 1 rfl) ?_
  refine lv_iload_n hx hb dL_viewDrop_3 rfl (lv_at hl 2 rfl) ?_
  refine q_vTi C0 lL_100 (c_X3_viewDrop l hfl D y L F _ O G σ xv xt hC hW h_xv h_xt) ⟨rfl, rfl⟩ rfl hP hD hA hX hC.1.1 hC.1.2 rfl rfl rfl hl rfl (Nat.le_of_ble_eq_true rfl) dL_viewDrop_4 ⟨(Nat.le_of_ble_eq_true rfl), (Nat.le_of_ble_eq_true rfl)⟩ (fun ce q9 H locs hn1 hP hD hS hce hcv hcl => ?_) (fun ce q9 H locs ho1 hn1 hP hD hS hce hcv hcl => ?_) (fun r H locs L1 F1 hP hD hS hp => ?_)
  · refine q_cI C0 hT rfl hce hcv hcl ?_
    refine W.widen (k := 8) (n := 60) (Nat.le_of_ble_eq_true rfl) (Nat.le_of_ble_eq_true rfl) ?_
    refine lv_astore (lv' := [(4, .ref q9), (0, .ref ((gbg G))), (1, .int (iI xv)), (2, .int (iI xt)), (3, .ref ou)]) hx hb dL_viewDrop_14 hl (by decide) rfl (fun ls hl => ?_)
    refine q_iconst hx hb dL_viewDrop_16 ?_
    exact q_retMi (r := 1) (L := L) (F := F) C0 hret rfl hlk dL_viewDrop_17 hP hD hS (LW_n1 hC hF_ou hn1)
  · refine q_cA C0 hN hT rfl hce hcv hcl ?_
    refine W.widen (k := 8) (n := 60) (Nat.le_of_ble_eq_true rfl) (Nat.le_of_ble_eq_true rfl) ?_
    refine lv_astore (lv' := [(4, .ref q9), (0, .ref ((gbg G))), (1, .int (iI xv)), (2, .int (iI xt)), (3, .ref ou)]) hx hb dL_viewDrop_18 hl (by decide) rfl (fun ls hl => ?_)
    refine q_iconst hx hb dL_viewDrop_20 ?_
    exact q_retMi (r := 2) (L := L) (F := F) C0 hret rfl hlk dL_viewDrop_21 hP hD hS (LW_n2 hC hF_ou ho1 hn1)
  · refine W.widen (k := 8) (n := 60) (Nat.le_of_ble_eq_true rfl) (Nat.le_of_ble_eq_true rfl) ?_
    obtain ⟨hoA, hoB, hr, O1, G1, hC1, hg1, hE1⟩ := hp
    subst hr
    refine lv_i2l hx hb dL_viewDrop_7 rfl ?_
    refine q_putN C0 iX4 tyX4 tyX4_ok nmX4 hP hD hS (hE1.1 _ ha_ou) ((hE1.2.1 _ ha_ou hO_ou).trans hF_ou) rfl 0 (by decide) C0.2.2.2.2.2.2.2.2.2.1 rfl rfl rfl rfl (Nat.le_of_ble_eq_true rfl) dL_viewDrop_8 (fun H locs hP hD hS => ?_)
    refine lv_goto (tgt := 22) hx hb dL_viewDrop_11 (by decide) ?_
    refine q_iconst hx hb dL_viewDrop_22 ?_
    exact q_retMi (r := 0) (L := L1) (F := (va_up F1 ou (.inr (6, [.long ((iI (kR_viewDrop σ xv xt)).toInt64), sv])))) C0 hret rfl hlk dL_viewDrop_23 hP hD hS (LW_ok hC1 hg1 hE1 ha_ou hO_ou hoA hoB rfl)
set_option maxHeartbeats 800000 in
set_option maxRecDepth 100000 in
theorem c_L_viewNear (l : Launch) (hfl : l.stackTraces = false) (D : va_G) (y : Nat → ClassId) (sl : List (Nat × Nat × Nat)) (L : List Nat) (F : Nat → va_E) (sz : Nat) (O : Nat → Prop) (G : CG) (σ : CS) (xv : Int) (xk : Int) (xt : Int) (ou : Nat) (nv : Int64) (sv : Value) (hC : CP y L F O G σ) (hW : CW σ) (h_xv : -2147483648 ≤ xv ∧ xv ≤ 2147483647) (h_xk : -2147483648 ≤ xk ∧ xk ≤ 2147483647) (h_xt : -2147483648 ≤ xt ∧ xt ≤ 2147483647) (ha_ou : ou ∈ L) (hF_ou : F ou = .inr (6, [.long nv, sv])) (hO_ou : ¬ O ou) : Met l yL_viewNear (.codeWith yL_viewNear cL_viewNear 6 (some .int) [(0, 13, 16, 19), (0, 13, 20, 21)] :: Tt) ({ frames := 8, cells := 8, slots := 60, locals := 127 }) (PcT D y sl L F sz [.ref ((gbg G)), .int (iI xv), .int (iI xk), .int (iI xt), .ref ou]) (cMi D (AL L sz) (LWp y O G ou L F σ (kS_viewNear σ xv xk xt) ((0 ≤ xv ∧ xv ≤ 1)) ((0 ≤ xk ∧ xk ≤ 99) ∧ (0 ≤ xt ∧ xt ≤ 4)) (iI (kR_viewNear σ xv xk xt)).toInt64 2)) 8 60 (AL L sz) := by
  refine q_ofT (lv := [(0, .ref ((gbg G))), (1, .int (iI xv)), (2, .int (iI xk)), (3, .int (iI xt)), (4, .ref ou)]) (by decide) (Nat.le_of_ble_eq_true rfl) rfl (fun p e s m below meth c C0 hret hlk hT hsz hA hP hD hS hX hJ hN ls hl => ?_)
  subst hsz
  have hx := C0.1.1
  have hb := C0.1.2.1
  have hts := C0.1.2.2.2.2
  refine lv_aload hx hb dL_viewNear_0 (lv_at hl 4 rfl) ?_
  refine lv_aload_n hx hb dL_viewNear_2 rfl (lv_at hl 0 rfl) ?_
  refine lv_iload_n hx hb dL_viewNear_3 rfl (lv_at hl 1 rfl) ?_
  refine lv_iload_n hx hb dL_viewNear_4 rfl (lv_at hl 2 rfl) ?_
  refine lv_iload_n hx hb dL_viewNear_5 rfl (lv_at hl 3 rfl) ?_
  refine q_vTi C0 lL_103 (c_X3_viewNear l hfl D y L F _ O G σ xv xk xt hC hW h_xv h_xk h_xt) ⟨rfl, rfl⟩ rfl hP hD hA hX hC.1.1 hC.1.2 rfl rfl rfl hl rfl (Nat.le_of_ble_eq_true rfl) dL_viewNear_6 ⟨(Nat.le_of_ble_eq_true rfl), (Nat.le_of_ble_eq_true rfl)⟩ (fun ce q9 H locs hn1 hP hD hS hce hcv hcl => ?_) (fun ce q9 H locs ho1 hn1 hP hD hS hce hcv hcl => ?_) (fun r H locs L1 F1 hP hD hS hp => ?_)
  · refine q_cI C0 hT rfl hce hcv hcl ?_
    refine W.widen (k := 8) (n := 60) (Nat.le_of_ble_eq_true rfl) (Nat.le_of_ble_eq_true rfl) ?_
    refine lv_astore (lv' := [(5, .ref q9), (0, .ref ((gbg G))), (1, .int (iI xv)), (2, .int (iI xk)), (3, .int (iI xt)), (4, .ref ou)]) hx hb dL_viewNear_16 hl (by decide) rfl (fun ls hl => ?_)
    refine q_iconst hx hb dL_viewNear_18 ?_
    exact q_retMi (r := 1) (L := L) (F := F) C0 hret rfl hlk dL_viewNear_19 hP hD hS (LW_n1 hC hF_ou hn1)
  · refine q_cA C0 hN hT rfl hce hcv hcl ?_
    refine W.widen (k := 8) (n := 60) (Nat.le_of_ble_eq_true rfl) (Nat.le_of_ble_eq_true rfl) ?_
    refine lv_astore (lv' := [(5, .ref q9), (0, .ref ((gbg G))), (1, .int (iI xv)), (2, .int (iI xk)), (3, .int (iI xt)), (4, .ref ou)]) hx hb dL_viewNear_20 hl (by decide) rfl (fun ls hl => ?_)
    refine q_iconst hx hb dL_viewNear_22 ?_
    exact q_retMi (r := 2) (L := L) (F := F) C0 hret rfl hlk dL_viewNear_23 hP hD hS (LW_n2 hC hF_ou ho1 hn1)
  · refine W.widen (k := 8) (n := 60) (Nat.le_of_ble_eq_true rfl) (Nat.le_of_ble_eq_true rfl) ?_
    obtain ⟨hoA, hoB, hr, O1, G1, hC1, hg1, hE1⟩ := hp
    subst hr
    refine lv_i2l hx hb dL_viewNear_9 rfl ?_
    refine q_putN C0 iX4 tyX4 tyX4_ok nmX4 hP hD hS (hE1.1 _ ha_ou) ((hE1.2.1 _ ha_ou hO_ou).trans hF_ou) rfl 0 (by decide) C0.2.2.2.2.2.2.2.2.2.1 rfl rfl rfl rfl (Nat.le_of_ble_eq_true rfl) dL_viewNear_10 (fun H locs hP hD hS => ?_)
    refine lv_goto (tgt := 24) hx hb dL_viewNear_13 (by decide) ?_
    refine q_iconst hx hb dL_viewNear_24 ?_
    exact q_retMi (r := 0) (L := L1) (F := (va_up F1 ou (.inr (6, [.long ((iI (kR_viewNear σ xv xk xt)).toInt64), sv])))) C0 hret rfl hlk dL_viewNear_25 hP hD hS (LW_ok hC1 hg1 hE1 ha_ou hO_ou hoA hoB rfl)
set_option maxHeartbeats 800000 in
set_option maxRecDepth 100000 in
theorem c_L_viewTell (l : Launch) (hfl : l.stackTraces = false) (D : va_G) (y : Nat → ClassId) (sl : List (Nat × Nat × Nat)) (L : List Nat) (F : Nat → va_E) (sz : Nat) (O : Nat → Prop) (G : CG) (σ : CS) (xv : Int) (xt : Int) (ou : Nat) (nv : Int64) (sv : Value) (hC : CP y L F O G σ) (hW : CW σ) (h_xv : -2147483648 ≤ xv ∧ xv ≤ 2147483647) (h_xt : -2147483648 ≤ xt ∧ xt ≤ 2147483647) (ha_ou : ou ∈ L) (hF_ou : F ou = .inr (6, [.long nv, sv])) (hO_ou : ¬ O ou) : Met l yL_viewTell (.codeWith yL_viewTell cL_viewTell 5 (some .int) [(0, 11, 14, 19), (0, 11, 18, 21)] :: Tt) ({ frames := 8, cells := 8, slots := 60, locals := 126 }) (PcT D y sl L F sz [.ref ((gbg G)), .int (iI xv), .int (iI xt), .ref ou]) (cMi D (AL L sz) (LWp y O G ou L F σ (kS_viewTell σ xv xt) ((0 ≤ xv ∧ xv ≤ 1)) ((0 ≤ xt ∧ xt ≤ 3)) (iI (kR_viewTell σ xv xt)).toInt64 2)) 8 60 (AL L sz) := by
  refine q_ofT (lv := [(0, .ref ((gbg G))), (1, .int (iI xv)), (2, .int (iI xt)), (3, .ref ou)]) (by decide) (Nat.le_of_ble_eq_true rfl) rfl (fun p e s m below meth c C0 hret hlk hT hsz hA hP hD hS hX hJ hN ls hl => ?_)
  subst hsz
  have hx := C0.1.1
  have hb := C0.1.2.1
  have hts := C0.1.2.2.2.2
  refine lv_aload_n hx hb dL_viewTell_0 rfl (lv_at hl 3 rfl) ?_
  refine lv_aload_n hx hb dL_viewTell_1 rfl (lv_at hl 0 rfl) ?_
  refine lv_iload_n hx hb dL_viewTell_2 rfl (lv_at hl 1 rfl) ?_
  refine lv_iload_n hx hb dL_viewTell_3 rfl (lv_at hl 2 rfl) ?_
  refine q_vTi C0 lL_106 (c_X3_viewTell l hfl D y L F _ O G σ xv xt hC hW h_xv h_xt) ⟨rfl, rfl⟩ rfl hP hD hA hX hC.1.1 hC.1.2 rfl rfl rfl hl rfl (Nat.le_of_ble_eq_true rfl) dL_viewTell_4 ⟨(Nat.le_of_ble_eq_true rfl), (Nat.le_of_ble_eq_true rfl)⟩ (fun ce q9 H locs hn1 hP hD hS hce hcv hcl => ?_) (fun ce q9 H locs ho1 hn1 hP hD hS hce hcv hcl => ?_) (fun r H locs L1 F1 hP hD hS hp => ?_)
  · refine q_cI C0 hT rfl hce hcv hcl ?_
    refine W.widen (k := 8) (n := 60) (Nat.le_of_ble_eq_true rfl) (Nat.le_of_ble_eq_true rfl) ?_
    refine lv_astore (lv' := [(4, .ref q9), (0, .ref ((gbg G))), (1, .int (iI xv)), (2, .int (iI xt)), (3, .ref ou)]) hx hb dL_viewTell_14 hl (by decide) rfl (fun ls hl => ?_)
    refine q_iconst hx hb dL_viewTell_16 ?_
    exact q_retMi (r := 1) (L := L) (F := F) C0 hret rfl hlk dL_viewTell_17 hP hD hS (LW_n1 hC hF_ou hn1)
  · refine q_cA C0 hN hT rfl hce hcv hcl ?_
    refine W.widen (k := 8) (n := 60) (Nat.le_of_ble_eq_true rfl) (Nat.le_of_ble_eq_true rfl) ?_
    refine lv_astore (lv' := [(4, .ref q9), (0, .ref ((gbg G))), (1, .int (iI xv)), (2, .int (iI xt)), (3, .ref ou)]) hx hb dL_viewTell_18 hl (by decide) rfl (fun ls hl => ?_)
    refine q_iconst hx hb dL_viewTell_20 ?_
    exact q_retMi (r := 2) (L := L) (F := F) C0 hret rfl hlk dL_viewTell_21 hP hD hS (LW_n2 hC hF_ou ho1 hn1)
  · refine W.widen (k := 8) (n := 60) (Nat.le_of_ble_eq_true rfl) (Nat.le_of_ble_eq_true rfl) ?_
    obtain ⟨hoA, hoB, hr, O1, G1, hC1, hg1, hE1⟩ := hp
    subst hr
    refine lv_i2l hx hb dL_viewTell_7 rfl ?_
    refine q_putN C0 iX4 tyX4 tyX4_ok nmX4 hP hD hS (hE1.1 _ ha_ou) ((hE1.2.1 _ ha_ou hO_ou).trans hF_ou) rfl 0 (by decide) C0.2.2.2.2.2.2.2.2.2.1 rfl rfl rfl rfl (Nat.le_of_ble_eq_true rfl) dL_viewTell_8 (fun H locs hP hD hS => ?_)
    refine lv_goto (tgt := 22) hx hb dL_viewTell_11 (by decide) ?_
    refine q_iconst hx hb dL_viewTell_22 ?_
    exact q_retMi (r := 0) (L := L1) (F := (va_up F1 ou (.inr (6, [.long ((iI (kR_viewTell σ xv xt)).toInt64), sv])))) C0 hret rfl hlk dL_viewTell_23 hP hD hS (LW_ok hC1 hg1 hE1 ha_ou hO_ou hoA hoB rfl)
set_option maxHeartbeats 800000 in
set_option maxRecDepth 100000 in
theorem c_L_startWalk (l : Launch) (hfl : l.stackTraces = false) (D : va_G) (y : Nat → ClassId) (sl : List (Nat × Nat × Nat)) (L : List Nat) (F : Nat → va_E) (sz : Nat) (O : Nat → Prop) (G : CG) (σ : CS) (xb : Int) (ou : Nat) (nv : Int64) (sv : Value) (hC : CP y L F O G σ) (hW : CW σ) (h_xb : -2147483648 ≤ xb ∧ xb ≤ 2147483647) (ha_ou : ou ∈ L) (hF_ou : F ou = .inr (6, [.long nv, sv])) (hO_ou : ¬ O ou) : Met l yL_startWalk (.codeWith yL_startWalk cL_startWalk 4 (some .int) [(0, 10, 13, 19)] :: Tt) ({ frames := 8, cells := 8, slots := 60, locals := 125 }) (PcT D y sl L F sz [.ref ((gbg G)), .int (iI xb), .ref ou]) (cMi D (AL L sz) (LWp y O G ou L F σ (kS_startWalk σ xb) ((0 ≤ xb ∧ xb ≤ 3)) (True) (iI (kR_startWalk σ xb)).toInt64 1)) 8 60 (AL L sz) := by
  refine q_ofT (lv := [(0, .ref ((gbg G))), (1, .int (iI xb)), (2, .ref ou)]) (by decide) (Nat.le_of_ble_eq_true rfl) rfl (fun p e s m below meth c C0 hret hlk hT hsz hA hP hD hS hX hJ hN ls hl => ?_)
  subst hsz
  have hx := C0.1.1
  have hb := C0.1.2.1
  have hts := C0.1.2.2.2.2
  refine lv_aload_n hx hb dL_startWalk_0 rfl (lv_at hl 2 rfl) ?_
  refine lv_aload_n hx hb dL_startWalk_1 rfl (lv_at hl 0 rfl) ?_
  refine lv_iload_n hx hb dL_startWalk_2 rfl (lv_at hl 1 rfl) ?_
  refine q_vTi C0 lL_109 (c_X3_startWalk l hfl D y L F _ O G σ xb hC hW h_xb) ⟨rfl, rfl⟩ rfl hP hD hA hX hC.1.1 hC.1.2 rfl rfl rfl hl rfl (Nat.le_of_ble_eq_true rfl) dL_startWalk_3 ⟨(Nat.le_of_ble_eq_true rfl), (Nat.le_of_ble_eq_true rfl)⟩ (fun ce q9 H locs hn1 hP hD hS hce hcv hcl => ?_) (fun ce q9 H locs ho1 hn1 hP hD hS hce hcv hcl => ?_) (fun r H locs L1 F1 hP hD hS hp => ?_)
  · refine q_cI C0 hT rfl hce hcv hcl ?_
    refine W.widen (k := 8) (n := 60) (Nat.le_of_ble_eq_true rfl) (Nat.le_of_ble_eq_true rfl) ?_
    refine lv_astore_n (lv' := [(3, .ref q9), (0, .ref ((gbg G))), (1, .int (iI xb)), (2, .ref ou)]) hx hb dL_startWalk_13 rfl hl (by decide) rfl (fun ls hl => ?_)
    refine q_iconst hx hb dL_startWalk_14 ?_
    exact q_retMi (r := 1) (L := L) (F := F) C0 hret rfl hlk dL_startWalk_15 hP hD hS (LW_n1 hC hF_ou hn1)
  · exact absurd trivial hn1
  · refine W.widen (k := 8) (n := 60) (Nat.le_of_ble_eq_true rfl) (Nat.le_of_ble_eq_true rfl) ?_
    obtain ⟨hoA, hoB, hr, O1, G1, hC1, hg1, hE1⟩ := hp
    subst hr
    refine lv_i2l hx hb dL_startWalk_6 rfl ?_
    refine q_putN C0 iX4 tyX4 tyX4_ok nmX4 hP hD hS (hE1.1 _ ha_ou) ((hE1.2.1 _ ha_ou hO_ou).trans hF_ou) rfl 0 (by decide) C0.2.2.2.2.2.2.2.2.2.1 rfl rfl rfl rfl (Nat.le_of_ble_eq_true rfl) dL_startWalk_7 (fun H locs hP hD hS => ?_)
    refine lv_goto (tgt := 16) hx hb dL_startWalk_10 (by decide) ?_
    refine q_iconst hx hb dL_startWalk_16 ?_
    exact q_retMi (r := 0) (L := L1) (F := (va_up F1 ou (.inr (6, [.long ((iI (kR_startWalk σ xb)).toInt64), sv])))) C0 hret rfl hlk dL_startWalk_17 hP hD hS (LW_ok hC1 hg1 hE1 ha_ou hO_ou hoA hoB rfl)
set_option maxHeartbeats 800000 in
set_option maxRecDepth 100000 in
theorem c_L_freshShelf (l : Launch) (hfl : l.stackTraces = false) (D : va_G) (y : Nat → ClassId) (sl : List (Nat × Nat × Nat)) (L : List Nat) (F : Nat → va_E) (sz : Nat) (O : Nat → Prop) (G : CG) (σ : CS) (xb : Int) (xo : Int) (ou : Nat) (nv : Int64) (sv : Value) (hC : CP y L F O G σ) (hW : CW σ) (h_xb : -2147483648 ≤ xb ∧ xb ≤ 2147483647) (h_xo : -2147483648 ≤ xo ∧ xo ≤ 2147483647) (ha_ou : ou ∈ L) (hF_ou : F ou = .inr (6, [.long nv, sv])) (hO_ou : ¬ O ou) : Met l yL_freshShelf (.codeWith yL_freshShelf cL_freshShelf 5 (some .int) [(0, 11, 14, 19), (0, 11, 18, 21)] :: Tt) ({ frames := 8, cells := 6, slots := 124, locals := 126 }) (PcT D y sl L F sz [.ref ((gbg G)), .int (iI xb), .int (iI xo), .ref ou]) (cMi D (AL L sz) (LWp y O G ou L F σ (kS_freshShelf σ xb xo) ((0 ≤ xb ∧ xb ≤ 2)) ((0 ≤ xo ∧ xo ≤ 2)) (iI (kR_freshShelf σ xb xo)).toInt64 2)) 6 124 (AL L sz) := by
  refine q_ofT (lv := [(0, .ref ((gbg G))), (1, .int (iI xb)), (2, .int (iI xo)), (3, .ref ou)]) (by decide) (Nat.le_of_ble_eq_true rfl) rfl (fun p e s m below meth c C0 hret hlk hT hsz hA hP hD hS hX hJ hN ls hl => ?_)
  subst hsz
  have hx := C0.1.1
  have hb := C0.1.2.1
  have hts := C0.1.2.2.2.2
  refine lv_aload_n hx hb dL_freshShelf_0 rfl (lv_at hl 3 rfl) ?_
  refine lv_aload_n hx hb dL_freshShelf_1 rfl (lv_at hl 0 rfl) ?_
  refine lv_iload_n hx hb dL_freshShelf_2 rfl (lv_at hl 1 rfl) ?_
  refine lv_iload_n hx hb dL_freshShelf_3 rfl (lv_at hl 2 rfl) ?_
  refine q_vTi C0 lL_116 (c_X3_freshShelf l hfl D y L F _ O G σ xb xo hC hW h_xb h_xo) ⟨rfl, rfl⟩ rfl hP hD hA hX hC.1.1 hC.1.2 rfl rfl rfl hl rfl (Nat.le_of_ble_eq_true rfl) dL_freshShelf_4 ⟨(Nat.le_of_ble_eq_true rfl), (Nat.le_of_ble_eq_true rfl)⟩ (fun ce q9 H locs hn1 hP hD hS hce hcv hcl => ?_) (fun ce q9 H locs ho1 hn1 hP hD hS hce hcv hcl => ?_) (fun r H locs L1 F1 hP hD hS hp => ?_)
  · refine q_cI C0 hT rfl hce hcv hcl ?_
    refine W.widen (k := 6) (n := 124) (Nat.le_of_ble_eq_true rfl) (Nat.le_of_ble_eq_true rfl) ?_
    refine lv_astore (lv' := [(4, .ref q9), (0, .ref ((gbg G))), (1, .int (iI xb)), (2, .int (iI xo)), (3, .ref ou)]) hx hb dL_freshShelf_14 hl (by decide) rfl (fun ls hl => ?_)
    refine q_iconst hx hb dL_freshShelf_16 ?_
    exact q_retMi (r := 1) (L := L) (F := F) C0 hret rfl hlk dL_freshShelf_17 hP hD hS (LW_n1 hC hF_ou hn1)
  · refine q_cA C0 hN hT rfl hce hcv hcl ?_
    refine W.widen (k := 6) (n := 124) (Nat.le_of_ble_eq_true rfl) (Nat.le_of_ble_eq_true rfl) ?_
    refine lv_astore (lv' := [(4, .ref q9), (0, .ref ((gbg G))), (1, .int (iI xb)), (2, .int (iI xo)), (3, .ref ou)]) hx hb dL_freshShelf_18 hl (by decide) rfl (fun ls hl => ?_)
    refine q_iconst hx hb dL_freshShelf_20 ?_
    exact q_retMi (r := 2) (L := L) (F := F) C0 hret rfl hlk dL_freshShelf_21 hP hD hS (LW_n2 hC hF_ou ho1 hn1)
  · refine W.widen (k := 6) (n := 124) (Nat.le_of_ble_eq_true rfl) (Nat.le_of_ble_eq_true rfl) ?_
    obtain ⟨hoA, hoB, hr, O1, G1, hC1, hg1, hE1⟩ := hp
    subst hr
    refine lv_i2l hx hb dL_freshShelf_7 rfl ?_
    refine q_putN C0 iX4 tyX4 tyX4_ok nmX4 hP hD hS (hE1.1 _ ha_ou) ((hE1.2.1 _ ha_ou hO_ou).trans hF_ou) rfl 0 (by decide) C0.2.2.2.2.2.2.2.2.2.1 rfl rfl rfl rfl (Nat.le_of_ble_eq_true rfl) dL_freshShelf_8 (fun H locs hP hD hS => ?_)
    refine lv_goto (tgt := 22) hx hb dL_freshShelf_11 (by decide) ?_
    refine q_iconst hx hb dL_freshShelf_22 ?_
    exact q_retMi (r := 0) (L := L1) (F := (va_up F1 ou (.inr (6, [.long ((iI (kR_freshShelf σ xb xo)).toInt64), sv])))) C0 hret rfl hlk dL_freshShelf_23 hP hD hS (LW_ok hC1 hg1 hE1 ha_ou hO_ou hoA hoB rfl)
set_option maxHeartbeats 800000 in
set_option maxRecDepth 100000 in
theorem c_L_buildShelf (l : Launch) (hfl : l.stackTraces = false) (D : va_G) (y : Nat → ClassId) (sl : List (Nat × Nat × Nat)) (L : List Nat) (F : Nat → va_E) (sz : Nat) (O : Nat → Prop) (G : CG) (σ : CS) (xb : Int) (xa : Int) (xw : Int) (ou : Nat) (nv : Int64) (sv : Value) (hC : CP y L F O G σ) (hW : CW σ) (h_xb : -2147483648 ≤ xb ∧ xb ≤ 2147483647) (h_xa : -2147483648 ≤ xa ∧ xa ≤ 2147483647) (h_xw : -2147483648 ≤ xw ∧ xw ≤ 2147483647) (ha_ou : ou ∈ L) (hF_ou : F ou = .inr (6, [.long nv, sv])) (hO_ou : ¬ O ou) : Met l yL_buildShelf (.codeWith yL_buildShelf cL_buildShelf 6 (some .int) [(0, 13, 16, 19), (0, 13, 20, 21)] :: Tt) ({ frames := 8, cells := 6, slots := 124, locals := 127 }) (PcT D y sl L F sz [.ref ((gbg G)), .int (iI xb), .int (iI xa), .int (iI xw), .ref ou]) (cMi D (AL L sz) (LWp y O G ou L F σ (kS_buildShelf σ xb xa xw) ((0 ≤ xb ∧ xb ≤ 2) ∧ (0 ≤ xa ∧ xa ≤ 2)) ((0 ≤ xw ∧ xw ≤ 6)) (iI (kR_buildShelf σ xb xa xw)).toInt64 2)) 6 124 (AL L sz) := by
  refine q_ofT (lv := [(0, .ref ((gbg G))), (1, .int (iI xb)), (2, .int (iI xa)), (3, .int (iI xw)), (4, .ref ou)]) (by decide) (Nat.le_of_ble_eq_true rfl) rfl (fun p e s m below meth c C0 hret hlk hT hsz hA hP hD hS hX hJ hN ls hl => ?_)
  subst hsz
  have hx := C0.1.1
  have hb := C0.1.2.1
  have hts := C0.1.2.2.2.2
  refine lv_aload hx hb dL_buildShelf_0 (lv_at hl 4 rfl) ?_
  refine lv_aload_n hx hb dL_buildShelf_2 rfl (lv_at hl 0 rfl) ?_
  refine lv_iload_n hx hb dL_buildShelf_3 rfl (lv_at hl 1 rfl) ?_
  refine lv_iload_n hx hb dL_buildShelf_4 rfl (lv_at hl 2 rfl) ?_
  refine lv_iload_n hx hb dL_buildShelf_5 rfl (lv_at hl 3 rfl) ?_
  refine q_vTi C0 lL_119 (c_X3_buildShelf l hfl D y L F _ O G σ xb xa xw hC hW h_xb h_xa h_xw) ⟨rfl, rfl⟩ rfl hP hD hA hX hC.1.1 hC.1.2 rfl rfl rfl hl rfl (Nat.le_of_ble_eq_true rfl) dL_buildShelf_6 ⟨(Nat.le_of_ble_eq_true rfl), (Nat.le_of_ble_eq_true rfl)⟩ (fun ce q9 H locs hn1 hP hD hS hce hcv hcl => ?_) (fun ce q9 H locs ho1 hn1 hP hD hS hce hcv hcl => ?_) (fun r H locs L1 F1 hP hD hS hp => ?_)
  · refine q_cI C0 hT rfl hce hcv hcl ?_
    refine W.widen (k := 6) (n := 124) (Nat.le_of_ble_eq_true rfl) (Nat.le_of_ble_eq_true rfl) ?_
    refine lv_astore (lv' := [(5, .ref q9), (0, .ref ((gbg G))), (1, .int (iI xb)), (2, .int (iI xa)), (3, .int (iI xw)), (4, .ref ou)]) hx hb dL_buildShelf_16 hl (by decide) rfl (fun ls hl => ?_)
    refine q_iconst hx hb dL_buildShelf_18 ?_
    exact q_retMi (r := 1) (L := L) (F := F) C0 hret rfl hlk dL_buildShelf_19 hP hD hS (LW_n1 hC hF_ou hn1)
  · refine q_cA C0 hN hT rfl hce hcv hcl ?_
    refine W.widen (k := 6) (n := 124) (Nat.le_of_ble_eq_true rfl) (Nat.le_of_ble_eq_true rfl) ?_
    refine lv_astore (lv' := [(5, .ref q9), (0, .ref ((gbg G))), (1, .int (iI xb)), (2, .int (iI xa)), (3, .int (iI xw)), (4, .ref ou)]) hx hb dL_buildShelf_20 hl (by decide) rfl (fun ls hl => ?_)
    refine q_iconst hx hb dL_buildShelf_22 ?_
    exact q_retMi (r := 2) (L := L) (F := F) C0 hret rfl hlk dL_buildShelf_23 hP hD hS (LW_n2 hC hF_ou ho1 hn1)
  · refine W.widen (k := 6) (n := 124) (Nat.le_of_ble_eq_true rfl) (Nat.le_of_ble_eq_true rfl) ?_
    obtain ⟨hoA, hoB, hr, O1, G1, hC1, hg1, hE1⟩ := hp
    subst hr
    refine lv_i2l hx hb dL_buildShelf_9 rfl ?_
    refine q_putN C0 iX4 tyX4 tyX4_ok nmX4 hP hD hS (hE1.1 _ ha_ou) ((hE1.2.1 _ ha_ou hO_ou).trans hF_ou) rfl 0 (by decide) C0.2.2.2.2.2.2.2.2.2.1 rfl rfl rfl rfl (Nat.le_of_ble_eq_true rfl) dL_buildShelf_10 (fun H locs hP hD hS => ?_)
    refine lv_goto (tgt := 24) hx hb dL_buildShelf_13 (by decide) ?_
    refine q_iconst hx hb dL_buildShelf_24 ?_
    exact q_retMi (r := 0) (L := L1) (F := (va_up F1 ou (.inr (6, [.long ((iI (kR_buildShelf σ xb xa xw)).toInt64), sv])))) C0 hret rfl hlk dL_buildShelf_25 hP hD hS (LW_ok hC1 hg1 hE1 ha_ou hO_ou hoA hoB rfl)
set_option maxHeartbeats 800000 in
set_option maxRecDepth 100000 in
theorem c_L_keysOf (l : Launch) (hfl : l.stackTraces = false) (D : va_G) (y : Nat → ClassId) (sl : List (Nat × Nat × Nat)) (L : List Nat) (F : Nat → va_E) (sz : Nat) (O : Nat → Prop) (G : CG) (σ : CS) (xb : Int) (xa : Int) (ou : Nat) (nv : Int64) (sv : Value) (hC : CP y L F O G σ) (hW : CW σ) (h_xb : -2147483648 ≤ xb ∧ xb ≤ 2147483647) (h_xa : -2147483648 ≤ xa ∧ xa ≤ 2147483647) (ha_ou : ou ∈ L) (hF_ou : F ou = .inr (6, [.long nv, sv])) (hO_ou : ¬ O ou) : Met l yL_keysOf (.codeWith yL_keysOf cL_keysOf 5 (some .int) [(0, 11, 14, 19)] :: Tt) ({ frames := 8, cells := 6, slots := 124, locals := 126 }) (PcT D y sl L F sz [.ref ((gbg G)), .int (iI xb), .int (iI xa), .ref ou]) (cMi D (AL L sz) (LWp y O G ou L F σ (kS_keysOf σ xb xa) ((0 ≤ xb ∧ xb ≤ 2) ∧ (0 ≤ xa ∧ xa ≤ 3)) (True) (iI (kR_keysOf σ xb xa)).toInt64 1)) 6 124 (AL L sz) := by
  refine q_ofT (lv := [(0, .ref ((gbg G))), (1, .int (iI xb)), (2, .int (iI xa)), (3, .ref ou)]) (by decide) (Nat.le_of_ble_eq_true rfl) rfl (fun p e s m below meth c C0 hret hlk hT hsz hA hP hD hS hX hJ hN ls hl => ?_)
  subst hsz
  have hx := C0.1.1
  have hb := C0.1.2.1
  have hts := C0.1.2.2.2.2
  refine lv_aload_n hx hb dL_keysOf_0 rfl (lv_at hl 3 rfl) ?_
  refine lv_aload_n hx hb dL_keysOf_1 rfl (lv_at hl 0 rfl) ?_
  refine lv_iload_n hx hb dL_keysOf_2 rfl (lv_at hl 1 rfl) ?_
  refine lv_iload_n hx hb dL_keysOf_3 rfl (lv_at hl 2 rfl) ?_
  refine q_vTi C0 lL_122 (c_X3_keysOf l hfl D y L F _ O G σ xb xa hC hW h_xb h_xa) ⟨rfl, rfl⟩ rfl hP hD hA hX hC.1.1 hC.1.2 rfl rfl rfl hl rfl (Nat.le_of_ble_eq_true rfl) dL_keysOf_4 ⟨(Nat.le_of_ble_eq_true rfl), (Nat.le_of_ble_eq_true rfl)⟩ (fun ce q9 H locs hn1 hP hD hS hce hcv hcl => ?_) (fun ce q9 H locs ho1 hn1 hP hD hS hce hcv hcl => ?_) (fun r H locs L1 F1 hP hD hS hp => ?_)
  · refine q_cI C0 hT rfl hce hcv hcl ?_
    refine W.widen (k := 6) (n := 124) (Nat.le_of_ble_eq_true rfl) (Nat.le_of_ble_eq_true rfl) ?_
    refine lv_astore (lv' := [(4, .ref q9), (0, .ref ((gbg G))), (1, .int (iI xb)), (2, .int (iI xa)), (3, .ref ou)]) hx hb dL_keysOf_14 hl (by decide) rfl (fun ls hl => ?_)
    refine q_iconst hx hb dL_keysOf_16 ?_
    exact q_retMi (r := 1) (L := L) (F := F) C0 hret rfl hlk dL_keysOf_17 hP hD hS (LW_n1 hC hF_ou hn1)
  · exact absurd trivial hn1
  · refine W.widen (k := 6) (n := 124) (Nat.le_of_ble_eq_true rfl) (Nat.le_of_ble_eq_true rfl) ?_
    obtain ⟨hoA, hoB, hr, O1, G1, hC1, hg1, hE1⟩ := hp
    subst hr
    refine lv_i2l hx hb dL_keysOf_7 rfl ?_
    refine q_putN C0 iX4 tyX4 tyX4_ok nmX4 hP hD hS (hE1.1 _ ha_ou) ((hE1.2.1 _ ha_ou hO_ou).trans hF_ou) rfl 0 (by decide) C0.2.2.2.2.2.2.2.2.2.1 rfl rfl rfl rfl (Nat.le_of_ble_eq_true rfl) dL_keysOf_8 (fun H locs hP hD hS => ?_)
    refine lv_goto (tgt := 18) hx hb dL_keysOf_11 (by decide) ?_
    refine q_iconst hx hb dL_keysOf_18 ?_
    exact q_retMi (r := 0) (L := L1) (F := (va_up F1 ou (.inr (6, [.long ((iI (kR_keysOf σ xb xa)).toInt64), sv])))) C0 hret rfl hlk dL_keysOf_19 hP hD hS (LW_ok hC1 hg1 hE1 ha_ou hO_ou hoA hoB rfl)
set_option maxHeartbeats 800000 in
set_option maxRecDepth 100000 in
theorem c_L_lay (l : Launch) (hfl : l.stackTraces = false) (D : va_G) (y : Nat → ClassId) (sl : List (Nat × Nat × Nat)) (L : List Nat) (F : Nat → va_E) (sz : Nat) (O : Nat → Prop) (G : CG) (σ : CS) (xb : Int) (xf : Int) (xs : Int) (xn : Int) (xw : Int) (ou : Nat) (nv : Int64) (sv : Value) (hC : CP y L F O G σ) (hW : CW σ) (h_xb : -2147483648 ≤ xb ∧ xb ≤ 2147483647) (h_xf : -2147483648 ≤ xf ∧ xf ≤ 2147483647) (h_xs : -2147483648 ≤ xs ∧ xs ≤ 2147483647) (h_xn : -2147483648 ≤ xn ∧ xn ≤ 2147483647) (h_xw : 0 ≤ xw ∧ xw ≤ 1) (ha_ou : ou ∈ L) (hF_ou : F ou = .inr (6, [.long nv, sv])) (hO_ou : ¬ O ou) : Met l yL_lay (.codeWith yL_lay cL_lay 8 (some .int) [(0, 17, 20, 19), (0, 17, 24, 21)] :: Tt) ({ frames := 9, cells := 8, slots := 60, locals := 151 }) (PcT D y sl L F sz [.ref ((gbg G)), .int (iI xb), .int (iI xf), .int (iI xs), .int (iI xn), .int (iI xw), .ref ou]) (cMi D (AL L sz) (LWp y O G ou L F σ (kS_lay σ xb xf xs xn xw) ((0 ≤ xb ∧ xb ≤ 2)) ((0 ≤ xf ∧ xf ≤ 99) ∧ (0 ≤ xs ∧ xs ≤ 99) ∧ (0 ≤ xn ∧ xn ≤ 100)) (iI (kR_lay σ xb xf xs xn xw)).toInt64 2)) 8 60 (AL L sz) := by
  refine q_ofT (lv := [(0, .ref ((gbg G))), (1, .int (iI xb)), (2, .int (iI xf)), (3, .int (iI xs)), (4, .int (iI xn)), (5, .int (iI xw)), (6, .ref ou)]) (by decide) (Nat.le_of_ble_eq_true rfl) rfl (fun p e s m below meth c C0 hret hlk hT hsz hA hP hD hS hX hJ hN ls hl => ?_)
  subst hsz
  have hx := C0.1.1
  have hb := C0.1.2.1
  have hts := C0.1.2.2.2.2
  refine lv_aload hx hb dL_lay_0 (lv_at hl 6 rfl) ?_
  refine lv_aload_n hx hb dL_lay_2 rfl (lv_at hl 0 rfl) ?_
  refine lv_iload_n hx hb dL_lay_3 rfl (lv_at hl 1 rfl) ?_
  refine lv_iload_n hx hb dL_lay_4 rfl (lv_at hl 2 rfl) ?_
  refine lv_iload_n hx hb dL_lay_5 rfl (lv_at hl 3 rfl) ?_
  refine lv_iload hx hb dL_lay_6 (lv_at hl 4 rfl) ?_
  refine lv_iload hx hb dL_lay_8 (lv_at hl 5 rfl) ?_
  refine q_vTi C0 lL_125 (c_X3_lay l hfl D y L F _ O G σ xb xf xs xn xw hC hW h_xb h_xf h_xs h_xn h_xw) ⟨rfl, rfl⟩ rfl hP hD hA hX hC.1.1 hC.1.2 rfl rfl rfl hl rfl (Nat.le_of_ble_eq_true rfl) dL_lay_10 ⟨(Nat.le_of_ble_eq_true rfl), (Nat.le_of_ble_eq_true rfl)⟩ (fun ce q9 H locs hn1 hP hD hS hce hcv hcl => ?_) (fun ce q9 H locs ho1 hn1 hP hD hS hce hcv hcl => ?_) (fun r H locs L1 F1 hP hD hS hp => ?_)
  · refine q_cI C0 hT rfl hce hcv hcl ?_
    refine W.widen (k := 8) (n := 60) (Nat.le_of_ble_eq_true rfl) (Nat.le_of_ble_eq_true rfl) ?_
    refine lv_astore (lv' := [(7, .ref q9), (0, .ref ((gbg G))), (1, .int (iI xb)), (2, .int (iI xf)), (3, .int (iI xs)), (4, .int (iI xn)), (5, .int (iI xw)), (6, .ref ou)]) hx hb dL_lay_20 hl (by decide) rfl (fun ls hl => ?_)
    refine q_iconst hx hb dL_lay_22 ?_
    exact q_retMi (r := 1) (L := L) (F := F) C0 hret rfl hlk dL_lay_23 hP hD hS (LW_n1 hC hF_ou hn1)
  · refine q_cA C0 hN hT rfl hce hcv hcl ?_
    refine W.widen (k := 8) (n := 60) (Nat.le_of_ble_eq_true rfl) (Nat.le_of_ble_eq_true rfl) ?_
    refine lv_astore (lv' := [(7, .ref q9), (0, .ref ((gbg G))), (1, .int (iI xb)), (2, .int (iI xf)), (3, .int (iI xs)), (4, .int (iI xn)), (5, .int (iI xw)), (6, .ref ou)]) hx hb dL_lay_24 hl (by decide) rfl (fun ls hl => ?_)
    refine q_iconst hx hb dL_lay_26 ?_
    exact q_retMi (r := 2) (L := L) (F := F) C0 hret rfl hlk dL_lay_27 hP hD hS (LW_n2 hC hF_ou ho1 hn1)
  · refine W.widen (k := 8) (n := 60) (Nat.le_of_ble_eq_true rfl) (Nat.le_of_ble_eq_true rfl) ?_
    obtain ⟨hoA, hoB, hr, O1, G1, hC1, hg1, hE1⟩ := hp
    subst hr
    refine lv_i2l hx hb dL_lay_13 rfl ?_
    refine q_putN C0 iX4 tyX4 tyX4_ok nmX4 hP hD hS (hE1.1 _ ha_ou) ((hE1.2.1 _ ha_ou hO_ou).trans hF_ou) rfl 0 (by decide) C0.2.2.2.2.2.2.2.2.2.1 rfl rfl rfl rfl (Nat.le_of_ble_eq_true rfl) dL_lay_14 (fun H locs hP hD hS => ?_)
    refine lv_goto (tgt := 28) hx hb dL_lay_17 (by decide) ?_
    refine q_iconst hx hb dL_lay_28 ?_
    exact q_retMi (r := 0) (L := L1) (F := (va_up F1 ou (.inr (6, [.long ((iI (kR_lay σ xb xf xs xn xw)).toInt64), sv])))) C0 hret rfl hlk dL_lay_29 hP hD hS (LW_ok hC1 hg1 hE1 ha_ou hO_ou hoA hoB rfl)
set_option maxHeartbeats 800000 in
set_option maxRecDepth 100000 in
theorem c_L_shelfBoth (l : Launch) (hfl : l.stackTraces = false) (D : va_G) (y : Nat → ClassId) (sl : List (Nat × Nat × Nat)) (L : List Nat) (F : Nat → va_E) (sz : Nat) (O : Nat → Prop) (G : CG) (σ : CS) (xb : Int) (xc : Int) (xt : Int) (ou : Nat) (nv : Int64) (sv : Value) (hC : CP y L F O G σ) (hW : CW σ) (h_xb : -2147483648 ≤ xb ∧ xb ≤ 2147483647) (h_xc : -2147483648 ≤ xc ∧ xc ≤ 2147483647) (h_xt : -2147483648 ≤ xt ∧ xt ≤ 2147483647) (ha_ou : ou ∈ L) (hF_ou : F ou = .inr (6, [.long nv, sv])) (hO_ou : ¬ O ou) : Met l yL_shelfBoth (.codeWith yL_shelfBoth cL_shelfBoth 6 (some .int) [(0, 13, 16, 19), (0, 13, 20, 21)] :: Tt) ({ frames := 8, cells := 8, slots := 60, locals := 128 }) (PcT D y sl L F sz [.ref ((gbg G)), .int (iI xb), .int (iI xc), .int (iI xt), .ref ou]) (cMi D (AL L sz) (LWp y O G ou L F σ (kS_shelfBoth σ xb xc xt) ((0 ≤ xb ∧ xb ≤ 2) ∧ (0 ≤ xc ∧ xc ≤ 2)) ((0 ≤ xt ∧ xt ≤ 2)) (iI (kR_shelfBoth σ xb xc xt)).toInt64 2)) 8 60 (AL L sz) := by
  refine q_ofT (lv := [(0, .ref ((gbg G))), (1, .int (iI xb)), (2, .int (iI xc)), (3, .int (iI xt)), (4, .ref ou)]) (by decide) (Nat.le_of_ble_eq_true rfl) rfl (fun p e s m below meth c C0 hret hlk hT hsz hA hP hD hS hX hJ hN ls hl => ?_)
  subst hsz
  have hx := C0.1.1
  have hb := C0.1.2.1
  have hts := C0.1.2.2.2.2
  refine lv_aload hx hb dL_shelfBoth_0 (lv_at hl 4 rfl) ?_
  refine lv_aload_n hx hb dL_shelfBoth_2 rfl (lv_at hl 0 rfl) ?_
  refine lv_iload_n hx hb dL_shelfBoth_3 rfl (lv_at hl 1 rfl) ?_
  refine lv_iload_n hx hb dL_shelfBoth_4 rfl (lv_at hl 2 rfl) ?_
  refine lv_iload_n hx hb dL_shelfBoth_5 rfl (lv_at hl 3 rfl) ?_
  refine q_vTi C0 lL_129 (c_X3_shelfBoth l hfl D y L F _ O G σ xb xc xt hC hW h_xb h_xc h_xt) ⟨rfl, rfl⟩ rfl hP hD hA hX hC.1.1 hC.1.2 rfl rfl rfl hl rfl (Nat.le_of_ble_eq_true rfl) dL_shelfBoth_6 ⟨(Nat.le_of_ble_eq_true rfl), (Nat.le_of_ble_eq_true rfl)⟩ (fun ce q9 H locs hn1 hP hD hS hce hcv hcl => ?_) (fun ce q9 H locs ho1 hn1 hP hD hS hce hcv hcl => ?_) (fun r H locs L1 F1 hP hD hS hp => ?_)
  · refine q_cI C0 hT rfl hce hcv hcl ?_
    refine W.widen (k := 8) (n := 60) (Nat.le_of_ble_eq_true rfl) (Nat.le_of_ble_eq_true rfl) ?_
    refine lv_astore (lv' := [(5, .ref q9), (0, .ref ((gbg G))), (1, .int (iI xb)), (2, .int (iI xc)), (3, .int (iI xt)), (4, .ref ou)]) hx hb dL_shelfBoth_16 hl (by decide) rfl (fun ls hl => ?_)
    refine q_iconst hx hb dL_shelfBoth_18 ?_
    exact q_retMi (r := 1) (L := L) (F := F) C0 hret rfl hlk dL_shelfBoth_19 hP hD hS (LW_n1 hC hF_ou hn1)
  · refine q_cA C0 hN hT rfl hce hcv hcl ?_
    refine W.widen (k := 8) (n := 60) (Nat.le_of_ble_eq_true rfl) (Nat.le_of_ble_eq_true rfl) ?_
    refine lv_astore (lv' := [(5, .ref q9), (0, .ref ((gbg G))), (1, .int (iI xb)), (2, .int (iI xc)), (3, .int (iI xt)), (4, .ref ou)]) hx hb dL_shelfBoth_20 hl (by decide) rfl (fun ls hl => ?_)
    refine q_iconst hx hb dL_shelfBoth_22 ?_
    exact q_retMi (r := 2) (L := L) (F := F) C0 hret rfl hlk dL_shelfBoth_23 hP hD hS (LW_n2 hC hF_ou ho1 hn1)
  · refine W.widen (k := 8) (n := 60) (Nat.le_of_ble_eq_true rfl) (Nat.le_of_ble_eq_true rfl) ?_
    obtain ⟨hoA, hoB, hr, O1, G1, hC1, hg1, hE1⟩ := hp
    subst hr
    refine lv_i2l hx hb dL_shelfBoth_9 rfl ?_
    refine q_putN C0 iX4 tyX4 tyX4_ok nmX4 hP hD hS (hE1.1 _ ha_ou) ((hE1.2.1 _ ha_ou hO_ou).trans hF_ou) rfl 0 (by decide) C0.2.2.2.2.2.2.2.2.2.1 rfl rfl rfl rfl (Nat.le_of_ble_eq_true rfl) dL_shelfBoth_10 (fun H locs hP hD hS => ?_)
    refine lv_goto (tgt := 24) hx hb dL_shelfBoth_13 (by decide) ?_
    refine q_iconst hx hb dL_shelfBoth_24 ?_
    exact q_retMi (r := 0) (L := L1) (F := (va_up F1 ou (.inr (6, [.long ((iI (kR_shelfBoth σ xb xc xt)).toInt64), sv])))) C0 hret rfl hlk dL_shelfBoth_25 hP hD hS (LW_ok hC1 hg1 hE1 ha_ou hO_ou hoA hoB rfl)
set_option maxHeartbeats 800000 in
set_option maxRecDepth 100000 in
theorem c_L_shelfDrop (l : Launch) (hfl : l.stackTraces = false) (D : va_G) (y : Nat → ClassId) (sl : List (Nat × Nat × Nat)) (L : List Nat) (F : Nat → va_E) (sz : Nat) (O : Nat → Prop) (G : CG) (σ : CS) (xb : Int) (xt : Int) (ou : Nat) (nv : Int64) (sv : Value) (hC : CP y L F O G σ) (hW : CW σ) (h_xb : -2147483648 ≤ xb ∧ xb ≤ 2147483647) (h_xt : -2147483648 ≤ xt ∧ xt ≤ 2147483647) (ha_ou : ou ∈ L) (hF_ou : F ou = .inr (6, [.long nv, sv])) (hO_ou : ¬ O ou) : Met l yL_shelfDrop (.codeWith yL_shelfDrop cL_shelfDrop 5 (some .int) [(0, 11, 14, 19), (0, 11, 18, 21)] :: Tt) ({ frames := 8, cells := 8, slots := 60, locals := 126 }) (PcT D y sl L F sz [.ref ((gbg G)), .int (iI xb), .int (iI xt), .ref ou]) (cMi D (AL L sz) (LWp y O G ou L F σ (kS_shelfDrop σ xb xt) ((0 ≤ xb ∧ xb ≤ 2)) ((0 ≤ xt ∧ xt ≤ 2)) (iI (kR_shelfDrop σ xb xt)).toInt64 2)) 8 60 (AL L sz) := by
  refine q_ofT (lv := [(0, .ref ((gbg G))), (1, .int (iI xb)), (2, .int (iI xt)), (3, .ref ou)]) (by decide) (Nat.le_of_ble_eq_true rfl) rfl (fun p e s m below meth c C0 hret hlk hT hsz hA hP hD hS hX hJ hN ls hl => ?_)
  subst hsz
  have hx := C0.1.1
  have hb := C0.1.2.1
  have hts := C0.1.2.2.2.2
  refine lv_aload_n hx hb dL_shelfDrop_0 rfl (lv_at hl 3 rfl) ?_
  refine lv_aload_n hx hb dL_shelfDrop_1 rfl (lv_at hl 0 rfl) ?_
  refine lv_iload_n hx hb dL_shelfDrop_2 rfl (lv_at hl 1 rfl) ?_
  refine lv_iload_n hx hb dL_shelfDrop_3 rfl (lv_at hl 2 rfl) ?_
  refine q_vTi C0 lL_132 (c_X3_shelfDrop l hfl D y L F _ O G σ xb xt hC hW h_xb h_xt) ⟨rfl, rfl⟩ rfl hP hD hA hX hC.1.1 hC.1.2 rfl rfl rfl hl rfl (Nat.le_of_ble_eq_true rfl) dL_shelfDrop_4 ⟨(Nat.le_of_ble_eq_true rfl), (Nat.le_of_ble_eq_true rfl)⟩ (fun ce q9 H locs hn1 hP hD hS hce hcv hcl => ?_) (fun ce q9 H locs ho1 hn1 hP hD hS hce hcv hcl => ?_) (fun r H locs L1 F1 hP hD hS hp => ?_)
  · refine q_cI C0 hT rfl hce hcv hcl ?_
    refine W.widen (k := 8) (n := 60) (Nat.le_of_ble_eq_true rfl) (Nat.le_of_ble_eq_true rfl) ?_
    refine lv_astore (lv' := [(4, .ref q9), (0, .ref ((gbg G))), (1, .int (iI xb)), (2, .int (iI xt)), (3, .ref ou)]) hx hb dL_shelfDrop_14 hl (by decide) rfl (fun ls hl => ?_)
    refine q_iconst hx hb dL_shelfDrop_16 ?_
    exact q_retMi (r := 1) (L := L) (F := F) C0 hret rfl hlk dL_shelfDrop_17 hP hD hS (LW_n1 hC hF_ou hn1)
  · refine q_cA C0 hN hT rfl hce hcv hcl ?_
    refine W.widen (k := 8) (n := 60) (Nat.le_of_ble_eq_true rfl) (Nat.le_of_ble_eq_true rfl) ?_
    refine lv_astore (lv' := [(4, .ref q9), (0, .ref ((gbg G))), (1, .int (iI xb)), (2, .int (iI xt)), (3, .ref ou)]) hx hb dL_shelfDrop_18 hl (by decide) rfl (fun ls hl => ?_)
    refine q_iconst hx hb dL_shelfDrop_20 ?_
    exact q_retMi (r := 2) (L := L) (F := F) C0 hret rfl hlk dL_shelfDrop_21 hP hD hS (LW_n2 hC hF_ou ho1 hn1)
  · refine W.widen (k := 8) (n := 60) (Nat.le_of_ble_eq_true rfl) (Nat.le_of_ble_eq_true rfl) ?_
    obtain ⟨hoA, hoB, hr, O1, G1, hC1, hg1, hE1⟩ := hp
    subst hr
    refine lv_i2l hx hb dL_shelfDrop_7 rfl ?_
    refine q_putN C0 iX4 tyX4 tyX4_ok nmX4 hP hD hS (hE1.1 _ ha_ou) ((hE1.2.1 _ ha_ou hO_ou).trans hF_ou) rfl 0 (by decide) C0.2.2.2.2.2.2.2.2.2.1 rfl rfl rfl rfl (Nat.le_of_ble_eq_true rfl) dL_shelfDrop_8 (fun H locs hP hD hS => ?_)
    refine lv_goto (tgt := 22) hx hb dL_shelfDrop_11 (by decide) ?_
    refine q_iconst hx hb dL_shelfDrop_22 ?_
    exact q_retMi (r := 0) (L := L1) (F := (va_up F1 ou (.inr (6, [.long ((iI (kR_shelfDrop σ xb xt)).toInt64), sv])))) C0 hret rfl hlk dL_shelfDrop_23 hP hD hS (LW_ok hC1 hg1 hE1 ha_ou hO_ou hoA hoB rfl)
set_option maxHeartbeats 800000 in
set_option maxRecDepth 100000 in
theorem c_L_shelfCut (l : Launch) (hfl : l.stackTraces = false) (D : va_G) (y : Nat → ClassId) (sl : List (Nat × Nat × Nat)) (L : List Nat) (F : Nat → va_E) (sz : Nat) (O : Nat → Prop) (G : CG) (σ : CS) (xb : Int) (xlow : Int) (xhigh : Int) (xt : Int) (xc : Int) (ou : Nat) (nv : Int64) (sv : Value) (hC : CP y L F O G σ) (hW : CW σ) (h_xb : -2147483648 ≤ xb ∧ xb ≤ 2147483647) (h_xlow : -2147483648 ≤ xlow ∧ xlow ≤ 2147483647) (h_xhigh : -2147483648 ≤ xhigh ∧ xhigh ≤ 2147483647) (h_xt : -2147483648 ≤ xt ∧ xt ≤ 2147483647) (h_xc : -2147483648 ≤ xc ∧ xc ≤ 2147483647) (ha_ou : ou ∈ L) (hF_ou : F ou = .inr (6, [.long nv, sv])) (hO_ou : ¬ O ou) : Met l yL_shelfCut (.codeWith yL_shelfCut cL_shelfCut 8 (some .int) [(0, 17, 20, 19), (0, 17, 24, 21)] :: Tt) ({ frames := 8, cells := 8, slots := 140, locals := 131 }) (PcT D y sl L F sz [.ref ((gbg G)), .int (iI xb), .int (iI xlow), .int (iI xhigh), .int (iI xt), .int (iI xc), .ref ou]) (cMi D (AL L sz) (LWp y O G ou L F σ (kS_shelfCut σ xb xlow xhigh xt xc) ((0 ≤ xb ∧ xb ≤ 2) ∧ (0 ≤ xc ∧ xc ≤ 2)) ((0 ≤ xlow ∧ xlow ≤ 99) ∧ (0 ≤ xhigh ∧ xhigh ≤ 99) ∧ (0 ≤ xt ∧ xt ≤ 4)) (iI (kR_shelfCut σ xb xlow xhigh xt xc)).toInt64 2)) 8 140 (AL L sz) := by
  refine q_ofT (lv := [(0, .ref ((gbg G))), (1, .int (iI xb)), (2, .int (iI xlow)), (3, .int (iI xhigh)), (4, .int (iI xt)), (5, .int (iI xc)), (6, .ref ou)]) (by decide) (Nat.le_of_ble_eq_true rfl) rfl (fun p e s m below meth c C0 hret hlk hT hsz hA hP hD hS hX hJ hN ls hl => ?_)
  subst hsz
  have hx := C0.1.1
  have hb := C0.1.2.1
  have hts := C0.1.2.2.2.2
  refine lv_aload hx hb dL_shelfCut_0 (lv_at hl 6 rfl) ?_
  refine lv_aload_n hx hb dL_shelfCut_2 rfl (lv_at hl 0 rfl) ?_
  refine lv_iload_n hx hb dL_shelfCut_3 rfl (lv_at hl 1 rfl) ?_
  refine lv_iload_n hx hb dL_shelfCut_4 rfl (lv_at hl 2 rfl) ?_
  refine lv_iload_n hx hb dL_shelfCut_5 rfl (lv_at hl 3 rfl) ?_
  refine lv_iload hx hb dL_shelfCut_6 (lv_at hl 4 rfl) ?_
  refine lv_iload hx hb dL_shelfCut_8 (lv_at hl 5 rfl) ?_
  refine q_vTi C0 lL_135 (c_X3_shelfCut l hfl D y L F _ O G σ xb xlow xhigh xt xc hC hW h_xb h_xlow h_xhigh h_xt h_xc) ⟨rfl, rfl⟩ rfl hP hD hA hX hC.1.1 hC.1.2 rfl rfl rfl hl rfl (Nat.le_of_ble_eq_true rfl) dL_shelfCut_10 ⟨(Nat.le_of_ble_eq_true rfl), (Nat.le_of_ble_eq_true rfl)⟩ (fun ce q9 H locs hn1 hP hD hS hce hcv hcl => ?_) (fun ce q9 H locs ho1 hn1 hP hD hS hce hcv hcl => ?_) (fun r H locs L1 F1 hP hD hS hp => ?_)
  · refine q_cI C0 hT rfl hce hcv hcl ?_
    refine W.widen (k := 8) (n := 140) (Nat.le_of_ble_eq_true rfl) (Nat.le_of_ble_eq_true rfl) ?_
    refine lv_astore (lv' := [(7, .ref q9), (0, .ref ((gbg G))), (1, .int (iI xb)), (2, .int (iI xlow)), (3, .int (iI xhigh)), (4, .int (iI xt)), (5, .int (iI xc)), (6, .ref ou)]) hx hb dL_shelfCut_20 hl (by decide) rfl (fun ls hl => ?_)
    refine q_iconst hx hb dL_shelfCut_22 ?_
    exact q_retMi (r := 1) (L := L) (F := F) C0 hret rfl hlk dL_shelfCut_23 hP hD hS (LW_n1 hC hF_ou hn1)
  · refine q_cA C0 hN hT rfl hce hcv hcl ?_
    refine W.widen (k := 8) (n := 140) (Nat.le_of_ble_eq_true rfl) (Nat.le_of_ble_eq_true rfl) ?_
    refine lv_astore (lv' := [(7, .ref q9), (0, .ref ((gbg G))), (1, .int (iI xb)), (2, .int (iI xlow)), (3, .int (iI xhigh)), (4, .int (iI xt)), (5, .int (iI xc)), (6, .ref ou)]) hx hb dL_shelfCut_24 hl (by decide) rfl (fun ls hl => ?_)
    refine q_iconst hx hb dL_shelfCut_26 ?_
    exact q_retMi (r := 2) (L := L) (F := F) C0 hret rfl hlk dL_shelfCut_27 hP hD hS (LW_n2 hC hF_ou ho1 hn1)
  · refine W.widen (k := 8) (n := 140) (Nat.le_of_ble_eq_true rfl) (Nat.le_of_ble_eq_true rfl) ?_
    obtain ⟨hoA, hoB, hr, O1, G1, hC1, hg1, hE1⟩ := hp
    subst hr
    refine lv_i2l hx hb dL_shelfCut_13 rfl ?_
    refine q_putN C0 iX4 tyX4 tyX4_ok nmX4 hP hD hS (hE1.1 _ ha_ou) ((hE1.2.1 _ ha_ou hO_ou).trans hF_ou) rfl 0 (by decide) C0.2.2.2.2.2.2.2.2.2.1 rfl rfl rfl rfl (Nat.le_of_ble_eq_true rfl) dL_shelfCut_14 (fun H locs hP hD hS => ?_)
    refine lv_goto (tgt := 28) hx hb dL_shelfCut_17 (by decide) ?_
    refine q_iconst hx hb dL_shelfCut_28 ?_
    exact q_retMi (r := 0) (L := L1) (F := (va_up F1 ou (.inr (6, [.long ((iI (kR_shelfCut σ xb xlow xhigh xt xc)).toInt64), sv])))) C0 hret rfl hlk dL_shelfCut_29 hP hD hS (LW_ok hC1 hg1 hE1 ha_ou hO_ou hoA hoB rfl)
set_option maxHeartbeats 800000 in
set_option maxRecDepth 100000 in
theorem c_L_shelfNear (l : Launch) (hfl : l.stackTraces = false) (D : va_G) (y : Nat → ClassId) (sl : List (Nat × Nat × Nat)) (L : List Nat) (F : Nat → va_E) (sz : Nat) (O : Nat → Prop) (G : CG) (σ : CS) (xb : Int) (xk : Int) (xt : Int) (ou : Nat) (nv : Int64) (sv : Value) (hC : CP y L F O G σ) (hW : CW σ) (h_xb : -2147483648 ≤ xb ∧ xb ≤ 2147483647) (h_xk : -2147483648 ≤ xk ∧ xk ≤ 2147483647) (h_xt : -2147483648 ≤ xt ∧ xt ≤ 2147483647) (ha_ou : ou ∈ L) (hF_ou : F ou = .inr (6, [.long nv, sv])) (hO_ou : ¬ O ou) : Met l yL_shelfNear (.codeWith yL_shelfNear cL_shelfNear 6 (some .int) [(0, 13, 16, 19), (0, 13, 20, 21)] :: Tt) ({ frames := 8, cells := 8, slots := 60, locals := 127 }) (PcT D y sl L F sz [.ref ((gbg G)), .int (iI xb), .int (iI xk), .int (iI xt), .ref ou]) (cMi D (AL L sz) (LWp y O G ou L F σ (kS_shelfNear σ xb xk xt) ((0 ≤ xb ∧ xb ≤ 2)) ((0 ≤ xk ∧ xk ≤ 99) ∧ (0 ≤ xt ∧ xt ≤ 4)) (iI (kR_shelfNear σ xb xk xt)).toInt64 2)) 8 60 (AL L sz) := by
  refine q_ofT (lv := [(0, .ref ((gbg G))), (1, .int (iI xb)), (2, .int (iI xk)), (3, .int (iI xt)), (4, .ref ou)]) (by decide) (Nat.le_of_ble_eq_true rfl) rfl (fun p e s m below meth c C0 hret hlk hT hsz hA hP hD hS hX hJ hN ls hl => ?_)
  subst hsz
  have hx := C0.1.1
  have hb := C0.1.2.1
  have hts := C0.1.2.2.2.2
  refine lv_aload hx hb dL_shelfNear_0 (lv_at hl 4 rfl) ?_
  refine lv_aload_n hx hb dL_shelfNear_2 rfl (lv_at hl 0 rfl) ?_
  refine lv_iload_n hx hb dL_shelfNear_3 rfl (lv_at hl 1 rfl) ?_
  refine lv_iload_n hx hb dL_shelfNear_4 rfl (lv_at hl 2 rfl) ?_
  refine lv_iload_n hx hb dL_shelfNear_5 rfl (lv_at hl 3 rfl) ?_
  refine q_vTi C0 lL_138 (c_X3_shelfNear l hfl D y L F _ O G σ xb xk xt hC hW h_xb h_xk h_xt) ⟨rfl, rfl⟩ rfl hP hD hA hX hC.1.1 hC.1.2 rfl rfl rfl hl rfl (Nat.le_of_ble_eq_true rfl) dL_shelfNear_6 ⟨(Nat.le_of_ble_eq_true rfl), (Nat.le_of_ble_eq_true rfl)⟩ (fun ce q9 H locs hn1 hP hD hS hce hcv hcl => ?_) (fun ce q9 H locs ho1 hn1 hP hD hS hce hcv hcl => ?_) (fun r H locs L1 F1 hP hD hS hp => ?_)
  · refine q_cI C0 hT rfl hce hcv hcl ?_
    refine W.widen (k := 8) (n := 60) (Nat.le_of_ble_eq_true rfl) (Nat.le_of_ble_eq_true rfl) ?_
    refine lv_astore (lv' := [(5, .ref q9), (0, .ref ((gbg G))), (1, .int (iI xb)), (2, .int (iI xk)), (3, .int (iI xt)), (4, .ref ou)]) hx hb dL_shelfNear_16 hl (by decide) rfl (fun ls hl => ?_)
    refine q_iconst hx hb dL_shelfNear_18 ?_
    exact q_retMi (r := 1) (L := L) (F := F) C0 hret rfl hlk dL_shelfNear_19 hP hD hS (LW_n1 hC hF_ou hn1)
  · refine q_cA C0 hN hT rfl hce hcv hcl ?_
    refine W.widen (k := 8) (n := 60) (Nat.le_of_ble_eq_true rfl) (Nat.le_of_ble_eq_true rfl) ?_
    refine lv_astore (lv' := [(5, .ref q9), (0, .ref ((gbg G))), (1, .int (iI xb)), (2, .int (iI xk)), (3, .int (iI xt)), (4, .ref ou)]) hx hb dL_shelfNear_20 hl (by decide) rfl (fun ls hl => ?_)
    refine q_iconst hx hb dL_shelfNear_22 ?_
    exact q_retMi (r := 2) (L := L) (F := F) C0 hret rfl hlk dL_shelfNear_23 hP hD hS (LW_n2 hC hF_ou ho1 hn1)
  · refine W.widen (k := 8) (n := 60) (Nat.le_of_ble_eq_true rfl) (Nat.le_of_ble_eq_true rfl) ?_
    obtain ⟨hoA, hoB, hr, O1, G1, hC1, hg1, hE1⟩ := hp
    subst hr
    refine lv_i2l hx hb dL_shelfNear_9 rfl ?_
    refine q_putN C0 iX4 tyX4 tyX4_ok nmX4 hP hD hS (hE1.1 _ ha_ou) ((hE1.2.1 _ ha_ou hO_ou).trans hF_ou) rfl 0 (by decide) C0.2.2.2.2.2.2.2.2.2.1 rfl rfl rfl rfl (Nat.le_of_ble_eq_true rfl) dL_shelfNear_10 (fun H locs hP hD hS => ?_)
    refine lv_goto (tgt := 24) hx hb dL_shelfNear_13 (by decide) ?_
    refine q_iconst hx hb dL_shelfNear_24 ?_
    exact q_retMi (r := 0) (L := L1) (F := (va_up F1 ou (.inr (6, [.long ((iI (kR_shelfNear σ xb xk xt)).toInt64), sv])))) C0 hret rfl hlk dL_shelfNear_25 hP hD hS (LW_ok hC1 hg1 hE1 ha_ou hO_ou hoA hoB rfl)
set_option maxHeartbeats 800000 in
set_option maxRecDepth 100000 in
theorem c_L_shelfTell (l : Launch) (hfl : l.stackTraces = false) (D : va_G) (y : Nat → ClassId) (sl : List (Nat × Nat × Nat)) (L : List Nat) (F : Nat → va_E) (sz : Nat) (O : Nat → Prop) (G : CG) (σ : CS) (xb : Int) (xt : Int) (ou : Nat) (nv : Int64) (sv : Value) (hC : CP y L F O G σ) (hW : CW σ) (h_xb : -2147483648 ≤ xb ∧ xb ≤ 2147483647) (h_xt : -2147483648 ≤ xt ∧ xt ≤ 2147483647) (ha_ou : ou ∈ L) (hF_ou : F ou = .inr (6, [.long nv, sv])) (hO_ou : ¬ O ou) : Met l yL_shelfTell (.codeWith yL_shelfTell cL_shelfTell 5 (some .int) [(0, 11, 14, 19), (0, 11, 18, 21)] :: Tt) ({ frames := 8, cells := 8, slots := 60, locals := 126 }) (PcT D y sl L F sz [.ref ((gbg G)), .int (iI xb), .int (iI xt), .ref ou]) (cMi D (AL L sz) (LWp y O G ou L F σ (kS_shelfTell σ xb xt) ((0 ≤ xb ∧ xb ≤ 2)) ((0 ≤ xt ∧ xt ≤ 4)) (iI (kR_shelfTell σ xb xt)).toInt64 2)) 8 60 (AL L sz) := by
  refine q_ofT (lv := [(0, .ref ((gbg G))), (1, .int (iI xb)), (2, .int (iI xt)), (3, .ref ou)]) (by decide) (Nat.le_of_ble_eq_true rfl) rfl (fun p e s m below meth c C0 hret hlk hT hsz hA hP hD hS hX hJ hN ls hl => ?_)
  subst hsz
  have hx := C0.1.1
  have hb := C0.1.2.1
  have hts := C0.1.2.2.2.2
  refine lv_aload_n hx hb dL_shelfTell_0 rfl (lv_at hl 3 rfl) ?_
  refine lv_aload_n hx hb dL_shelfTell_1 rfl (lv_at hl 0 rfl) ?_
  refine lv_iload_n hx hb dL_shelfTell_2 rfl (lv_at hl 1 rfl) ?_
  refine lv_iload_n hx hb dL_shelfTell_3 rfl (lv_at hl 2 rfl) ?_
  refine q_vTi C0 lL_141 (c_X3_shelfTell l hfl D y L F _ O G σ xb xt hC hW h_xb h_xt) ⟨rfl, rfl⟩ rfl hP hD hA hX hC.1.1 hC.1.2 rfl rfl rfl hl rfl (Nat.le_of_ble_eq_true rfl) dL_shelfTell_4 ⟨(Nat.le_of_ble_eq_true rfl), (Nat.le_of_ble_eq_true rfl)⟩ (fun ce q9 H locs hn1 hP hD hS hce hcv hcl => ?_) (fun ce q9 H locs ho1 hn1 hP hD hS hce hcv hcl => ?_) (fun r H locs L1 F1 hP hD hS hp => ?_)
  · refine q_cI C0 hT rfl hce hcv hcl ?_
    refine W.widen (k := 8) (n := 60) (Nat.le_of_ble_eq_true rfl) (Nat.le_of_ble_eq_true rfl) ?_
    refine lv_astore (lv' := [(4, .ref q9), (0, .ref ((gbg G))), (1, .int (iI xb)), (2, .int (iI xt)), (3, .ref ou)]) hx hb dL_shelfTell_14 hl (by decide) rfl (fun ls hl => ?_)
    refine q_iconst hx hb dL_shelfTell_16 ?_
    exact q_retMi (r := 1) (L := L) (F := F) C0 hret rfl hlk dL_shelfTell_17 hP hD hS (LW_n1 hC hF_ou hn1)
  · refine q_cA C0 hN hT rfl hce hcv hcl ?_
    refine W.widen (k := 8) (n := 60) (Nat.le_of_ble_eq_true rfl) (Nat.le_of_ble_eq_true rfl) ?_
    refine lv_astore (lv' := [(4, .ref q9), (0, .ref ((gbg G))), (1, .int (iI xb)), (2, .int (iI xt)), (3, .ref ou)]) hx hb dL_shelfTell_18 hl (by decide) rfl (fun ls hl => ?_)
    refine q_iconst hx hb dL_shelfTell_20 ?_
    exact q_retMi (r := 2) (L := L) (F := F) C0 hret rfl hlk dL_shelfTell_21 hP hD hS (LW_n2 hC hF_ou ho1 hn1)
  · refine W.widen (k := 8) (n := 60) (Nat.le_of_ble_eq_true rfl) (Nat.le_of_ble_eq_true rfl) ?_
    obtain ⟨hoA, hoB, hr, O1, G1, hC1, hg1, hE1⟩ := hp
    subst hr
    refine lv_i2l hx hb dL_shelfTell_7 rfl ?_
    refine q_putN C0 iX4 tyX4 tyX4_ok nmX4 hP hD hS (hE1.1 _ ha_ou) ((hE1.2.1 _ ha_ou hO_ou).trans hF_ou) rfl 0 (by decide) C0.2.2.2.2.2.2.2.2.2.1 rfl rfl rfl rfl (Nat.le_of_ble_eq_true rfl) dL_shelfTell_8 (fun H locs hP hD hS => ?_)
    refine lv_goto (tgt := 22) hx hb dL_shelfTell_11 (by decide) ?_
    refine q_iconst hx hb dL_shelfTell_22 ?_
    exact q_retMi (r := 0) (L := L1) (F := (va_up F1 ou (.inr (6, [.long ((iI (kR_shelfTell σ xb xt)).toInt64), sv])))) C0 hret rfl hlk dL_shelfTell_23 hP hD hS (LW_ok hC1 hg1 hE1 ha_ou hO_ou hoA hoB rfl)
set_option maxHeartbeats 800000 in
set_option maxRecDepth 100000 in
theorem c_L_sameShelves (l : Launch) (hfl : l.stackTraces = false) (D : va_G) (y : Nat → ClassId) (sl : List (Nat × Nat × Nat)) (L : List Nat) (F : Nat → va_E) (sz : Nat) (O : Nat → Prop) (G : CG) (σ : CS) (xb : Int) (xc : Int) (xt : Int) (ou : Nat) (nv : Int64) (sv : Value) (hC : CP y L F O G σ) (hW : CW σ) (h_xb : -2147483648 ≤ xb ∧ xb ≤ 2147483647) (h_xc : -2147483648 ≤ xc ∧ xc ≤ 2147483647) (h_xt : -2147483648 ≤ xt ∧ xt ≤ 2147483647) (ha_ou : ou ∈ L) (hF_ou : F ou = .inr (6, [.long nv, sv])) (hO_ou : ¬ O ou) : Met l yL_sameShelves (.codeWith yL_sameShelves cL_sameShelves 6 (some .int) [(0, 20, 23, 19), (0, 20, 27, 21)] :: Tt) ({ frames := 8, cells := 8, slots := 60, locals := 128 }) (PcT D y sl L F sz [.ref ((gbg G)), .int (iI xb), .int (iI xc), .int (iI xt), .ref ou]) (cMi D (AL L sz) (LWp y O G ou L F σ (kS_sameShelves σ xb xc xt) ((0 ≤ xb ∧ xb ≤ 2) ∧ (0 ≤ xc ∧ xc ≤ 2)) ((0 ≤ xt ∧ xt ≤ 1)) (if (kR_sameShelves σ xb xc xt) = 0 then 0 else 1) 2)) 8 60 (AL L sz) := by
  refine q_ofT (lv := [(0, .ref ((gbg G))), (1, .int (iI xb)), (2, .int (iI xc)), (3, .int (iI xt)), (4, .ref ou)]) (by decide) (Nat.le_of_ble_eq_true rfl) rfl (fun p e s m below meth c C0 hret hlk hT hsz hA hP hD hS hX hJ hN ls hl => ?_)
  subst hsz
  have hx := C0.1.1
  have hb := C0.1.2.1
  have hts := C0.1.2.2.2.2
  refine lv_aload hx hb dL_sameShelves_0 (lv_at hl 4 rfl) ?_
  refine lv_aload_n hx hb dL_sameShelves_2 rfl (lv_at hl 0 rfl) ?_
  refine lv_iload_n hx hb dL_sameShelves_3 rfl (lv_at hl 1 rfl) ?_
  refine lv_iload_n hx hb dL_sameShelves_4 rfl (lv_at hl 2 rfl) ?_
  refine lv_iload_n hx hb dL_sameShelves_5 rfl (lv_at hl 3 rfl) ?_
  refine q_vTi C0 lL_144 (c_X3_sameShelves l hfl D y L F _ O G σ xb xc xt hC hW h_xb h_xc h_xt) ⟨rfl, rfl⟩ rfl hP hD hA hX hC.1.1 hC.1.2 rfl rfl rfl hl rfl (Nat.le_of_ble_eq_true rfl) dL_sameShelves_6 ⟨(Nat.le_of_ble_eq_true rfl), (Nat.le_of_ble_eq_true rfl)⟩ (fun ce q9 H locs hn1 hP hD hS hce hcv hcl => ?_) (fun ce q9 H locs ho1 hn1 hP hD hS hce hcv hcl => ?_) (fun r H locs L1 F1 hP hD hS hp => ?_)
  · refine q_cI C0 hT rfl hce hcv hcl ?_
    refine W.widen (k := 8) (n := 60) (Nat.le_of_ble_eq_true rfl) (Nat.le_of_ble_eq_true rfl) ?_
    refine lv_astore (lv' := [(5, .ref q9), (0, .ref ((gbg G))), (1, .int (iI xb)), (2, .int (iI xc)), (3, .int (iI xt)), (4, .ref ou)]) hx hb dL_sameShelves_23 hl (by decide) rfl (fun ls hl => ?_)
    refine q_iconst hx hb dL_sameShelves_25 ?_
    exact q_retMi (r := 1) (L := L) (F := F) C0 hret rfl hlk dL_sameShelves_26 hP hD hS (LW_n1 hC hF_ou hn1)
  · refine q_cA C0 hN hT rfl hce hcv hcl ?_
    refine W.widen (k := 8) (n := 60) (Nat.le_of_ble_eq_true rfl) (Nat.le_of_ble_eq_true rfl) ?_
    refine lv_astore (lv' := [(5, .ref q9), (0, .ref ((gbg G))), (1, .int (iI xb)), (2, .int (iI xc)), (3, .int (iI xt)), (4, .ref ou)]) hx hb dL_sameShelves_27 hl (by decide) rfl (fun ls hl => ?_)
    refine q_iconst hx hb dL_sameShelves_29 ?_
    exact q_retMi (r := 2) (L := L) (F := F) C0 hret rfl hlk dL_sameShelves_30 hP hD hS (LW_n2 hC hF_ou ho1 hn1)
  · refine W.widen (k := 8) (n := 60) (Nat.le_of_ble_eq_true rfl) (Nat.le_of_ble_eq_true rfl) ?_
    obtain ⟨hoA, hoB, hr, O1, G1, hC1, hg1, hE1⟩ := hp
    have rb_ := kb_sameShelves σ xb xc xt
    rw [← hr] at rb_
    refine q_if_eq hx hb dL_sameShelves_9 (tgt := 16) (by decide) (by omega) (fun c1 => ?_) (fun c1 => ?_)
    · refine lv_lconst (v := 0) hx hb dL_sameShelves_16 rfl ?_
      refine q_putN C0 iX4 tyX4 tyX4_ok nmX4 hP hD hS (hE1.1 _ ha_ou) ((hE1.2.1 _ ha_ou hO_ou).trans hF_ou) rfl 0 (by decide) C0.2.2.2.2.2.2.2.2.2.1 rfl rfl rfl rfl (Nat.le_of_ble_eq_true rfl) dL_sameShelves_17 (fun H locs hP hD hS => ?_)
      refine lv_goto (tgt := 31) hx hb dL_sameShelves_20 (by decide) ?_
      refine q_iconst hx hb dL_sameShelves_31 ?_
      exact q_retMi (r := 0) (L := L1) (F := (va_up F1 ou (.inr (6, [.long (0), sv])))) C0 hret rfl hlk dL_sameShelves_32 hP hD hS (LW_ok hC1 hg1 hE1 ha_ou hO_ou hoA hoB (by rw [← hr, if_pos c1]))
    · refine lv_lconst (v := 1) hx hb dL_sameShelves_12 rfl ?_
      refine lv_goto (tgt := 17) hx hb dL_sameShelves_13 (by decide) ?_
      refine q_putN C0 iX4 tyX4 tyX4_ok nmX4 hP hD hS (hE1.1 _ ha_ou) ((hE1.2.1 _ ha_ou hO_ou).trans hF_ou) rfl 0 (by decide) C0.2.2.2.2.2.2.2.2.2.1 rfl rfl rfl rfl (Nat.le_of_ble_eq_true rfl) dL_sameShelves_17 (fun H locs hP hD hS => ?_)
      refine lv_goto (tgt := 31) hx hb dL_sameShelves_20 (by decide) ?_
      refine q_iconst hx hb dL_sameShelves_31 ?_
      exact q_retMi (r := 0) (L := L1) (F := (va_up F1 ou (.inr (6, [.long (1), sv])))) C0 hret rfl hlk dL_sameShelves_32 hP hD hS (LW_ok hC1 hg1 hE1 ha_ou hO_ou hoA hoB (by rw [← hr, if_neg c1]))
set_option maxHeartbeats 800000 in
set_option maxRecDepth 100000 in
theorem c_L_house (l : Launch) (hfl : l.stackTraces = false) (D : va_G) (y : Nat → ClassId) (sl : List (Nat × Nat × Nat)) (L : List Nat) (F : Nat → va_E) (sz : Nat) (O : Nat → Prop) (G : CG) (σ : CS) (xt : Int) (ou : Nat) (nv : Int64) (sv : Value) (hC : CP y L F O G σ) (hW : CW σ) (h_xt : -2147483648 ≤ xt ∧ xt ≤ 2147483647) (ha_ou : ou ∈ L) (hF_ou : F ou = .inr (6, [.long nv, sv])) (hO_ou : ¬ O ou) : Met l yL_house (.codeWith yL_house cL_house 4 (some .int) [(0, 10, 13, 21)] :: Tt) ({ frames := 8, cells := 8, slots := 60, locals := 124 }) (PcT D y sl L F sz [.ref ((gbg G)), .int (iI xt), .ref ou]) (cMi D (AL L sz) (LWp y O G ou L F σ (kS_house σ xt) (True) ((0 ≤ xt ∧ xt ≤ 3)) (iI (kR_house σ xt)).toInt64 1)) 8 60 (AL L sz) := by
  refine q_ofT (lv := [(0, .ref ((gbg G))), (1, .int (iI xt)), (2, .ref ou)]) (by decide) (Nat.le_of_ble_eq_true rfl) rfl (fun p e s m below meth c C0 hret hlk hT hsz hA hP hD hS hX hJ hN ls hl => ?_)
  subst hsz
  have hx := C0.1.1
  have hb := C0.1.2.1
  have hts := C0.1.2.2.2.2
  refine lv_aload_n hx hb dL_house_0 rfl (lv_at hl 2 rfl) ?_
  refine lv_aload_n hx hb dL_house_1 rfl (lv_at hl 0 rfl) ?_
  refine lv_iload_n hx hb dL_house_2 rfl (lv_at hl 1 rfl) ?_
  refine q_vTi C0 lL_148 (c_X3_house l hfl D y L F _ O G σ xt hC hW h_xt) ⟨rfl, rfl⟩ rfl hP hD hA hX hC.1.1 hC.1.2 rfl rfl rfl hl rfl (Nat.le_of_ble_eq_true rfl) dL_house_3 ⟨(Nat.le_of_ble_eq_true rfl), (Nat.le_of_ble_eq_true rfl)⟩ (fun ce q9 H locs hn1 hP hD hS hce hcv hcl => ?_) (fun ce q9 H locs ho1 hn1 hP hD hS hce hcv hcl => ?_) (fun r H locs L1 F1 hP hD hS hp => ?_)
  · exact absurd trivial hn1
  · refine q_cA1 C0 hT rfl hce hcv hcl ?_
    refine W.widen (k := 8) (n := 60) (Nat.le_of_ble_eq_true rfl) (Nat.le_of_ble_eq_true rfl) ?_
    refine lv_astore_n (lv' := [(3, .ref q9), (0, .ref ((gbg G))), (1, .int (iI xt)), (2, .ref ou)]) hx hb dL_house_13 rfl hl (by decide) rfl (fun ls hl => ?_)
    refine q_iconst hx hb dL_house_14 ?_
    exact q_retMi (r := 1) (L := L) (F := F) C0 hret rfl hlk dL_house_15 hP hD hS (LW_n2 hC hF_ou trivial hn1)
  · refine W.widen (k := 8) (n := 60) (Nat.le_of_ble_eq_true rfl) (Nat.le_of_ble_eq_true rfl) ?_
    obtain ⟨hoA, hoB, hr, O1, G1, hC1, hg1, hE1⟩ := hp
    subst hr
    refine lv_i2l hx hb dL_house_6 rfl ?_
    refine q_putN C0 iX4 tyX4 tyX4_ok nmX4 hP hD hS (hE1.1 _ ha_ou) ((hE1.2.1 _ ha_ou hO_ou).trans hF_ou) rfl 0 (by decide) C0.2.2.2.2.2.2.2.2.2.1 rfl rfl rfl rfl (Nat.le_of_ble_eq_true rfl) dL_house_7 (fun H locs hP hD hS => ?_)
    refine lv_goto (tgt := 16) hx hb dL_house_10 (by decide) ?_
    refine q_iconst hx hb dL_house_16 ?_
    exact q_retMi (r := 0) (L := L1) (F := (va_up F1 ou (.inr (6, [.long ((iI (kR_house σ xt)).toInt64), sv])))) C0 hret rfl hlk dL_house_17 hP hD hS (LW_ok hC1 hg1 hE1 ha_ou hO_ou hoA hoB rfl)
set_option maxHeartbeats 800000 in
set_option maxRecDepth 100000 in
theorem c_L_walkSet0 (l : Launch) (hfl : l.stackTraces = false) (D : va_G) (y : Nat → ClassId) (sl : List (Nat × Nat × Nat)) (L : List Nat) (F : Nat → va_E) (sz : Nat) (O : Nat → Prop) (G : CG) (σ : CS) (xw : Int) (ou : Nat) (nv : Int64) (sv : Value) (hC : CP y L F O G σ) (hW : CW σ) (h_xw : -2147483648 ≤ xw ∧ xw ≤ 2147483647) (hwk : zwk σ = none) (ha_ou : ou ∈ L) (hF_ou : F ou = .inr (6, [.long nv, sv])) (hO_ou : ¬ O ou) : Met l yL_walkSet (.codeWith yL_walkSet cL_walkSet 4 (some .int) [(0, 10, 13, 21)] :: Tt) ({ frames := 8, cells := 8, slots := 60, locals := 123 }) (PcT D y sl L F sz [.ref ((gbg G)), .int (iI xw), .ref ou]) (cMi D (AL L sz) (LWp y O G ou L F σ (kS_walkSet0 σ xw) (True) ((0 ≤ xw ∧ xw ≤ 99)) (iI (kR_walkSet0 σ xw)).toInt64 1)) 8 60 (AL L sz) := by
  refine q_ofT (lv := [(0, .ref ((gbg G))), (1, .int (iI xw)), (2, .ref ou)]) (by decide) (Nat.le_of_ble_eq_true rfl) rfl (fun p e s m below meth c C0 hret hlk hT hsz hA hP hD hS hX hJ hN ls hl => ?_)
  subst hsz
  have hx := C0.1.1
  have hb := C0.1.2.1
  have hts := C0.1.2.2.2.2
  refine lv_aload_n hx hb dL_walkSet_0 rfl (lv_at hl 2 rfl) ?_
  refine lv_aload_n hx hb dL_walkSet_1 rfl (lv_at hl 0 rfl) ?_
  refine lv_iload_n hx hb dL_walkSet_2 rfl (lv_at hl 1 rfl) ?_
  refine q_vTi C0 lL_113 (c_X3_walkSet0 l hfl D y L F _ O G σ xw hC hW h_xw hwk) ⟨rfl, rfl⟩ rfl hP hD hA hX hC.1.1 hC.1.2 rfl rfl rfl hl rfl (Nat.le_of_ble_eq_true rfl) dL_walkSet_3 ⟨(Nat.le_of_ble_eq_true rfl), (Nat.le_of_ble_eq_true rfl)⟩ (fun ce q9 H locs hn1 hP hD hS hce hcv hcl => ?_) (fun ce q9 H locs ho1 hn1 hP hD hS hce hcv hcl => ?_) (fun r H locs L1 F1 hP hD hS hp => ?_)
  · exact absurd trivial hn1
  · refine q_cA1 C0 hT rfl hce hcv hcl ?_
    refine W.widen (k := 8) (n := 60) (Nat.le_of_ble_eq_true rfl) (Nat.le_of_ble_eq_true rfl) ?_
    refine lv_astore_n (lv' := [(3, .ref q9), (0, .ref ((gbg G))), (1, .int (iI xw)), (2, .ref ou)]) hx hb dL_walkSet_13 rfl hl (by decide) rfl (fun ls hl => ?_)
    refine q_iconst hx hb dL_walkSet_14 ?_
    exact q_retMi (r := 1) (L := L) (F := F) C0 hret rfl hlk dL_walkSet_15 hP hD hS (LW_n2 hC hF_ou trivial hn1)
  · refine W.widen (k := 8) (n := 60) (Nat.le_of_ble_eq_true rfl) (Nat.le_of_ble_eq_true rfl) ?_
    obtain ⟨hoA, hoB, hr, O1, G1, hC1, hg1, hE1⟩ := hp
    subst hr
    refine lv_i2l hx hb dL_walkSet_6 rfl ?_
    refine q_putN C0 iX4 tyX4 tyX4_ok nmX4 hP hD hS (hE1.1 _ ha_ou) ((hE1.2.1 _ ha_ou hO_ou).trans hF_ou) rfl 0 (by decide) C0.2.2.2.2.2.2.2.2.2.1 rfl rfl rfl rfl (Nat.le_of_ble_eq_true rfl) dL_walkSet_7 (fun H locs hP hD hS => ?_)
    refine lv_goto (tgt := 16) hx hb dL_walkSet_10 (by decide) ?_
    refine q_iconst hx hb dL_walkSet_16 ?_
    exact q_retMi (r := 0) (L := L1) (F := (va_up F1 ou (.inr (6, [.long ((iI (kR_walkSet0 σ xw)).toInt64), sv])))) C0 hret rfl hlk dL_walkSet_17 hP hD hS (LW_ok hC1 hg1 hE1 ha_ou hO_ou hoA hoB rfl)
set_option maxHeartbeats 800000 in
set_option maxRecDepth 100000 in
theorem c_L_walkSet1 (l : Launch) (hfl : l.stackTraces = false) (D : va_G) (y : Nat → ClassId) (sl : List (Nat × Nat × Nat)) (L : List Nat) (F : Nat → va_E) (sz : Nat) (O : Nat → Prop) (G : CG) (σ : CS) (j : Nat) (xw : Int) (ou : Nat) (nv : Int64) (sv : Value) (hC : CP y L F O G σ) (hW : CW σ) (h_xw : -2147483648 ≤ xw ∧ xw ≤ 2147483647) (hwk : zwk σ = some j) (ha_ou : ou ∈ L) (hF_ou : F ou = .inr (6, [.long nv, sv])) (hO_ou : ¬ O ou) : Met l yL_walkSet (.codeWith yL_walkSet cL_walkSet 4 (some .int) [(0, 10, 13, 21)] :: Tt) ({ frames := 8, cells := 8, slots := 60, locals := 123 }) (PcT D y sl L F sz [.ref ((gbg G)), .int (iI xw), .ref ou]) (cMi D (AL L sz) (LWp y O G ou L F σ (kS_walkSet1 σ j xw) (True) ((0 ≤ xw ∧ xw ≤ 99)) (iI (kR_walkSet1 σ j xw)).toInt64 1)) 8 60 (AL L sz) := by
  refine q_ofT (lv := [(0, .ref ((gbg G))), (1, .int (iI xw)), (2, .ref ou)]) (by decide) (Nat.le_of_ble_eq_true rfl) rfl (fun p e s m below meth c C0 hret hlk hT hsz hA hP hD hS hX hJ hN ls hl => ?_)
  subst hsz
  have hx := C0.1.1
  have hb := C0.1.2.1
  have hts := C0.1.2.2.2.2
  refine lv_aload_n hx hb dL_walkSet_0 rfl (lv_at hl 2 rfl) ?_
  refine lv_aload_n hx hb dL_walkSet_1 rfl (lv_at hl 0 rfl) ?_
  refine lv_iload_n hx hb dL_walkSet_2 rfl (lv_at hl 1 rfl) ?_
  refine q_vTi C0 lL_113 (c_X3_walkSet1 l hfl D y L F _ O G σ j xw hC hW h_xw hwk) ⟨rfl, rfl⟩ rfl hP hD hA hX hC.1.1 hC.1.2 rfl rfl rfl hl rfl (Nat.le_of_ble_eq_true rfl) dL_walkSet_3 ⟨(Nat.le_of_ble_eq_true rfl), (Nat.le_of_ble_eq_true rfl)⟩ (fun ce q9 H locs hn1 hP hD hS hce hcv hcl => ?_) (fun ce q9 H locs ho1 hn1 hP hD hS hce hcv hcl => ?_) (fun r H locs L1 F1 hP hD hS hp => ?_)
  · exact absurd trivial hn1
  · refine q_cA1 C0 hT rfl hce hcv hcl ?_
    refine W.widen (k := 8) (n := 60) (Nat.le_of_ble_eq_true rfl) (Nat.le_of_ble_eq_true rfl) ?_
    refine lv_astore_n (lv' := [(3, .ref q9), (0, .ref ((gbg G))), (1, .int (iI xw)), (2, .ref ou)]) hx hb dL_walkSet_13 rfl hl (by decide) rfl (fun ls hl => ?_)
    refine q_iconst hx hb dL_walkSet_14 ?_
    exact q_retMi (r := 1) (L := L) (F := F) C0 hret rfl hlk dL_walkSet_15 hP hD hS (LW_n2 hC hF_ou trivial hn1)
  · refine W.widen (k := 8) (n := 60) (Nat.le_of_ble_eq_true rfl) (Nat.le_of_ble_eq_true rfl) ?_
    obtain ⟨hoA, hoB, hr, O1, G1, hC1, hg1, hE1⟩ := hp
    subst hr
    refine lv_i2l hx hb dL_walkSet_6 rfl ?_
    refine q_putN C0 iX4 tyX4 tyX4_ok nmX4 hP hD hS (hE1.1 _ ha_ou) ((hE1.2.1 _ ha_ou hO_ou).trans hF_ou) rfl 0 (by decide) C0.2.2.2.2.2.2.2.2.2.1 rfl rfl rfl rfl (Nat.le_of_ble_eq_true rfl) dL_walkSet_7 (fun H locs hP hD hS => ?_)
    refine lv_goto (tgt := 16) hx hb dL_walkSet_10 (by decide) ?_
    refine q_iconst hx hb dL_walkSet_16 ?_
    exact q_retMi (r := 0) (L := L1) (F := (va_up F1 ou (.inr (6, [.long ((iI (kR_walkSet1 σ j xw)).toInt64), sv])))) C0 hret rfl hlk dL_walkSet_17 hP hD hS (LW_ok hC1 hg1 hE1 ha_ou hO_ou hoA hoB rfl)
set_option maxHeartbeats 800000 in
set_option maxRecDepth 100000 in
theorem c_L_bookText (l : Launch) (hfl : l.stackTraces = false) (D : va_G) (y : Nat → ClassId) (sl : List (Nat × Nat × Nat)) (L : List Nat) (F : Nat → va_E) (sz : Nat) (O : Nat → Prop) (G : CG) (σ : CS) (xb : Int) (ou : Nat) (nv : Int64) (sv : Value) (hC : CP y L F O G σ) (hW : CW σ) (h_xb : -2147483648 ≤ xb ∧ xb ≤ 2147483647) (ha_ou : ou ∈ L) (hF_ou : F ou = .inr (6, [.long nv, sv])) (hO_ou : ¬ O ou) : Met l yL_bookText (.codeWith yL_bookText cL_bookText 4 (some .int) [(0, 9, 12, 19)] :: Tt) ({ frames := 8, cells := 1800, slots := 5000, locals := 176 }) (PcT D y sl L F sz [.ref ((gbg G)), .int (iI xb), .ref ou]) (cMi D (AL L sz) (LWp y O G ou L F σ (kS_bookText σ xb) ((0 ≤ xb ∧ xb ≤ 3)) (True) nv 1)) 1800 5000 (AL L sz) := by
  refine q_ofT (lv := [(0, .ref ((gbg G))), (1, .int (iI xb)), (2, .ref ou)]) (by decide) (Nat.le_of_ble_eq_true rfl) rfl (fun p e s m below meth c C0 hret hlk hT hsz hA hP hD hS hX hJ hN ls hl => ?_)
  subst hsz
  have hx := C0.1.1
  have hb := C0.1.2.1
  have hts := C0.1.2.2.2.2
  refine lv_aload_n hx hb dL_bookText_0 rfl (lv_at hl 2 rfl) ?_
  refine lv_aload_n hx hb dL_bookText_1 rfl (lv_at hl 0 rfl) ?_
  refine lv_iload_n hx hb dL_bookText_2 rfl (lv_at hl 1 rfl) ?_
  refine q_vTa C0 lL_72 (c_X3_bookText l hfl D y sl L F _ O G σ xb hC hW h_xb) ⟨rfl, rfl⟩ rfl hJ hP hD hA hX hC.1.1 hC.1.2 rfl rfl rfl hl rfl (Nat.le_of_ble_eq_true rfl) dL_bookText_3 ⟨(Nat.le_of_ble_eq_true rfl), (Nat.le_of_ble_eq_true rfl)⟩ (fun ce q9 H locs hn1 hP hD hS hce hcv hcl => ?_) (fun ce q9 H locs ho1 hn1 hP hD hS hce hcv hcl => ?_) (fun r H locs L1 F1 hP hD hS hp => ?_)
  · refine q_cI C0 hT rfl hce hcv hcl ?_
    refine W.widen (k := 1800) (n := 5000) (Nat.le_of_ble_eq_true rfl) (Nat.le_of_ble_eq_true rfl) ?_
    refine lv_astore_n (lv' := [(3, .ref q9), (0, .ref ((gbg G))), (1, .int (iI xb)), (2, .ref ou)]) hx hb dL_bookText_12 rfl hl (by decide) rfl (fun ls hl => ?_)
    refine q_iconst hx hb dL_bookText_13 ?_
    exact q_retMi (r := 1) (L := L) (F := F) C0 hret rfl hlk dL_bookText_14 hP hD hS (LW_n1 hC hF_ou hn1)
  · exact absurd trivial hn1
  · refine W.widen (k := 1800) (n := 5000) (Nat.le_of_ble_eq_true rfl) (Nat.le_of_ble_eq_true rfl) ?_
    obtain ⟨hoA, hoB, O1, G1, hC1, hg1, hE1⟩ := hp
    refine q_putN C0 iX4 tyX4 tyX4_ok nmX4 hP hD hS (hE1.1 _ ha_ou) ((hE1.2.1 _ ha_ou hO_ou).trans hF_ou) rfl 1 (by decide) C0.2.2.2.2.2.2.2.2.2.2.1 rfl rfl rfl rfl (Nat.le_of_ble_eq_true rfl) dL_bookText_6 (fun H locs hP hD hS => ?_)
    refine lv_goto (tgt := 15) hx hb dL_bookText_9 (by decide) ?_
    refine q_iconst hx hb dL_bookText_15 ?_
    exact q_retMi (r := 0) (L := L1) (F := (va_up F1 ou (.inr (6, [.long nv, .ref r])))) C0 hret rfl hlk dL_bookText_16 hP hD hS (LW_os (Rv := nv) hC1 hg1 hE1 ha_ou hO_ou hoA hoB)
