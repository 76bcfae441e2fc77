set_option maxHeartbeats 3000000 in
set_option maxRecDepth 100000 in
theorem c_X6_shelfDrop (l : Launch) (D : va_G) (y : Nat → ClassId) (L : List Nat) (F : Nat → va_E) (sz : Nat) (O : Nat → Prop) (G : MG) (μ : MS) (xb : Int) (xt : Int) (hC : MP y L F O G μ) (hW : MW μ) (h_xb : -2147483648 ≤ xb ∧ xb ≤ 2147483647) (h_xt : -2147483648 ≤ xt ∧ xt ≤ 2147483647) : Met l yX6_shelfDrop (.code yX6_shelfDrop cX6_shelfDrop 4 (some .int) :: Tt) ({ frames := 3, cells := 0, slots := 0, locals := 71 }) (PcM D y L F sz [.ref ((ubg G)), .int (iI xb), .int (iI xt)]) (cMi D (AL L sz) (fun r L1 F1 => r = jR_shelfDrop μ xb xt ∧ ∃ (O1 : Nat → Prop) (G1 : MG), MP y L1 F1 O1 G1 (jS_shelfDrop μ xb xt) ∧ ubg G1 = ubg G ∧ Ext O O1 L L1 F F1)) 0 0 (AL L sz) := by
  have hO : OE O F F := fun _ _ => rfl
  have hw5 := hW.2.2.2.2.2.1
  have hw6 := hW.2.2.2.2.2.2.1
  have hw7 := hW.2.2.2.2.2.2.2.1
  refine q_ofM (lv := [(0, .ref ((ubg G))), (1, .int (iI xb)), (2, .int (iI xt))]) (by decide) (Nat.le_of_ble_eq_true rfl) rfl (fun p e s m below meth c C0 hret hlk hnm hA hP hD hS ls hl => ?_)
  have hx := C0.1.1
  have hb := C0.1.2.1
  have hts := C0.1.2.2.2.2
  refine lv_aload_n hx hb dX6_shelfDrop_0 rfl (lv_at hl 0 rfl) ?_
  refine lv_iload_n hx hb dX6_shelfDrop_1 rfl (lv_at hl 1 rfl) ?_
  refine q_sS C0 lX6_193 (c_X6_isShelf l D y L F xb (by omega)) ⟨rfl, rfl⟩ rfl hP rfl hl rfl (Nat.le_of_ble_eq_true rfl) dX6_shelfDrop_2 ⟨Nat.zero_le _, Nat.zero_le _⟩ (fun r1 e_r1 => ?_)
  subst e_r1
  have b_2 := inR_d xb 0 2
  refine lv_iload_n hx hb dX6_shelfDrop_5 rfl (lv_at hl 2 rfl) ?_
  refine q_iconst hx hb dX6_shelfDrop_6 ?_
  refine q_iconst hx hb dX6_shelfDrop_7 ?_
  refine q_sS C0 lX6_41 (c_X6_isIn l D y L F xt 0 2 (by omega) (by omega) (by omega)) ⟨rfl, rfl⟩ rfl hP rfl hl rfl (Nat.le_of_ble_eq_true rfl) dX6_shelfDrop_8 ⟨Nat.zero_le _, Nat.zero_le _⟩ (fun r3 e_r3 => ?_)
  subst e_r3
  have b_4 := inR_d xt 0 2
  refine q_vMi C0 lX6_63 (c_X6_isLet l D y L F _ O G μ (inR xb 0 2) (inR xt 0 2) hC (by omega) (by omega)) ⟨rfl, rfl⟩ rfl hP hD hS hA hC.1.1 hC.1.2 rfl rfl rfl hl rfl (Nat.le_of_ble_eq_true rfl) dX6_shelfDrop_11 ⟨Nat.le_of_ble_eq_true rfl, Nat.le_of_ble_eq_true rfl⟩ (fun r5 H locs L6 F6 hP hD hS hz6 hp6 => ?_)
  obtain ⟨eL, hC, er, hO1⟩ := hp6
  subst eL
  replace er := er.symm
  subst er
  have hO := hO.tr hO1
  have k_7 := okR_d (inR xb 0 2) (inR xt 0 2)
  refine q_if_ne hx hb dX6_shelfDrop_14 (tgt := 19) (by decide) (by omega) (fun c8 => ?_) (fun c8 => ?_)
  · replace k_7 := k_7.resolve_right (fun h => c8 h.1)
    refine lv_aload_n hx hb dX6_shelfDrop_19 rfl (lv_at hl 0 rfl) ?_
    refine lv_aload_n hx hb dX6_shelfDrop_20 rfl (lv_at hl 0 rfl) ?_
    refine q_get C0 iX6 hP hC.1.1 hC.1.2 rfl 1 (by decide) flX6_15 rfl (v := .ref ((uas G))) rfl dX6_shelfDrop_21 ?_
    refine lv_iload_n hx hb dX6_shelfDrop_24 rfl (lv_at hl 1 rfl) ?_
    refine q_aald C0 hP hC.2.2.1.1 hC.2.2.1.2 (t := 3) rfl (by omega) (by decide) (v := .ref ((urh G (vsh μ xb)))) rfl dX6_shelfDrop_25 ?_
    refine lv_iload_n hx hb dX6_shelfDrop_26 rfl (lv_at hl 2 rfl) ?_
    refine q_iconst hx hb dX6_shelfDrop_27 ?_
    refine q_bipush hx hb dX6_shelfDrop_28 (by decide) ?_
    refine q_vMi C0 lX6_120 (c_X6_dropped l D y L F6 _ O G (tTh μ (ltR (inR xb 0 2) (inR xt 0 2))) (vsh μ xb) xt 0 99 hC hW (hW.2.1 xb) (by omega) (by omega) (by omega)) ⟨rfl, rfl⟩ rfl hP hD hS hA hC.1.1 hC.1.2 rfl rfl rfl hl rfl (Nat.le_of_ble_eq_true rfl) dX6_shelfDrop_30 ⟨Nat.le_of_ble_eq_true rfl, Nat.le_of_ble_eq_true rfl⟩ (fun r9 H locs L10 F10 hP hD hS hz10 hp10 => ?_)
    have dr_11 := dpR_b hC (hW.2.1 xb) xt 0 99
    obtain ⟨eL, hC, er, hO1⟩ := hp10
    subst eL
    replace er : (dpR (tTh μ (ltR (inR xb 0 2) (inR xt 0 2))) (vsh μ xb) xt 0 99) = r9 := er.symm
    subst er
    have hO := hO.tr hO1
    refine lv_istore_n (lv' := [(3, .int (iI ((dpR (tTh μ (ltR (inR xb 0 2) (inR xt 0 2))) (vsh μ xb) xt 0 99)))), (0, .ref ((ubg G))), (1, .int (iI xb)), (2, .int (iI xt))]) hx hb dX6_shelfDrop_33 rfl hl (by decide) rfl (fun ls hl => ?_)
    refine lv_aload_n hx hb dX6_shelfDrop_34 rfl (lv_at hl 1 rfl) ?_
    refine lv_iload_n hx hb dX6_shelfDrop_35 rfl (lv_at hl 3 rfl) ?_
    refine q_iconst hx hb dX6_shelfDrop_36 ?_
    refine q_icmp_ne hx hb dX6_shelfDrop_37 (tgt := 44) (by decide) (by omega) (by omega) (fun c12 => ?_) (fun c12 => ?_)
    · refine lv_iload_n hx hb dX6_shelfDrop_44 rfl (lv_at hl 0 rfl) ?_
      refine q_sS C0 lX6_199 (c_X6_key l D y L F10 (dpR (tTh μ (ltR (inR xb 0 2) (inR xt 0 2))) (vsh μ xb) xt 0 99) (by omega)) ⟨rfl, rfl⟩ rfl hP rfl hl rfl (Nat.le_of_ble_eq_true rfl) dX6_shelfDrop_45 ⟨Nat.zero_le _, Nat.zero_le _⟩ (fun r13 e_r13 => ?_)
      subst e_r13
      refine q_vMi C0 lX6_196 (c_X6_laid l D y L F10 _ O G (dpS (tTh μ (ltR (inR xb 0 2) (inR xt 0 2))) (vsh μ xb) xt 0 99) (k100 (dpR (tTh μ (ltR (inR xb 0 2) (inR xt 0 2))) (vsh μ xb) xt 0 99)) hC) ⟨rfl, rfl⟩ rfl hP hD hS hA hC.1.1 hC.1.2 rfl rfl rfl hl rfl (Nat.le_of_ble_eq_true rfl) dX6_shelfDrop_48 ⟨Nat.le_of_ble_eq_true rfl, Nat.le_of_ble_eq_true rfl⟩ (fun r14 H locs L15 F15 hP hD hS hz15 hp15 => ?_)
      obtain ⟨eL, hC, er, hO1⟩ := hp15
      subst eL
      replace er : (k100 (dpR (tTh μ (ltR (inR xb 0 2) (inR xt 0 2))) (vsh μ xb) xt 0 99)) = r14 := er.symm
      subst er
      have hO := hO.tr hO1
      exact q_retMi C0 hret rfl hlk dX6_shelfDrop_51 hP hD hS (⟨(by 
    have lt_ := ltR_d (inR xb 0 2) (inR xt 0 2)
    unfold jR_shelfDrop ; (try rw [show ltR (inR xb 0 2) (inR xt 0 2) = 0 by omega]); (repeat (first | rw [if_pos (by omega)] | rw [if_neg (by omega)]))
    all_goals (first | rfl | omega)), O, G, MP_eq hC (by 
    have lt_ := ltR_d (inR xb 0 2) (inR xt 0 2)
    unfold jS_shelfDrop ; rw [show ltR (inR xb 0 2) (inR xt 0 2) = 0 by omega]; (repeat (first | rw [if_pos (by omega)] | rw [if_neg (by omega)]))
    all_goals rfl), rfl, Ext0 hO⟩)
    · refine lv_iload_n hx hb dX6_shelfDrop_40 rfl (lv_at hl 0 rfl) ?_
      refine lv_goto (tgt := 48) hx hb dX6_shelfDrop_41 (by decide) ?_
      refine q_vMi C0 lX6_196 (c_X6_laid l D y L F10 _ O G (dpS (tTh μ (ltR (inR xb 0 2) (inR xt 0 2))) (vsh μ xb) xt 0 99) (dpR (tTh μ (ltR (inR xb 0 2) (inR xt 0 2))) (vsh μ xb) xt 0 99) hC) ⟨rfl, rfl⟩ rfl hP hD hS hA hC.1.1 hC.1.2 rfl rfl rfl hl rfl (Nat.le_of_ble_eq_true rfl) dX6_shelfDrop_48 ⟨Nat.le_of_ble_eq_true rfl, Nat.le_of_ble_eq_true rfl⟩ (fun r16 H locs L17 F17 hP hD hS hz17 hp17 => ?_)
      obtain ⟨eL, hC, er, hO1⟩ := hp17
      subst eL
      replace er : (dpR (tTh μ (ltR (inR xb 0 2) (inR xt 0 2))) (vsh μ xb) xt 0 99) = r16 := er.symm
      subst er
      have hO := hO.tr hO1
      exact q_retMi C0 hret rfl hlk dX6_shelfDrop_51 hP hD hS (⟨(by 
    have lt_ := ltR_d (inR xb 0 2) (inR xt 0 2)
    unfold jR_shelfDrop ; (try rw [show ltR (inR xb 0 2) (inR xt 0 2) = 0 by omega]); (repeat (first | rw [if_pos (by omega)] | rw [if_neg (by omega)]))
    all_goals (first | rfl | omega)), O, G, MP_eq hC (by 
    have lt_ := ltR_d (inR xb 0 2) (inR xt 0 2)
    unfold jS_shelfDrop ; rw [show ltR (inR xb 0 2) (inR xt 0 2) = 0 by omega]; (repeat (first | rw [if_pos (by omega)] | rw [if_neg (by omega)]))
    all_goals rfl), rfl, Ext0 hO⟩)
  · replace k_7 := k_7.resolve_left (fun h => absurd (h.1.symm.trans c8) (by decide))
    refine q_iconst hx hb dX6_shelfDrop_17 ?_
    exact q_retMi C0 hret rfl hlk dX6_shelfDrop_18 hP hD hS (⟨(by unfold jR_shelfDrop; rw [if_neg (by omega)]), O, G, MP_eq hC (by have lt_ := ltR_d (inR xb 0 2) (inR xt 0 2); unfold jS_shelfDrop; rcases lt_ with lt_ | lt_ | lt_ <;> first | (rw [if_neg (by omega), lt_.1]; done) | (rw [if_pos (by omega), if_neg (by omega), lt_.1]; done) | (exfalso; omega)), rfl, Ext0 hO⟩)
