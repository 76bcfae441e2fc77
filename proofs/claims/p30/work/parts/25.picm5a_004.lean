set_option maxHeartbeats 3000000 in
set_option maxRecDepth 100000 in
theorem c_X6_viewDrop (l : Launch) (D : va_G) (y : Nat → ClassId) (L : List Nat) (F : Nat → va_E) (sz : Nat) (O : Nat → Prop) (G : MG) (μ : MS) (xv : Int) (xt : Int) (hC : MP y L F O G μ) (hW : MW μ) (h_xv : -2147483648 ≤ xv ∧ xv ≤ 2147483647) (h_xt : -2147483648 ≤ xt ∧ xt ≤ 2147483647) : Met l yX6_viewDrop (.code yX6_viewDrop cX6_viewDrop 3 (some .int) :: Tt) ({ frames := 3, cells := 0, slots := 0, locals := 71 }) (PcM D y L F sz [.ref ((ubg G)), .int (iI xv), .int (iI xt)]) (cMi D (AL L sz) (fun r L1 F1 => r = jR_viewDrop μ xv xt ∧ ∃ (O1 : Nat → Prop) (G1 : MG), MP y L1 F1 O1 G1 (jS_viewDrop μ xv xt) ∧ ubg G1 = ubg G ∧ Ext O O1 L L1 F F1)) 0 0 (AL L sz) := by
  have hO : OE O F F := fun _ _ => rfl
  have hw5 := hW.2.2.2.2.2.1
  have hw6 := hW.2.2.2.2.2.2.1
  have hw7 := hW.2.2.2.2.2.2.2.1
  have vb_ := hW.2.2.2.2.1 xv
  refine q_ofM (lv := [(0, .ref ((ubg G))), (1, .int (iI xv)), (2, .int (iI xt))]) (by decide) (Nat.le_of_ble_eq_true rfl) rfl (fun p e s m below meth c C0 hret hlk hnm hA hP hD hS ls hl => ?_)
  have hx := C0.1.1
  have hb := C0.1.2.1
  have hts := C0.1.2.2.2.2
  refine lv_aload_n hx hb dX6_viewDrop_0 rfl (lv_at hl 0 rfl) ?_
  refine lv_iload_n hx hb dX6_viewDrop_1 rfl (lv_at hl 1 rfl) ?_
  refine q_sS C0 lX6_168 (c_X6_isView l D y L F xv (by omega)) ⟨rfl, rfl⟩ rfl hP rfl hl rfl (Nat.le_of_ble_eq_true rfl) dX6_viewDrop_2 ⟨Nat.zero_le _, Nat.zero_le _⟩ (fun r1 e_r1 => ?_)
  subst e_r1
  have b_2 := inR_d xv 0 1
  refine lv_iload_n hx hb dX6_viewDrop_5 rfl (lv_at hl 2 rfl) ?_
  refine q_iconst hx hb dX6_viewDrop_6 ?_
  refine q_iconst hx hb dX6_viewDrop_7 ?_
  refine q_sS C0 lX6_41 (c_X6_isIn l D y L F xt 0 2 (by omega) (by omega) (by omega)) ⟨rfl, rfl⟩ rfl hP rfl hl rfl (Nat.le_of_ble_eq_true rfl) dX6_viewDrop_8 ⟨Nat.zero_le _, Nat.zero_le _⟩ (fun r3 e_r3 => ?_)
  subst e_r3
  have b_4 := inR_d xt 0 2
  refine q_vMi C0 lX6_63 (c_X6_isLet l D y L F _ O G μ (inR xv 0 1) (inR xt 0 2) hC (by omega) (by omega)) ⟨rfl, rfl⟩ rfl hP hD hS hA hC.1.1 hC.1.2 rfl rfl rfl hl rfl (Nat.le_of_ble_eq_true rfl) dX6_viewDrop_11 ⟨Nat.le_of_ble_eq_true rfl, Nat.le_of_ble_eq_true rfl⟩ (fun r5 H locs L6 F6 hP hD hS hz6 hp6 => ?_)
  obtain ⟨eL, hC, er, hO1⟩ := hp6
  subst eL
  replace er := er.symm
  subst er
  have hO := hO.tr hO1
  have k_7 := okR_d (inR xv 0 1) (inR xt 0 2)
  refine q_if_eq hx hb dX6_viewDrop_14 (tgt := 47) (by decide) (by omega) (fun c8 => ?_) (fun c8 => ?_)
  · replace k_7 := k_7.resolve_left (fun h => absurd (h.1.symm.trans c8) (by decide))
    refine q_iconst hx hb dX6_viewDrop_47 ?_
    exact q_retMi C0 hret rfl hlk dX6_viewDrop_48 hP hD hS (⟨(by unfold jR_viewDrop; rw [if_neg (by omega)]), O, G, MP_eq hC (by have lt_ := ltR_d (inR xv 0 1) (inR xt 0 2); unfold jS_viewDrop; rcases lt_ with lt_ | lt_ | lt_ <;> first | (rw [if_neg (by omega), lt_.1]; done) | (rw [if_pos (by omega), if_neg (by omega), lt_.1]; done) | (exfalso; omega)), rfl, Ext0 hO⟩)
  · replace k_7 := k_7.resolve_right (fun h => c8 h.1)
    refine lv_aload_n hx hb dX6_viewDrop_17 rfl (lv_at hl 0 rfl) ?_
    refine lv_aload_n hx hb dX6_viewDrop_18 rfl (lv_at hl 0 rfl) ?_
    refine lv_aload_n hx hb dX6_viewDrop_19 rfl (lv_at hl 0 rfl) ?_
    refine q_get C0 iX6 hP hC.1.1 hC.1.2 rfl 2 (by decide) flX6_18 rfl (v := .ref ((uav G))) rfl dX6_viewDrop_20 ?_
    refine lv_iload_n hx hb dX6_viewDrop_23 rfl (lv_at hl 1 rfl) ?_
    refine q_aald C0 hP hC.2.2.2.1.1 hC.2.2.2.1.2 (t := 3) rfl (by omega) (by decide) (v := .ref ((urh G (vvw μ xv)))) rfl dX6_viewDrop_24 ?_
    refine lv_iload_n hx hb dX6_viewDrop_25 rfl (lv_at hl 2 rfl) ?_
    refine lv_aload_n hx hb dX6_viewDrop_26 rfl (lv_at hl 0 rfl) ?_
    refine q_get C0 iX6 hP hC.1.1 hC.1.2 rfl 3 (by decide) flX6_21 rfl (v := .ref ((uaf G))) rfl dX6_viewDrop_27 ?_
    refine lv_iload_n hx hb dX6_viewDrop_30 rfl (lv_at hl 1 rfl) ?_
    refine q_iald C0 hP (f := (vvl μ)) hC.2.2.2.2.1.1 hC.2.2.2.2.1.2 (by omega) (by decide) dX6_viewDrop_31 ?_
    refine lv_aload_n hx hb dX6_viewDrop_32 rfl (lv_at hl 0 rfl) ?_
    refine q_get C0 iX6 hP hC.1.1 hC.1.2 rfl 4 (by decide) flX6_25 rfl (v := .ref ((uat G))) rfl dX6_viewDrop_33 ?_
    refine lv_iload_n hx hb dX6_viewDrop_36 rfl (lv_at hl 1 rfl) ?_
    refine q_iald C0 hP (f := (vvh μ)) hC.2.2.2.2.2.1.1 hC.2.2.2.2.2.1.2 (by omega) (by decide) dX6_viewDrop_37 ?_
    refine q_vMi C0 lX6_120 (c_X6_dropped l D y L F6 _ O G (tTh μ (ltR (inR xv 0 1) (inR xt 0 2))) (vvw μ xv) xt ((vvl μ) xv) ((vvh μ) xv) hC hW (hW.2.2.1 xv) (by omega) (by omega) (by omega)) ⟨rfl, rfl⟩ rfl hP hD hS hA hC.1.1 hC.1.2 rfl rfl rfl hl rfl (Nat.le_of_ble_eq_true rfl) dX6_viewDrop_38 ⟨Nat.le_of_ble_eq_true rfl, Nat.le_of_ble_eq_true rfl⟩ (fun r9 H locs L10 F10 hP hD hS hz10 hp10 => ?_)
    have dr_11 := dpR_b hC (hW.2.2.1 xv) xt ((vvl μ) xv) ((vvh μ) xv)
    obtain ⟨eL, hC, er, hO1⟩ := hp10
    subst eL
    replace er : (dpR (tTh μ (ltR (inR xv 0 1) (inR xt 0 2))) (vvw μ xv) xt ((vvl μ) xv) ((vvh μ) xv)) = r9 := er.symm
    subst er
    have hO := hO.tr hO1
    refine q_vMi C0 lX6_71 (c_X6_did l D y L F10 _ O G (dpS (tTh μ (ltR (inR xv 0 1) (inR xt 0 2))) (vvw μ xv) xt ((vvl μ) xv) ((vvh μ) xv)) (dpR (tTh μ (ltR (inR xv 0 1) (inR xt 0 2))) (vvw μ xv) xt ((vvl μ) xv) ((vvh μ) xv)) hC) ⟨rfl, rfl⟩ rfl hP hD hS hA hC.1.1 hC.1.2 rfl rfl rfl hl rfl (Nat.le_of_ble_eq_true rfl) dX6_viewDrop_41 ⟨Nat.le_of_ble_eq_true rfl, Nat.le_of_ble_eq_true rfl⟩ (fun r12 H locs L13 F13 hP hD hS hz13 hp13 => ?_)
    obtain ⟨eL, hC, er, hO1⟩ := hp13
    subst eL
    replace er : (dpR (tTh μ (ltR (inR xv 0 1) (inR xt 0 2))) (vvw μ xv) xt ((vvl μ) xv) ((vvh μ) xv)) = r12 := er.symm
    subst er
    have hO := hO.tr hO1
    refine lv_goto (tgt := 48) hx hb dX6_viewDrop_44 (by decide) ?_
    exact q_retMi C0 hret rfl hlk dX6_viewDrop_48 hP hD hS (⟨(by 
    have lt_ := ltR_d (inR xv 0 1) (inR xt 0 2)
    unfold jR_viewDrop ; (try rw [show ltR (inR xv 0 1) (inR xt 0 2) = 0 by omega]); (repeat (first | rw [if_pos (by omega)] | rw [if_neg (by omega)]))
    all_goals (first | rfl | omega)), O, G, MP_eq hC (by 
    have lt_ := ltR_d (inR xv 0 1) (inR xt 0 2)
    unfold jS_viewDrop ; rw [show ltR (inR xv 0 1) (inR xt 0 2) = 0 by omega]; (repeat (first | rw [if_pos (by omega)] | rw [if_neg (by omega)]))
    all_goals rfl), rfl, Ext0 hO⟩)
