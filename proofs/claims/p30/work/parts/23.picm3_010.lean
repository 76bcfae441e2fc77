set_option maxHeartbeats 3000000 in
set_option maxRecDepth 100000 in
theorem c_X6_viewNear (l : Launch) (D : va_G) (y : Nat → ClassId) (L : List Nat) (F : Nat → va_E) (sz : Nat) (O : Nat → Prop) (G : MG) (μ : MS) (xv : Int) (xk : Int) (xt : Int) (hC : MP y L F O G μ) (hW : MW μ) (h_xv : -2147483648 ≤ xv ∧ xv ≤ 2147483647) (h_xk : -2147483648 ≤ xk ∧ xk ≤ 2147483647) (h_xt : -2147483648 ≤ xt ∧ xt ≤ 2147483647) : Met l yX6_viewNear (.code yX6_viewNear cX6_viewNear 4 (some .int) :: Tt) ({ frames := 3, cells := 0, slots := 0, locals := 69 }) (PcM D y L F sz [.ref ((ubg G)), .int (iI xv), .int (iI xk), .int (iI xt)]) (cMi D (AL L sz) (fun r L1 F1 => r = jR_viewNear μ xv xk xt ∧ ∃ (O1 : Nat → Prop) (G1 : MG), MP y L1 F1 O1 G1 (jS_viewNear μ xv xk xt) ∧ ubg G1 = ubg G ∧ Ext O O1 L L1 F F1)) 0 0 (AL L sz) := by
  have hO : OE O F F := fun _ _ => rfl
  have hw5 := hW.2.2.2.2.2.1
  have hw6 := hW.2.2.2.2.2.2.1
  have hw7 := hW.2.2.2.2.2.2.2.1
  have vb_ := hW.2.2.2.2.1 xv
  refine q_ofM (lv := [(0, .ref ((ubg G))), (1, .int (iI xv)), (2, .int (iI xk)), (3, .int (iI xt))]) (by decide) (Nat.le_of_ble_eq_true rfl) rfl (fun p e s m below meth c C0 hret hlk hnm hA hP hD hS ls hl => ?_)
  have hx := C0.1.1
  have hb := C0.1.2.1
  have hts := C0.1.2.2.2.2
  refine lv_aload_n hx hb dX6_viewNear_0 rfl (lv_at hl 0 rfl) ?_
  refine lv_iload_n hx hb dX6_viewNear_1 rfl (lv_at hl 1 rfl) ?_
  refine q_sS C0 lX6_168 (c_X6_isView l D y L F xv (by omega)) ⟨rfl, rfl⟩ rfl hP rfl hl rfl (Nat.le_of_ble_eq_true rfl) dX6_viewNear_2 ⟨Nat.zero_le _, Nat.zero_le _⟩ (fun r1 e_r1 => ?_)
  subst e_r1
  have b_2 := inR_d xv 0 1
  refine lv_iload_n hx hb dX6_viewNear_5 rfl (lv_at hl 2 rfl) ?_
  refine q_sS C0 lX6_86 (c_X6_isKey l D y L F xk (by omega)) ⟨rfl, rfl⟩ rfl hP rfl hl rfl (Nat.le_of_ble_eq_true rfl) dX6_viewNear_6 ⟨Nat.zero_le _, Nat.zero_le _⟩ (fun r3 e_r3 => ?_)
  subst e_r3
  have b_4 := inR_d xk 0 99
  refine q_if_eq hx hb dX6_viewNear_9 (tgt := 25) (by decide) (by omega) (fun c5 => ?_) (fun c5 => ?_)
  · replace b_4 := b_4.resolve_left (fun h => absurd (h.1.symm.trans c5) (by decide))
    refine q_iconst hx hb dX6_viewNear_25 ?_
    refine q_vMi C0 lX6_63 (c_X6_isLet l D y L F _ O G μ (inR xv 0 1) 0 hC (by omega) (by omega)) ⟨rfl, rfl⟩ rfl hP hD hS hA hC.1.1 hC.1.2 rfl rfl rfl hl rfl (Nat.le_of_ble_eq_true rfl) dX6_viewNear_26 ⟨Nat.le_of_ble_eq_true rfl, Nat.le_of_ble_eq_true rfl⟩ (fun r6 H locs L7 F7 hP hD hS hz7 hp7 => ?_)
    obtain ⟨eL, hC, er, hO1⟩ := hp7
    subst eL
    replace er := (er.trans (okR_z _)).symm
    subst er
    have hO := hO.tr hO1
    refine q_if_eq hx hb dX6_viewNear_29 (tgt := 68) (by decide) (by omega) (fun c8 => ?_) (fun c8 => absurd c8 (by omega))
    refine q_iconst hx hb dX6_viewNear_68 ?_
    exact q_retMi C0 hret rfl hlk dX6_viewNear_69 hP hD hS (⟨(by unfold jR_viewNear; (try unfold bkF); (try unfold bkO); (repeat' split) <;> first | omega | (exfalso; omega) | rfl), O, G, MP_eq hC (by unfold jS_viewNear; (try unfold ltR); (try unfold inR); (try unfold bkF); (try unfold bkO); (repeat' split) <;> first | omega | (exfalso; omega) | rfl), rfl, Ext0 hO⟩)
  · replace b_4 := b_4.resolve_right (fun h => c5 h.1)
    refine lv_iload_n hx hb dX6_viewNear_12 rfl (lv_at hl 3 rfl) ?_
    refine q_iconst hx hb dX6_viewNear_13 ?_
    refine q_iconst hx hb dX6_viewNear_14 ?_
    refine q_sS C0 lX6_41 (c_X6_isIn l D y L F xt 0 4 (by omega) (by omega) (by omega)) ⟨rfl, rfl⟩ rfl hP rfl hl rfl (Nat.le_of_ble_eq_true rfl) dX6_viewNear_15 ⟨Nat.zero_le _, Nat.zero_le _⟩ (fun r9 e_r9 => ?_)
    subst e_r9
    have b_10 := inR_d xt 0 4
    refine q_if_eq hx hb dX6_viewNear_18 (tgt := 25) (by decide) (by omega) (fun c11 => ?_) (fun c11 => ?_)
    · replace b_10 := b_10.resolve_left (fun h => absurd (h.1.symm.trans c11) (by decide))
      refine q_iconst hx hb dX6_viewNear_25 ?_
      refine q_vMi C0 lX6_63 (c_X6_isLet l D y L F _ O G μ (inR xv 0 1) 0 hC (by omega) (by omega)) ⟨rfl, rfl⟩ rfl hP hD hS hA hC.1.1 hC.1.2 rfl rfl rfl hl rfl (Nat.le_of_ble_eq_true rfl) dX6_viewNear_26 ⟨Nat.le_of_ble_eq_true rfl, Nat.le_of_ble_eq_true rfl⟩ (fun r12 H locs L13 F13 hP hD hS hz13 hp13 => ?_)
      obtain ⟨eL, hC, er, hO1⟩ := hp13
      subst eL
      replace er := (er.trans (okR_z _)).symm
      subst er
      have hO := hO.tr hO1
      refine q_if_eq hx hb dX6_viewNear_29 (tgt := 68) (by decide) (by omega) (fun c14 => ?_) (fun c14 => absurd c14 (by omega))
      refine q_iconst hx hb dX6_viewNear_68 ?_
      exact q_retMi C0 hret rfl hlk dX6_viewNear_69 hP hD hS (⟨(by unfold jR_viewNear; (try unfold bkF); (try unfold bkO); (repeat' split) <;> first | omega | (exfalso; omega) | rfl), O, G, MP_eq hC (by unfold jS_viewNear; (try unfold ltR); (try unfold inR); (try unfold bkF); (try unfold bkO); (repeat' split) <;> first | omega | (exfalso; omega) | rfl), rfl, Ext0 hO⟩)
    · replace b_10 := b_10.resolve_right (fun h => c11 h.1)
      refine q_iconst hx hb dX6_viewNear_21 ?_
      refine lv_goto (tgt := 26) hx hb dX6_viewNear_22 (by decide) ?_
      refine q_vMi C0 lX6_63 (c_X6_isLet l D y L F _ O G μ (inR xv 0 1) 1 hC (by omega) (by omega)) ⟨rfl, rfl⟩ rfl hP hD hS hA hC.1.1 hC.1.2 rfl rfl rfl hl rfl (Nat.le_of_ble_eq_true rfl) dX6_viewNear_26 ⟨Nat.le_of_ble_eq_true rfl, Nat.le_of_ble_eq_true rfl⟩ (fun r15 H locs L16 F16 hP hD hS hz16 hp16 => ?_)
      obtain ⟨eL, hC, er, hO1⟩ := hp16
      subst eL
      replace er := er.symm
      subst er
      have hO := hO.tr hO1
      have k_17 := okR_d (inR xv 0 1) 1
      refine q_if_eq hx hb dX6_viewNear_29 (tgt := 68) (by decide) (by omega) (fun c18 => ?_) (fun c18 => ?_)
      · replace k_17 := k_17.resolve_left (fun h => absurd (h.1.symm.trans c18) (by decide))
        refine q_iconst hx hb dX6_viewNear_68 ?_
        exact q_retMi C0 hret rfl hlk dX6_viewNear_69 hP hD hS (⟨(by unfold jR_viewNear; (try unfold bkF); (try unfold bkO); (repeat' split) <;> first | omega | (exfalso; omega) | rfl), O, G, MP_eq hC (by unfold jS_viewNear; (try unfold ltR); (try unfold inR); (try unfold bkF); (try unfold bkO); (repeat' split) <;> first | omega | (exfalso; omega) | rfl), rfl, Ext0 hO⟩)
      · replace k_17 := k_17.resolve_right (fun h => c18 h.1)
        refine lv_aload_n hx hb dX6_viewNear_32 rfl (lv_at hl 0 rfl) ?_
        refine q_get C0 iX6 hP hC.1.1 hC.1.2 rfl 2 (by decide) flX6_18 rfl (v := .ref ((uav G))) rfl dX6_viewNear_33 ?_
        refine lv_iload_n hx hb dX6_viewNear_36 rfl (lv_at hl 1 rfl) ?_
        refine q_aald C0 hP hC.2.2.2.1.1 hC.2.2.2.1.2 (t := 3) rfl (by omega) (by decide) (v := .ref ((urh G (vvw μ xv)))) rfl dX6_viewNear_37 ?_
        refine lv_aload_n hx hb dX6_viewNear_38 rfl (lv_at hl 0 rfl) ?_
        refine q_get C0 iX6 hP hC.1.1 hC.1.2 rfl 2 (by decide) flX6_18 rfl (v := .ref ((uav G))) rfl dX6_viewNear_39 ?_
        refine lv_iload_n hx hb dX6_viewNear_42 rfl (lv_at hl 1 rfl) ?_
        refine q_aald C0 hP hC.2.2.2.1.1 hC.2.2.2.1.2 (t := 3) rfl (by omega) (by decide) (v := .ref ((urh G (vvw μ xv)))) rfl dX6_viewNear_43 ?_
        refine lv_iload_n hx hb dX6_viewNear_44 rfl (lv_at hl 2 rfl) ?_
        refine lv_iload_n hx hb dX6_viewNear_45 rfl (lv_at hl 3 rfl) ?_
        refine lv_aload_n hx hb dX6_viewNear_46 rfl (lv_at hl 0 rfl) ?_
        refine q_get C0 iX6 hP hC.1.1 hC.1.2 rfl 3 (by decide) flX6_21 rfl (v := .ref ((uaf G))) rfl dX6_viewNear_47 ?_
        refine lv_iload_n hx hb dX6_viewNear_50 rfl (lv_at hl 1 rfl) ?_
        refine q_iald C0 hP (f := (vvl μ)) hC.2.2.2.2.1.1 hC.2.2.2.2.1.2 (by omega) (by decide) dX6_viewNear_51 ?_
        refine lv_aload_n hx hb dX6_viewNear_52 rfl (lv_at hl 0 rfl) ?_
        refine q_get C0 iX6 hP hC.1.1 hC.1.2 rfl 4 (by decide) flX6_25 rfl (v := .ref ((uat G))) rfl dX6_viewNear_53 ?_
        refine lv_iload_n hx hb dX6_viewNear_56 rfl (lv_at hl 1 rfl) ?_
        refine q_iald C0 hP (f := (vvh μ)) hC.2.2.2.2.2.1.1 hC.2.2.2.2.2.1.2 (by omega) (by decide) dX6_viewNear_57 ?_
        refine q_vS C0 lX6_124 (c_X5_near l D y L F16 (urh G (vvw μ xv)) (urw G (vvw μ xv)) (vod μ (vvw μ xv)) (vst μ (vvw μ xv)) xk xt ((vvl μ) xv) ((vvh μ) xv) (MP_r hC (hW.2.2.1 xv)) (by omega) (by omega) (by omega) (by omega)) ⟨rfl, rfl⟩ rfl hP (MP_r hC (hW.2.2.1 xv)).1 (MP_r hC (hW.2.2.1 xv)).2.1 rfl rfl rfl hl rfl (Nat.le_of_ble_eq_true rfl) dX6_viewNear_58 ⟨Nat.zero_le _, Nat.zero_le _⟩ (fun r19 e_r19 => ?_)
        subst e_r19
        have b_20 := @keyR_b (vod μ (vvw μ xv)) (nearP (vod μ (vvw μ xv)) (vst μ (vvw μ xv)) ((vvl μ) xv) ((vvh μ) xv) xk xt) (nearP_r (vod μ (vvw μ xv)) (vst μ (vvw μ xv)) ((vvl μ) xv) ((vvh μ) xv) xk xt)
        refine q_iconst hx hb dX6_viewNear_61 ?_
        refine q_sS C0 lX6_128 (c_X6_told l D y L F16 (urh G (vvw μ xv)) (urw G (vvw μ xv)) (vod μ (vvw μ xv)) (vst μ (vvw μ xv)) (keyR (vod μ (vvw μ xv)) (nearP (vod μ (vvw μ xv)) (vst μ (vvw μ xv)) ((vvl μ) xv) ((vvh μ) xv) xk xt)) 1 (MP_r hC (hW.2.2.1 xv)) (by omega) (by omega)) ⟨rfl, rfl⟩ rfl hP rfl hl rfl (Nat.le_of_ble_eq_true rfl) dX6_viewNear_62 ⟨Nat.zero_le _, Nat.zero_le _⟩ (fun r21 e_r21 => ?_)
        subst e_r21
        refine lv_goto (tgt := 69) hx hb dX6_viewNear_65 (by decide) ?_
        exact q_retMi C0 hret rfl hlk dX6_viewNear_69 hP hD hS (⟨(by unfold jR_viewNear; (try unfold bkF); (try unfold bkO); (repeat' split) <;> first | omega | (exfalso; omega) | rfl), O, G, MP_eq hC (by unfold jS_viewNear; (try unfold ltR); (try unfold inR); (try unfold bkF); (try unfold bkO); (repeat' split) <;> first | omega | (exfalso; omega) | rfl), rfl, Ext0 hO⟩)
