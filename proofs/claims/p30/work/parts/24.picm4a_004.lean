set_option maxHeartbeats 3000000 in
set_option maxRecDepth 100000 in
theorem c_X6_viewTake (l : Launch) (D : va_G) (y : Nat → ClassId) (L : List Nat) (F : Nat → va_E) (sz : Nat) (O : Nat → Prop) (G : MG) (μ : MS) (xv : Int) (xk : Int) (hC : MP y L F O G μ) (hW : MW μ) (h_xv : -2147483648 ≤ xv ∧ xv ≤ 2147483647) (h_xk : -2147483648 ≤ xk ∧ xk ≤ 2147483647) : Met l yX6_viewTake (.code yX6_viewTake cX6_viewTake 5 (some .int) :: Tt) ({ frames := 3, cells := 0, slots := 0, locals := 70 }) (PcM D y L F sz [.ref ((ubg G)), .int (iI xv), .int (iI xk)]) (cMi D (AL L sz) (fun r L1 F1 => r = jR_viewTake μ xv xk ∧ ∃ (O1 : Nat → Prop) (G1 : MG), MP y L1 F1 O1 G1 (jS_viewTake μ xv xk) ∧ ubg G1 = ubg G ∧ Ext O O1 L L1 F F1)) 0 0 (AL L sz) := by
  have hO : OE O F F := fun _ _ => rfl
  have hw5 := hW.2.2.2.2.2.1
  have hw6 := hW.2.2.2.2.2.2.1
  have hw7 := hW.2.2.2.2.2.2.2.1
  have vb_ := hW.2.2.2.2.1 xv
  refine q_ofM (lv := [(0, .ref ((ubg G))), (1, .int (iI xv)), (2, .int (iI xk))]) (by decide) (Nat.le_of_ble_eq_true rfl) rfl (fun p e s m below meth c C0 hret hlk hnm hA hP hD hS ls hl => ?_)
  have hx := C0.1.1
  have hb := C0.1.2.1
  have hts := C0.1.2.2.2.2
  refine lv_aload_n hx hb dX6_viewTake_0 rfl (lv_at hl 0 rfl) ?_
  refine lv_iload_n hx hb dX6_viewTake_1 rfl (lv_at hl 1 rfl) ?_
  refine q_sS C0 lX6_168 (c_X6_isView l D y L F xv (by omega)) ⟨rfl, rfl⟩ rfl hP rfl hl rfl (Nat.le_of_ble_eq_true rfl) dX6_viewTake_2 ⟨Nat.zero_le _, Nat.zero_le _⟩ (fun r1 e_r1 => ?_)
  subst e_r1
  have b_2 := inR_d xv 0 1
  refine lv_iload_n hx hb dX6_viewTake_5 rfl (lv_at hl 2 rfl) ?_
  refine q_sS C0 lX6_86 (c_X6_isKey l D y L F xk (by omega)) ⟨rfl, rfl⟩ rfl hP rfl hl rfl (Nat.le_of_ble_eq_true rfl) dX6_viewTake_6 ⟨Nat.zero_le _, Nat.zero_le _⟩ (fun r3 e_r3 => ?_)
  subst e_r3
  have b_4 := inR_d xk 0 99
  refine q_vMi C0 lX6_63 (c_X6_isLet l D y L F _ O G μ (inR xv 0 1) (inR xk 0 99) hC (by omega) (by omega)) ⟨rfl, rfl⟩ rfl hP hD hS hA hC.1.1 hC.1.2 rfl rfl rfl hl rfl (Nat.le_of_ble_eq_true rfl) dX6_viewTake_9 ⟨Nat.le_of_ble_eq_true rfl, Nat.le_of_ble_eq_true rfl⟩ (fun r5 H locs L6 F6 hP hD hS hz6 hp6 => ?_)
  obtain ⟨eL, hC, er, hO1⟩ := hp6
  subst eL
  replace er := er.symm
  subst er
  have hO := hO.tr hO1
  have k_7 := okR_d (inR xv 0 1) (inR xk 0 99)
  refine q_if_ne hx hb dX6_viewTake_12 (tgt := 17) (by decide) (by omega) (fun c8 => ?_) (fun c8 => ?_)
  · replace k_7 := k_7.resolve_right (fun h => c8 h.1)
    refine lv_aload_n hx hb dX6_viewTake_17 rfl (lv_at hl 0 rfl) ?_
    refine lv_iload_n hx hb dX6_viewTake_18 rfl (lv_at hl 1 rfl) ?_
    refine lv_iload_n hx hb dX6_viewTake_19 rfl (lv_at hl 2 rfl) ?_
    refine q_vS C0 lX6_174 (c_X6_isWithin l D y L F6 O G (tTh μ (ltR (inR xv 0 1) (inR xk 0 99))) xv xk hC (by omega) (hW.2.2.1 xv) ⟨(hW.2.2.2.2.1 xv).1, (hW.2.2.2.2.1 xv).2.1⟩ (hW.2.2.2.2.1 xv).2.2 (by omega)) ⟨rfl, rfl⟩ rfl hP hC.1.1 hC.1.2 rfl rfl rfl hl rfl (Nat.le_of_ble_eq_true rfl) dX6_viewTake_20 ⟨Nat.zero_le _, Nat.zero_le _⟩ (fun r9 e_r9 => ?_)
    replace e_r9 : r9 = inR (turn (vod μ (vvw μ xv)) xk) (vvl μ xv) (vvh μ xv) := e_r9.trans (by first | rfl | (rw [show vvw (tTh μ (ltR (inR xv 0 1) (inR xk 0 99))) xv = vvw μ xv from (by first | rfl | exact iu_s _ _ _), show vvl (tTh μ (ltR (inR xv 0 1) (inR xk 0 99))) xv = vvl μ xv from (by first | rfl | exact iu_s _ _ _), show vvh (tTh μ (ltR (inR xv 0 1) (inR xk 0 99))) xv = vvh μ xv from (by first | rfl | exact iu_s _ _ _)]; done) | (rw [show vvw (tTh μ (ltR (inR xv 0 1) (inR xk 0 99))) xv = vvw μ xv from (by first | rfl | exact iu_s _ _ _), show vvl (tTh μ (ltR (inR xv 0 1) (inR xk 0 99))) xv = vvl μ xv from (by first | rfl | exact iu_s _ _ _), show vvh (tTh μ (ltR (inR xv 0 1) (inR xk 0 99))) xv = vvh μ xv from (by first | rfl | exact iu_s _ _ _)]; rfl))
    subst e_r9
    have b_10 := inR_d (turn (vod μ (vvw μ xv)) xk) (vvl μ xv) (vvh μ xv)
    refine lv_istore_n (lv' := [(3, .int (iI ((inR (turn (vod μ (vvw μ xv)) xk) (vvl μ xv) (vvh μ xv))))), (0, .ref ((ubg G))), (1, .int (iI xv)), (2, .int (iI xk))]) hx hb dX6_viewTake_23 rfl hl (by decide) rfl (fun ls hl => ?_)
    refine lv_aload_n hx hb dX6_viewTake_24 rfl (lv_at hl 1 rfl) ?_
    refine lv_aload_n hx hb dX6_viewTake_25 rfl (lv_at hl 1 rfl) ?_
    refine q_get C0 iX6 hP hC.1.1 hC.1.2 rfl 2 (by decide) flX6_18 rfl (v := .ref ((uav G))) rfl dX6_viewTake_26 ?_
    refine lv_iload_n hx hb dX6_viewTake_29 rfl (lv_at hl 2 rfl) ?_
    refine q_aald C0 hP hC.2.2.2.1.1 hC.2.2.2.1.2 (t := 3) rfl (by omega) (by decide) (v := .ref ((urh G (vvw μ xv)))) rfl dX6_viewTake_30 ?_
    refine lv_iload_n hx hb dX6_viewTake_31 rfl (lv_at hl 3 rfl) ?_
    refine lv_iload_n hx hb dX6_viewTake_32 rfl (lv_at hl 0 rfl) ?_
    refine q_iconst hx hb dX6_viewTake_33 ?_
    refine q_vMi C0 lX6_107 (c_X6_change l D y L F6 _ O G (tTh μ (ltR (inR xv 0 1) (inR xk 0 99))) (vvw μ xv) xk (inR (turn (vod μ (vvw μ xv)) xk) (vvl μ xv) (vvh μ xv)) (-1) hC hW (hW.2.2.1 xv) (by omega) (by omega) (by omega)) ⟨rfl, rfl⟩ rfl hP hD hS hA hC.1.1 hC.1.2 rfl rfl rfl hl rfl (Nat.le_of_ble_eq_true rfl) dX6_viewTake_34 ⟨Nat.le_of_ble_eq_true rfl, Nat.le_of_ble_eq_true rfl⟩ (fun r11 H locs L12 F12 hP hD hS hz12 hp12 => ?_)
    obtain ⟨eL, hC, er, hO1⟩ := hp12
    subst eL
    replace er : (vst μ (vvw μ xv) (turn (vod μ (vvw μ xv)) xk)) = r11 := er.symm
    subst er
    have hO := hO.tr hO1
    refine lv_istore (lv' := [(4, .int (iI ((vst μ (vvw μ xv) (turn (vod μ (vvw μ xv)) xk))))), (3, .int (iI ((inR (turn (vod μ (vvw μ xv)) xk) (vvl μ xv) (vvh μ xv))))), (0, .ref ((ubg G))), (1, .int (iI xv)), (2, .int (iI xk))]) hx hb dX6_viewTake_37 hl (by decide) rfl (fun ls hl => ?_)
    refine lv_iload_n hx hb dX6_viewTake_39 rfl (lv_at hl 1 rfl) ?_
    refine q_if_eq hx hb dX6_viewTake_40 (tgt := 48) (by decide) (by omega) (fun c13 => ?_) (fun c13 => ?_)
    · refine q_iconst hx hb dX6_viewTake_48 ?_
      exact q_retMi C0 hret rfl hlk dX6_viewTake_49 hP hD hS (⟨(by unfold jR_viewTake; (try unfold bkF); (try unfold bkO); (try unfold shF); (try unfold shO);  (repeat' split) <;> first | omega | (exfalso; omega) | rfl), O, G, MP_eq hC (by unfold jS_viewTake; (try unfold ltR); (repeat' split) <;> first | omega | (exfalso; omega) | rfl), rfl, Ext0 hO⟩)
    · refine lv_iload hx hb dX6_viewTake_43 (lv_at hl 0 rfl) ?_
      refine lv_goto (tgt := 49) hx hb dX6_viewTake_45 (by decide) ?_
      exact q_retMi C0 hret rfl hlk dX6_viewTake_49 hP hD hS (⟨(by unfold jR_viewTake; (try unfold bkF); (try unfold bkO); (try unfold shF); (try unfold shO);  (repeat' split) <;> first | omega | (exfalso; omega) | rfl), O, G, MP_eq hC (by unfold jS_viewTake; (try unfold ltR); (repeat' split) <;> first | omega | (exfalso; omega) | rfl), rfl, Ext0 hO⟩)
  · replace k_7 := k_7.resolve_left (fun h => absurd (h.1.symm.trans c8) (by decide))
    refine q_iconst hx hb dX6_viewTake_15 ?_
    exact q_retMi C0 hret rfl hlk dX6_viewTake_16 hP hD hS (⟨(by unfold jR_viewTake; (try unfold bkF); (try unfold bkO); (try unfold shF); (try unfold shO);  (repeat' split) <;> first | omega | (exfalso; omega) | rfl), O, G, MP_eq hC (by unfold jS_viewTake; (try unfold ltR); (repeat' split) <;> first | omega | (exfalso; omega) | rfl), rfl, Ext0 hO⟩)
