set_option maxHeartbeats 3000000 in
set_option maxRecDepth 100000 in
theorem c_X6_take (l : Launch) (D : va_G) (y : Nat → ClassId) (L : List Nat) (F : Nat → va_E) (sz : Nat) (O : Nat → Prop) (G : MG) (μ : MS) (xb : Int) (xk : Int) (hC : MP y L F O G μ) (hW : MW μ) (h_xb : -2147483648 ≤ xb ∧ xb ≤ 2147483647) (h_xk : -2147483648 ≤ xk ∧ xk ≤ 2147483647) : Met l yX6_take (.code yX6_take cX6_take 3 (some .int) :: Tt) ({ frames := 3, cells := 0, slots := 0, locals := 70 }) (PcM D y L F sz [.ref ((ubg G)), .int (iI xb), .int (iI xk)]) (cMi D (AL L sz) (fun r L1 F1 => r = jR_take μ xb xk ∧ ∃ (O1 : Nat → Prop) (G1 : MG), MP y L1 F1 O1 G1 (jS_take μ xb xk) ∧ ubg G1 = ubg G ∧ Ext O O1 L L1 F F1)) 0 0 (AL L sz) := by
  have hO : OE O F F := fun _ _ => rfl
  have hw5 := hW.2.2.2.2.2.1
  have hw6 := hW.2.2.2.2.2.2.1
  have hw7 := hW.2.2.2.2.2.2.2.1
  refine q_ofM (lv := [(0, .ref ((ubg G))), (1, .int (iI xb)), (2, .int (iI xk))]) (by decide) (Nat.le_of_ble_eq_true rfl) rfl (fun p e s m below meth c C0 hret hlk hnm hA hP hD hS ls hl => ?_)
  have hx := C0.1.1
  have hb := C0.1.2.1
  have hts := C0.1.2.2.2.2
  refine lv_aload_n hx hb dX6_take_0 rfl (lv_at hl 0 rfl) ?_
  refine lv_iload_n hx hb dX6_take_1 rfl (lv_at hl 1 rfl) ?_
  refine q_sS C0 lX6_60 (c_X6_isBook l D y L F xb (by omega)) ⟨rfl, rfl⟩ rfl hP rfl hl rfl (Nat.le_of_ble_eq_true rfl) dX6_take_2 ⟨Nat.zero_le _, Nat.zero_le _⟩ (fun r1 e_r1 => ?_)
  subst e_r1
  have b_2 := inR_d xb 0 3
  refine lv_iload_n hx hb dX6_take_5 rfl (lv_at hl 2 rfl) ?_
  refine q_sS C0 lX6_86 (c_X6_isKey l D y L F xk (by omega)) ⟨rfl, rfl⟩ rfl hP rfl hl rfl (Nat.le_of_ble_eq_true rfl) dX6_take_6 ⟨Nat.zero_le _, Nat.zero_le _⟩ (fun r3 e_r3 => ?_)
  subst e_r3
  have b_4 := inR_d xk 0 99
  refine q_vMi C0 lX6_63 (c_X6_isLet l D y L F _ O G μ (inR xb 0 3) (inR xk 0 99) hC (by omega) (by omega)) ⟨rfl, rfl⟩ rfl hP hD hS hA hC.1.1 hC.1.2 rfl rfl rfl hl rfl (Nat.le_of_ble_eq_true rfl) dX6_take_9 ⟨Nat.le_of_ble_eq_true rfl, Nat.le_of_ble_eq_true rfl⟩ (fun r5 H locs L6 F6 hP hD hS hz6 hp6 => ?_)
  obtain ⟨eL, hC, er, hO1⟩ := hp6
  subst eL
  replace er := er.symm
  subst er
  have hO := hO.tr hO1
  have k_7 := okR_d (inR xb 0 3) (inR xk 0 99)
  refine q_if_eq hx hb dX6_take_12 (tgt := 31) (by decide) (by omega) (fun c8 => ?_) (fun c8 => ?_)
  · replace k_7 := k_7.resolve_left (fun h => absurd (h.1.symm.trans c8) (by decide))
    refine q_iconst hx hb dX6_take_31 ?_
    exact q_retMi C0 hret rfl hlk dX6_take_32 hP hD hS (⟨(by unfold jR_take; (try unfold bkF); (try unfold bkO); (repeat' split) <;> first | omega | (exfalso; omega) | rfl), O, G, MP_eq hC (by unfold jS_take; (try unfold ltR); (try unfold inR); (try unfold bkF); (try unfold bkO); (repeat' split) <;> first | omega | (exfalso; omega) | rfl), rfl, Ext0 hO⟩)
  · replace k_7 := k_7.resolve_right (fun h => c8 h.1)
    refine lv_aload_n hx hb dX6_take_15 rfl (lv_at hl 0 rfl) ?_
    refine lv_aload_n hx hb dX6_take_16 rfl (lv_at hl 0 rfl) ?_
    refine q_get C0 iX6 hP hC.1.1 hC.1.2 rfl 0 (by decide) flX6_11 rfl (v := .ref ((uab G))) rfl dX6_take_17 ?_
    refine lv_iload_n hx hb dX6_take_20 rfl (lv_at hl 1 rfl) ?_
    refine q_aald C0 hP hC.2.1.1 hC.2.1.2 (t := 3) rfl (by omega) (by decide) (v := .ref ((urh G (vbk μ xb)))) rfl dX6_take_21 ?_
    refine lv_iload_n hx hb dX6_take_22 rfl (lv_at hl 2 rfl) ?_
    refine q_iconst hx hb dX6_take_23 ?_
    refine q_iconst hx hb dX6_take_24 ?_
    refine q_vMi C0 lX6_107 (c_X6_change l D y L F6 _ O G (tTh μ (ltR (inR xb 0 3) (inR xk 0 99))) (vbk μ xb) xk 1 (-1) hC hW (hW.1 xb) (by omega) (by omega) (by omega)) ⟨rfl, rfl⟩ rfl hP hD hS hA hC.1.1 hC.1.2 rfl rfl rfl hl rfl (Nat.le_of_ble_eq_true rfl) dX6_take_25 ⟨Nat.le_of_ble_eq_true rfl, Nat.le_of_ble_eq_true rfl⟩ (fun r9 H locs L10 F10 hP hD hS hz10 hp10 => ?_)
    obtain ⟨eL, hC, er, hO1⟩ := hp10
    subst eL
    replace er : (vst μ (vbk μ xb) (turn (vod μ (vbk μ xb)) xk)) = r9 := er.symm
    subst er
    have hO := hO.tr hO1
    refine lv_goto (tgt := 32) hx hb dX6_take_28 (by decide) ?_
    exact q_retMi C0 hret rfl hlk dX6_take_32 hP hD hS (⟨(by unfold jR_take; (try unfold bkF); (try unfold bkO); (repeat' split) <;> first | omega | (exfalso; omega) | rfl), O, G, MP_eq hC (by unfold jS_take; (try unfold ltR); (try unfold inR); (try unfold bkF); (try unfold bkO); (repeat' split) <;> first | omega | (exfalso; omega) | rfl), rfl, Ext0 hO⟩)
