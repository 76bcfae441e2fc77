set_option maxHeartbeats 3000000 in
set_option maxRecDepth 100000 in
theorem c_X6_tellBook (l : Launch) (D : va_G) (y : Nat → ClassId) (L : List Nat) (F : Nat → va_E) (sz : Nat) (O : Nat → Prop) (G : MG) (μ : MS) (xb : Int) (xt : Int) (hC : MP y L F O G μ) (hW : MW μ) (h_xb : -2147483648 ≤ xb ∧ xb ≤ 2147483647) (h_xt : -2147483648 ≤ xt ∧ xt ≤ 2147483647) : Met l yX6_tellBook (.code yX6_tellBook cX6_tellBook 4 (some .int) :: Tt) ({ frames := 2, cells := 0, slots := 0, locals := 45 }) (PcM D y L F sz [.ref ((ubg G)), .int (iI xb), .int (iI xt)]) (cMi D (AL L sz) (fun r L1 F1 => r = jR_tellBook μ xb xt ∧ ∃ (O1 : Nat → Prop) (G1 : MG), MP y L1 F1 O1 G1 (jS_tellBook μ xb xt) ∧ ubg G1 = ubg G ∧ Ext O O1 L L1 F F1)) 0 0 (AL L sz) := by
  have hO : OE O F F := fun _ _ => rfl
  have hw5 := hW.2.2.2.2.2.1
  have hw6 := hW.2.2.2.2.2.2.1
  have hw7 := hW.2.2.2.2.2.2.2.1
  have cb_ := cntP_b (vst μ (vbk μ xb)) (lo := 0) (hi := 99) (by omega) (by omega)
  refine q_ofM (lv := [(0, .ref ((ubg G))), (1, .int (iI xb)), (2, .int (iI xt))]) (by decide) (Nat.le_of_ble_eq_true rfl) rfl (fun p e s m below meth c C0 hret hlk hnm hA hP hD hS ls hl => ?_)
  have hx := C0.1.1
  have hb := C0.1.2.1
  have hts := C0.1.2.2.2.2
  refine lv_aload_n hx hb dX6_tellBook_0 rfl (lv_at hl 0 rfl) ?_
  refine lv_iload_n hx hb dX6_tellBook_1 rfl (lv_at hl 1 rfl) ?_
  refine q_sS C0 lX6_60 (c_X6_isBook l D y L F xb (by omega)) ⟨rfl, rfl⟩ rfl hP rfl hl rfl (Nat.le_of_ble_eq_true rfl) dX6_tellBook_2 ⟨Nat.zero_le _, Nat.zero_le _⟩ (fun r1 e_r1 => ?_)
  subst e_r1
  have b_2 := inR_d xb 0 3
  refine lv_iload_n hx hb dX6_tellBook_5 rfl (lv_at hl 2 rfl) ?_
  refine q_iconst hx hb dX6_tellBook_6 ?_
  refine q_iconst hx hb dX6_tellBook_7 ?_
  refine q_sS C0 lX6_41 (c_X6_isIn l D y L F xt 0 3 (by omega) (by omega) (by omega)) ⟨rfl, rfl⟩ rfl hP rfl hl rfl (Nat.le_of_ble_eq_true rfl) dX6_tellBook_8 ⟨Nat.zero_le _, Nat.zero_le _⟩ (fun r3 e_r3 => ?_)
  subst e_r3
  have b_4 := inR_d xt 0 3
  refine q_vMi C0 lX6_63 (c_X6_isLet l D y L F _ O G μ (inR xb 0 3) (inR xt 0 3) hC (by omega) (by omega)) ⟨rfl, rfl⟩ rfl hP hD hS hA hC.1.1 hC.1.2 rfl rfl rfl hl rfl (Nat.le_of_ble_eq_true rfl) dX6_tellBook_11 ⟨Nat.le_of_ble_eq_true rfl, Nat.le_of_ble_eq_true rfl⟩ (fun r5 H locs L6 F6 hP hD hS hz6 hp6 => ?_)
  obtain ⟨eL, hC, er, hO1⟩ := hp6
  subst eL
  replace er := er.symm
  subst er
  have hO := hO.tr hO1
  have k_7 := okR_d (inR xb 0 3) (inR xt 0 3)
  refine q_if_ne hx hb dX6_tellBook_14 (tgt := 19) (by decide) (by omega) (fun c8 => ?_) (fun c8 => ?_)
  · replace k_7 := k_7.resolve_right (fun h => c8 h.1)
    refine lv_aload_n hx hb dX6_tellBook_19 rfl (lv_at hl 0 rfl) ?_
    refine q_get C0 iX6 hP hC.1.1 hC.1.2 rfl 0 (by decide) flX6_11 rfl (v := .ref ((uab G))) rfl dX6_tellBook_20 ?_
    refine lv_iload_n hx hb dX6_tellBook_23 rfl (lv_at hl 1 rfl) ?_
    refine q_aald C0 hP hC.2.1.1 hC.2.1.2 (t := 3) rfl (by omega) (by decide) (v := .ref ((urh G (vbk μ xb)))) rfl dX6_tellBook_24 ?_
    refine q_iconst hx hb dX6_tellBook_25 ?_
    refine q_bipush hx hb dX6_tellBook_26 (by decide) ?_
    refine q_vS C0 lX6_67 (c_X5_many l D y L F6 (urh G (vbk μ xb)) (urw G (vbk μ xb)) (vod μ (vbk μ xb)) (vst μ (vbk μ xb)) 0 99 (MP_r hC (hW.1 xb)) (by omega) (by omega)) ⟨rfl, rfl⟩ rfl hP (MP_r hC (hW.1 xb)).1 (MP_r hC (hW.1 xb)).2.1 rfl rfl rfl hl rfl (Nat.le_of_ble_eq_true rfl) dX6_tellBook_28 ⟨Nat.zero_le _, Nat.zero_le _⟩ (fun r9 e_r9 => ?_)
    subst e_r9
    refine lv_istore_n (lv' := [(3, .int (iI ((cntP (vst μ (vbk μ xb)) 0 99)))), (0, .ref ((ubg G))), (1, .int (iI xb)), (2, .int (iI xt))]) hx hb dX6_tellBook_31 rfl hl (by decide) rfl (fun ls hl => ?_)
    refine lv_iload_n hx hb dX6_tellBook_32 rfl (lv_at hl 3 rfl) ?_
    refine q_if_ne hx hb dX6_tellBook_33 (tgt := 40) (by decide) (by omega) (fun c10 => ?_) (fun c10 => ?_)
    · refine lv_iload_n hx hb dX6_tellBook_40 rfl (lv_at hl 3 rfl) ?_
      refine q_iconst hx hb dX6_tellBook_41 ?_
      refine q_icmp_ne hx hb dX6_tellBook_42 (tgt := 57) (by decide) (by omega) (by omega) (fun c11 => ?_) (fun c11 => ?_)
      · refine lv_iload_n hx hb dX6_tellBook_57 rfl (lv_at hl 3 rfl) ?_
        refine q_iconst hx hb dX6_tellBook_58 ?_
        refine q_icmp_ne hx hb dX6_tellBook_59 (tgt := 74) (by decide) (by omega) (by omega) (fun c12 => ?_) (fun c12 => ?_)
        · refine lv_iload_n hx hb dX6_tellBook_74 rfl (lv_at hl 0 rfl) ?_
          refine q_if_ne hx hb dX6_tellBook_75 (tgt := 82) (by decide) (by omega) (fun c13 => ?_) (fun c13 => ?_)
          · refine q_iconst hx hb dX6_tellBook_82 ?_
            exact q_retMi C0 hret rfl hlk dX6_tellBook_83 hP hD hS (⟨(by unfold jR_tellBook; (try unfold bkF); (try unfold bkO); (repeat' split) <;> first | omega | (exfalso; omega) | rfl), O, G, MP_eq hC (by unfold jS_tellBook; (try unfold ltR); (try unfold inR); (try unfold bkF); (try unfold bkO); (repeat' split) <;> first | omega | (exfalso; omega) | rfl), rfl, Ext0 hO⟩)
          · refine q_iconst hx hb dX6_tellBook_78 ?_
            refine lv_goto (tgt := 83) hx hb dX6_tellBook_79 (by decide) ?_
            exact q_retMi C0 hret rfl hlk dX6_tellBook_83 hP hD hS (⟨(by unfold jR_tellBook; (try unfold bkF); (try unfold bkO); (repeat' split) <;> first | omega | (exfalso; omega) | rfl), O, G, MP_eq hC (by unfold jS_tellBook; (try unfold ltR); (try unfold inR); (try unfold bkF); (try unfold bkO); (repeat' split) <;> first | omega | (exfalso; omega) | rfl), rfl, Ext0 hO⟩)
        · refine lv_aload_n hx hb dX6_tellBook_62 rfl (lv_at hl 1 rfl) ?_
          refine q_get C0 iX6 hP hC.1.1 hC.1.2 rfl 0 (by decide) flX6_11 rfl (v := .ref ((uab G))) rfl dX6_tellBook_63 ?_
          refine lv_iload_n hx hb dX6_tellBook_66 rfl (lv_at hl 2 rfl) ?_
          refine q_aald C0 hP hC.2.1.1 hC.2.1.2 (t := 3) rfl (by omega) (by decide) (v := .ref ((urh G (vbk μ xb)))) rfl dX6_tellBook_67 ?_
          refine q_sS C0 lX6_131 (c_X6_hash l D y L F6 (urh G (vbk μ xb)) (urw G (vbk μ xb)) (vod μ (vbk μ xb)) (vst μ (vbk μ xb)) (MP_r hC (hW.1 xb))) ⟨rfl, rfl⟩ rfl hP rfl hl rfl (Nat.le_of_ble_eq_true rfl) dX6_tellBook_68 ⟨Nat.zero_le _, Nat.zero_le _⟩ (fun r14 e_r14 => ?_)
          subst e_r14
          refine lv_goto (tgt := 83) hx hb dX6_tellBook_71 (by decide) ?_
          exact q_retMi C0 hret rfl hlk dX6_tellBook_83 hP hD hS (⟨(by unfold jR_tellBook; (try unfold bkF); (try unfold bkO); (repeat' split) <;> first | omega | (exfalso; omega) | rfl), O, G, MP_eq hC (by unfold jS_tellBook; (try unfold ltR); (try unfold inR); (try unfold bkF); (try unfold bkO); (repeat' split) <;> first | omega | (exfalso; omega) | rfl), rfl, Ext0 hO⟩)
      · refine lv_aload_n hx hb dX6_tellBook_45 rfl (lv_at hl 1 rfl) ?_
        refine q_get C0 iX6 hP hC.1.1 hC.1.2 rfl 0 (by decide) flX6_11 rfl (v := .ref ((uab G))) rfl dX6_tellBook_46 ?_
        refine lv_iload_n hx hb dX6_tellBook_49 rfl (lv_at hl 2 rfl) ?_
        refine q_aald C0 hP hC.2.1.1 hC.2.1.2 (t := 3) rfl (by omega) (by decide) (v := .ref ((urh G (vbk μ xb)))) rfl dX6_tellBook_50 ?_
        refine q_getN C0 iX5 hP (MP_r hC (hW.1 xb)).1 (MP_r hC (hW.1 xb)).2.1 rfl 0 (by decide) C0.2.2.2.2.2.2.2.1 rfl (v := .int (iI ((vod μ (vbk μ xb))))) rfl dX6_tellBook_51 ?_
        refine lv_goto (tgt := 83) hx hb dX6_tellBook_54 (by decide) ?_
        exact q_retMi C0 hret rfl hlk dX6_tellBook_83 hP hD hS (⟨(by unfold jR_tellBook; (try unfold bkF); (try unfold bkO); (repeat' split) <;> first | omega | (exfalso; omega) | rfl), O, G, MP_eq hC (by unfold jS_tellBook; (try unfold ltR); (try unfold inR); (try unfold bkF); (try unfold bkO); (repeat' split) <;> first | omega | (exfalso; omega) | rfl), rfl, Ext0 hO⟩)
    · refine lv_iload_n hx hb dX6_tellBook_36 rfl (lv_at hl 0 rfl) ?_
      refine lv_goto (tgt := 83) hx hb dX6_tellBook_37 (by decide) ?_
      exact q_retMi C0 hret rfl hlk dX6_tellBook_83 hP hD hS (⟨(by unfold jR_tellBook; (try unfold bkF); (try unfold bkO); (repeat' split) <;> first | omega | (exfalso; omega) | rfl), O, G, MP_eq hC (by unfold jS_tellBook; (try unfold ltR); (try unfold inR); (try unfold bkF); (try unfold bkO); (repeat' split) <;> first | omega | (exfalso; omega) | rfl), rfl, Ext0 hO⟩)
  · replace k_7 := k_7.resolve_left (fun h => absurd (h.1.symm.trans c8) (by decide))
    refine q_iconst hx hb dX6_tellBook_17 ?_
    exact q_retMi C0 hret rfl hlk dX6_tellBook_18 hP hD hS (⟨(by unfold jR_tellBook; (try unfold bkF); (try unfold bkO); (repeat' split) <;> first | omega | (exfalso; omega) | rfl), O, G, MP_eq hC (by unfold jS_tellBook; (try unfold ltR); (try unfold inR); (try unfold bkF); (try unfold bkO); (repeat' split) <;> first | omega | (exfalso; omega) | rfl), rfl, Ext0 hO⟩)
