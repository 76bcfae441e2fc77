set_option maxHeartbeats 3000000 in
set_option maxRecDepth 100000 in
theorem c_X6_openView (l : Launch) (D : va_G) (y : Nat → ClassId) (L : List Nat) (F : Nat → va_E) (sz : Nat) (O : Nat → Prop) (G : MG) (μ : MS) (xv : Int) (xb : Int) (xkind : Int) (xlow : Int) (xhigh : Int) (xends : Int) (hC : MP y L F O G μ) (hW : MW μ) (h_xv : -2147483648 ≤ xv ∧ xv ≤ 2147483647) (h_xb : -2147483648 ≤ xb ∧ xb ≤ 2147483647) (h_xkind : -2147483648 ≤ xkind ∧ xkind ≤ 2147483647) (h_xlow : -2147483648 ≤ xlow ∧ xlow ≤ 2147483647) (h_xhigh : -2147483648 ≤ xhigh ∧ xhigh ≤ 2147483647) (h_xends : -2147483648 ≤ xends ∧ xends ≤ 2147483647) : Met l yX6_openView (.code yX6_openView cX6_openView 8 (some .int) :: Tt) ({ frames := 3, cells := 0, slots := 0, locals := 66 }) (PcM D y L F sz [.ref ((ubg G)), .int (iI xv), .int (iI xb), .int (iI xkind), .int (iI xlow), .int (iI xhigh), .int (iI xends)]) (cMi D (AL L sz) (fun r L1 F1 => r = jR_openView μ xv xb xkind xlow xhigh xends ∧ ∃ (O1 : Nat → Prop) (G1 : MG), MP y L1 F1 O1 G1 (jS_openView μ xv xb xkind xlow xhigh xends) ∧ ubg G1 = ubg G ∧ Ext O O1 L L1 F F1)) 0 0 (AL L sz) := by
  have hO : OE O F F := fun _ _ => rfl
  have hw5 := hW.2.2.2.2.2.1
  have hw6 := hW.2.2.2.2.2.2.1
  have hw7 := hW.2.2.2.2.2.2.2.1
  refine q_ofM (lv := [(0, .ref ((ubg G))), (1, .int (iI xv)), (2, .int (iI xb)), (3, .int (iI xkind)), (4, .int (iI xlow)), (5, .int (iI xhigh)), (6, .int (iI xends))]) (by decide) (Nat.le_of_ble_eq_true rfl) rfl (fun p e s m below meth c C0 hret hlk hnm hA hP hD hS ls hl => ?_)
  have hx := C0.1.1
  have hb := C0.1.2.1
  have hts := C0.1.2.2.2.2
  refine lv_aload_n hx hb dX6_openView_0 rfl (lv_at hl 0 rfl) ?_
  refine lv_iload_n hx hb dX6_openView_1 rfl (lv_at hl 1 rfl) ?_
  refine q_sS C0 lX6_168 (c_X6_isView l D y L F xv (by omega)) ⟨rfl, rfl⟩ rfl hP rfl hl rfl (Nat.le_of_ble_eq_true rfl) dX6_openView_2 ⟨Nat.zero_le _, Nat.zero_le _⟩ (fun r1 e_r1 => ?_)
  subst e_r1
  have b_2 := inR_d xv 0 1
  refine q_if_eq hx hb dX6_openView_5 (tgt := 19) (by decide) (by omega) (fun c3 => ?_) (fun c3 => ?_)
  · replace b_2 := b_2.resolve_left (fun h => absurd (h.1.symm.trans c3) (by decide))
    refine q_iconst hx hb dX6_openView_19 ?_
    refine lv_iload_n hx hb dX6_openView_20 rfl (lv_at hl 3 rfl) ?_
    refine q_iconst hx hb dX6_openView_21 ?_
    refine q_iconst hx hb dX6_openView_22 ?_
    refine q_sS C0 lX6_41 (c_X6_isIn l D y L F xkind 0 2 (by omega) (by omega) (by omega)) ⟨rfl, rfl⟩ rfl hP rfl hl rfl (Nat.le_of_ble_eq_true rfl) dX6_openView_23 ⟨Nat.zero_le _, Nat.zero_le _⟩ (fun r4 e_r4 => ?_)
    subst e_r4
    have b_5 := inR_d xkind 0 2
    refine q_if_eq hx hb dX6_openView_26 (tgt := 59) (by decide) (by omega) (fun c6 => ?_) (fun c6 => ?_)
    · replace b_5 := b_5.resolve_left (fun h => absurd (h.1.symm.trans c6) (by decide))
      refine q_iconst hx hb dX6_openView_59 ?_
      refine q_vMi C0 lX6_63 (c_X6_isLet l D y L F _ O G μ 0 0 hC (by omega) (by omega)) ⟨rfl, rfl⟩ rfl hP hD hS hA hC.1.1 hC.1.2 rfl rfl rfl hl rfl (Nat.le_of_ble_eq_true rfl) dX6_openView_60 ⟨Nat.le_of_ble_eq_true rfl, Nat.le_of_ble_eq_true rfl⟩ (fun r7 H locs L8 F8 hP hD hS hz8 hp8 => ?_)
      obtain ⟨eL, hC, er, hO1⟩ := hp8
      subst eL
      replace er := (er.trans (show okR 0 0 = 0 from rfl)).symm
      subst er
      have hO := hO.tr hO1
      refine q_if_ne hx hb dX6_openView_63 (tgt := 68) (by decide) (by omega) (fun c9 => absurd c9 (by omega)) (fun c9 => ?_)
      refine q_iconst hx hb dX6_openView_66 ?_
      exact q_retMi C0 hret rfl hlk dX6_openView_67 hP hD hS (⟨(by unfold jR_openView; rw [if_neg (by omega)]), O, G, MP_eq hC (by unfold jS_openView; rw [if_neg (by omega)]; first | done | rfl), rfl, Ext0 hO⟩)
    · replace b_5 := b_5.resolve_right (fun h => c6 h.1)
      refine lv_iload hx hb dX6_openView_29 (lv_at hl 4 rfl) ?_
      refine q_sS C0 lX6_86 (c_X6_isKey l D y L F xlow (by omega)) ⟨rfl, rfl⟩ rfl hP rfl hl rfl (Nat.le_of_ble_eq_true rfl) dX6_openView_31 ⟨Nat.zero_le _, Nat.zero_le _⟩ (fun r10 e_r10 => ?_)
      subst e_r10
      have b_11 := inR_d xlow 0 99
      refine q_if_eq hx hb dX6_openView_34 (tgt := 59) (by decide) (by omega) (fun c12 => ?_) (fun c12 => ?_)
      · replace b_11 := b_11.resolve_left (fun h => absurd (h.1.symm.trans c12) (by decide))
        refine q_iconst hx hb dX6_openView_59 ?_
        refine q_vMi C0 lX6_63 (c_X6_isLet l D y L F _ O G μ 0 0 hC (by omega) (by omega)) ⟨rfl, rfl⟩ rfl hP hD hS hA hC.1.1 hC.1.2 rfl rfl rfl hl rfl (Nat.le_of_ble_eq_true rfl) dX6_openView_60 ⟨Nat.le_of_ble_eq_true rfl, Nat.le_of_ble_eq_true rfl⟩ (fun r13 H locs L14 F14 hP hD hS hz14 hp14 => ?_)
        obtain ⟨eL, hC, er, hO1⟩ := hp14
        subst eL
        replace er := (er.trans (show okR 0 0 = 0 from rfl)).symm
        subst er
        have hO := hO.tr hO1
        refine q_if_ne hx hb dX6_openView_63 (tgt := 68) (by decide) (by omega) (fun c15 => absurd c15 (by omega)) (fun c15 => ?_)
        refine q_iconst hx hb dX6_openView_66 ?_
        exact q_retMi C0 hret rfl hlk dX6_openView_67 hP hD hS (⟨(by unfold jR_openView; rw [if_neg (by omega)]), O, G, MP_eq hC (by unfold jS_openView; rw [if_neg (by omega)]; first | done | rfl), rfl, Ext0 hO⟩)
      · replace b_11 := b_11.resolve_right (fun h => c12 h.1)
        refine lv_iload hx hb dX6_openView_37 (lv_at hl 5 rfl) ?_
        refine q_sS C0 lX6_86 (c_X6_isKey l D y L F xhigh (by omega)) ⟨rfl, rfl⟩ rfl hP rfl hl rfl (Nat.le_of_ble_eq_true rfl) dX6_openView_39 ⟨Nat.zero_le _, Nat.zero_le _⟩ (fun r16 e_r16 => ?_)
        subst e_r16
        have b_17 := inR_d xhigh 0 99
        refine q_if_eq hx hb dX6_openView_42 (tgt := 59) (by decide) (by omega) (fun c18 => ?_) (fun c18 => ?_)
        · replace b_17 := b_17.resolve_left (fun h => absurd (h.1.symm.trans c18) (by decide))
          refine q_iconst hx hb dX6_openView_59 ?_
          refine q_vMi C0 lX6_63 (c_X6_isLet l D y L F _ O G μ 0 0 hC (by omega) (by omega)) ⟨rfl, rfl⟩ rfl hP hD hS hA hC.1.1 hC.1.2 rfl rfl rfl hl rfl (Nat.le_of_ble_eq_true rfl) dX6_openView_60 ⟨Nat.le_of_ble_eq_true rfl, Nat.le_of_ble_eq_true rfl⟩ (fun r19 H locs L20 F20 hP hD hS hz20 hp20 => ?_)
          obtain ⟨eL, hC, er, hO1⟩ := hp20
          subst eL
          replace er := (er.trans (show okR 0 0 = 0 from rfl)).symm
          subst er
          have hO := hO.tr hO1
          refine q_if_ne hx hb dX6_openView_63 (tgt := 68) (by decide) (by omega) (fun c21 => absurd c21 (by omega)) (fun c21 => ?_)
          refine q_iconst hx hb dX6_openView_66 ?_
          exact q_retMi C0 hret rfl hlk dX6_openView_67 hP hD hS (⟨(by unfold jR_openView; rw [if_neg (by omega)]), O, G, MP_eq hC (by unfold jS_openView; rw [if_neg (by omega)]; first | done | rfl), rfl, Ext0 hO⟩)
        · replace b_17 := b_17.resolve_right (fun h => c18 h.1)
          refine lv_iload hx hb dX6_openView_45 (lv_at hl 6 rfl) ?_
          refine q_iconst hx hb dX6_openView_47 ?_
          refine q_iconst hx hb dX6_openView_48 ?_
          refine q_sS C0 lX6_41 (c_X6_isIn l D y L F xends 0 3 (by omega) (by omega) (by omega)) ⟨rfl, rfl⟩ rfl hP rfl hl rfl (Nat.le_of_ble_eq_true rfl) dX6_openView_49 ⟨Nat.zero_le _, Nat.zero_le _⟩ (fun r22 e_r22 => ?_)
          subst e_r22
          have b_23 := inR_d xends 0 3
          refine q_if_eq hx hb dX6_openView_52 (tgt := 59) (by decide) (by omega) (fun c24 => ?_) (fun c24 => ?_)
          · replace b_23 := b_23.resolve_left (fun h => absurd (h.1.symm.trans c24) (by decide))
            refine q_iconst hx hb dX6_openView_59 ?_
            refine q_vMi C0 lX6_63 (c_X6_isLet l D y L F _ O G μ 0 0 hC (by omega) (by omega)) ⟨rfl, rfl⟩ rfl hP hD hS hA hC.1.1 hC.1.2 rfl rfl rfl hl rfl (Nat.le_of_ble_eq_true rfl) dX6_openView_60 ⟨Nat.le_of_ble_eq_true rfl, Nat.le_of_ble_eq_true rfl⟩ (fun r25 H locs L26 F26 hP hD hS hz26 hp26 => ?_)
            obtain ⟨eL, hC, er, hO1⟩ := hp26
            subst eL
            replace er := (er.trans (show okR 0 0 = 0 from rfl)).symm
            subst er
            have hO := hO.tr hO1
            refine q_if_ne hx hb dX6_openView_63 (tgt := 68) (by decide) (by omega) (fun c27 => absurd c27 (by omega)) (fun c27 => ?_)
            refine q_iconst hx hb dX6_openView_66 ?_
            exact q_retMi C0 hret rfl hlk dX6_openView_67 hP hD hS (⟨(by unfold jR_openView; rw [if_neg (by omega)]), O, G, MP_eq hC (by unfold jS_openView; rw [if_neg (by omega)]; first | done | rfl), rfl, Ext0 hO⟩)
          · replace b_23 := b_23.resolve_right (fun h => c24 h.1)
            refine q_iconst hx hb dX6_openView_55 ?_
            refine lv_goto (tgt := 60) hx hb dX6_openView_56 (by decide) ?_
            refine q_vMi C0 lX6_63 (c_X6_isLet l D y L F _ O G μ 0 1 hC (by omega) (by omega)) ⟨rfl, rfl⟩ rfl hP hD hS hA hC.1.1 hC.1.2 rfl rfl rfl hl rfl (Nat.le_of_ble_eq_true rfl) dX6_openView_60 ⟨Nat.le_of_ble_eq_true rfl, Nat.le_of_ble_eq_true rfl⟩ (fun r28 H locs L29 F29 hP hD hS hz29 hp29 => ?_)
            obtain ⟨eL, hC, er, hO1⟩ := hp29
            subst eL
            replace er := (er.trans (show okR 0 1 = 0 from rfl)).symm
            subst er
            have hO := hO.tr hO1
            refine q_if_ne hx hb dX6_openView_63 (tgt := 68) (by decide) (by omega) (fun c30 => absurd c30 (by omega)) (fun c30 => ?_)
            refine q_iconst hx hb dX6_openView_66 ?_
            exact q_retMi C0 hret rfl hlk dX6_openView_67 hP hD hS (⟨(by unfold jR_openView; rw [if_neg (by omega)]), O, G, MP_eq hC (by unfold jS_openView; rw [if_neg (by omega)]; first | done | rfl), rfl, Ext0 hO⟩)
  · replace b_2 := b_2.resolve_right (fun h => c3 h.1)
    refine lv_iload_n hx hb dX6_openView_8 rfl (lv_at hl 2 rfl) ?_
    refine q_sS C0 lX6_60 (c_X6_isBook l D y L F xb (by omega)) ⟨rfl, rfl⟩ rfl hP rfl hl rfl (Nat.le_of_ble_eq_true rfl) dX6_openView_9 ⟨Nat.zero_le _, Nat.zero_le _⟩ (fun r31 e_r31 => ?_)
    subst e_r31
    have b_32 := inR_d xb 0 3
    refine q_if_eq hx hb dX6_openView_12 (tgt := 19) (by decide) (by omega) (fun c33 => ?_) (fun c33 => ?_)
    · replace b_32 := b_32.resolve_left (fun h => absurd (h.1.symm.trans c33) (by decide))
      refine q_iconst hx hb dX6_openView_19 ?_
      refine lv_iload_n hx hb dX6_openView_20 rfl (lv_at hl 3 rfl) ?_
      refine q_iconst hx hb dX6_openView_21 ?_
      refine q_iconst hx hb dX6_openView_22 ?_
      refine q_sS C0 lX6_41 (c_X6_isIn l D y L F xkind 0 2 (by omega) (by omega) (by omega)) ⟨rfl, rfl⟩ rfl hP rfl hl rfl (Nat.le_of_ble_eq_true rfl) dX6_openView_23 ⟨Nat.zero_le _, Nat.zero_le _⟩ (fun r34 e_r34 => ?_)
      subst e_r34
      have b_35 := inR_d xkind 0 2
      refine q_if_eq hx hb dX6_openView_26 (tgt := 59) (by decide) (by omega) (fun c36 => ?_) (fun c36 => ?_)
      · replace b_35 := b_35.resolve_left (fun h => absurd (h.1.symm.trans c36) (by decide))
        refine q_iconst hx hb dX6_openView_59 ?_
        refine q_vMi C0 lX6_63 (c_X6_isLet l D y L F _ O G μ 0 0 hC (by omega) (by omega)) ⟨rfl, rfl⟩ rfl hP hD hS hA hC.1.1 hC.1.2 rfl rfl rfl hl rfl (Nat.le_of_ble_eq_true rfl) dX6_openView_60 ⟨Nat.le_of_ble_eq_true rfl, Nat.le_of_ble_eq_true rfl⟩ (fun r37 H locs L38 F38 hP hD hS hz38 hp38 => ?_)
        obtain ⟨eL, hC, er, hO1⟩ := hp38
        subst eL
        replace er := (er.trans (show okR 0 0 = 0 from rfl)).symm
        subst er
        have hO := hO.tr hO1
        refine q_if_ne hx hb dX6_openView_63 (tgt := 68) (by decide) (by omega) (fun c39 => absurd c39 (by omega)) (fun c39 => ?_)
        refine q_iconst hx hb dX6_openView_66 ?_
        exact q_retMi C0 hret rfl hlk dX6_openView_67 hP hD hS (⟨(by unfold jR_openView; rw [if_neg (by omega)]), O, G, MP_eq hC (by unfold jS_openView; rw [if_neg (by omega)]; first | done | rfl), rfl, Ext0 hO⟩)
      · replace b_35 := b_35.resolve_right (fun h => c36 h.1)
        refine lv_iload hx hb dX6_openView_29 (lv_at hl 4 rfl) ?_
        refine q_sS C0 lX6_86 (c_X6_isKey l D y L F xlow (by omega)) ⟨rfl, rfl⟩ rfl hP rfl hl rfl (Nat.le_of_ble_eq_true rfl) dX6_openView_31 ⟨Nat.zero_le _, Nat.zero_le _⟩ (fun r40 e_r40 => ?_)
        subst e_r40
        have b_41 := inR_d xlow 0 99
        refine q_if_eq hx hb dX6_openView_34 (tgt := 59) (by decide) (by omega) (fun c42 => ?_) (fun c42 => ?_)
        · replace b_41 := b_41.resolve_left (fun h => absurd (h.1.symm.trans c42) (by decide))
          refine q_iconst hx hb dX6_openView_59 ?_
          refine q_vMi C0 lX6_63 (c_X6_isLet l D y L F _ O G μ 0 0 hC (by omega) (by omega)) ⟨rfl, rfl⟩ rfl hP hD hS hA hC.1.1 hC.1.2 rfl rfl rfl hl rfl (Nat.le_of_ble_eq_true rfl) dX6_openView_60 ⟨Nat.le_of_ble_eq_true rfl, Nat.le_of_ble_eq_true rfl⟩ (fun r43 H locs L44 F44 hP hD hS hz44 hp44 => ?_)
          obtain ⟨eL, hC, er, hO1⟩ := hp44
          subst eL
          replace er := (er.trans (show okR 0 0 = 0 from rfl)).symm
          subst er
          have hO := hO.tr hO1
          refine q_if_ne hx hb dX6_openView_63 (tgt := 68) (by decide) (by omega) (fun c45 => absurd c45 (by omega)) (fun c45 => ?_)
          refine q_iconst hx hb dX6_openView_66 ?_
          exact q_retMi C0 hret rfl hlk dX6_openView_67 hP hD hS (⟨(by unfold jR_openView; rw [if_neg (by omega)]), O, G, MP_eq hC (by unfold jS_openView; rw [if_neg (by omega)]; first | done | rfl), rfl, Ext0 hO⟩)
        · replace b_41 := b_41.resolve_right (fun h => c42 h.1)
          refine lv_iload hx hb dX6_openView_37 (lv_at hl 5 rfl) ?_
          refine q_sS C0 lX6_86 (c_X6_isKey l D y L F xhigh (by omega)) ⟨rfl, rfl⟩ rfl hP rfl hl rfl (Nat.le_of_ble_eq_true rfl) dX6_openView_39 ⟨Nat.zero_le _, Nat.zero_le _⟩ (fun r46 e_r46 => ?_)
          subst e_r46
          have b_47 := inR_d xhigh 0 99
          refine q_if_eq hx hb dX6_openView_42 (tgt := 59) (by decide) (by omega) (fun c48 => ?_) (fun c48 => ?_)
          · replace b_47 := b_47.resolve_left (fun h => absurd (h.1.symm.trans c48) (by decide))
            refine q_iconst hx hb dX6_openView_59 ?_
            refine q_vMi C0 lX6_63 (c_X6_isLet l D y L F _ O G μ 0 0 hC (by omega) (by omega)) ⟨rfl, rfl⟩ rfl hP hD hS hA hC.1.1 hC.1.2 rfl rfl rfl hl rfl (Nat.le_of_ble_eq_true rfl) dX6_openView_60 ⟨Nat.le_of_ble_eq_true rfl, Nat.le_of_ble_eq_true rfl⟩ (fun r49 H locs L50 F50 hP hD hS hz50 hp50 => ?_)
            obtain ⟨eL, hC, er, hO1⟩ := hp50
            subst eL
            replace er := (er.trans (show okR 0 0 = 0 from rfl)).symm
            subst er
            have hO := hO.tr hO1
            refine q_if_ne hx hb dX6_openView_63 (tgt := 68) (by decide) (by omega) (fun c51 => absurd c51 (by omega)) (fun c51 => ?_)
            refine q_iconst hx hb dX6_openView_66 ?_
            exact q_retMi C0 hret rfl hlk dX6_openView_67 hP hD hS (⟨(by unfold jR_openView; rw [if_neg (by omega)]), O, G, MP_eq hC (by unfold jS_openView; rw [if_neg (by omega)]; first | done | rfl), rfl, Ext0 hO⟩)
          · replace b_47 := b_47.resolve_right (fun h => c48 h.1)
            refine lv_iload hx hb dX6_openView_45 (lv_at hl 6 rfl) ?_
            refine q_iconst hx hb dX6_openView_47 ?_
            refine q_iconst hx hb dX6_openView_48 ?_
            refine q_sS C0 lX6_41 (c_X6_isIn l D y L F xends 0 3 (by omega) (by omega) (by omega)) ⟨rfl, rfl⟩ rfl hP rfl hl rfl (Nat.le_of_ble_eq_true rfl) dX6_openView_49 ⟨Nat.zero_le _, Nat.zero_le _⟩ (fun r52 e_r52 => ?_)
            subst e_r52
            have b_53 := inR_d xends 0 3
            refine q_if_eq hx hb dX6_openView_52 (tgt := 59) (by decide) (by omega) (fun c54 => ?_) (fun c54 => ?_)
            · replace b_53 := b_53.resolve_left (fun h => absurd (h.1.symm.trans c54) (by decide))
              refine q_iconst hx hb dX6_openView_59 ?_
              refine q_vMi C0 lX6_63 (c_X6_isLet l D y L F _ O G μ 0 0 hC (by omega) (by omega)) ⟨rfl, rfl⟩ rfl hP hD hS hA hC.1.1 hC.1.2 rfl rfl rfl hl rfl (Nat.le_of_ble_eq_true rfl) dX6_openView_60 ⟨Nat.le_of_ble_eq_true rfl, Nat.le_of_ble_eq_true rfl⟩ (fun r55 H locs L56 F56 hP hD hS hz56 hp56 => ?_)
              obtain ⟨eL, hC, er, hO1⟩ := hp56
              subst eL
              replace er := (er.trans (show okR 0 0 = 0 from rfl)).symm
              subst er
              have hO := hO.tr hO1
              refine q_if_ne hx hb dX6_openView_63 (tgt := 68) (by decide) (by omega) (fun c57 => absurd c57 (by omega)) (fun c57 => ?_)
              refine q_iconst hx hb dX6_openView_66 ?_
              exact q_retMi C0 hret rfl hlk dX6_openView_67 hP hD hS (⟨(by unfold jR_openView; rw [if_neg (by omega)]), O, G, MP_eq hC (by unfold jS_openView; rw [if_neg (by omega)]; first | done | rfl), rfl, Ext0 hO⟩)
            · replace b_53 := b_53.resolve_right (fun h => c54 h.1)
              refine q_iconst hx hb dX6_openView_55 ?_
              refine lv_goto (tgt := 60) hx hb dX6_openView_56 (by decide) ?_
              refine q_vMi C0 lX6_63 (c_X6_isLet l D y L F _ O G μ 0 1 hC (by omega) (by omega)) ⟨rfl, rfl⟩ rfl hP hD hS hA hC.1.1 hC.1.2 rfl rfl rfl hl rfl (Nat.le_of_ble_eq_true rfl) dX6_openView_60 ⟨Nat.le_of_ble_eq_true rfl, Nat.le_of_ble_eq_true rfl⟩ (fun r58 H locs L59 F59 hP hD hS hz59 hp59 => ?_)
              obtain ⟨eL, hC, er, hO1⟩ := hp59
              subst eL
              replace er := (er.trans (show okR 0 1 = 0 from rfl)).symm
              subst er
              have hO := hO.tr hO1
              refine q_if_ne hx hb dX6_openView_63 (tgt := 68) (by decide) (by omega) (fun c60 => absurd c60 (by omega)) (fun c60 => ?_)
              refine q_iconst hx hb dX6_openView_66 ?_
              exact q_retMi C0 hret rfl hlk dX6_openView_67 hP hD hS (⟨(by unfold jR_openView; rw [if_neg (by omega)]), O, G, MP_eq hC (by unfold jS_openView; rw [if_neg (by omega)]; first | done | rfl), rfl, Ext0 hO⟩)
    · replace b_32 := b_32.resolve_right (fun h => c33 h.1)
      refine q_iconst hx hb dX6_openView_15 ?_
      refine lv_goto (tgt := 20) hx hb dX6_openView_16 (by decide) ?_
      refine lv_iload_n hx hb dX6_openView_20 rfl (lv_at hl 3 rfl) ?_
      refine q_iconst hx hb dX6_openView_21 ?_
      refine q_iconst hx hb dX6_openView_22 ?_
      refine q_sS C0 lX6_41 (c_X6_isIn l D y L F xkind 0 2 (by omega) (by omega) (by omega)) ⟨rfl, rfl⟩ rfl hP rfl hl rfl (Nat.le_of_ble_eq_true rfl) dX6_openView_23 ⟨Nat.zero_le _, Nat.zero_le _⟩ (fun r61 e_r61 => ?_)
      subst e_r61
      have b_62 := inR_d xkind 0 2
      refine q_if_eq hx hb dX6_openView_26 (tgt := 59) (by decide) (by omega) (fun c63 => ?_) (fun c63 => ?_)
      · replace b_62 := b_62.resolve_left (fun h => absurd (h.1.symm.trans c63) (by decide))
        refine q_iconst hx hb dX6_openView_59 ?_
        refine q_vMi C0 lX6_63 (c_X6_isLet l D y L F _ O G μ 1 0 hC (by omega) (by omega)) ⟨rfl, rfl⟩ rfl hP hD hS hA hC.1.1 hC.1.2 rfl rfl rfl hl rfl (Nat.le_of_ble_eq_true rfl) dX6_openView_60 ⟨Nat.le_of_ble_eq_true rfl, Nat.le_of_ble_eq_true rfl⟩ (fun r64 H locs L65 F65 hP hD hS hz65 hp65 => ?_)
        obtain ⟨eL, hC, er, hO1⟩ := hp65
        subst eL
        replace er := (er.trans (show okR 1 0 = 0 from rfl)).symm
        subst er
        have hO := hO.tr hO1
        refine q_if_ne hx hb dX6_openView_63 (tgt := 68) (by decide) (by omega) (fun c66 => absurd c66 (by omega)) (fun c66 => ?_)
        refine q_iconst hx hb dX6_openView_66 ?_
        exact q_retMi C0 hret rfl hlk dX6_openView_67 hP hD hS (⟨(by unfold jR_openView; rw [if_neg (by omega)]), O, G, MP_eq hC (by unfold jS_openView; rw [if_pos (by omega), if_neg (by omega)]; first | done | rfl), rfl, Ext0 hO⟩)
      · replace b_62 := b_62.resolve_right (fun h => c63 h.1)
        refine lv_iload hx hb dX6_openView_29 (lv_at hl 4 rfl) ?_
        refine q_sS C0 lX6_86 (c_X6_isKey l D y L F xlow (by omega)) ⟨rfl, rfl⟩ rfl hP rfl hl rfl (Nat.le_of_ble_eq_true rfl) dX6_openView_31 ⟨Nat.zero_le _, Nat.zero_le _⟩ (fun r67 e_r67 => ?_)
        subst e_r67
        have b_68 := inR_d xlow 0 99
        refine q_if_eq hx hb dX6_openView_34 (tgt := 59) (by decide) (by omega) (fun c69 => ?_) (fun c69 => ?_)
        · replace b_68 := b_68.resolve_left (fun h => absurd (h.1.symm.trans c69) (by decide))
          refine q_iconst hx hb dX6_openView_59 ?_
          refine q_vMi C0 lX6_63 (c_X6_isLet l D y L F _ O G μ 1 0 hC (by omega) (by omega)) ⟨rfl, rfl⟩ rfl hP hD hS hA hC.1.1 hC.1.2 rfl rfl rfl hl rfl (Nat.le_of_ble_eq_true rfl) dX6_openView_60 ⟨Nat.le_of_ble_eq_true rfl, Nat.le_of_ble_eq_true rfl⟩ (fun r70 H locs L71 F71 hP hD hS hz71 hp71 => ?_)
          obtain ⟨eL, hC, er, hO1⟩ := hp71
          subst eL
          replace er := (er.trans (show okR 1 0 = 0 from rfl)).symm
          subst er
          have hO := hO.tr hO1
          refine q_if_ne hx hb dX6_openView_63 (tgt := 68) (by decide) (by omega) (fun c72 => absurd c72 (by omega)) (fun c72 => ?_)
          refine q_iconst hx hb dX6_openView_66 ?_
          exact q_retMi C0 hret rfl hlk dX6_openView_67 hP hD hS (⟨(by unfold jR_openView; rw [if_neg (by omega)]), O, G, MP_eq hC (by unfold jS_openView; rw [if_pos (by omega), if_neg (by omega)]; first | done | rfl), rfl, Ext0 hO⟩)
        · replace b_68 := b_68.resolve_right (fun h => c69 h.1)
          refine lv_iload hx hb dX6_openView_37 (lv_at hl 5 rfl) ?_
          refine q_sS C0 lX6_86 (c_X6_isKey l D y L F xhigh (by omega)) ⟨rfl, rfl⟩ rfl hP rfl hl rfl (Nat.le_of_ble_eq_true rfl) dX6_openView_39 ⟨Nat.zero_le _, Nat.zero_le _⟩ (fun r73 e_r73 => ?_)
          subst e_r73
          have b_74 := inR_d xhigh 0 99
          refine q_if_eq hx hb dX6_openView_42 (tgt := 59) (by decide) (by omega) (fun c75 => ?_) (fun c75 => ?_)
          · replace b_74 := b_74.resolve_left (fun h => absurd (h.1.symm.trans c75) (by decide))
            refine q_iconst hx hb dX6_openView_59 ?_
            refine q_vMi C0 lX6_63 (c_X6_isLet l D y L F _ O G μ 1 0 hC (by omega) (by omega)) ⟨rfl, rfl⟩ rfl hP hD hS hA hC.1.1 hC.1.2 rfl rfl rfl hl rfl (Nat.le_of_ble_eq_true rfl) dX6_openView_60 ⟨Nat.le_of_ble_eq_true rfl, Nat.le_of_ble_eq_true rfl⟩ (fun r76 H locs L77 F77 hP hD hS hz77 hp77 => ?_)
            obtain ⟨eL, hC, er, hO1⟩ := hp77
            subst eL
            replace er := (er.trans (show okR 1 0 = 0 from rfl)).symm
            subst er
            have hO := hO.tr hO1
            refine q_if_ne hx hb dX6_openView_63 (tgt := 68) (by decide) (by omega) (fun c78 => absurd c78 (by omega)) (fun c78 => ?_)
            refine q_iconst hx hb dX6_openView_66 ?_
            exact q_retMi C0 hret rfl hlk dX6_openView_67 hP hD hS (⟨(by unfold jR_openView; rw [if_neg (by omega)]), O, G, MP_eq hC (by unfold jS_openView; rw [if_pos (by omega), if_neg (by omega)]; first | done | rfl), rfl, Ext0 hO⟩)
          · replace b_74 := b_74.resolve_right (fun h => c75 h.1)
            refine lv_iload hx hb dX6_openView_45 (lv_at hl 6 rfl) ?_
            refine q_iconst hx hb dX6_openView_47 ?_
            refine q_iconst hx hb dX6_openView_48 ?_
            refine q_sS C0 lX6_41 (c_X6_isIn l D y L F xends 0 3 (by omega) (by omega) (by omega)) ⟨rfl, rfl⟩ rfl hP rfl hl rfl (Nat.le_of_ble_eq_true rfl) dX6_openView_49 ⟨Nat.zero_le _, Nat.zero_le _⟩ (fun r79 e_r79 => ?_)
            subst e_r79
            have b_80 := inR_d xends 0 3
            refine q_if_eq hx hb dX6_openView_52 (tgt := 59) (by decide) (by omega) (fun c81 => ?_) (fun c81 => ?_)
            · replace b_80 := b_80.resolve_left (fun h => absurd (h.1.symm.trans c81) (by decide))
              refine q_iconst hx hb dX6_openView_59 ?_
              refine q_vMi C0 lX6_63 (c_X6_isLet l D y L F _ O G μ 1 0 hC (by omega) (by omega)) ⟨rfl, rfl⟩ rfl hP hD hS hA hC.1.1 hC.1.2 rfl rfl rfl hl rfl (Nat.le_of_ble_eq_true rfl) dX6_openView_60 ⟨Nat.le_of_ble_eq_true rfl, Nat.le_of_ble_eq_true rfl⟩ (fun r82 H locs L83 F83 hP hD hS hz83 hp83 => ?_)
              obtain ⟨eL, hC, er, hO1⟩ := hp83
              subst eL
              replace er := (er.trans (show okR 1 0 = 0 from rfl)).symm
              subst er
              have hO := hO.tr hO1
              refine q_if_ne hx hb dX6_openView_63 (tgt := 68) (by decide) (by omega) (fun c84 => absurd c84 (by omega)) (fun c84 => ?_)
              refine q_iconst hx hb dX6_openView_66 ?_
              exact q_retMi C0 hret rfl hlk dX6_openView_67 hP hD hS (⟨(by unfold jR_openView; rw [if_neg (by omega)]), O, G, MP_eq hC (by unfold jS_openView; rw [if_pos (by omega), if_neg (by omega)]; first | done | rfl), rfl, Ext0 hO⟩)
            · replace b_80 := b_80.resolve_right (fun h => c81 h.1)
              refine q_iconst hx hb dX6_openView_55 ?_
              refine lv_goto (tgt := 60) hx hb dX6_openView_56 (by decide) ?_
              refine q_vMi C0 lX6_63 (c_X6_isLet l D y L F _ O G μ 1 1 hC (by omega) (by omega)) ⟨rfl, rfl⟩ rfl hP hD hS hA hC.1.1 hC.1.2 rfl rfl rfl hl rfl (Nat.le_of_ble_eq_true rfl) dX6_openView_60 ⟨Nat.le_of_ble_eq_true rfl, Nat.le_of_ble_eq_true rfl⟩ (fun r85 H locs L86 F86 hP hD hS hz86 hp86 => ?_)
              obtain ⟨eL, hC, er, hO1⟩ := hp86
              subst eL
              replace er := (er.trans (show okR 1 1 = 1 from rfl)).symm
              subst er
              have hO := hO.tr hO1
              refine q_if_ne hx hb dX6_openView_63 (tgt := 68) (by decide) (by omega) (fun c87 => ?_) (fun c87 => absurd c87 (by omega))
              refine lv_aload_n hx hb dX6_openView_68 rfl (lv_at hl 0 rfl) ?_
              refine q_get C0 iX6 hP hC.1.1 hC.1.2 rfl 0 (by decide) flX6_11 rfl (v := .ref ((uab G))) rfl dX6_openView_69 ?_
              refine lv_iload_n hx hb dX6_openView_72 rfl (lv_at hl 2 rfl) ?_
              refine q_aald C0 hP hC.2.1.1 hC.2.1.2 (t := 3) rfl (by omega) (by decide) (v := .ref ((urh G (vbk μ xb)))) rfl dX6_openView_73 ?_
              refine lv_astore (lv' := [(7, .ref ((urh G (vbk μ xb)))), (0, .ref ((ubg G))), (1, .int (iI xv)), (2, .int (iI xb)), (3, .int (iI xkind)), (4, .int (iI xlow)), (5, .int (iI xhigh)), (6, .int (iI xends))]) hx hb dX6_openView_74 hl (by decide) rfl (fun ls hl => ?_)
              refine lv_iload_n hx hb dX6_openView_76 rfl (lv_at hl 4 rfl) ?_
              refine q_iconst hx hb dX6_openView_77 ?_
              refine q_icmp_ne hx hb dX6_openView_78 (tgt := 103) (by decide) (by omega) (by omega) (fun c88 => ?_) (fun c88 => ?_)
              · refine lv_aload_n hx hb dX6_openView_103 rfl (lv_at hl 1 rfl) ?_
                refine q_get C0 iX6 hP hC.1.1 hC.1.2 rfl 2 (by decide) flX6_18 rfl (v := .ref ((uav G))) rfl dX6_openView_104 ?_
                refine lv_iload_n hx hb dX6_openView_107 rfl (lv_at hl 2 rfl) ?_
                refine lv_aload hx hb dX6_openView_108 (lv_at hl 0 rfl) ?_
                refine q_aast C0 hP hD hS hC.2.2.2.1.1 hC.2.2.2.1.2 (t := 3) (r := (RX5, TX5, 2)) rfl (MP_r hC (hW.1 xb)).1 (MP_r hC (hW.1 xb)).2.1 rfl (by omega) (by decide) dX6_openView_110 (fun H locs hP hD hS => ?_)
                obtain ⟨F89, eF89⟩ : ∃ z, z = va_up F86 (uav G) (arrQ (y 3) 2 (iu (fun j => some (urh G (vvw (tTh μ (ltR 1 1)) j))) xv (some (urh G (vbk μ xb))))) := ⟨_, rfl⟩
                have hP : va_P D vwCl (va_pl L F89) H := by rw [eF89]; exact hP
                have hD : va_D (AL L sz) (va_pl L F89) := by rw [eF89]; exact hD
                have hO : OE O F F89 := by rw [eF89]; exact hO.tr (OE1 (MP_O hC).2.2.2.1)
                have hC : MP y L F89 O G (tVw (tTh μ (ltR 1 1)) xv (vbk μ xb)) := by rw [eF89]; exact MP_vw hC (va_up_self _ _ _) (fun q hq => va_up_ne _ _ hq)
                refine lv_aload_n hx hb dX6_openView_111 rfl (lv_at hl 1 rfl) ?_
                refine q_get C0 iX6 hP hC.1.1 hC.1.2 rfl 3 (by decide) flX6_21 rfl (v := .ref ((uaf G))) rfl dX6_openView_112 ?_
                refine lv_iload_n hx hb dX6_openView_115 rfl (lv_at hl 2 rfl) ?_
                refine lv_iload_n hx hb dX6_openView_116 rfl (lv_at hl 4 rfl) ?_
                refine q_if_ne hx hb dX6_openView_117 (tgt := 124) (by decide) (by omega) (fun c90 => ?_) (fun c90 => ?_)
                · refine lv_aload hx hb dX6_openView_124 (lv_at hl 0 rfl) ?_
                  refine lv_iload hx hb dX6_openView_126 (lv_at hl 5 rfl) ?_
                  refine q_vS C0 lX6_93 (c_X5_rank l D y L F89 (urh G (vbk μ xb)) (urw G (vbk μ xb)) (vod μ (vbk μ xb)) (vst μ (vbk μ xb)) xlow (MP_r hC (hW.1 xb)) (by omega)) ⟨rfl, rfl⟩ rfl hP (MP_r hC (hW.1 xb)).1 (MP_r hC (hW.1 xb)).2.1 rfl rfl rfl hl rfl (Nat.le_of_ble_eq_true rfl) dX6_openView_128 ⟨Nat.zero_le _, Nat.zero_le _⟩ (fun r91 e_r91 => ?_)
                  subst e_r91
                  have b_92 := @turn_b (vod μ (vbk μ xb)) xlow (by omega)
                  refine q_iconst hx hb dX6_openView_131 ?_
                  refine q_iadd hx hb dX6_openView_132 ?_
                  refine lv_iload hx hb dX6_openView_133 (lv_at hl 7 rfl) ?_
                  refine q_iconst hx hb dX6_openView_135 ?_
                  refine q_irem hx hb dX6_openView_136 (by omega) (by omega) ?_
                  refine q_isub hx hb dX6_openView_137 ?_
                  refine q_iast C0 hP hD hS hC.2.2.2.2.1.1 hC.2.2.2.2.1.2 (i := xv) (v := (((turn (vod μ (vbk μ xb)) xlow) + 1) - (xends % 2))) (by omega) (by decide) dX6_openView_138 (fun H locs hP hD hS => ?_)
                  obtain ⟨F93, eF93⟩ : ∃ z, z = va_up F89 (uaf G) (arrI (y 0) 2 (iu (vvl μ) xv (((turn (vod μ (vbk μ xb)) xlow) + 1) - (xends % 2)))) := ⟨_, rfl⟩
                  have hP : va_P D vwCl (va_pl L F93) H := by rw [eF93]; exact hP
                  have hD : va_D (AL L sz) (va_pl L F93) := by rw [eF93]; exact hD
                  have hO : OE O F F93 := by rw [eF93]; exact hO.tr (OE1 (MP_O hC).2.2.2.2.1)
                  have hC : MP y L F93 O G (tVl (tVw (tTh μ (ltR 1 1)) xv (vbk μ xb)) xv (((turn (vod μ (vbk μ xb)) xlow) + 1) - (xends % 2))) := by rw [eF93]; exact MP_vl hC (va_up_self _ _ _) (fun q hq => va_up_ne _ _ hq)
                  refine lv_aload_n hx hb dX6_openView_139 rfl (lv_at hl 1 rfl) ?_
                  refine q_get C0 iX6 hP hC.1.1 hC.1.2 rfl 4 (by decide) flX6_25 rfl (v := .ref ((uat G))) rfl dX6_openView_140 ?_
                  refine lv_iload_n hx hb dX6_openView_143 rfl (lv_at hl 2 rfl) ?_
                  refine lv_iload_n hx hb dX6_openView_144 rfl (lv_at hl 4 rfl) ?_
                  refine q_iconst hx hb dX6_openView_145 ?_
                  refine q_icmp_ne hx hb dX6_openView_146 (tgt := 154) (by decide) (by omega) (by omega) (fun c94 => ?_) (fun c94 => ?_)
                  · refine lv_aload hx hb dX6_openView_154 (lv_at hl 0 rfl) ?_
                    refine lv_iload hx hb dX6_openView_156 (lv_at hl 6 rfl) ?_
                    refine q_vS C0 lX6_93 (c_X5_rank l D y L F93 (urh G (vbk μ xb)) (urw G (vbk μ xb)) (vod μ (vbk μ xb)) (vst μ (vbk μ xb)) xhigh (MP_r hC (hW.1 xb)) (by omega)) ⟨rfl, rfl⟩ rfl hP (MP_r hC (hW.1 xb)).1 (MP_r hC (hW.1 xb)).2.1 rfl rfl rfl hl rfl (Nat.le_of_ble_eq_true rfl) dX6_openView_158 ⟨Nat.zero_le _, Nat.zero_le _⟩ (fun r95 e_r95 => ?_)
                    subst e_r95
                    have b_96 := @turn_b (vod μ (vbk μ xb)) xhigh (by omega)
                    refine q_iconst hx hb dX6_openView_161 ?_
                    refine q_isub hx hb dX6_openView_162 ?_
                    refine lv_iload hx hb dX6_openView_163 (lv_at hl 7 rfl) ?_
                    refine q_iconst hx hb dX6_openView_165 ?_
                    refine q_idiv hx hb dX6_openView_166 (by omega) (by omega) ?_
                    refine q_iadd hx hb dX6_openView_167 ?_
                    refine q_iast C0 hP hD hS hC.2.2.2.2.2.1.1 hC.2.2.2.2.2.1.2 (i := xv) (v := (((turn (vod μ (vbk μ xb)) xhigh) - 1) + (xends / 2))) (by omega) (by decide) dX6_openView_168 (fun H locs hP hD hS => ?_)
                    obtain ⟨F97, eF97⟩ : ∃ z, z = va_up F93 (uat G) (arrI (y 0) 2 (iu (vvh μ) xv (((turn (vod μ (vbk μ xb)) xhigh) - 1) + (xends / 2)))) := ⟨_, rfl⟩
                    have hP : va_P D vwCl (va_pl L F97) H := by rw [eF97]; exact hP
                    have hD : va_D (AL L sz) (va_pl L F97) := by rw [eF97]; exact hD
                    have hO : OE O F F97 := by rw [eF97]; exact hO.tr (OE1 (MP_O hC).2.2.2.2.2.1)
                    have hC : MP y L F97 O G (tVh (tVl (tVw (tTh μ (ltR 1 1)) xv (vbk μ xb)) xv (((turn (vod μ (vbk μ xb)) xlow) + 1) - (xends % 2))) xv (((turn (vod μ (vbk μ xb)) xhigh) - 1) + (xends / 2))) := by rw [eF97]; exact MP_vh hC (va_up_self _ _ _) (fun q hq => va_up_ne _ _ hq)
                    refine lv_aload_n hx hb dX6_openView_169 rfl (lv_at hl 1 rfl) ?_
                    refine lv_iload_n hx hb dX6_openView_170 rfl (lv_at hl 2 rfl) ?_
                    refine q_vS C0 lX6_171 (c_X6_seen l D y L F97 O G (tVh (tVl (tVw (tTh μ (ltR 1 1)) xv (vbk μ xb)) xv (((turn (vod μ (vbk μ xb)) xlow) + 1) - (xends % 2))) xv (((turn (vod μ (vbk μ xb)) xhigh) - 1) + (xends / 2))) xv hC (by omega) (by rw [show vvw (tVh (tVl (tVw (tTh μ (ltR 1 1)) xv (vbk μ xb)) xv (((turn (vod μ (vbk μ xb)) xlow) + 1) - (xends % 2))) xv (((turn (vod μ (vbk μ xb)) xhigh) - 1) + (xends / 2))) xv = (vbk μ xb) from (by first | rfl | exact iu_s _ _ _)]; exact (hW.1 xb)) (by rw [show vvl (tVh (tVl (tVw (tTh μ (ltR 1 1)) xv (vbk μ xb)) xv (((turn (vod μ (vbk μ xb)) xlow) + 1) - (xends % 2))) xv (((turn (vod μ (vbk μ xb)) xhigh) - 1) + (xends / 2))) xv = (((turn (vod μ (vbk μ xb)) xlow) + 1) - (xends % 2)) from (by first | rfl | exact iu_s _ _ _)]; omega) (by rw [show vvh (tVh (tVl (tVw (tTh μ (ltR 1 1)) xv (vbk μ xb)) xv (((turn (vod μ (vbk μ xb)) xlow) + 1) - (xends % 2))) xv (((turn (vod μ (vbk μ xb)) xhigh) - 1) + (xends / 2))) xv = (((turn (vod μ (vbk μ xb)) xhigh) - 1) + (xends / 2)) from (by first | rfl | exact iu_s _ _ _)]; omega)) ⟨rfl, rfl⟩ rfl hP hC.1.1 hC.1.2 rfl rfl rfl hl rfl (Nat.le_of_ble_eq_true rfl) dX6_openView_171 ⟨Nat.zero_le _, Nat.zero_le _⟩ (fun r98 e_r98 => ?_)
                    replace e_r98 : r98 = cntP (vst μ (vbk μ xb)) (((turn (vod μ (vbk μ xb)) xlow) + 1) - (xends % 2)) (((turn (vod μ (vbk μ xb)) xhigh) - 1) + (xends / 2)) := e_r98.trans (by first | rfl | (rw [show vvw (tVh (tVl (tVw (tTh μ (ltR 1 1)) xv (vbk μ xb)) xv (((turn (vod μ (vbk μ xb)) xlow) + 1) - (xends % 2))) xv (((turn (vod μ (vbk μ xb)) xhigh) - 1) + (xends / 2))) xv = (vbk μ xb) from (by first | rfl | exact iu_s _ _ _), show vvl (tVh (tVl (tVw (tTh μ (ltR 1 1)) xv (vbk μ xb)) xv (((turn (vod μ (vbk μ xb)) xlow) + 1) - (xends % 2))) xv (((turn (vod μ (vbk μ xb)) xhigh) - 1) + (xends / 2))) xv = (((turn (vod μ (vbk μ xb)) xlow) + 1) - (xends % 2)) from (by first | rfl | exact iu_s _ _ _), show vvh (tVh (tVl (tVw (tTh μ (ltR 1 1)) xv (vbk μ xb)) xv (((turn (vod μ (vbk μ xb)) xlow) + 1) - (xends % 2))) xv (((turn (vod μ (vbk μ xb)) xhigh) - 1) + (xends / 2))) xv = (((turn (vod μ (vbk μ xb)) xhigh) - 1) + (xends / 2)) from (by first | rfl | exact iu_s _ _ _)]; done) | (rw [show vvw (tVh (tVl (tVw (tTh μ (ltR 1 1)) xv (vbk μ xb)) xv (((turn (vod μ (vbk μ xb)) xlow) + 1) - (xends % 2))) xv (((turn (vod μ (vbk μ xb)) xhigh) - 1) + (xends / 2))) xv = (vbk μ xb) from (by first | rfl | exact iu_s _ _ _), show vvl (tVh (tVl (tVw (tTh μ (ltR 1 1)) xv (vbk μ xb)) xv (((turn (vod μ (vbk μ xb)) xlow) + 1) - (xends % 2))) xv (((turn (vod μ (vbk μ xb)) xhigh) - 1) + (xends / 2))) xv = (((turn (vod μ (vbk μ xb)) xlow) + 1) - (xends % 2)) from (by first | rfl | exact iu_s _ _ _), show vvh (tVh (tVl (tVw (tTh μ (ltR 1 1)) xv (vbk μ xb)) xv (((turn (vod μ (vbk μ xb)) xlow) + 1) - (xends % 2))) xv (((turn (vod μ (vbk μ xb)) xhigh) - 1) + (xends / 2))) xv = (((turn (vod μ (vbk μ xb)) xhigh) - 1) + (xends / 2)) from (by first | rfl | exact iu_s _ _ _)]; rfl))
                    subst e_r98
                    exact q_retMi C0 hret rfl hlk dX6_openView_174 hP hD hS (⟨(by 
    have eL : moLo (vod μ (vbk μ xb)) xkind xlow xends = (((turn (vod μ (vbk μ xb)) xlow) + 1) - (xends % 2)) := by (unfold moLo; first | (rw [if_pos (by omega)]; done) | (rw [if_neg (by omega)]; done))
    have eH : moHi (vod μ (vbk μ xb)) xkind xhigh xends = (((turn (vod μ (vbk μ xb)) xhigh) - 1) + (xends / 2)) := by (unfold moHi; first | (rw [if_pos (by omega)]; done) | (rw [if_neg (by omega)]; done))
    unfold jR_openView; rw [if_pos (by omega), if_neg (by omega), eL, eH]), O, G, MP_eq hC (by 
    have eL : moLo (vod μ (vbk μ xb)) xkind xlow xends = (((turn (vod μ (vbk μ xb)) xlow) + 1) - (xends % 2)) := by (unfold moLo; first | (rw [if_pos (by omega)]; done) | (rw [if_neg (by omega)]; done))
    have eH : moHi (vod μ (vbk μ xb)) xkind xhigh xends = (((turn (vod μ (vbk μ xb)) xhigh) - 1) + (xends / 2)) := by (unfold moHi; first | (rw [if_pos (by omega)]; done) | (rw [if_neg (by omega)]; done))
    have lt_ := ltR_d 1 1; 
    unfold jS_openView; rw [if_pos (by omega), if_pos (by omega), if_neg (by omega), eL, eH, show ltR 1 1 = 0 by omega]), rfl, Ext0 hO⟩)
                  · refine q_bipush hx hb dX6_openView_149 (by decide) ?_
                    refine lv_goto (tgt := 168) hx hb dX6_openView_151 (by decide) ?_
                    refine q_iast C0 hP hD hS hC.2.2.2.2.2.1.1 hC.2.2.2.2.2.1.2 (i := xv) (v := 99) (by omega) (by decide) dX6_openView_168 (fun H locs hP hD hS => ?_)
                    obtain ⟨F99, eF99⟩ : ∃ z, z = va_up F93 (uat G) (arrI (y 0) 2 (iu (vvh μ) xv 99)) := ⟨_, rfl⟩
                    have hP : va_P D vwCl (va_pl L F99) H := by rw [eF99]; exact hP
                    have hD : va_D (AL L sz) (va_pl L F99) := by rw [eF99]; exact hD
                    have hO : OE O F F99 := by rw [eF99]; exact hO.tr (OE1 (MP_O hC).2.2.2.2.2.1)
                    have hC : MP y L F99 O G (tVh (tVl (tVw (tTh μ (ltR 1 1)) xv (vbk μ xb)) xv (((turn (vod μ (vbk μ xb)) xlow) + 1) - (xends % 2))) xv 99) := by rw [eF99]; exact MP_vh hC (va_up_self _ _ _) (fun q hq => va_up_ne _ _ hq)
                    refine lv_aload_n hx hb dX6_openView_169 rfl (lv_at hl 1 rfl) ?_
                    refine lv_iload_n hx hb dX6_openView_170 rfl (lv_at hl 2 rfl) ?_
                    refine q_vS C0 lX6_171 (c_X6_seen l D y L F99 O G (tVh (tVl (tVw (tTh μ (ltR 1 1)) xv (vbk μ xb)) xv (((turn (vod μ (vbk μ xb)) xlow) + 1) - (xends % 2))) xv 99) xv hC (by omega) (by rw [show vvw (tVh (tVl (tVw (tTh μ (ltR 1 1)) xv (vbk μ xb)) xv (((turn (vod μ (vbk μ xb)) xlow) + 1) - (xends % 2))) xv 99) xv = (vbk μ xb) from (by first | rfl | exact iu_s _ _ _)]; exact (hW.1 xb)) (by rw [show vvl (tVh (tVl (tVw (tTh μ (ltR 1 1)) xv (vbk μ xb)) xv (((turn (vod μ (vbk μ xb)) xlow) + 1) - (xends % 2))) xv 99) xv = (((turn (vod μ (vbk μ xb)) xlow) + 1) - (xends % 2)) from (by first | rfl | exact iu_s _ _ _)]; omega) (by rw [show vvh (tVh (tVl (tVw (tTh μ (ltR 1 1)) xv (vbk μ xb)) xv (((turn (vod μ (vbk μ xb)) xlow) + 1) - (xends % 2))) xv 99) xv = 99 from (by first | rfl | exact iu_s _ _ _)]; omega)) ⟨rfl, rfl⟩ rfl hP hC.1.1 hC.1.2 rfl rfl rfl hl rfl (Nat.le_of_ble_eq_true rfl) dX6_openView_171 ⟨Nat.zero_le _, Nat.zero_le _⟩ (fun r100 e_r100 => ?_)
                    replace e_r100 : r100 = cntP (vst μ (vbk μ xb)) (((turn (vod μ (vbk μ xb)) xlow) + 1) - (xends % 2)) 99 := e_r100.trans (by first | rfl | (rw [show vvw (tVh (tVl (tVw (tTh μ (ltR 1 1)) xv (vbk μ xb)) xv (((turn (vod μ (vbk μ xb)) xlow) + 1) - (xends % 2))) xv 99) xv = (vbk μ xb) from (by first | rfl | exact iu_s _ _ _), show vvl (tVh (tVl (tVw (tTh μ (ltR 1 1)) xv (vbk μ xb)) xv (((turn (vod μ (vbk μ xb)) xlow) + 1) - (xends % 2))) xv 99) xv = (((turn (vod μ (vbk μ xb)) xlow) + 1) - (xends % 2)) from (by first | rfl | exact iu_s _ _ _), show vvh (tVh (tVl (tVw (tTh μ (ltR 1 1)) xv (vbk μ xb)) xv (((turn (vod μ (vbk μ xb)) xlow) + 1) - (xends % 2))) xv 99) xv = 99 from (by first | rfl | exact iu_s _ _ _)]; done) | (rw [show vvw (tVh (tVl (tVw (tTh μ (ltR 1 1)) xv (vbk μ xb)) xv (((turn (vod μ (vbk μ xb)) xlow) + 1) - (xends % 2))) xv 99) xv = (vbk μ xb) from (by first | rfl | exact iu_s _ _ _), show vvl (tVh (tVl (tVw (tTh μ (ltR 1 1)) xv (vbk μ xb)) xv (((turn (vod μ (vbk μ xb)) xlow) + 1) - (xends % 2))) xv 99) xv = (((turn (vod μ (vbk μ xb)) xlow) + 1) - (xends % 2)) from (by first | rfl | exact iu_s _ _ _), show vvh (tVh (tVl (tVw (tTh μ (ltR 1 1)) xv (vbk μ xb)) xv (((turn (vod μ (vbk μ xb)) xlow) + 1) - (xends % 2))) xv 99) xv = 99 from (by first | rfl | exact iu_s _ _ _)]; rfl))
                    subst e_r100
                    exact q_retMi C0 hret rfl hlk dX6_openView_174 hP hD hS (⟨(by 
    have eL : moLo (vod μ (vbk μ xb)) xkind xlow xends = (((turn (vod μ (vbk μ xb)) xlow) + 1) - (xends % 2)) := by (unfold moLo; first | (rw [if_pos (by omega)]; done) | (rw [if_neg (by omega)]; done))
    have eH : moHi (vod μ (vbk μ xb)) xkind xhigh xends = 99 := by (unfold moHi; first | (rw [if_pos (by omega)]; done) | (rw [if_neg (by omega)]; done))
    unfold jR_openView; rw [if_pos (by omega), if_neg (by omega), eL, eH]), O, G, MP_eq hC (by 
    have eL : moLo (vod μ (vbk μ xb)) xkind xlow xends = (((turn (vod μ (vbk μ xb)) xlow) + 1) - (xends % 2)) := by (unfold moLo; first | (rw [if_pos (by omega)]; done) | (rw [if_neg (by omega)]; done))
    have eH : moHi (vod μ (vbk μ xb)) xkind xhigh xends = 99 := by (unfold moHi; first | (rw [if_pos (by omega)]; done) | (rw [if_neg (by omega)]; done))
    have lt_ := ltR_d 1 1; 
    unfold jS_openView; rw [if_pos (by omega), if_pos (by omega), if_neg (by omega), eL, eH, show ltR 1 1 = 0 by omega]), rfl, Ext0 hO⟩)
                · refine q_iconst hx hb dX6_openView_120 ?_
                  refine lv_goto (tgt := 138) hx hb dX6_openView_121 (by decide) ?_
                  refine q_iast C0 hP hD hS hC.2.2.2.2.1.1 hC.2.2.2.2.1.2 (i := xv) (v := 0) (by omega) (by decide) dX6_openView_138 (fun H locs hP hD hS => ?_)
                  obtain ⟨F101, eF101⟩ : ∃ z, z = va_up F89 (uaf G) (arrI (y 0) 2 (iu (vvl μ) xv 0)) := ⟨_, rfl⟩
                  have hP : va_P D vwCl (va_pl L F101) H := by rw [eF101]; exact hP
                  have hD : va_D (AL L sz) (va_pl L F101) := by rw [eF101]; exact hD
                  have hO : OE O F F101 := by rw [eF101]; exact hO.tr (OE1 (MP_O hC).2.2.2.2.1)
                  have hC : MP y L F101 O G (tVl (tVw (tTh μ (ltR 1 1)) xv (vbk μ xb)) xv 0) := by rw [eF101]; exact MP_vl hC (va_up_self _ _ _) (fun q hq => va_up_ne _ _ hq)
                  refine lv_aload_n hx hb dX6_openView_139 rfl (lv_at hl 1 rfl) ?_
                  refine q_get C0 iX6 hP hC.1.1 hC.1.2 rfl 4 (by decide) flX6_25 rfl (v := .ref ((uat G))) rfl dX6_openView_140 ?_
                  refine lv_iload_n hx hb dX6_openView_143 rfl (lv_at hl 2 rfl) ?_
                  refine lv_iload_n hx hb dX6_openView_144 rfl (lv_at hl 4 rfl) ?_
                  refine q_iconst hx hb dX6_openView_145 ?_
                  refine q_icmp_ne hx hb dX6_openView_146 (tgt := 154) (by decide) (by omega) (by omega) (fun c102 => ?_) (fun c102 => absurd c102 (by omega))
                  refine lv_aload hx hb dX6_openView_154 (lv_at hl 0 rfl) ?_
                  refine lv_iload hx hb dX6_openView_156 (lv_at hl 6 rfl) ?_
                  refine q_vS C0 lX6_93 (c_X5_rank l D y L F101 (urh G (vbk μ xb)) (urw G (vbk μ xb)) (vod μ (vbk μ xb)) (vst μ (vbk μ xb)) xhigh (MP_r hC (hW.1 xb)) (by omega)) ⟨rfl, rfl⟩ rfl hP (MP_r hC (hW.1 xb)).1 (MP_r hC (hW.1 xb)).2.1 rfl rfl rfl hl rfl (Nat.le_of_ble_eq_true rfl) dX6_openView_158 ⟨Nat.zero_le _, Nat.zero_le _⟩ (fun r103 e_r103 => ?_)
                  subst e_r103
                  have b_104 := @turn_b (vod μ (vbk μ xb)) xhigh (by omega)
                  refine q_iconst hx hb dX6_openView_161 ?_
                  refine q_isub hx hb dX6_openView_162 ?_
                  refine lv_iload hx hb dX6_openView_163 (lv_at hl 7 rfl) ?_
                  refine q_iconst hx hb dX6_openView_165 ?_
                  refine q_idiv hx hb dX6_openView_166 (by omega) (by omega) ?_
                  refine q_iadd hx hb dX6_openView_167 ?_
                  refine q_iast C0 hP hD hS hC.2.2.2.2.2.1.1 hC.2.2.2.2.2.1.2 (i := xv) (v := (((turn (vod μ (vbk μ xb)) xhigh) - 1) + (xends / 2))) (by omega) (by decide) dX6_openView_168 (fun H locs hP hD hS => ?_)
                  obtain ⟨F105, eF105⟩ : ∃ z, z = va_up F101 (uat G) (arrI (y 0) 2 (iu (vvh μ) xv (((turn (vod μ (vbk μ xb)) xhigh) - 1) + (xends / 2)))) := ⟨_, rfl⟩
                  have hP : va_P D vwCl (va_pl L F105) H := by rw [eF105]; exact hP
                  have hD : va_D (AL L sz) (va_pl L F105) := by rw [eF105]; exact hD
                  have hO : OE O F F105 := by rw [eF105]; exact hO.tr (OE1 (MP_O hC).2.2.2.2.2.1)
                  have hC : MP y L F105 O G (tVh (tVl (tVw (tTh μ (ltR 1 1)) xv (vbk μ xb)) xv 0) xv (((turn (vod μ (vbk μ xb)) xhigh) - 1) + (xends / 2))) := by rw [eF105]; exact MP_vh hC (va_up_self _ _ _) (fun q hq => va_up_ne _ _ hq)
                  refine lv_aload_n hx hb dX6_openView_169 rfl (lv_at hl 1 rfl) ?_
                  refine lv_iload_n hx hb dX6_openView_170 rfl (lv_at hl 2 rfl) ?_
                  refine q_vS C0 lX6_171 (c_X6_seen l D y L F105 O G (tVh (tVl (tVw (tTh μ (ltR 1 1)) xv (vbk μ xb)) xv 0) xv (((turn (vod μ (vbk μ xb)) xhigh) - 1) + (xends / 2))) xv hC (by omega) (by rw [show vvw (tVh (tVl (tVw (tTh μ (ltR 1 1)) xv (vbk μ xb)) xv 0) xv (((turn (vod μ (vbk μ xb)) xhigh) - 1) + (xends / 2))) xv = (vbk μ xb) from (by first | rfl | exact iu_s _ _ _)]; exact (hW.1 xb)) (by rw [show vvl (tVh (tVl (tVw (tTh μ (ltR 1 1)) xv (vbk μ xb)) xv 0) xv (((turn (vod μ (vbk μ xb)) xhigh) - 1) + (xends / 2))) xv = 0 from (by first | rfl | exact iu_s _ _ _)]; omega) (by rw [show vvh (tVh (tVl (tVw (tTh μ (ltR 1 1)) xv (vbk μ xb)) xv 0) xv (((turn (vod μ (vbk μ xb)) xhigh) - 1) + (xends / 2))) xv = (((turn (vod μ (vbk μ xb)) xhigh) - 1) + (xends / 2)) from (by first | rfl | exact iu_s _ _ _)]; omega)) ⟨rfl, rfl⟩ rfl hP hC.1.1 hC.1.2 rfl rfl rfl hl rfl (Nat.le_of_ble_eq_true rfl) dX6_openView_171 ⟨Nat.zero_le _, Nat.zero_le _⟩ (fun r106 e_r106 => ?_)
                  replace e_r106 : r106 = cntP (vst μ (vbk μ xb)) 0 (((turn (vod μ (vbk μ xb)) xhigh) - 1) + (xends / 2)) := e_r106.trans (by first | rfl | (rw [show vvw (tVh (tVl (tVw (tTh μ (ltR 1 1)) xv (vbk μ xb)) xv 0) xv (((turn (vod μ (vbk μ xb)) xhigh) - 1) + (xends / 2))) xv = (vbk μ xb) from (by first | rfl | exact iu_s _ _ _), show vvl (tVh (tVl (tVw (tTh μ (ltR 1 1)) xv (vbk μ xb)) xv 0) xv (((turn (vod μ (vbk μ xb)) xhigh) - 1) + (xends / 2))) xv = 0 from (by first | rfl | exact iu_s _ _ _), show vvh (tVh (tVl (tVw (tTh μ (ltR 1 1)) xv (vbk μ xb)) xv 0) xv (((turn (vod μ (vbk μ xb)) xhigh) - 1) + (xends / 2))) xv = (((turn (vod μ (vbk μ xb)) xhigh) - 1) + (xends / 2)) from (by first | rfl | exact iu_s _ _ _)]; done) | (rw [show vvw (tVh (tVl (tVw (tTh μ (ltR 1 1)) xv (vbk μ xb)) xv 0) xv (((turn (vod μ (vbk μ xb)) xhigh) - 1) + (xends / 2))) xv = (vbk μ xb) from (by first | rfl | exact iu_s _ _ _), show vvl (tVh (tVl (tVw (tTh μ (ltR 1 1)) xv (vbk μ xb)) xv 0) xv (((turn (vod μ (vbk μ xb)) xhigh) - 1) + (xends / 2))) xv = 0 from (by first | rfl | exact iu_s _ _ _), show vvh (tVh (tVl (tVw (tTh μ (ltR 1 1)) xv (vbk μ xb)) xv 0) xv (((turn (vod μ (vbk μ xb)) xhigh) - 1) + (xends / 2))) xv = (((turn (vod μ (vbk μ xb)) xhigh) - 1) + (xends / 2)) from (by first | rfl | exact iu_s _ _ _)]; rfl))
                  subst e_r106
                  exact q_retMi C0 hret rfl hlk dX6_openView_174 hP hD hS (⟨(by 
    have eL : moLo (vod μ (vbk μ xb)) xkind xlow xends = 0 := by (unfold moLo; first | (rw [if_pos (by omega)]; done) | (rw [if_neg (by omega)]; done))
    have eH : moHi (vod μ (vbk μ xb)) xkind xhigh xends = (((turn (vod μ (vbk μ xb)) xhigh) - 1) + (xends / 2)) := by (unfold moHi; first | (rw [if_pos (by omega)]; done) | (rw [if_neg (by omega)]; done))
    unfold jR_openView; rw [if_pos (by omega), if_neg (by omega), eL, eH]), O, G, MP_eq hC (by 
    have eL : moLo (vod μ (vbk μ xb)) xkind xlow xends = 0 := by (unfold moLo; first | (rw [if_pos (by omega)]; done) | (rw [if_neg (by omega)]; done))
    have eH : moHi (vod μ (vbk μ xb)) xkind xhigh xends = (((turn (vod μ (vbk μ xb)) xhigh) - 1) + (xends / 2)) := by (unfold moHi; first | (rw [if_pos (by omega)]; done) | (rw [if_neg (by omega)]; done))
    have lt_ := ltR_d 1 1; 
    unfold jS_openView; rw [if_pos (by omega), if_pos (by omega), if_neg (by omega), eL, eH, show ltR 1 1 = 0 by omega]), rfl, Ext0 hO⟩)
              · refine lv_aload hx hb dX6_openView_81 (lv_at hl 0 rfl) ?_
                refine lv_iload hx hb dX6_openView_83 (lv_at hl 5 rfl) ?_
                refine q_vS C0 lX6_93 (c_X5_rank l D y L F86 (urh G (vbk μ xb)) (urw G (vbk μ xb)) (vod μ (vbk μ xb)) (vst μ (vbk μ xb)) xlow (MP_r hC (hW.1 xb)) (by omega)) ⟨rfl, rfl⟩ rfl hP (MP_r hC (hW.1 xb)).1 (MP_r hC (hW.1 xb)).2.1 rfl rfl rfl hl rfl (Nat.le_of_ble_eq_true rfl) dX6_openView_85 ⟨Nat.zero_le _, Nat.zero_le _⟩ (fun r107 e_r107 => ?_)
                subst e_r107
                have b_108 := @turn_b (vod μ (vbk μ xb)) xlow (by omega)
                refine lv_aload hx hb dX6_openView_88 (lv_at hl 0 rfl) ?_
                refine lv_iload hx hb dX6_openView_90 (lv_at hl 6 rfl) ?_
                refine q_vS C0 lX6_93 (c_X5_rank l D y L F86 (urh G (vbk μ xb)) (urw G (vbk μ xb)) (vod μ (vbk μ xb)) (vst μ (vbk μ xb)) xhigh (MP_r hC (hW.1 xb)) (by omega)) ⟨rfl, rfl⟩ rfl hP (MP_r hC (hW.1 xb)).1 (MP_r hC (hW.1 xb)).2.1 rfl rfl rfl hl rfl (Nat.le_of_ble_eq_true rfl) dX6_openView_92 ⟨Nat.zero_le _, Nat.zero_le _⟩ (fun r109 e_r109 => ?_)
                subst e_r109
                have b_110 := @turn_b (vod μ (vbk μ xb)) xhigh (by omega)
                refine q_icmp_le hx hb dX6_openView_95 (tgt := 103) (by decide) (by omega) (by omega) (fun c111 => ?_) (fun c111 => ?_)
                · refine lv_aload_n hx hb dX6_openView_103 rfl (lv_at hl 1 rfl) ?_
                  refine q_get C0 iX6 hP hC.1.1 hC.1.2 rfl 2 (by decide) flX6_18 rfl (v := .ref ((uav G))) rfl dX6_openView_104 ?_
                  refine lv_iload_n hx hb dX6_openView_107 rfl (lv_at hl 2 rfl) ?_
                  refine lv_aload hx hb dX6_openView_108 (lv_at hl 0 rfl) ?_
                  refine q_aast C0 hP hD hS hC.2.2.2.1.1 hC.2.2.2.1.2 (t := 3) (r := (RX5, TX5, 2)) rfl (MP_r hC (hW.1 xb)).1 (MP_r hC (hW.1 xb)).2.1 rfl (by omega) (by decide) dX6_openView_110 (fun H locs hP hD hS => ?_)
                  obtain ⟨F112, eF112⟩ : ∃ z, z = va_up F86 (uav G) (arrQ (y 3) 2 (iu (fun j => some (urh G (vvw (tTh μ (ltR 1 1)) j))) xv (some (urh G (vbk μ xb))))) := ⟨_, rfl⟩
                  have hP : va_P D vwCl (va_pl L F112) H := by rw [eF112]; exact hP
                  have hD : va_D (AL L sz) (va_pl L F112) := by rw [eF112]; exact hD
                  have hO : OE O F F112 := by rw [eF112]; exact hO.tr (OE1 (MP_O hC).2.2.2.1)
                  have hC : MP y L F112 O G (tVw (tTh μ (ltR 1 1)) xv (vbk μ xb)) := by rw [eF112]; exact MP_vw hC (va_up_self _ _ _) (fun q hq => va_up_ne _ _ hq)
                  refine lv_aload_n hx hb dX6_openView_111 rfl (lv_at hl 1 rfl) ?_
                  refine q_get C0 iX6 hP hC.1.1 hC.1.2 rfl 3 (by decide) flX6_21 rfl (v := .ref ((uaf G))) rfl dX6_openView_112 ?_
                  refine lv_iload_n hx hb dX6_openView_115 rfl (lv_at hl 2 rfl) ?_
                  refine lv_iload_n hx hb dX6_openView_116 rfl (lv_at hl 4 rfl) ?_
                  refine q_if_ne hx hb dX6_openView_117 (tgt := 124) (by decide) (by omega) (fun c113 => ?_) (fun c113 => absurd c113 (by omega))
                  refine lv_aload hx hb dX6_openView_124 (lv_at hl 0 rfl) ?_
                  refine lv_iload hx hb dX6_openView_126 (lv_at hl 5 rfl) ?_
                  refine q_vS C0 lX6_93 (c_X5_rank l D y L F112 (urh G (vbk μ xb)) (urw G (vbk μ xb)) (vod μ (vbk μ xb)) (vst μ (vbk μ xb)) xlow (MP_r hC (hW.1 xb)) (by omega)) ⟨rfl, rfl⟩ rfl hP (MP_r hC (hW.1 xb)).1 (MP_r hC (hW.1 xb)).2.1 rfl rfl rfl hl rfl (Nat.le_of_ble_eq_true rfl) dX6_openView_128 ⟨Nat.zero_le _, Nat.zero_le _⟩ (fun r114 e_r114 => ?_)
                  subst e_r114
                  have b_115 := @turn_b (vod μ (vbk μ xb)) xlow (by omega)
                  refine q_iconst hx hb dX6_openView_131 ?_
                  refine q_iadd hx hb dX6_openView_132 ?_
                  refine lv_iload hx hb dX6_openView_133 (lv_at hl 7 rfl) ?_
                  refine q_iconst hx hb dX6_openView_135 ?_
                  refine q_irem hx hb dX6_openView_136 (by omega) (by omega) ?_
                  refine q_isub hx hb dX6_openView_137 ?_
                  refine q_iast C0 hP hD hS hC.2.2.2.2.1.1 hC.2.2.2.2.1.2 (i := xv) (v := (((turn (vod μ (vbk μ xb)) xlow) + 1) - (xends % 2))) (by omega) (by decide) dX6_openView_138 (fun H locs hP hD hS => ?_)
                  obtain ⟨F116, eF116⟩ : ∃ z, z = va_up F112 (uaf G) (arrI (y 0) 2 (iu (vvl μ) xv (((turn (vod μ (vbk μ xb)) xlow) + 1) - (xends % 2)))) := ⟨_, rfl⟩
                  have hP : va_P D vwCl (va_pl L F116) H := by rw [eF116]; exact hP
                  have hD : va_D (AL L sz) (va_pl L F116) := by rw [eF116]; exact hD
                  have hO : OE O F F116 := by rw [eF116]; exact hO.tr (OE1 (MP_O hC).2.2.2.2.1)
                  have hC : MP y L F116 O G (tVl (tVw (tTh μ (ltR 1 1)) xv (vbk μ xb)) xv (((turn (vod μ (vbk μ xb)) xlow) + 1) - (xends % 2))) := by rw [eF116]; exact MP_vl hC (va_up_self _ _ _) (fun q hq => va_up_ne _ _ hq)
                  refine lv_aload_n hx hb dX6_openView_139 rfl (lv_at hl 1 rfl) ?_
                  refine q_get C0 iX6 hP hC.1.1 hC.1.2 rfl 4 (by decide) flX6_25 rfl (v := .ref ((uat G))) rfl dX6_openView_140 ?_
                  refine lv_iload_n hx hb dX6_openView_143 rfl (lv_at hl 2 rfl) ?_
                  refine lv_iload_n hx hb dX6_openView_144 rfl (lv_at hl 4 rfl) ?_
                  refine q_iconst hx hb dX6_openView_145 ?_
                  refine q_icmp_ne hx hb dX6_openView_146 (tgt := 154) (by decide) (by omega) (by omega) (fun c117 => ?_) (fun c117 => absurd c117 (by omega))
                  refine lv_aload hx hb dX6_openView_154 (lv_at hl 0 rfl) ?_
                  refine lv_iload hx hb dX6_openView_156 (lv_at hl 6 rfl) ?_
                  refine q_vS C0 lX6_93 (c_X5_rank l D y L F116 (urh G (vbk μ xb)) (urw G (vbk μ xb)) (vod μ (vbk μ xb)) (vst μ (vbk μ xb)) xhigh (MP_r hC (hW.1 xb)) (by omega)) ⟨rfl, rfl⟩ rfl hP (MP_r hC (hW.1 xb)).1 (MP_r hC (hW.1 xb)).2.1 rfl rfl rfl hl rfl (Nat.le_of_ble_eq_true rfl) dX6_openView_158 ⟨Nat.zero_le _, Nat.zero_le _⟩ (fun r118 e_r118 => ?_)
                  subst e_r118
                  have b_119 := @turn_b (vod μ (vbk μ xb)) xhigh (by omega)
                  refine q_iconst hx hb dX6_openView_161 ?_
                  refine q_isub hx hb dX6_openView_162 ?_
                  refine lv_iload hx hb dX6_openView_163 (lv_at hl 7 rfl) ?_
                  refine q_iconst hx hb dX6_openView_165 ?_
                  refine q_idiv hx hb dX6_openView_166 (by omega) (by omega) ?_
                  refine q_iadd hx hb dX6_openView_167 ?_
                  refine q_iast C0 hP hD hS hC.2.2.2.2.2.1.1 hC.2.2.2.2.2.1.2 (i := xv) (v := (((turn (vod μ (vbk μ xb)) xhigh) - 1) + (xends / 2))) (by omega) (by decide) dX6_openView_168 (fun H locs hP hD hS => ?_)
                  obtain ⟨F120, eF120⟩ : ∃ z, z = va_up F116 (uat G) (arrI (y 0) 2 (iu (vvh μ) xv (((turn (vod μ (vbk μ xb)) xhigh) - 1) + (xends / 2)))) := ⟨_, rfl⟩
                  have hP : va_P D vwCl (va_pl L F120) H := by rw [eF120]; exact hP
                  have hD : va_D (AL L sz) (va_pl L F120) := by rw [eF120]; exact hD
                  have hO : OE O F F120 := by rw [eF120]; exact hO.tr (OE1 (MP_O hC).2.2.2.2.2.1)
                  have hC : MP y L F120 O G (tVh (tVl (tVw (tTh μ (ltR 1 1)) xv (vbk μ xb)) xv (((turn (vod μ (vbk μ xb)) xlow) + 1) - (xends % 2))) xv (((turn (vod μ (vbk μ xb)) xhigh) - 1) + (xends / 2))) := by rw [eF120]; exact MP_vh hC (va_up_self _ _ _) (fun q hq => va_up_ne _ _ hq)
                  refine lv_aload_n hx hb dX6_openView_169 rfl (lv_at hl 1 rfl) ?_
                  refine lv_iload_n hx hb dX6_openView_170 rfl (lv_at hl 2 rfl) ?_
                  refine q_vS C0 lX6_171 (c_X6_seen l D y L F120 O G (tVh (tVl (tVw (tTh μ (ltR 1 1)) xv (vbk μ xb)) xv (((turn (vod μ (vbk μ xb)) xlow) + 1) - (xends % 2))) xv (((turn (vod μ (vbk μ xb)) xhigh) - 1) + (xends / 2))) xv hC (by omega) (by rw [show vvw (tVh (tVl (tVw (tTh μ (ltR 1 1)) xv (vbk μ xb)) xv (((turn (vod μ (vbk μ xb)) xlow) + 1) - (xends % 2))) xv (((turn (vod μ (vbk μ xb)) xhigh) - 1) + (xends / 2))) xv = (vbk μ xb) from (by first | rfl | exact iu_s _ _ _)]; exact (hW.1 xb)) (by rw [show vvl (tVh (tVl (tVw (tTh μ (ltR 1 1)) xv (vbk μ xb)) xv (((turn (vod μ (vbk μ xb)) xlow) + 1) - (xends % 2))) xv (((turn (vod μ (vbk μ xb)) xhigh) - 1) + (xends / 2))) xv = (((turn (vod μ (vbk μ xb)) xlow) + 1) - (xends % 2)) from (by first | rfl | exact iu_s _ _ _)]; omega) (by rw [show vvh (tVh (tVl (tVw (tTh μ (ltR 1 1)) xv (vbk μ xb)) xv (((turn (vod μ (vbk μ xb)) xlow) + 1) - (xends % 2))) xv (((turn (vod μ (vbk μ xb)) xhigh) - 1) + (xends / 2))) xv = (((turn (vod μ (vbk μ xb)) xhigh) - 1) + (xends / 2)) from (by first | rfl | exact iu_s _ _ _)]; omega)) ⟨rfl, rfl⟩ rfl hP hC.1.1 hC.1.2 rfl rfl rfl hl rfl (Nat.le_of_ble_eq_true rfl) dX6_openView_171 ⟨Nat.zero_le _, Nat.zero_le _⟩ (fun r121 e_r121 => ?_)
                  replace e_r121 : r121 = cntP (vst μ (vbk μ xb)) (((turn (vod μ (vbk μ xb)) xlow) + 1) - (xends % 2)) (((turn (vod μ (vbk μ xb)) xhigh) - 1) + (xends / 2)) := e_r121.trans (by first | rfl | (rw [show vvw (tVh (tVl (tVw (tTh μ (ltR 1 1)) xv (vbk μ xb)) xv (((turn (vod μ (vbk μ xb)) xlow) + 1) - (xends % 2))) xv (((turn (vod μ (vbk μ xb)) xhigh) - 1) + (xends / 2))) xv = (vbk μ xb) from (by first | rfl | exact iu_s _ _ _), show vvl (tVh (tVl (tVw (tTh μ (ltR 1 1)) xv (vbk μ xb)) xv (((turn (vod μ (vbk μ xb)) xlow) + 1) - (xends % 2))) xv (((turn (vod μ (vbk μ xb)) xhigh) - 1) + (xends / 2))) xv = (((turn (vod μ (vbk μ xb)) xlow) + 1) - (xends % 2)) from (by first | rfl | exact iu_s _ _ _), show vvh (tVh (tVl (tVw (tTh μ (ltR 1 1)) xv (vbk μ xb)) xv (((turn (vod μ (vbk μ xb)) xlow) + 1) - (xends % 2))) xv (((turn (vod μ (vbk μ xb)) xhigh) - 1) + (xends / 2))) xv = (((turn (vod μ (vbk μ xb)) xhigh) - 1) + (xends / 2)) from (by first | rfl | exact iu_s _ _ _)]; done) | (rw [show vvw (tVh (tVl (tVw (tTh μ (ltR 1 1)) xv (vbk μ xb)) xv (((turn (vod μ (vbk μ xb)) xlow) + 1) - (xends % 2))) xv (((turn (vod μ (vbk μ xb)) xhigh) - 1) + (xends / 2))) xv = (vbk μ xb) from (by first | rfl | exact iu_s _ _ _), show vvl (tVh (tVl (tVw (tTh μ (ltR 1 1)) xv (vbk μ xb)) xv (((turn (vod μ (vbk μ xb)) xlow) + 1) - (xends % 2))) xv (((turn (vod μ (vbk μ xb)) xhigh) - 1) + (xends / 2))) xv = (((turn (vod μ (vbk μ xb)) xlow) + 1) - (xends % 2)) from (by first | rfl | exact iu_s _ _ _), show vvh (tVh (tVl (tVw (tTh μ (ltR 1 1)) xv (vbk μ xb)) xv (((turn (vod μ (vbk μ xb)) xlow) + 1) - (xends % 2))) xv (((turn (vod μ (vbk μ xb)) xhigh) - 1) + (xends / 2))) xv = (((turn (vod μ (vbk μ xb)) xhigh) - 1) + (xends / 2)) from (by first | rfl | exact iu_s _ _ _)]; rfl))
                  subst e_r121
                  exact q_retMi C0 hret rfl hlk dX6_openView_174 hP hD hS (⟨(by 
    have eL : moLo (vod μ (vbk μ xb)) xkind xlow xends = (((turn (vod μ (vbk μ xb)) xlow) + 1) - (xends % 2)) := by (unfold moLo; first | (rw [if_pos (by omega)]; done) | (rw [if_neg (by omega)]; done))
    have eH : moHi (vod μ (vbk μ xb)) xkind xhigh xends = (((turn (vod μ (vbk μ xb)) xhigh) - 1) + (xends / 2)) := by (unfold moHi; first | (rw [if_pos (by omega)]; done) | (rw [if_neg (by omega)]; done))
    unfold jR_openView; rw [if_pos (by omega), if_neg (by omega), eL, eH]), O, G, MP_eq hC (by 
    have eL : moLo (vod μ (vbk μ xb)) xkind xlow xends = (((turn (vod μ (vbk μ xb)) xlow) + 1) - (xends % 2)) := by (unfold moLo; first | (rw [if_pos (by omega)]; done) | (rw [if_neg (by omega)]; done))
    have eH : moHi (vod μ (vbk μ xb)) xkind xhigh xends = (((turn (vod μ (vbk μ xb)) xhigh) - 1) + (xends / 2)) := by (unfold moHi; first | (rw [if_pos (by omega)]; done) | (rw [if_neg (by omega)]; done))
    have lt_ := ltR_d 1 1; 
    unfold jS_openView; rw [if_pos (by omega), if_pos (by omega), if_neg (by omega), eL, eH, show ltR 1 1 = 0 by omega]), rfl, Ext0 hO⟩)
                · refine lv_aload_n hx hb dX6_openView_98 rfl (lv_at hl 1 rfl) ?_
                  refine q_vMi C0 lX6_89 (c_X6_refuse l D y L F86 _ O G (tTh μ (ltR 1 1)) hC) ⟨rfl, rfl⟩ rfl hP hD hS hA hC.1.1 hC.1.2 rfl rfl rfl hl rfl (Nat.le_of_ble_eq_true rfl) dX6_openView_99 ⟨Nat.le_of_ble_eq_true rfl, Nat.le_of_ble_eq_true rfl⟩ (fun r122 H locs L123 F123 hP hD hS hz123 hp123 => ?_)
                  obtain ⟨eL, hC, er, hO1⟩ := hp123
                  subst eL
                  replace er : (-9) = r122 := er.symm
                  subst er
                  have hO := hO.tr hO1
                  exact q_retMi C0 hret rfl hlk dX6_openView_102 hP hD hS (⟨(by unfold jR_openView; rw [if_pos (by omega), if_pos (by omega)]), O, G, MP_eq hC (by have lt_ := ltR_d 1 1; unfold jS_openView; rw [if_pos (by omega), if_pos (by omega), if_pos (by omega), show ltR 1 1 = 0 by omega]), rfl, Ext0 hO⟩)
