set_option maxHeartbeats 800000 in
set_option maxRecDepth 100000 in
theorem c_X3_shelfCut (l : Launch) (hfl : l.stackTraces = false) (D : va_G) (y : Nat → ClassId) (L : List Nat) (F : Nat → va_E) (sz : Nat) (O : Nat → Prop) (G : CG) (σ : CS) (xb : Int) (xlow : Int) (xhigh : Int) (xt : Int) (xc : Int) (hC : CP y L F O G σ) (hW : CW σ) (h_xb : -2147483648 ≤ xb ∧ xb ≤ 2147483647) (h_xlow : -2147483648 ≤ xlow ∧ xlow ≤ 2147483647) (h_xhigh : -2147483648 ≤ xhigh ∧ xhigh ≤ 2147483647) (h_xt : -2147483648 ≤ xt ∧ xt ≤ 2147483647) (h_xc : -2147483648 ≤ xc ∧ xc ≤ 2147483647) : vx_Met l yX3_shelfCut (.code yX3_shelfCut cX3_shelfCut 9 (some .int) :: Tt) ({ frames := 7, cells := 8, slots := 140, locals := 103 }) (PcX D y L F sz [.ref ((gbg G)), .int (iI xb), .int (iI xlow), .int (iI xhigh), .int (iI xt), .int (iI xc)]) (cMi D (AL L sz) (fun r L1 F1 => ((0 ≤ xb ∧ xb ≤ 2) ∧ (0 ≤ xc ∧ xc ≤ 2)) ∧ ((0 ≤ xlow ∧ xlow ≤ 99) ∧ (0 ≤ xhigh ∧ xhigh ≤ 99) ∧ (0 ≤ xt ∧ xt ≤ 4)) ∧ r = kR_shelfCut σ xb xlow xhigh xt xc ∧ ∃ O1 G1, CP y L1 F1 O1 G1 (kS_shelfCut σ xb xlow xhigh xt xc) ∧ gbg G1 = gbg G ∧ Ext O O1 L L1 F F1)) (XC (pX ((0 ≤ xb ∧ xb ≤ 2) ∧ (0 ≤ xc ∧ xc ≤ 2)) ((0 ≤ xlow ∧ xlow ≤ 99) ∧ (0 ≤ xhigh ∧ xhigh ≤ 99) ∧ (0 ≤ xt ∧ xt ≤ 4)))) 8 140 (AL L sz) := by
  have ho_ := (CP_r hC (hW.2.1 xb)).2.2.2.2.1
  have hO : OE O F F := fun _ _ => rfl
  have hw4 := hW.2.2.2.2.2.1
  have hw5 := hW.2.2.2.2.2.2.1
  have hw6 := hW.2.2.2.2.2.2.2.2.2.2
  refine q_ofX (lv := [(0, .ref ((gbg G))), (1, .int (iI xb)), (2, .int (iI xlow)), (3, .int (iI xhigh)), (4, .int (iI xt)), (5, .int (iI xc))]) (by decide) (Nat.le_of_ble_eq_true rfl) rfl (fun p e s m below meth c C0 hret hlk hout hsz hA hP hD hS hX ls hl => ?_)
  subst hsz
  have hx := C0.1.1
  have hb := C0.1.2.1
  have hts := C0.1.2.2.2.2
  refine lv_aload_n hx hb dX3_shelfCut_0 rfl (lv_at hl 0 rfl) ?_
  refine lv_iload_n hx hb dX3_shelfCut_1 rfl (lv_at hl 1 rfl) ?_
  refine q_vXa C0 lX3_216 (c_X3_shelfAt l hfl D y L F _ O G σ xb hC (by omega)) ⟨rfl, rfl⟩ rfl hP hD hX hout hlk hC.1.1 hC.1.2 rfl rfl rfl hl rfl (Nat.le_of_ble_eq_true rfl) dX3_shelfCut_2 ⟨Nat.le_of_ble_eq_true rfl, Nat.le_of_ble_eq_true rfl⟩ ⟨Nat.le_of_ble_eq_true rfl, Nat.le_of_ble_eq_true rfl⟩ (fun E h => Or.inl ⟨h.1, fun q => h.2 (by omega)⟩) (fun r1 e_r1 => ?_)
  refine W.widen (k := 1) (n := 6) (Nat.le_of_ble_eq_true rfl) (Nat.le_of_ble_eq_true rfl) ?_
  obtain ⟨hb_r1, e_r1⟩ := e_r1
  subst e_r1
  refine lv_astore (lv' := [(6, .ref ((grh G (zsh σ xb)))), (0, .ref ((gbg G))), (1, .int (iI xb)), (2, .int (iI xlow)), (3, .int (iI xhigh)), (4, .int (iI xt)), (5, .int (iI xc))]) hx hb dX3_shelfCut_5 hl (by decide) rfl (fun ls hl => ?_)
  refine lv_aload_n hx hb dX3_shelfCut_7 rfl (lv_at hl 1 rfl) ?_
  refine lv_iload hx hb dX3_shelfCut_8 (lv_at hl 6 rfl) ?_
  refine q_vXa C0 lX3_216 (c_X3_shelfAt l hfl D y L F _ O G σ xc hC (by omega)) ⟨rfl, rfl⟩ rfl hP hD hX hout hlk hC.1.1 hC.1.2 rfl rfl rfl hl rfl (Nat.le_of_ble_eq_true rfl) dX3_shelfCut_10 ⟨Nat.le_of_ble_eq_true rfl, Nat.le_of_ble_eq_true rfl⟩ ⟨Nat.le_of_ble_eq_true rfl, Nat.le_of_ble_eq_true rfl⟩ (fun E h => Or.inl ⟨h.1, fun q => h.2 (by omega)⟩) (fun r2 e_r2 => ?_)
  refine W.widen (k := 2) (n := 12) (Nat.le_of_ble_eq_true rfl) (Nat.le_of_ble_eq_true rfl) ?_
  obtain ⟨hb_r2, e_r2⟩ := e_r2
  subst e_r2
  refine lv_pop hx hb dX3_shelfCut_13 rfl ?_
  refine lv_iload_n hx hb dX3_shelfCut_14 rfl (lv_at hl 3 rfl) ?_
  refine q_sXv C0 lX3_60 (c_X3_checkKey l hfl D y L F _ xlow (by omega)) ⟨rfl, rfl⟩ rfl hP hD hX hout hlk rfl hl rfl (Nat.le_of_ble_eq_true rfl) dX3_shelfCut_15 ⟨Nat.le_of_ble_eq_true rfl, Nat.le_of_ble_eq_true rfl⟩ ⟨Nat.le_of_ble_eq_true rfl, Nat.le_of_ble_eq_true rfl⟩ (fun E h => Or.inr ⟨h.1, by first | trivial | omega, fun q => h.2 (by omega)⟩) (fun _ e_r3 => ?_)
  refine W.widen (k := 3) (n := 18) (Nat.le_of_ble_eq_true rfl) (Nat.le_of_ble_eq_true rfl) ?_
  refine lv_iload_n hx hb dX3_shelfCut_18 rfl (lv_at hl 4 rfl) ?_
  refine q_sXv C0 lX3_60 (c_X3_checkKey l hfl D y L F _ xhigh (by omega)) ⟨rfl, rfl⟩ rfl hP hD hX hout hlk rfl hl rfl (Nat.le_of_ble_eq_true rfl) dX3_shelfCut_19 ⟨Nat.le_of_ble_eq_true rfl, Nat.le_of_ble_eq_true rfl⟩ ⟨Nat.le_of_ble_eq_true rfl, Nat.le_of_ble_eq_true rfl⟩ (fun E h => Or.inr ⟨h.1, by first | trivial | omega, fun q => h.2 (by omega)⟩) (fun _ e_r4 => ?_)
  refine W.widen (k := 4) (n := 24) (Nat.le_of_ble_eq_true rfl) (Nat.le_of_ble_eq_true rfl) ?_
  refine lv_iload hx hb dX3_shelfCut_22 (lv_at hl 5 rfl) ?_
  refine q_iconst hx hb dX3_shelfCut_24 ?_
  refine q_sXv C0 lX3_41 (c_X3_checkUpTo l hfl D y L F _ xt 4 (by omega) (by omega)) ⟨rfl, rfl⟩ rfl hP hD hX hout hlk rfl hl rfl (Nat.le_of_ble_eq_true rfl) dX3_shelfCut_25 ⟨Nat.le_of_ble_eq_true rfl, Nat.le_of_ble_eq_true rfl⟩ ⟨Nat.le_of_ble_eq_true rfl, Nat.le_of_ble_eq_true rfl⟩ (fun E h => Or.inr ⟨h.1, by first | trivial | omega, fun q => h.2 (by omega)⟩) (fun _ e_r5 => ?_)
  refine W.widen (k := 5) (n := 30) (Nat.le_of_ble_eq_true rfl) (Nat.le_of_ble_eq_true rfl) ?_
  refine lv_aload hx hb dX3_shelfCut_28 (lv_at hl 0 rfl) ?_
  refine lv_iload_n hx hb dX3_shelfCut_30 rfl (lv_at hl 3 rfl) ?_
  refine q_vS C0 lX3_70 (c_X0_rankOf l D y L F (grh G (zsh σ xb)) (grw G (zsh σ xb)) (zod σ (zsh σ xb)) ((zst σ (zsh σ xb)).1) ((zst σ (zsh σ xb)).2.1) ((zst σ (zsh σ xb)).2.2) xlow (CP_r hC (hW.2.1 xb)) (by omega)) ⟨rfl, rfl⟩ rfl hP (CP_r hC (hW.2.1 xb)).1 (CP_r hC (hW.2.1 xb)).2.1 rfl rfl rfl hl rfl (Nat.le_of_ble_eq_true rfl) dX3_shelfCut_31 ⟨Nat.le_of_ble_eq_true rfl, Nat.le_of_ble_eq_true rfl⟩ (fun r6 e_r6 => ?_)
  subst e_r6
  have b_7 := @turn_b (zod σ (zsh σ xb)) xlow (by omega)
  refine lv_istore (lv' := [(7, .int (iI ((turn (zod σ (zsh σ xb)) xlow)))), (6, .ref ((grh G (zsh σ xb)))), (0, .ref ((gbg G))), (1, .int (iI xb)), (2, .int (iI xlow)), (3, .int (iI xhigh)), (4, .int (iI xt)), (5, .int (iI xc))]) hx hb dX3_shelfCut_34 hl (by decide) rfl (fun ls hl => ?_)
  refine lv_aload hx hb dX3_shelfCut_36 (lv_at hl 1 rfl) ?_
  refine lv_iload_n hx hb dX3_shelfCut_38 rfl (lv_at hl 5 rfl) ?_
  refine q_vS C0 lX3_70 (c_X0_rankOf l D y L F (grh G (zsh σ xb)) (grw G (zsh σ xb)) (zod σ (zsh σ xb)) ((zst σ (zsh σ xb)).1) ((zst σ (zsh σ xb)).2.1) ((zst σ (zsh σ xb)).2.2) xhigh (CP_r hC (hW.2.1 xb)) (by omega)) ⟨rfl, rfl⟩ rfl hP (CP_r hC (hW.2.1 xb)).1 (CP_r hC (hW.2.1 xb)).2.1 rfl rfl rfl hl rfl (Nat.le_of_ble_eq_true rfl) dX3_shelfCut_39 ⟨Nat.le_of_ble_eq_true rfl, Nat.le_of_ble_eq_true rfl⟩ (fun r8 e_r8 => ?_)
  subst e_r8
  have b_9 := @turn_b (zod σ (zsh σ xb)) xhigh (by omega)
  refine q_iconst hx hb dX3_shelfCut_42 ?_
  refine q_isub hx hb dX3_shelfCut_43 ?_
  refine lv_istore (lv' := [(8, .int (iI (((turn (zod σ (zsh σ xb)) xhigh) - 1)))), (7, .int (iI ((turn (zod σ (zsh σ xb)) xlow)))), (6, .ref ((grh G (zsh σ xb)))), (0, .ref ((gbg G))), (1, .int (iI xb)), (2, .int (iI xlow)), (3, .int (iI xhigh)), (4, .int (iI xt)), (5, .int (iI xc))]) hx hb dX3_shelfCut_44 hl (by decide) rfl (fun ls hl => ?_)
  refine lv_iload hx hb dX3_shelfCut_46 (lv_at hl 1 rfl) ?_
  refine lv_iload hx hb dX3_shelfCut_48 (lv_at hl 0 rfl) ?_
  refine q_iconst hx hb dX3_shelfCut_50 ?_
  refine q_iadd hx hb dX3_shelfCut_51 ?_
  refine q_icmp_le hx hb dX3_shelfCut_52 (tgt := 60) (by decide) (by omega) (by omega) (fun c10 => ?_) (fun c10 => ?_)
  · refine lv_iload hx hb dX3_shelfCut_60 (lv_at hl 7 rfl) ?_
    refine q_if_ne hx hb dX3_shelfCut_62 (tgt := 75) (by decide) (by omega) (fun c11 => ?_) (fun c11 => ?_)
    · refine lv_aload_n hx hb dX3_shelfCut_75 rfl (lv_at hl 3 rfl) ?_
      refine lv_dup hx hb dX3_shelfCut_76 rfl ?_
      refine q_get C0 iX3 hP hC.1.1 hC.1.2 rfl 5 (by decide) flX3_219 rfl rfl dX3_shelfCut_77 ?_
      refine q_iconst hx hb dX3_shelfCut_80 ?_
      refine q_iadd hx hb dX3_shelfCut_81 ?_
      refine q_put C0 iX3 tyX3 tyX3_ok nmX3 hP hD hS hC.1.1 hC.1.2 rfl 5 (by decide) flX3_219 rfl rfl rfl rfl (Nat.le_of_ble_eq_true rfl) dX3_shelfCut_82 (fun H locs hP hD hS => ?_)
      obtain ⟨F12, eF12⟩ : ∃ z, z = va_up F (gbg G) (.inr (5, [.ref ((gab G)), .ref ((gas G)), .ref ((gav G)), .ref ((gkk G)), .int (iI (z0 σ)), .int (iI ((z1 σ + 1))), .int (iI (z2 σ)), .int (iI (z3 σ))])) := ⟨_, rfl⟩
      have hP : va_P D vwCl (va_pl L F12) H := by rw [eF12]; exact hP
      have hD : va_D (AL L s.heap.size) (va_pl L F12) := by rw [eF12]; exact hD
      have hO : OE O F F12 := by rw [eF12]; exact hO.tr (OE1 (CP_O hC).1)
      have hC : CP y L F12 O G (sCt σ (z0 σ) (z1 σ + 1) (z2 σ) (z3 σ)) := by rw [eF12]; exact CP_ct hC (va_up_self _ _ _) (fun q hq => va_up_ne _ _ hq)
      refine lv_iload hx hb dX3_shelfCut_85 (lv_at hl 7 rfl) ?_
      refine q_iconst hx hb dX3_shelfCut_87 ?_
      refine q_icmp_ne hx hb dX3_shelfCut_88 (tgt := 101) (by decide) (by omega) (by omega) (fun c13 => ?_) (fun c13 => ?_)
      · refine lv_iload hx hb dX3_shelfCut_101 (lv_at hl 7 rfl) ?_
        refine q_iconst hx hb dX3_shelfCut_103 ?_
        refine q_icmp_ne hx hb dX3_shelfCut_104 (tgt := 139) (by decide) (by omega) (by omega) (fun c14 => ?_) (fun c14 => ?_)
        · refine lv_aload hx hb dX3_shelfCut_139 (lv_at hl 2 rfl) ?_
          refine lv_iload hx hb dX3_shelfCut_141 (lv_at hl 1 rfl) ?_
          refine lv_iload hx hb dX3_shelfCut_143 (lv_at hl 0 rfl) ?_
          refine lv_iload hx hb dX3_shelfCut_145 (lv_at hl 7 rfl) ?_
          refine q_iconst hx hb dX3_shelfCut_147 ?_
          refine q_icmp_ne hx hb dX3_shelfCut_148 (tgt := 155) (by decide) (by omega) (by omega) (fun c15 => ?_) (fun c15 => ?_)
          · refine q_iconst hx hb dX3_shelfCut_155 ?_
            refine q_vMi C0 lX3_229 (c_X0_dropKeyOfPart l D y L F12 _ (grh G (zsh σ xb)) (grw G (zsh σ xb)) (zod σ (zsh σ xb)) (zst σ (zsh σ xb)) (turn (zod σ (zsh σ xb)) xlow) ((turn (zod σ (zsh σ xb)) xhigh) - 1) 0 (CP_r hC (hW.2.1 xb)) (by omega) (by omega) (by omega)) ⟨rfl, rfl⟩ rfl hP hD hS hA (CP_r hC (hW.2.1 xb)).1 (CP_r hC (hW.2.1 xb)).2.1 rfl rfl rfl hl rfl (Nat.le_of_ble_eq_true rfl) dX3_shelfCut_156 ⟨Nat.le_of_ble_eq_true rfl, Nat.le_of_ble_eq_true rfl⟩ (fun r16 H locs L17 F17 hP hD hS hz17 hp17 => ?_)
            obtain ⟨eL, er, hRn, hfr1⟩ := hp17
            subst eL
            subst er
            have hO := hO.tr (OEf hC (hW.2.1 xb) hfr1)
            have hC := CP_row hC (hW.2.1 xb) hRn hfr1
            refine W.widen (k := 8) (n := 140) (Nat.le_of_ble_eq_true rfl) (Nat.le_of_ble_eq_true rfl) ?_
            exact vx_ret (q_retMi C0 hret rfl hlk dX3_shelfCut_159 hP hD hS (⟨by first | trivial | omega, by first | trivial | omega, (by unfold kR_shelfCut; (repeat' split) <;> first | rfl | (exfalso; omega)), O, G, CP_eq hC (by unfold kS_shelfCut; (repeat' split) <;> first | rfl | (exfalso; omega)), rfl, Ext0 hO⟩))
          · refine q_iconst hx hb dX3_shelfCut_151 ?_
            refine lv_goto (tgt := 156) hx hb dX3_shelfCut_152 (by decide) ?_
            refine q_vMi C0 lX3_229 (c_X0_dropKeyOfPart l D y L F12 _ (grh G (zsh σ xb)) (grw G (zsh σ xb)) (zod σ (zsh σ xb)) (zst σ (zsh σ xb)) (turn (zod σ (zsh σ xb)) xlow) ((turn (zod σ (zsh σ xb)) xhigh) - 1) 1 (CP_r hC (hW.2.1 xb)) (by omega) (by omega) (by omega)) ⟨rfl, rfl⟩ rfl hP hD hS hA (CP_r hC (hW.2.1 xb)).1 (CP_r hC (hW.2.1 xb)).2.1 rfl rfl rfl hl rfl (Nat.le_of_ble_eq_true rfl) dX3_shelfCut_156 ⟨Nat.le_of_ble_eq_true rfl, Nat.le_of_ble_eq_true rfl⟩ (fun r18 H locs L19 F19 hP hD hS hz19 hp19 => ?_)
            obtain ⟨eL, er, hRn, hfr1⟩ := hp19
            subst eL
            subst er
            have hO := hO.tr (OEf hC (hW.2.1 xb) hfr1)
            have hC := CP_row hC (hW.2.1 xb) hRn hfr1
            refine W.widen (k := 8) (n := 140) (Nat.le_of_ble_eq_true rfl) (Nat.le_of_ble_eq_true rfl) ?_
            exact vx_ret (q_retMi C0 hret rfl hlk dX3_shelfCut_159 hP hD hS (⟨by first | trivial | omega, by first | trivial | omega, (by unfold kR_shelfCut; (repeat' split) <;> first | rfl | (exfalso; omega)), O, G, CP_eq hC (by unfold kS_shelfCut; (repeat' split) <;> first | rfl | (exfalso; omega)), rfl, Ext0 hO⟩))
        · refine lv_aload_n hx hb dX3_shelfCut_107 rfl (lv_at hl 3 rfl) ?_
          refine q_get C0 iX3 hP hC.1.1 hC.1.2 rfl 1 (by decide) flX3_18 rfl rfl dX3_shelfCut_108 ?_
          refine lv_iload hx hb dX3_shelfCut_111 (lv_at hl 8 rfl) ?_
          refine lv_aload hx hb dX3_shelfCut_113 (lv_at hl 2 rfl) ?_
          refine lv_iload hx hb dX3_shelfCut_115 (lv_at hl 1 rfl) ?_
          refine lv_iload hx hb dX3_shelfCut_117 (lv_at hl 0 rfl) ?_
          refine lv_aload hx hb dX3_shelfCut_119 (lv_at hl 2 rfl) ?_
          refine q_get C0 iX0 hP (CP_r hC (hW.2.1 xb)).1 (CP_r hC (hW.2.1 xb)).2.1 rfl 0 (by decide) flX3_74 rfl rfl dX3_shelfCut_121 ?_
          refine q_vMa C0 lX3_56 (c_X0_copyOfPart l D y L F12 _ (grh G (zsh σ xb)) (grw G (zsh σ xb)) (zod σ (zsh σ xb)) ((zst σ (zsh σ xb)).1) ((zst σ (zsh σ xb)).2.1) ((zst σ (zsh σ xb)).2.2) (turn (zod σ (zsh σ xb)) xlow) ((turn (zod σ (zsh σ xb)) xhigh) - 1) (zod σ (zsh σ xb)) (CP_r hC (hW.2.1 xb)) (by omega) (by omega) (by omega)) ⟨rfl, rfl⟩ rfl hP hD hS hA (CP_r hC (hW.2.1 xb)).1 (CP_r hC (hW.2.1 xb)).2.1 rfl rfl rfl hl rfl (Nat.le_of_ble_eq_true rfl) dX3_shelfCut_124 ⟨Nat.le_of_ble_eq_true rfl, Nat.le_of_ble_eq_true rfl⟩ (fun r20 H locs L21 F21 hP hD hS hz21 hp21 => ?_)
          refine W.widen (k := 7) (n := 134) (Nat.le_of_ble_eq_true rfl) (Nat.le_of_ble_eq_true rfl) ?_
          obtain ⟨r20q, eL, hr_, hq_, hrq_, hRn, hfn⟩ := hp21
          subst eL
          have hRo22 := Rw_mono (CP_r hC (hW.2.1 xb)) (L1 := ((L ++ [r20]) ++ [r20q])) (F1 := F21) (fun a h1 => List.mem_append_left _ (List.mem_append_left _ h1)) hfn
          have hR9 : RwS y ((L ++ [r20]) ++ [r20q]) F21 r20 r20q (zod σ (zsh σ xb)) (addS (zod σ (zsh σ xb)) (zod σ (zsh σ xb)) ((zst σ (zsh σ xb)).2.2) (turn (zod σ (zsh σ xb)) xlow) ((turn (zod σ (zsh σ xb)) xhigh) - 1) (0, 0, emp)) := hRn
          have hwf9 : (∀ i, zbk (sCt σ (z0 σ) (z1 σ + 1) (z2 σ) (z3 σ)) i < zn (sCt σ (z0 σ) (z1 σ + 1) (z2 σ) (z3 σ))) ∧ (∀ i, zsh (sCt σ (z0 σ) (z1 σ + 1) (z2 σ) (z3 σ)) i < zn (sCt σ (z0 σ) (z1 σ + 1) (z2 σ) (z3 σ))) ∧ (∀ i, zvw (sCt σ (z0 σ) (z1 σ + 1) (z2 σ) (z3 σ)) i < zn (sCt σ (z0 σ) (z1 σ + 1) (z2 σ) (z3 σ))) ∧ ∀ i, zwk (sCt σ (z0 σ) (z1 σ + 1) (z2 σ) (z3 σ)) = some i → i < zn (sCt σ (z0 σ) (z1 σ + 1) (z2 σ) (z3 σ)) := ⟨hW.1, hW.2.1, hW.2.2.1, hW.2.2.2.1⟩
          have hC : CP y ((L ++ [r20]) ++ [r20q]) F21 (fun a => O a ∨ a ∉ L) (gNw G (zn σ) r20 r20q) (sNw (sCt σ (z0 σ) (z1 σ + 1) (z2 σ) (z3 σ)) (zod σ (zsh σ xb)) (addS (zod σ (zsh σ xb)) (zod σ (zsh σ xb)) ((zst σ (zsh σ xb)).2.2) (turn (zod σ (zsh σ xb)) xlow) ((turn (zod σ (zsh σ xb)) xhigh) - 1) (0, 0, emp))) := CP_new (σ := (sCt σ (z0 σ) (z1 σ + 1) (z2 σ) (z3 σ))) (G := G) (o := (zod σ (zsh σ xb))) (S := (addS (zod σ (zsh σ xb)) (zod σ (zsh σ xb)) ((zst σ (zsh σ xb)).2.2) (turn (zod σ (zsh σ xb)) xlow) ((turn (zod σ (zsh σ xb)) xhigh) - 1) (0, 0, emp))) (F1 := F21) hC rfl hr_ hq_ hR9 hfn hwf9
          have hE : ∀ q ∈ L, ¬ O q → F21 q = F q := fun q h1 h2 => (hfn q h1).trans (hO q h2)
          have hO : OE (fun a => O a ∨ a ∉ L) F21 F21 := fun _ _ => rfl
          have er : grh (gNw G (zn σ) r20 r20q) (zn σ) = r20 := va_up_self _ _ _
          refine q_aast C0 hP hD hS hC.2.2.1.1 hC.2.2.1.2 (t := 1) (r := (RX0, TX0, 4)) rfl hRn.1 hRn.2.1 rfl (by omega) (by decide) dX3_shelfCut_127 (fun H locs hP hD hS => ?_)
          have hoo := hC.2.2.1.2
          obtain ⟨F23, eF23⟩ : ∃ z, z = va_up F21 (gas (gNw G (zn σ) r20 r20q)) (arrQ (y 1) 3 (iu (fun i => some (grh (gNw G (zn σ) r20 r20q) (zsh (sNw (sCt σ (z0 σ) (z1 σ + 1) (z2 σ) (z3 σ)) (zod σ (zsh σ xb)) (addS (zod σ (zsh σ xb)) (zod σ (zsh σ xb)) ((zst σ (zsh σ xb)).2.2) (turn (zod σ (zsh σ xb)) xlow) ((turn (zod σ (zsh σ xb)) xhigh) - 1) (0, 0, emp))) i))) xc (some r20))) := ⟨_, rfl⟩
          have hP : va_P D vwCl (va_pl ((L ++ [r20]) ++ [r20q]) F23) H := by rw [eF23]; exact hP
          have hD : va_D (AL L s.heap.size) (va_pl ((L ++ [r20]) ++ [r20q]) F23) := by rw [eF23]; exact hD
          have hO : OE (fun a => O a ∨ a ∉ L) F21 F23 := by rw [eF23]; exact hO.tr (OE1 (CP_O hC).2.2.1)
          have hKF23_0 : Rw y ((L ++ [r20]) ++ [r20q]) F23 (grh G (zsh σ xb)) (grw G (zsh σ xb)) (zod σ (zsh σ xb)) ((zst σ (zsh σ xb)).1) ((zst σ (zsh σ xb)).2.1) ((zst σ (zsh σ xb)).2.2) := by rw [eF23]; exact Rw_q hRo22 hoo
          have hKF23_1 : Rw y ((L ++ [r20]) ++ [r20q]) F23 r20 r20q (zod σ (zsh σ xb)) ((addS (zod σ (zsh σ xb)) (zod σ (zsh σ xb)) ((zst σ (zsh σ xb)).2.2) (turn (zod σ (zsh σ xb)) xlow) ((turn (zod σ (zsh σ xb)) xhigh) - 1) (0, 0, emp)).1) ((addS (zod σ (zsh σ xb)) (zod σ (zsh σ xb)) ((zst σ (zsh σ xb)).2.2) (turn (zod σ (zsh σ xb)) xlow) ((turn (zod σ (zsh σ xb)) xhigh) - 1) (0, 0, emp)).2.1) ((addS (zod σ (zsh σ xb)) (zod σ (zsh σ xb)) ((zst σ (zsh σ xb)).2.2) (turn (zod σ (zsh σ xb)) xlow) ((turn (zod σ (zsh σ xb)) xhigh) - 1) (0, 0, emp)).2.2) := by rw [eF23]; exact Rw_q hRn hoo
          have hC : CP y ((L ++ [r20]) ++ [r20q]) F23 (fun a => O a ∨ a ∉ L) (gNw G (zn σ) r20 r20q) (sSh (sNw (sCt σ (z0 σ) (z1 σ + 1) (z2 σ) (z3 σ)) (zod σ (zsh σ xb)) (addS (zod σ (zsh σ xb)) (zod σ (zsh σ xb)) ((zst σ (zsh σ xb)).2.2) (turn (zod σ (zsh σ xb)) xlow) ((turn (zod σ (zsh σ xb)) xhigh) - 1) (0, 0, emp))) xc (zn σ)) := by rw [eF23]; exact CP_sh hC (by rw [er]; exact va_up_self _ _ _) (fun q hq => va_up_ne _ _ hq)
          refine lv_aload_n hx hb dX3_shelfCut_128 rfl (lv_at hl 3 rfl) ?_
          refine q_get C0 iX3 hP hC.1.1 hC.1.2 rfl 1 (by decide) flX3_18 rfl rfl dX3_shelfCut_129 ?_
          refine lv_iload hx hb dX3_shelfCut_132 (lv_at hl 8 rfl) ?_
          refine q_aald C0 hP hC.2.2.1.1 hC.2.2.1.2 (t := 1) rfl (by omega) (by decide) (v := .ref r20) (by show va_rf (some (grh (gNw G (zn σ) r20 r20q) (iu _ xc (zn σ) xc))) = .ref r20; rw [iu_s, er]; rfl) dX3_shelfCut_134 ?_
          refine q_get C0 iX0 hP hKF23_1.1 hKF23_1.2.1 rfl 2 (by decide) flX3_49 rfl rfl dX3_shelfCut_135 ?_
          refine W.widen (k := 8) (n := 140) (Nat.le_of_ble_eq_true rfl) (Nat.le_of_ble_eq_true rfl) ?_
          exact vx_ret (q_retMi C0 hret rfl hlk dX3_shelfCut_138 hP hD hS (⟨by first | trivial | omega, by first | trivial | omega, (by unfold kR_shelfCut; (repeat' split) <;> first | rfl | (exfalso; omega)), (fun a => O a ∨ a ∉ L), (gNw G (zn σ) r20 r20q), CP_eq hC (by unfold kS_shelfCut; (repeat' split) <;> first | rfl | (exfalso; omega)), rfl, ⟨fun q h => List.mem_append_left _ (List.mem_append_left _ h), fun q h1 h2 => (hO q (fun z => z.elim h2 (fun w => w h1))).trans (hE q h1 h2), fun q h => h⟩⟩))
      · refine lv_aload hx hb dX3_shelfCut_91 (lv_at hl 2 rfl) ?_
        refine lv_iload hx hb dX3_shelfCut_93 (lv_at hl 1 rfl) ?_
        refine lv_iload hx hb dX3_shelfCut_95 (lv_at hl 0 rfl) ?_
        refine q_vMi C0 lX3_77 (c_X0_clearPart l D y L F12 _ (grh G (zsh σ xb)) (grw G (zsh σ xb)) (zod σ (zsh σ xb)) (zst σ (zsh σ xb)) (turn (zod σ (zsh σ xb)) xlow) ((turn (zod σ (zsh σ xb)) xhigh) - 1) (CP_r hC (hW.2.1 xb)) (by omega) (by omega)) ⟨rfl, rfl⟩ rfl hP hD hS hA (CP_r hC (hW.2.1 xb)).1 (CP_r hC (hW.2.1 xb)).2.1 rfl rfl rfl hl rfl (Nat.le_of_ble_eq_true rfl) dX3_shelfCut_97 ⟨Nat.le_of_ble_eq_true rfl, Nat.le_of_ble_eq_true rfl⟩ (fun r24 H locs L25 F25 hP hD hS hz25 hp25 => ?_)
        obtain ⟨eL, er, hRn, hfr1⟩ := hp25
        subst eL
        subst er
        have hO := hO.tr (OEf hC (hW.2.1 xb) hfr1)
        have hC := CP_row hC (hW.2.1 xb) hRn hfr1
        refine W.widen (k := 8) (n := 140) (Nat.le_of_ble_eq_true rfl) (Nat.le_of_ble_eq_true rfl) ?_
        exact vx_ret (q_retMi C0 hret rfl hlk dX3_shelfCut_100 hP hD hS (⟨by first | trivial | omega, by first | trivial | omega, (by unfold kR_shelfCut; (repeat' split) <;> first | rfl | (exfalso; omega)), O, G, CP_eq hC (by unfold kS_shelfCut; (repeat' split) <;> first | rfl | (exfalso; omega)), rfl, Ext0 hO⟩))
    · refine lv_aload hx hb dX3_shelfCut_65 (lv_at hl 2 rfl) ?_
      refine lv_iload hx hb dX3_shelfCut_67 (lv_at hl 1 rfl) ?_
      refine lv_iload hx hb dX3_shelfCut_69 (lv_at hl 0 rfl) ?_
      refine q_vS C0 lX3_188 (c_X0_countOfPart l D y L F (grh G (zsh σ xb)) (grw G (zsh σ xb)) (zod σ (zsh σ xb)) ((zst σ (zsh σ xb)).1) ((zst σ (zsh σ xb)).2.1) ((zst σ (zsh σ xb)).2.2) (turn (zod σ (zsh σ xb)) xlow) ((turn (zod σ (zsh σ xb)) xhigh) - 1) (CP_r hC (hW.2.1 xb)) (by omega) (by omega)) ⟨rfl, rfl⟩ rfl hP (CP_r hC (hW.2.1 xb)).1 (CP_r hC (hW.2.1 xb)).2.1 rfl rfl rfl hl rfl (Nat.le_of_ble_eq_true rfl) dX3_shelfCut_71 ⟨Nat.le_of_ble_eq_true rfl, Nat.le_of_ble_eq_true rfl⟩ (fun r26 e_r26 => ?_)
      subst e_r26
      refine W.widen (k := 8) (n := 140) (Nat.le_of_ble_eq_true rfl) (Nat.le_of_ble_eq_true rfl) ?_
      exact vx_ret (q_retMi C0 hret rfl hlk dX3_shelfCut_74 hP hD hS (⟨by first | trivial | omega, by first | trivial | omega, (by unfold kR_shelfCut; (repeat' split) <;> first | rfl | (exfalso; omega)), O, G, CP_eq hC (by unfold kS_shelfCut; (repeat' split) <;> first | rfl | (exfalso; omega)), rfl, Ext0 hO⟩))
  · refine lv_aload_n hx hb dX3_shelfCut_55 rfl (lv_at hl 3 rfl) ?_
    refine q_vMi C0 lX3_63 (c_X3_refuse l D y L F _ O G σ hC) ⟨rfl, rfl⟩ rfl hP hD hS hA hC.1.1 hC.1.2 rfl rfl rfl hl rfl (Nat.le_of_ble_eq_true rfl) dX3_shelfCut_56 ⟨Nat.le_of_ble_eq_true rfl, Nat.le_of_ble_eq_true rfl⟩ (fun r27 H locs L28 F28 hP hD hS hz28 hp28 => ?_)
    obtain ⟨eL, hC, er, hO1⟩ := hp28
    subst eL
    subst er
    have hO := hO.tr hO1
    refine W.widen (k := 8) (n := 140) (Nat.le_of_ble_eq_true rfl) (Nat.le_of_ble_eq_true rfl) ?_
    exact vx_ret (q_retMi C0 hret rfl hlk dX3_shelfCut_59 hP hD hS (⟨by first | trivial | omega, by first | trivial | omega, (by unfold kR_shelfCut; (repeat' split) <;> first | rfl | (exfalso; omega)), O, G, CP_eq hC (by unfold kS_shelfCut; (repeat' split) <;> first | rfl | (exfalso; omega)), rfl, Ext0 hO⟩))
