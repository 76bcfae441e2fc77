set_option maxHeartbeats 3000000 in
set_option maxRecDepth 100000 in
theorem c_X3_openView (l : Launch) (hfl : l.stackTraces = false) (D : va_G) (y : Nat → ClassId) (L : List Nat) (F : Nat → va_E) (sz : Nat) (O : Nat → Prop) (G : CG) (σ : CS) (xv : Int) (xb : Int) (xkind : Int) (xlow : Int) (xhigh : Int) (xends : Int) (hC : CP y L F O G σ) (hW : CW σ) (h_xv : -2147483648 ≤ xv ∧ xv ≤ 2147483647) (h_xb : -2147483648 ≤ xb ∧ xb ≤ 2147483647) (h_xkind : -2147483648 ≤ xkind ∧ xkind ≤ 2147483647) (h_xlow : -2147483648 ≤ xlow ∧ xlow ≤ 2147483647) (h_xhigh : -2147483648 ≤ xhigh ∧ xhigh ≤ 2147483647) (h_xends : -2147483648 ≤ xends ∧ xends ≤ 2147483647) : vx_Met l yX3_openView (.code yX3_openView cX3_openView 15 (some .int) :: Tt) ({ frames := 8, cells := 8, slots := 60, locals := 125 }) (PcX D y L F sz [.ref ((gbg G)), .int (iI xv), .int (iI xb), .int (iI xkind), .int (iI xlow), .int (iI xhigh), .int (iI xends)]) (cMi D (AL L sz) (fun r L1 F1 => ((0 ≤ xv ∧ xv ≤ 1) ∧ (0 ≤ xb ∧ xb ≤ 3)) ∧ ((0 ≤ xkind ∧ xkind ≤ 2) ∧ (0 ≤ xlow ∧ xlow ≤ 99) ∧ (0 ≤ xhigh ∧ xhigh ≤ 99) ∧ (0 ≤ xends ∧ xends ≤ 3)) ∧ r = kR_openView σ xv xb xkind xlow xhigh xends ∧ ∃ O1 G1, CP y L1 F1 O1 G1 (kS_openView σ xv xb xkind xlow xhigh xends) ∧ gbg G1 = gbg G ∧ Ext O O1 L L1 F F1)) (XC (pX ((0 ≤ xv ∧ xv ≤ 1) ∧ (0 ≤ xb ∧ xb ≤ 3)) ((0 ≤ xkind ∧ xkind ≤ 2) ∧ (0 ≤ xlow ∧ xlow ≤ 99) ∧ (0 ≤ xhigh ∧ xhigh ≤ 99) ∧ (0 ≤ xends ∧ xends ≤ 3)))) 8 60 (AL L sz) := by
  have ab1 := andI_b xends 1
  have ab2 := andI_b xends 2
  have hO : OE O F F := fun _ _ => rfl
  have hw4 := hW.2.2.2.2.2.1
  have hw5 := hW.2.2.2.2.2.2.1
  have hw6 := hW.2.2.2.2.2.2.2.2.2.2
  refine q_ofX (lv := [(0, .ref ((gbg G))), (1, .int (iI xv)), (2, .int (iI xb)), (3, .int (iI xkind)), (4, .int (iI xlow)), (5, .int (iI xhigh)), (6, .int (iI xends))]) (by decide) (Nat.le_of_ble_eq_true rfl) rfl (fun p e s m below meth c C0 hret hlk hout hsz hA hP hD hS hX ls hl => ?_)
  subst hsz
  have hx := C0.1.1
  have hb := C0.1.2.1
  have hts := C0.1.2.2.2.2
  refine lv_aload_n hx hb dX3_openView_0 rfl (lv_at hl 0 rfl) ?_
  refine lv_iload_n hx hb dX3_openView_1 rfl (lv_at hl 1 rfl) ?_
  refine q_vXa C0 lX3_171 (c_X3_viewAt l hfl D y L F _ O G σ xv hC (by omega)) ⟨rfl, rfl⟩ rfl hP hD hX hout hlk hC.1.1 hC.1.2 rfl rfl rfl hl rfl (Nat.le_of_ble_eq_true rfl) dX3_openView_2 ⟨Nat.le_of_ble_eq_true rfl, Nat.le_of_ble_eq_true rfl⟩ ⟨Nat.le_of_ble_eq_true rfl, Nat.le_of_ble_eq_true rfl⟩ (fun E h => Or.inl ⟨h.1, fun q => h.2 (by omega)⟩) (fun r1 e_r1 => ?_)
  refine W.widen (k := 1) (n := 6) (Nat.le_of_ble_eq_true rfl) (Nat.le_of_ble_eq_true rfl) ?_
  obtain ⟨hb_r1, e_r1⟩ := e_r1
  subst e_r1
  have hv_r1 := hW.2.2.2.2.1 xv
  refine lv_astore (lv' := [(7, .ref ((gva G xv))), (0, .ref ((gbg G))), (1, .int (iI xv)), (2, .int (iI xb)), (3, .int (iI xkind)), (4, .int (iI xlow)), (5, .int (iI xhigh)), (6, .int (iI xends))]) hx hb dX3_openView_5 hl (by decide) rfl (fun ls hl => ?_)
  refine lv_aload_n hx hb dX3_openView_7 rfl (lv_at hl 1 rfl) ?_
  refine lv_iload_n hx hb dX3_openView_8 rfl (lv_at hl 3 rfl) ?_
  refine q_vXa C0 lX3_37 (c_X3_bookAt l hfl D y L F _ O G σ xb hC (by omega)) ⟨rfl, rfl⟩ rfl hP hD hX hout hlk hC.1.1 hC.1.2 rfl rfl rfl hl rfl (Nat.le_of_ble_eq_true rfl) dX3_openView_9 ⟨Nat.le_of_ble_eq_true rfl, Nat.le_of_ble_eq_true rfl⟩ ⟨Nat.le_of_ble_eq_true rfl, Nat.le_of_ble_eq_true rfl⟩ (fun E h => Or.inl ⟨h.1, fun q => h.2 (by omega)⟩) (fun r2 e_r2 => ?_)
  refine W.widen (k := 2) (n := 12) (Nat.le_of_ble_eq_true rfl) (Nat.le_of_ble_eq_true rfl) ?_
  obtain ⟨hb_r2, e_r2⟩ := e_r2
  subst e_r2
  refine lv_astore (lv' := [(8, .ref ((grh G (zbk σ xb)))), (7, .ref ((gva G xv))), (0, .ref ((gbg G))), (1, .int (iI xv)), (2, .int (iI xb)), (3, .int (iI xkind)), (4, .int (iI xlow)), (5, .int (iI xhigh)), (6, .int (iI xends))]) hx hb dX3_openView_12 hl (by decide) rfl (fun ls hl => ?_)
  refine lv_iload_n hx hb dX3_openView_14 rfl (lv_at hl 5 rfl) ?_
  refine lv_iload hx hb dX3_openView_15 (lv_at hl 6 rfl) ?_
  refine lv_iload hx hb dX3_openView_17 (lv_at hl 7 rfl) ?_
  refine q_sXv C0 lX3_175 (c_X3_checkKindAndBounds l hfl D y L F _ xkind xlow xhigh (by omega) (by omega) (by omega)) ⟨rfl, rfl⟩ rfl hP hD hX hout hlk rfl hl rfl (Nat.le_of_ble_eq_true rfl) dX3_openView_19 ⟨Nat.le_of_ble_eq_true rfl, Nat.le_of_ble_eq_true rfl⟩ ⟨Nat.le_of_ble_eq_true rfl, Nat.le_of_ble_eq_true rfl⟩ (fun E h => Or.inr ⟨h.1, by first | trivial | omega, fun q => h.2 (by omega)⟩) (fun _ e_r3 => ?_)
  refine W.widen (k := 5) (n := 30) (Nat.le_of_ble_eq_true rfl) (Nat.le_of_ble_eq_true rfl) ?_
  refine lv_iload hx hb dX3_openView_22 (lv_at hl 8 rfl) ?_
  refine q_iconst hx hb dX3_openView_24 ?_
  refine q_sXv C0 lX3_41 (c_X3_checkUpTo l hfl D y L F _ xends 3 (by omega) (by omega)) ⟨rfl, rfl⟩ rfl hP hD hX hout hlk rfl hl rfl (Nat.le_of_ble_eq_true rfl) dX3_openView_25 ⟨Nat.le_of_ble_eq_true rfl, Nat.le_of_ble_eq_true rfl⟩ ⟨Nat.le_of_ble_eq_true rfl, Nat.le_of_ble_eq_true rfl⟩ (fun E h => Or.inr ⟨h.1, by first | trivial | omega, fun q => h.2 (by omega)⟩) (fun _ e_r4 => ?_)
  refine W.widen (k := 6) (n := 36) (Nat.le_of_ble_eq_true rfl) (Nat.le_of_ble_eq_true rfl) ?_
  refine lv_aload hx hb dX3_openView_28 (lv_at hl 0 rfl) ?_
  refine lv_iload hx hb dX3_openView_30 (lv_at hl 6 rfl) ?_
  refine q_vS C0 lX3_70 (c_X0_rankOf l D y L F (grh G (zbk σ xb)) (grw G (zbk σ xb)) (zod σ (zbk σ xb)) ((zst σ (zbk σ xb)).1) ((zst σ (zbk σ xb)).2.1) ((zst σ (zbk σ xb)).2.2) xlow (CP_r hC (hW.1 xb)) (by omega)) ⟨rfl, rfl⟩ rfl hP (CP_r hC (hW.1 xb)).1 (CP_r hC (hW.1 xb)).2.1 rfl rfl rfl hl rfl (Nat.le_of_ble_eq_true rfl) dX3_openView_32 ⟨Nat.le_of_ble_eq_true rfl, Nat.le_of_ble_eq_true rfl⟩ (fun r5 e_r5 => ?_)
  subst e_r5
  have b_6 := @turn_b (zod σ (zbk σ xb)) xlow (by omega)
  refine lv_istore (lv' := [(9, .int (iI ((turn (zod σ (zbk σ xb)) xlow)))), (8, .ref ((grh G (zbk σ xb)))), (7, .ref ((gva G xv))), (0, .ref ((gbg G))), (1, .int (iI xv)), (2, .int (iI xb)), (3, .int (iI xkind)), (4, .int (iI xlow)), (5, .int (iI xhigh)), (6, .int (iI xends))]) hx hb dX3_openView_35 hl (by decide) rfl (fun ls hl => ?_)
  refine lv_aload hx hb dX3_openView_37 (lv_at hl 1 rfl) ?_
  refine lv_iload hx hb dX3_openView_39 (lv_at hl 8 rfl) ?_
  refine q_vS C0 lX3_70 (c_X0_rankOf l D y L F (grh G (zbk σ xb)) (grw G (zbk σ xb)) (zod σ (zbk σ xb)) ((zst σ (zbk σ xb)).1) ((zst σ (zbk σ xb)).2.1) ((zst σ (zbk σ xb)).2.2) xhigh (CP_r hC (hW.1 xb)) (by omega)) ⟨rfl, rfl⟩ rfl hP (CP_r hC (hW.1 xb)).1 (CP_r hC (hW.1 xb)).2.1 rfl rfl rfl hl rfl (Nat.le_of_ble_eq_true rfl) dX3_openView_41 ⟨Nat.le_of_ble_eq_true rfl, Nat.le_of_ble_eq_true rfl⟩ (fun r7 e_r7 => ?_)
  subst e_r7
  have b_8 := @turn_b (zod σ (zbk σ xb)) xhigh (by omega)
  refine lv_istore (lv' := [(10, .int (iI ((turn (zod σ (zbk σ xb)) xhigh)))), (9, .int (iI ((turn (zod σ (zbk σ xb)) xlow)))), (8, .ref ((grh G (zbk σ xb)))), (7, .ref ((gva G xv))), (0, .ref ((gbg G))), (1, .int (iI xv)), (2, .int (iI xb)), (3, .int (iI xkind)), (4, .int (iI xlow)), (5, .int (iI xhigh)), (6, .int (iI xends))]) hx hb dX3_openView_44 hl (by decide) rfl (fun ls hl => ?_)
  refine lv_iload_n hx hb dX3_openView_46 rfl (lv_at hl 7 rfl) ?_
  refine q_iconst hx hb dX3_openView_47 ?_
  refine q_icmp_ne hx hb dX3_openView_48 (tgt := 63) (by decide) (by omega) (by omega) (fun c9 => ?_) (fun c9 => ?_)
  · refine lv_iload hx hb dX3_openView_63 (lv_at hl 10 rfl) ?_
    refine q_iconst hx hb dX3_openView_65 ?_
    refine q_iand hx hb dX3_openView_66 ?_
    refine q_if_eq hx hb dX3_openView_67 (tgt := 74) (by decide) (by omega) (fun c10 => ?_) (fun c10 => ?_)
    · refine q_iconst hx hb dX3_openView_74 ?_
      refine lv_istore (lv' := [(11, .int (iI 0)), (10, .int (iI ((turn (zod σ (zbk σ xb)) xhigh)))), (9, .int (iI ((turn (zod σ (zbk σ xb)) xlow)))), (8, .ref ((grh G (zbk σ xb)))), (7, .ref ((gva G xv))), (0, .ref ((gbg G))), (1, .int (iI xv)), (2, .int (iI xb)), (3, .int (iI xkind)), (4, .int (iI xlow)), (5, .int (iI xhigh)), (6, .int (iI xends))]) hx hb dX3_openView_75 hl (by decide) rfl (fun ls hl => ?_)
      refine lv_iload hx hb dX3_openView_77 (lv_at hl 11 rfl) ?_
      refine q_iconst hx hb dX3_openView_79 ?_
      refine q_iand hx hb dX3_openView_80 ?_
      refine q_if_eq hx hb dX3_openView_81 (tgt := 88) (by decide) (by omega) (fun c11 => ?_) (fun c11 => ?_)
      · refine q_iconst hx hb dX3_openView_88 ?_
        refine lv_istore (lv' := [(12, .int (iI 0)), (11, .int (iI 0)), (10, .int (iI ((turn (zod σ (zbk σ xb)) xhigh)))), (9, .int (iI ((turn (zod σ (zbk σ xb)) xlow)))), (8, .ref ((grh G (zbk σ xb)))), (7, .ref ((gva G xv))), (0, .ref ((gbg G))), (1, .int (iI xv)), (2, .int (iI xb)), (3, .int (iI xkind)), (4, .int (iI xlow)), (5, .int (iI xhigh)), (6, .int (iI xends))]) hx hb dX3_openView_89 hl (by decide) rfl (fun ls hl => ?_)
        refine lv_iload hx hb dX3_openView_91 (lv_at hl 1 rfl) ?_
        refine q_if_eq hx hb dX3_openView_93 (tgt := 101) (by decide) (by omega) (fun c12 => ?_) (fun c12 => absurd c12 (by omega))
        refine lv_iload hx hb dX3_openView_101 (lv_at hl 3 rfl) ?_
        refine q_iconst hx hb dX3_openView_103 ?_
        refine q_iadd hx hb dX3_openView_104 ?_
        refine lv_istore (lv' := [(13, .int (iI (((turn (zod σ (zbk σ xb)) xlow) + 1)))), (12, .int (iI 0)), (11, .int (iI 0)), (10, .int (iI ((turn (zod σ (zbk σ xb)) xhigh)))), (9, .int (iI ((turn (zod σ (zbk σ xb)) xlow)))), (8, .ref ((grh G (zbk σ xb)))), (7, .ref ((gva G xv))), (0, .ref ((gbg G))), (1, .int (iI xv)), (2, .int (iI xb)), (3, .int (iI xkind)), (4, .int (iI xlow)), (5, .int (iI xhigh)), (6, .int (iI xends))]) hx hb dX3_openView_105 hl (by decide) rfl (fun ls hl => ?_)
        refine lv_iload hx hb dX3_openView_107 (lv_at hl 1 rfl) ?_
        refine q_if_eq hx hb dX3_openView_109 (tgt := 117) (by decide) (by omega) (fun c13 => ?_) (fun c13 => absurd c13 (by omega))
        refine lv_iload hx hb dX3_openView_117 (lv_at hl 3 rfl) ?_
        refine q_iconst hx hb dX3_openView_119 ?_
        refine q_isub hx hb dX3_openView_120 ?_
        refine lv_istore (lv' := [(14, .int (iI (((turn (zod σ (zbk σ xb)) xhigh) - 1)))), (13, .int (iI (((turn (zod σ (zbk σ xb)) xlow) + 1)))), (12, .int (iI 0)), (11, .int (iI 0)), (10, .int (iI ((turn (zod σ (zbk σ xb)) xhigh)))), (9, .int (iI ((turn (zod σ (zbk σ xb)) xlow)))), (8, .ref ((grh G (zbk σ xb)))), (7, .ref ((gva G xv))), (0, .ref ((gbg G))), (1, .int (iI xv)), (2, .int (iI xb)), (3, .int (iI xkind)), (4, .int (iI xlow)), (5, .int (iI xhigh)), (6, .int (iI xends))]) hx hb dX3_openView_121 hl (by decide) rfl (fun ls hl => ?_)
        refine lv_aload hx hb dX3_openView_123 (lv_at hl 7 rfl) ?_
        refine lv_aload hx hb dX3_openView_125 (lv_at hl 6 rfl) ?_
        refine q_put C0 iX1 tyX1 tyX1_ok nmX1 hP hD hS (CP_v hC hb_r1).1 (CP_v hC hb_r1).2 rfl 0 (by decide) flX3_178 rfl rfl rfl rfl (Nat.le_of_ble_eq_true rfl) dX3_openView_127 (fun H locs hP hD hS => ?_)
        obtain ⟨F14, eF14⟩ : ∃ z, z = va_up F (gva G xv) (.inr (3, [.ref ((grh G (zbk σ xb))), .int (iI (zvl σ xv)), .int (iI (zvh σ xv))])) := ⟨_, rfl⟩
        have hP : va_P D vwCl (va_pl L F14) H := by rw [eF14]; exact hP
        have hD : va_D (AL L s.heap.size) (va_pl L F14) := by rw [eF14]; exact hD
        have hvF : F14 (gva G xv) = (.inr (3, [.ref ((grh G (zbk σ xb))), .int (iI (zvl σ xv)), .int (iI (zvh σ xv))])) := by rw [eF14]; exact va_up_self _ _ _
        have hO : OE O F F14 := by rw [eF14]; exact hO.tr (OE1 ((CP_O hC).2.2.2.2.2.1 _ hb_r1.1 hb_r1.2))
        have hC : CP y L F14 O G (sVw σ xv (zbk σ xb) (zvl σ xv) (zvh σ xv)) := by rw [eF14]; exact CP_vw hC hb_r1 (va_up_self _ _ _) (fun q hq => va_up_ne _ _ hq)
        refine lv_aload hx hb dX3_openView_130 (lv_at hl 7 rfl) ?_
        refine lv_iload_n hx hb dX3_openView_132 rfl (lv_at hl 11 rfl) ?_
        refine q_if_ne hx hb dX3_openView_133 (tgt := 140) (by decide) (by omega) (fun c15 => ?_) (fun c15 => ?_)
        · refine lv_iload hx hb dX3_openView_140 (lv_at hl 1 rfl) ?_
          refine q_put C0 iX1 tyX1 tyX1_ok nmX1 hP hD hS (CP_v hC hb_r1).1 hvF rfl 1 (by decide) flX3_182 rfl rfl rfl rfl (Nat.le_of_ble_eq_true rfl) dX3_openView_142 (fun H locs hP hD hS => ?_)
          obtain ⟨F16, eF16⟩ : ∃ z, z = va_up F14 (gva G xv) (.inr (3, [.ref ((grh G (zbk σ xb))), .int (iI (((turn (zod σ (zbk σ xb)) xlow) + 1))), .int (iI (zvh σ xv))])) := ⟨_, rfl⟩
          have hP : va_P D vwCl (va_pl L F16) H := by rw [eF16]; exact hP
          have hD : va_D (AL L s.heap.size) (va_pl L F16) := by rw [eF16]; exact hD
          have hvF : F16 (gva G xv) = (.inr (3, [.ref ((grh G (zbk σ xb))), .int (iI (((turn (zod σ (zbk σ xb)) xlow) + 1))), .int (iI (zvh σ xv))])) := by rw [eF16]; exact va_up_self _ _ _
          have hO : OE O F F16 := by rw [eF16]; exact hO.tr (OE1 ((CP_O hC).2.2.2.2.2.1 _ hb_r1.1 hb_r1.2))
          have hC : CP y L F16 O G (sVw (sVw σ xv (zbk σ xb) (zvl σ xv) (zvh σ xv)) xv (zbk σ xb) ((turn (zod σ (zbk σ xb)) xlow) + 1) (zvh σ xv)) := by rw [eF16]; exact CP_vw hC hb_r1 (va_up_self _ _ _) (fun q hq => va_up_ne _ _ hq)
          refine lv_aload hx hb dX3_openView_145 (lv_at hl 7 rfl) ?_
          refine lv_iload_n hx hb dX3_openView_147 rfl (lv_at hl 11 rfl) ?_
          refine q_iconst hx hb dX3_openView_148 ?_
          refine q_icmp_ne hx hb dX3_openView_149 (tgt := 157) (by decide) (by omega) (by omega) (fun c17 => ?_) (fun c17 => ?_)
          · refine lv_iload hx hb dX3_openView_157 (lv_at hl 0 rfl) ?_
            refine q_put C0 iX1 tyX1 tyX1_ok nmX1 hP hD hS (CP_v hC hb_r1).1 hvF rfl 2 (by decide) flX3_185 rfl rfl rfl rfl (Nat.le_of_ble_eq_true rfl) dX3_openView_159 (fun H locs hP hD hS => ?_)
            obtain ⟨F18, eF18⟩ : ∃ z, z = va_up F16 (gva G xv) (.inr (3, [.ref ((grh G (zbk σ xb))), .int (iI (((turn (zod σ (zbk σ xb)) xlow) + 1))), .int (iI (((turn (zod σ (zbk σ xb)) xhigh) - 1)))])) := ⟨_, rfl⟩
            have hP : va_P D vwCl (va_pl L F18) H := by rw [eF18]; exact hP
            have hD : va_D (AL L s.heap.size) (va_pl L F18) := by rw [eF18]; exact hD
            have hvF : F18 (gva G xv) = (.inr (3, [.ref ((grh G (zbk σ xb))), .int (iI (((turn (zod σ (zbk σ xb)) xlow) + 1))), .int (iI (((turn (zod σ (zbk σ xb)) xhigh) - 1)))])) := by rw [eF18]; exact va_up_self _ _ _
            have hO : OE O F F18 := by rw [eF18]; exact hO.tr (OE1 ((CP_O hC).2.2.2.2.2.1 _ hb_r1.1 hb_r1.2))
            have hC : CP y L F18 O G (sVw (sVw (sVw σ xv (zbk σ xb) (zvl σ xv) (zvh σ xv)) xv (zbk σ xb) ((turn (zod σ (zbk σ xb)) xlow) + 1) (zvh σ xv)) xv (zbk σ xb) ((turn (zod σ (zbk σ xb)) xlow) + 1) ((turn (zod σ (zbk σ xb)) xhigh) - 1)) := by rw [eF18]; exact CP_vw hC hb_r1 (va_up_self _ _ _) (fun q hq => va_up_ne _ _ hq)
            refine lv_aload hx hb dX3_openView_162 (lv_at hl 6 rfl) ?_
            refine lv_aload hx hb dX3_openView_164 (lv_at hl 7 rfl) ?_
            refine q_get C0 iX1 hP (CP_v hC hb_r1).1 hvF rfl 1 (by decide) flX3_182 rfl rfl dX3_openView_166 ?_
            refine lv_aload hx hb dX3_openView_169 (lv_at hl 7 rfl) ?_
            refine q_get C0 iX1 hP (CP_v hC hb_r1).1 hvF rfl 2 (by decide) flX3_185 rfl rfl dX3_openView_171 ?_
            refine q_vS C0 lX3_188 (c_X0_countOfPart l D y L F18 (grh G (zbk σ xb)) (grw G (zbk σ xb)) (zod σ (zbk σ xb)) ((zst σ (zbk σ xb)).1) ((zst σ (zbk σ xb)).2.1) ((zst σ (zbk σ xb)).2.2) ((turn (zod σ (zbk σ xb)) xlow) + 1) ((turn (zod σ (zbk σ xb)) xhigh) - 1) (CP_r hC (hW.1 xb)) (by omega) (by omega)) ⟨rfl, rfl⟩ rfl hP (CP_r hC (hW.1 xb)).1 (CP_r hC (hW.1 xb)).2.1 rfl rfl rfl hl rfl (Nat.le_of_ble_eq_true rfl) dX3_openView_174 ⟨Nat.le_of_ble_eq_true rfl, Nat.le_of_ble_eq_true rfl⟩ (fun r19 e_r19 => ?_)
            subst e_r19
            refine W.widen (k := 8) (n := 60) (Nat.le_of_ble_eq_true rfl) (Nat.le_of_ble_eq_true rfl) ?_
            exact vx_ret (q_retMi C0 hret rfl hlk dX3_openView_177 hP hD hS (⟨by omega, by omega, (by unfold kR_openView; rw [if_neg (by omega), show oLo (zod σ (zbk σ xb)) xkind xlow xends = ((turn (zod σ (zbk σ xb)) xlow) + 1) by (unfold oLo; (repeat' split) <;> first | rfl | omega), show oHi (zod σ (zbk σ xb)) xkind xhigh xends = ((turn (zod σ (zbk σ xb)) xhigh) - 1) by (unfold oHi; (repeat' split) <;> first | rfl | omega)]), O, G, CP_eq hC (by rw [sVw2, sVw2]; unfold kS_openView; rw [if_neg (by omega), show oLo (zod σ (zbk σ xb)) xkind xlow xends = ((turn (zod σ (zbk σ xb)) xlow) + 1) by (unfold oLo; (repeat' split) <;> first | rfl | omega), show oHi (zod σ (zbk σ xb)) xkind xhigh xends = ((turn (zod σ (zbk σ xb)) xhigh) - 1) by (unfold oHi; (repeat' split) <;> first | rfl | omega)]), rfl, Ext0 hO⟩))
          · refine q_bipush hx hb dX3_openView_152 (by decide) ?_
            refine lv_goto (tgt := 159) hx hb dX3_openView_154 (by decide) ?_
            refine q_put C0 iX1 tyX1 tyX1_ok nmX1 hP hD hS (CP_v hC hb_r1).1 hvF rfl 2 (by decide) flX3_185 rfl rfl rfl rfl (Nat.le_of_ble_eq_true rfl) dX3_openView_159 (fun H locs hP hD hS => ?_)
            obtain ⟨F20, eF20⟩ : ∃ z, z = va_up F16 (gva G xv) (.inr (3, [.ref ((grh G (zbk σ xb))), .int (iI (((turn (zod σ (zbk σ xb)) xlow) + 1))), .int (iI 99)])) := ⟨_, rfl⟩
            have hP : va_P D vwCl (va_pl L F20) H := by rw [eF20]; exact hP
            have hD : va_D (AL L s.heap.size) (va_pl L F20) := by rw [eF20]; exact hD
            have hvF : F20 (gva G xv) = (.inr (3, [.ref ((grh G (zbk σ xb))), .int (iI (((turn (zod σ (zbk σ xb)) xlow) + 1))), .int (iI 99)])) := by rw [eF20]; exact va_up_self _ _ _
            have hO : OE O F F20 := by rw [eF20]; exact hO.tr (OE1 ((CP_O hC).2.2.2.2.2.1 _ hb_r1.1 hb_r1.2))
            have hC : CP y L F20 O G (sVw (sVw (sVw σ xv (zbk σ xb) (zvl σ xv) (zvh σ xv)) xv (zbk σ xb) ((turn (zod σ (zbk σ xb)) xlow) + 1) (zvh σ xv)) xv (zbk σ xb) ((turn (zod σ (zbk σ xb)) xlow) + 1) 99) := by rw [eF20]; exact CP_vw hC hb_r1 (va_up_self _ _ _) (fun q hq => va_up_ne _ _ hq)
            refine lv_aload hx hb dX3_openView_162 (lv_at hl 6 rfl) ?_
            refine lv_aload hx hb dX3_openView_164 (lv_at hl 7 rfl) ?_
            refine q_get C0 iX1 hP (CP_v hC hb_r1).1 hvF rfl 1 (by decide) flX3_182 rfl rfl dX3_openView_166 ?_
            refine lv_aload hx hb dX3_openView_169 (lv_at hl 7 rfl) ?_
            refine q_get C0 iX1 hP (CP_v hC hb_r1).1 hvF rfl 2 (by decide) flX3_185 rfl rfl dX3_openView_171 ?_
            refine q_vS C0 lX3_188 (c_X0_countOfPart l D y L F20 (grh G (zbk σ xb)) (grw G (zbk σ xb)) (zod σ (zbk σ xb)) ((zst σ (zbk σ xb)).1) ((zst σ (zbk σ xb)).2.1) ((zst σ (zbk σ xb)).2.2) ((turn (zod σ (zbk σ xb)) xlow) + 1) 99 (CP_r hC (hW.1 xb)) (by omega) (by omega)) ⟨rfl, rfl⟩ rfl hP (CP_r hC (hW.1 xb)).1 (CP_r hC (hW.1 xb)).2.1 rfl rfl rfl hl rfl (Nat.le_of_ble_eq_true rfl) dX3_openView_174 ⟨Nat.le_of_ble_eq_true rfl, Nat.le_of_ble_eq_true rfl⟩ (fun r21 e_r21 => ?_)
            subst e_r21
            refine W.widen (k := 8) (n := 60) (Nat.le_of_ble_eq_true rfl) (Nat.le_of_ble_eq_true rfl) ?_
            exact vx_ret (q_retMi C0 hret rfl hlk dX3_openView_177 hP hD hS (⟨by omega, by omega, (by unfold kR_openView; rw [if_neg (by omega), show oLo (zod σ (zbk σ xb)) xkind xlow xends = ((turn (zod σ (zbk σ xb)) xlow) + 1) by (unfold oLo; (repeat' split) <;> first | rfl | omega), show oHi (zod σ (zbk σ xb)) xkind xhigh xends = 99 by (unfold oHi; (repeat' split) <;> first | rfl | omega)]), O, G, CP_eq hC (by rw [sVw2, sVw2]; unfold kS_openView; rw [if_neg (by omega), show oLo (zod σ (zbk σ xb)) xkind xlow xends = ((turn (zod σ (zbk σ xb)) xlow) + 1) by (unfold oLo; (repeat' split) <;> first | rfl | omega), show oHi (zod σ (zbk σ xb)) xkind xhigh xends = 99 by (unfold oHi; (repeat' split) <;> first | rfl | omega)]), rfl, Ext0 hO⟩))
        · refine q_iconst hx hb dX3_openView_136 ?_
          refine lv_goto (tgt := 142) hx hb dX3_openView_137 (by decide) ?_
          refine q_put C0 iX1 tyX1 tyX1_ok nmX1 hP hD hS (CP_v hC hb_r1).1 hvF rfl 1 (by decide) flX3_182 rfl rfl rfl rfl (Nat.le_of_ble_eq_true rfl) dX3_openView_142 (fun H locs hP hD hS => ?_)
          obtain ⟨F22, eF22⟩ : ∃ z, z = va_up F14 (gva G xv) (.inr (3, [.ref ((grh G (zbk σ xb))), .int (iI 0), .int (iI (zvh σ xv))])) := ⟨_, rfl⟩
          have hP : va_P D vwCl (va_pl L F22) H := by rw [eF22]; exact hP
          have hD : va_D (AL L s.heap.size) (va_pl L F22) := by rw [eF22]; exact hD
          have hvF : F22 (gva G xv) = (.inr (3, [.ref ((grh G (zbk σ xb))), .int (iI 0), .int (iI (zvh σ xv))])) := by rw [eF22]; exact va_up_self _ _ _
          have hO : OE O F F22 := by rw [eF22]; exact hO.tr (OE1 ((CP_O hC).2.2.2.2.2.1 _ hb_r1.1 hb_r1.2))
          have hC : CP y L F22 O G (sVw (sVw σ xv (zbk σ xb) (zvl σ xv) (zvh σ xv)) xv (zbk σ xb) 0 (zvh σ xv)) := by rw [eF22]; exact CP_vw hC hb_r1 (va_up_self _ _ _) (fun q hq => va_up_ne _ _ hq)
          refine lv_aload hx hb dX3_openView_145 (lv_at hl 7 rfl) ?_
          refine lv_iload_n hx hb dX3_openView_147 rfl (lv_at hl 11 rfl) ?_
          refine q_iconst hx hb dX3_openView_148 ?_
          refine q_icmp_ne hx hb dX3_openView_149 (tgt := 157) (by decide) (by omega) (by omega) (fun c23 => ?_) (fun c23 => ?_)
          · refine lv_iload hx hb dX3_openView_157 (lv_at hl 0 rfl) ?_
            refine q_put C0 iX1 tyX1 tyX1_ok nmX1 hP hD hS (CP_v hC hb_r1).1 hvF rfl 2 (by decide) flX3_185 rfl rfl rfl rfl (Nat.le_of_ble_eq_true rfl) dX3_openView_159 (fun H locs hP hD hS => ?_)
            obtain ⟨F24, eF24⟩ : ∃ z, z = va_up F22 (gva G xv) (.inr (3, [.ref ((grh G (zbk σ xb))), .int (iI 0), .int (iI (((turn (zod σ (zbk σ xb)) xhigh) - 1)))])) := ⟨_, rfl⟩
            have hP : va_P D vwCl (va_pl L F24) H := by rw [eF24]; exact hP
            have hD : va_D (AL L s.heap.size) (va_pl L F24) := by rw [eF24]; exact hD
            have hvF : F24 (gva G xv) = (.inr (3, [.ref ((grh G (zbk σ xb))), .int (iI 0), .int (iI (((turn (zod σ (zbk σ xb)) xhigh) - 1)))])) := by rw [eF24]; exact va_up_self _ _ _
            have hO : OE O F F24 := by rw [eF24]; exact hO.tr (OE1 ((CP_O hC).2.2.2.2.2.1 _ hb_r1.1 hb_r1.2))
            have hC : CP y L F24 O G (sVw (sVw (sVw σ xv (zbk σ xb) (zvl σ xv) (zvh σ xv)) xv (zbk σ xb) 0 (zvh σ xv)) xv (zbk σ xb) 0 ((turn (zod σ (zbk σ xb)) xhigh) - 1)) := by rw [eF24]; exact CP_vw hC hb_r1 (va_up_self _ _ _) (fun q hq => va_up_ne _ _ hq)
            refine lv_aload hx hb dX3_openView_162 (lv_at hl 6 rfl) ?_
            refine lv_aload hx hb dX3_openView_164 (lv_at hl 7 rfl) ?_
            refine q_get C0 iX1 hP (CP_v hC hb_r1).1 hvF rfl 1 (by decide) flX3_182 rfl rfl dX3_openView_166 ?_
            refine lv_aload hx hb dX3_openView_169 (lv_at hl 7 rfl) ?_
            refine q_get C0 iX1 hP (CP_v hC hb_r1).1 hvF rfl 2 (by decide) flX3_185 rfl rfl dX3_openView_171 ?_
            refine q_vS C0 lX3_188 (c_X0_countOfPart l D y L F24 (grh G (zbk σ xb)) (grw G (zbk σ xb)) (zod σ (zbk σ xb)) ((zst σ (zbk σ xb)).1) ((zst σ (zbk σ xb)).2.1) ((zst σ (zbk σ xb)).2.2) 0 ((turn (zod σ (zbk σ xb)) xhigh) - 1) (CP_r hC (hW.1 xb)) (by omega) (by omega)) ⟨rfl, rfl⟩ rfl hP (CP_r hC (hW.1 xb)).1 (CP_r hC (hW.1 xb)).2.1 rfl rfl rfl hl rfl (Nat.le_of_ble_eq_true rfl) dX3_openView_174 ⟨Nat.le_of_ble_eq_true rfl, Nat.le_of_ble_eq_true rfl⟩ (fun r25 e_r25 => ?_)
            subst e_r25
            refine W.widen (k := 8) (n := 60) (Nat.le_of_ble_eq_true rfl) (Nat.le_of_ble_eq_true rfl) ?_
            exact vx_ret (q_retMi C0 hret rfl hlk dX3_openView_177 hP hD hS (⟨by omega, by omega, (by unfold kR_openView; rw [if_neg (by omega), show oLo (zod σ (zbk σ xb)) xkind xlow xends = 0 by (unfold oLo; (repeat' split) <;> first | rfl | omega), show oHi (zod σ (zbk σ xb)) xkind xhigh xends = ((turn (zod σ (zbk σ xb)) xhigh) - 1) by (unfold oHi; (repeat' split) <;> first | rfl | omega)]), O, G, CP_eq hC (by rw [sVw2, sVw2]; unfold kS_openView; rw [if_neg (by omega), show oLo (zod σ (zbk σ xb)) xkind xlow xends = 0 by (unfold oLo; (repeat' split) <;> first | rfl | omega), show oHi (zod σ (zbk σ xb)) xkind xhigh xends = ((turn (zod σ (zbk σ xb)) xhigh) - 1) by (unfold oHi; (repeat' split) <;> first | rfl | omega)]), rfl, Ext0 hO⟩))
          · refine q_bipush hx hb dX3_openView_152 (by decide) ?_
            refine lv_goto (tgt := 159) hx hb dX3_openView_154 (by decide) ?_
            refine q_put C0 iX1 tyX1 tyX1_ok nmX1 hP hD hS (CP_v hC hb_r1).1 hvF rfl 2 (by decide) flX3_185 rfl rfl rfl rfl (Nat.le_of_ble_eq_true rfl) dX3_openView_159 (fun H locs hP hD hS => ?_)
            obtain ⟨F26, eF26⟩ : ∃ z, z = va_up F22 (gva G xv) (.inr (3, [.ref ((grh G (zbk σ xb))), .int (iI 0), .int (iI 99)])) := ⟨_, rfl⟩
            have hP : va_P D vwCl (va_pl L F26) H := by rw [eF26]; exact hP
            have hD : va_D (AL L s.heap.size) (va_pl L F26) := by rw [eF26]; exact hD
            have hvF : F26 (gva G xv) = (.inr (3, [.ref ((grh G (zbk σ xb))), .int (iI 0), .int (iI 99)])) := by rw [eF26]; exact va_up_self _ _ _
            have hO : OE O F F26 := by rw [eF26]; exact hO.tr (OE1 ((CP_O hC).2.2.2.2.2.1 _ hb_r1.1 hb_r1.2))
            have hC : CP y L F26 O G (sVw (sVw (sVw σ xv (zbk σ xb) (zvl σ xv) (zvh σ xv)) xv (zbk σ xb) 0 (zvh σ xv)) xv (zbk σ xb) 0 99) := by rw [eF26]; exact CP_vw hC hb_r1 (va_up_self _ _ _) (fun q hq => va_up_ne _ _ hq)
            refine lv_aload hx hb dX3_openView_162 (lv_at hl 6 rfl) ?_
            refine lv_aload hx hb dX3_openView_164 (lv_at hl 7 rfl) ?_
            refine q_get C0 iX1 hP (CP_v hC hb_r1).1 hvF rfl 1 (by decide) flX3_182 rfl rfl dX3_openView_166 ?_
            refine lv_aload hx hb dX3_openView_169 (lv_at hl 7 rfl) ?_
            refine q_get C0 iX1 hP (CP_v hC hb_r1).1 hvF rfl 2 (by decide) flX3_185 rfl rfl dX3_openView_171 ?_
            refine q_vS C0 lX3_188 (c_X0_countOfPart l D y L F26 (grh G (zbk σ xb)) (grw G (zbk σ xb)) (zod σ (zbk σ xb)) ((zst σ (zbk σ xb)).1) ((zst σ (zbk σ xb)).2.1) ((zst σ (zbk σ xb)).2.2) 0 99 (CP_r hC (hW.1 xb)) (by omega) (by omega)) ⟨rfl, rfl⟩ rfl hP (CP_r hC (hW.1 xb)).1 (CP_r hC (hW.1 xb)).2.1 rfl rfl rfl hl rfl (Nat.le_of_ble_eq_true rfl) dX3_openView_174 ⟨Nat.le_of_ble_eq_true rfl, Nat.le_of_ble_eq_true rfl⟩ (fun r27 e_r27 => ?_)
            subst e_r27
            refine W.widen (k := 8) (n := 60) (Nat.le_of_ble_eq_true rfl) (Nat.le_of_ble_eq_true rfl) ?_
            exact vx_ret (q_retMi C0 hret rfl hlk dX3_openView_177 hP hD hS (⟨by omega, by omega, (by unfold kR_openView; rw [if_neg (by omega), show oLo (zod σ (zbk σ xb)) xkind xlow xends = 0 by (unfold oLo; (repeat' split) <;> first | rfl | omega), show oHi (zod σ (zbk σ xb)) xkind xhigh xends = 99 by (unfold oHi; (repeat' split) <;> first | rfl | omega)]), O, G, CP_eq hC (by rw [sVw2, sVw2]; unfold kS_openView; rw [if_neg (by omega), show oLo (zod σ (zbk σ xb)) xkind xlow xends = 0 by (unfold oLo; (repeat' split) <;> first | rfl | omega), show oHi (zod σ (zbk σ xb)) xkind xhigh xends = 99 by (unfold oHi; (repeat' split) <;> first | rfl | omega)]), rfl, Ext0 hO⟩))
      · refine q_iconst hx hb dX3_openView_84 ?_
        refine lv_goto (tgt := 89) hx hb dX3_openView_85 (by decide) ?_
        refine lv_istore (lv' := [(12, .int (iI 1)), (11, .int (iI 0)), (10, .int (iI ((turn (zod σ (zbk σ xb)) xhigh)))), (9, .int (iI ((turn (zod σ (zbk σ xb)) xlow)))), (8, .ref ((grh G (zbk σ xb)))), (7, .ref ((gva G xv))), (0, .ref ((gbg G))), (1, .int (iI xv)), (2, .int (iI xb)), (3, .int (iI xkind)), (4, .int (iI xlow)), (5, .int (iI xhigh)), (6, .int (iI xends))]) hx hb dX3_openView_89 hl (by decide) rfl (fun ls hl => ?_)
        refine lv_iload hx hb dX3_openView_91 (lv_at hl 1 rfl) ?_
        refine q_if_eq hx hb dX3_openView_93 (tgt := 101) (by decide) (by omega) (fun c28 => ?_) (fun c28 => absurd c28 (by omega))
        refine lv_iload hx hb dX3_openView_101 (lv_at hl 3 rfl) ?_
        refine q_iconst hx hb dX3_openView_103 ?_
        refine q_iadd hx hb dX3_openView_104 ?_
        refine lv_istore (lv' := [(13, .int (iI (((turn (zod σ (zbk σ xb)) xlow) + 1)))), (12, .int (iI 1)), (11, .int (iI 0)), (10, .int (iI ((turn (zod σ (zbk σ xb)) xhigh)))), (9, .int (iI ((turn (zod σ (zbk σ xb)) xlow)))), (8, .ref ((grh G (zbk σ xb)))), (7, .ref ((gva G xv))), (0, .ref ((gbg G))), (1, .int (iI xv)), (2, .int (iI xb)), (3, .int (iI xkind)), (4, .int (iI xlow)), (5, .int (iI xhigh)), (6, .int (iI xends))]) hx hb dX3_openView_105 hl (by decide) rfl (fun ls hl => ?_)
        refine lv_iload hx hb dX3_openView_107 (lv_at hl 1 rfl) ?_
        refine q_if_eq hx hb dX3_openView_109 (tgt := 117) (by decide) (by omega) (fun c29 => absurd c29 (by omega)) (fun c29 => ?_)
        refine lv_iload hx hb dX3_openView_112 (lv_at hl 3 rfl) ?_
        refine lv_goto (tgt := 121) hx hb dX3_openView_114 (by decide) ?_
        refine lv_istore (lv' := [(14, .int (iI ((turn (zod σ (zbk σ xb)) xhigh)))), (13, .int (iI (((turn (zod σ (zbk σ xb)) xlow) + 1)))), (12, .int (iI 1)), (11, .int (iI 0)), (10, .int (iI ((turn (zod σ (zbk σ xb)) xhigh)))), (9, .int (iI ((turn (zod σ (zbk σ xb)) xlow)))), (8, .ref ((grh G (zbk σ xb)))), (7, .ref ((gva G xv))), (0, .ref ((gbg G))), (1, .int (iI xv)), (2, .int (iI xb)), (3, .int (iI xkind)), (4, .int (iI xlow)), (5, .int (iI xhigh)), (6, .int (iI xends))]) hx hb dX3_openView_121 hl (by decide) rfl (fun ls hl => ?_)
        refine lv_aload hx hb dX3_openView_123 (lv_at hl 7 rfl) ?_
        refine lv_aload hx hb dX3_openView_125 (lv_at hl 6 rfl) ?_
        refine q_put C0 iX1 tyX1 tyX1_ok nmX1 hP hD hS (CP_v hC hb_r1).1 (CP_v hC hb_r1).2 rfl 0 (by decide) flX3_178 rfl rfl rfl rfl (Nat.le_of_ble_eq_true rfl) dX3_openView_127 (fun H locs hP hD hS => ?_)
        obtain ⟨F30, eF30⟩ : ∃ z, z = va_up F (gva G xv) (.inr (3, [.ref ((grh G (zbk σ xb))), .int (iI (zvl σ xv)), .int (iI (zvh σ xv))])) := ⟨_, rfl⟩
        have hP : va_P D vwCl (va_pl L F30) H := by rw [eF30]; exact hP
        have hD : va_D (AL L s.heap.size) (va_pl L F30) := by rw [eF30]; exact hD
        have hvF : F30 (gva G xv) = (.inr (3, [.ref ((grh G (zbk σ xb))), .int (iI (zvl σ xv)), .int (iI (zvh σ xv))])) := by rw [eF30]; exact va_up_self _ _ _
        have hO : OE O F F30 := by rw [eF30]; exact hO.tr (OE1 ((CP_O hC).2.2.2.2.2.1 _ hb_r1.1 hb_r1.2))
        have hC : CP y L F30 O G (sVw σ xv (zbk σ xb) (zvl σ xv) (zvh σ xv)) := by rw [eF30]; exact CP_vw hC hb_r1 (va_up_self _ _ _) (fun q hq => va_up_ne _ _ hq)
        refine lv_aload hx hb dX3_openView_130 (lv_at hl 7 rfl) ?_
        refine lv_iload_n hx hb dX3_openView_132 rfl (lv_at hl 11 rfl) ?_
        refine q_if_ne hx hb dX3_openView_133 (tgt := 140) (by decide) (by omega) (fun c31 => ?_) (fun c31 => ?_)
        · refine lv_iload hx hb dX3_openView_140 (lv_at hl 1 rfl) ?_
          refine q_put C0 iX1 tyX1 tyX1_ok nmX1 hP hD hS (CP_v hC hb_r1).1 hvF rfl 1 (by decide) flX3_182 rfl rfl rfl rfl (Nat.le_of_ble_eq_true rfl) dX3_openView_142 (fun H locs hP hD hS => ?_)
          obtain ⟨F32, eF32⟩ : ∃ z, z = va_up F30 (gva G xv) (.inr (3, [.ref ((grh G (zbk σ xb))), .int (iI (((turn (zod σ (zbk σ xb)) xlow) + 1))), .int (iI (zvh σ xv))])) := ⟨_, rfl⟩
          have hP : va_P D vwCl (va_pl L F32) H := by rw [eF32]; exact hP
          have hD : va_D (AL L s.heap.size) (va_pl L F32) := by rw [eF32]; exact hD
          have hvF : F32 (gva G xv) = (.inr (3, [.ref ((grh G (zbk σ xb))), .int (iI (((turn (zod σ (zbk σ xb)) xlow) + 1))), .int (iI (zvh σ xv))])) := by rw [eF32]; exact va_up_self _ _ _
          have hO : OE O F F32 := by rw [eF32]; exact hO.tr (OE1 ((CP_O hC).2.2.2.2.2.1 _ hb_r1.1 hb_r1.2))
          have hC : CP y L F32 O G (sVw (sVw σ xv (zbk σ xb) (zvl σ xv) (zvh σ xv)) xv (zbk σ xb) ((turn (zod σ (zbk σ xb)) xlow) + 1) (zvh σ xv)) := by rw [eF32]; exact CP_vw hC hb_r1 (va_up_self _ _ _) (fun q hq => va_up_ne _ _ hq)
          refine lv_aload hx hb dX3_openView_145 (lv_at hl 7 rfl) ?_
          refine lv_iload_n hx hb dX3_openView_147 rfl (lv_at hl 11 rfl) ?_
          refine q_iconst hx hb dX3_openView_148 ?_
          refine q_icmp_ne hx hb dX3_openView_149 (tgt := 157) (by decide) (by omega) (by omega) (fun c33 => ?_) (fun c33 => ?_)
          · refine lv_iload hx hb dX3_openView_157 (lv_at hl 0 rfl) ?_
            refine q_put C0 iX1 tyX1 tyX1_ok nmX1 hP hD hS (CP_v hC hb_r1).1 hvF rfl 2 (by decide) flX3_185 rfl rfl rfl rfl (Nat.le_of_ble_eq_true rfl) dX3_openView_159 (fun H locs hP hD hS => ?_)
            obtain ⟨F34, eF34⟩ : ∃ z, z = va_up F32 (gva G xv) (.inr (3, [.ref ((grh G (zbk σ xb))), .int (iI (((turn (zod σ (zbk σ xb)) xlow) + 1))), .int (iI ((turn (zod σ (zbk σ xb)) xhigh)))])) := ⟨_, rfl⟩
            have hP : va_P D vwCl (va_pl L F34) H := by rw [eF34]; exact hP
            have hD : va_D (AL L s.heap.size) (va_pl L F34) := by rw [eF34]; exact hD
            have hvF : F34 (gva G xv) = (.inr (3, [.ref ((grh G (zbk σ xb))), .int (iI (((turn (zod σ (zbk σ xb)) xlow) + 1))), .int (iI ((turn (zod σ (zbk σ xb)) xhigh)))])) := by rw [eF34]; exact va_up_self _ _ _
            have hO : OE O F F34 := by rw [eF34]; exact hO.tr (OE1 ((CP_O hC).2.2.2.2.2.1 _ hb_r1.1 hb_r1.2))
            have hC : CP y L F34 O G (sVw (sVw (sVw σ xv (zbk σ xb) (zvl σ xv) (zvh σ xv)) xv (zbk σ xb) ((turn (zod σ (zbk σ xb)) xlow) + 1) (zvh σ xv)) xv (zbk σ xb) ((turn (zod σ (zbk σ xb)) xlow) + 1) (turn (zod σ (zbk σ xb)) xhigh)) := by rw [eF34]; exact CP_vw hC hb_r1 (va_up_self _ _ _) (fun q hq => va_up_ne _ _ hq)
            refine lv_aload hx hb dX3_openView_162 (lv_at hl 6 rfl) ?_
            refine lv_aload hx hb dX3_openView_164 (lv_at hl 7 rfl) ?_
            refine q_get C0 iX1 hP (CP_v hC hb_r1).1 hvF rfl 1 (by decide) flX3_182 rfl rfl dX3_openView_166 ?_
            refine lv_aload hx hb dX3_openView_169 (lv_at hl 7 rfl) ?_
            refine q_get C0 iX1 hP (CP_v hC hb_r1).1 hvF rfl 2 (by decide) flX3_185 rfl rfl dX3_openView_171 ?_
            refine q_vS C0 lX3_188 (c_X0_countOfPart l D y L F34 (grh G (zbk σ xb)) (grw G (zbk σ xb)) (zod σ (zbk σ xb)) ((zst σ (zbk σ xb)).1) ((zst σ (zbk σ xb)).2.1) ((zst σ (zbk σ xb)).2.2) ((turn (zod σ (zbk σ xb)) xlow) + 1) (turn (zod σ (zbk σ xb)) xhigh) (CP_r hC (hW.1 xb)) (by omega) (by omega)) ⟨rfl, rfl⟩ rfl hP (CP_r hC (hW.1 xb)).1 (CP_r hC (hW.1 xb)).2.1 rfl rfl rfl hl rfl (Nat.le_of_ble_eq_true rfl) dX3_openView_174 ⟨Nat.le_of_ble_eq_true rfl, Nat.le_of_ble_eq_true rfl⟩ (fun r35 e_r35 => ?_)
            subst e_r35
            refine W.widen (k := 8) (n := 60) (Nat.le_of_ble_eq_true rfl) (Nat.le_of_ble_eq_true rfl) ?_
            exact vx_ret (q_retMi C0 hret rfl hlk dX3_openView_177 hP hD hS (⟨by omega, by omega, (by unfold kR_openView; rw [if_neg (by omega), show oLo (zod σ (zbk σ xb)) xkind xlow xends = ((turn (zod σ (zbk σ xb)) xlow) + 1) by (unfold oLo; (repeat' split) <;> first | rfl | omega), show oHi (zod σ (zbk σ xb)) xkind xhigh xends = (turn (zod σ (zbk σ xb)) xhigh) by (unfold oHi; (repeat' split) <;> first | rfl | omega)]), O, G, CP_eq hC (by rw [sVw2, sVw2]; unfold kS_openView; rw [if_neg (by omega), show oLo (zod σ (zbk σ xb)) xkind xlow xends = ((turn (zod σ (zbk σ xb)) xlow) + 1) by (unfold oLo; (repeat' split) <;> first | rfl | omega), show oHi (zod σ (zbk σ xb)) xkind xhigh xends = (turn (zod σ (zbk σ xb)) xhigh) by (unfold oHi; (repeat' split) <;> first | rfl | omega)]), rfl, Ext0 hO⟩))
          · refine q_bipush hx hb dX3_openView_152 (by decide) ?_
            refine lv_goto (tgt := 159) hx hb dX3_openView_154 (by decide) ?_
            refine q_put C0 iX1 tyX1 tyX1_ok nmX1 hP hD hS (CP_v hC hb_r1).1 hvF rfl 2 (by decide) flX3_185 rfl rfl rfl rfl (Nat.le_of_ble_eq_true rfl) dX3_openView_159 (fun H locs hP hD hS => ?_)
            obtain ⟨F36, eF36⟩ : ∃ z, z = va_up F32 (gva G xv) (.inr (3, [.ref ((grh G (zbk σ xb))), .int (iI (((turn (zod σ (zbk σ xb)) xlow) + 1))), .int (iI 99)])) := ⟨_, rfl⟩
            have hP : va_P D vwCl (va_pl L F36) H := by rw [eF36]; exact hP
            have hD : va_D (AL L s.heap.size) (va_pl L F36) := by rw [eF36]; exact hD
            have hvF : F36 (gva G xv) = (.inr (3, [.ref ((grh G (zbk σ xb))), .int (iI (((turn (zod σ (zbk σ xb)) xlow) + 1))), .int (iI 99)])) := by rw [eF36]; exact va_up_self _ _ _
            have hO : OE O F F36 := by rw [eF36]; exact hO.tr (OE1 ((CP_O hC).2.2.2.2.2.1 _ hb_r1.1 hb_r1.2))
            have hC : CP y L F36 O G (sVw (sVw (sVw σ xv (zbk σ xb) (zvl σ xv) (zvh σ xv)) xv (zbk σ xb) ((turn (zod σ (zbk σ xb)) xlow) + 1) (zvh σ xv)) xv (zbk σ xb) ((turn (zod σ (zbk σ xb)) xlow) + 1) 99) := by rw [eF36]; exact CP_vw hC hb_r1 (va_up_self _ _ _) (fun q hq => va_up_ne _ _ hq)
            refine lv_aload hx hb dX3_openView_162 (lv_at hl 6 rfl) ?_
            refine lv_aload hx hb dX3_openView_164 (lv_at hl 7 rfl) ?_
            refine q_get C0 iX1 hP (CP_v hC hb_r1).1 hvF rfl 1 (by decide) flX3_182 rfl rfl dX3_openView_166 ?_
            refine lv_aload hx hb dX3_openView_169 (lv_at hl 7 rfl) ?_
            refine q_get C0 iX1 hP (CP_v hC hb_r1).1 hvF rfl 2 (by decide) flX3_185 rfl rfl dX3_openView_171 ?_
            refine q_vS C0 lX3_188 (c_X0_countOfPart l D y L F36 (grh G (zbk σ xb)) (grw G (zbk σ xb)) (zod σ (zbk σ xb)) ((zst σ (zbk σ xb)).1) ((zst σ (zbk σ xb)).2.1) ((zst σ (zbk σ xb)).2.2) ((turn (zod σ (zbk σ xb)) xlow) + 1) 99 (CP_r hC (hW.1 xb)) (by omega) (by omega)) ⟨rfl, rfl⟩ rfl hP (CP_r hC (hW.1 xb)).1 (CP_r hC (hW.1 xb)).2.1 rfl rfl rfl hl rfl (Nat.le_of_ble_eq_true rfl) dX3_openView_174 ⟨Nat.le_of_ble_eq_true rfl, Nat.le_of_ble_eq_true rfl⟩ (fun r37 e_r37 => ?_)
            subst e_r37
            refine W.widen (k := 8) (n := 60) (Nat.le_of_ble_eq_true rfl) (Nat.le_of_ble_eq_true rfl) ?_
            exact vx_ret (q_retMi C0 hret rfl hlk dX3_openView_177 hP hD hS (⟨by omega, by omega, (by unfold kR_openView; rw [if_neg (by omega), show oLo (zod σ (zbk σ xb)) xkind xlow xends = ((turn (zod σ (zbk σ xb)) xlow) + 1) by (unfold oLo; (repeat' split) <;> first | rfl | omega), show oHi (zod σ (zbk σ xb)) xkind xhigh xends = 99 by (unfold oHi; (repeat' split) <;> first | rfl | omega)]), O, G, CP_eq hC (by rw [sVw2, sVw2]; unfold kS_openView; rw [if_neg (by omega), show oLo (zod σ (zbk σ xb)) xkind xlow xends = ((turn (zod σ (zbk σ xb)) xlow) + 1) by (unfold oLo; (repeat' split) <;> first | rfl | omega), show oHi (zod σ (zbk σ xb)) xkind xhigh xends = 99 by (unfold oHi; (repeat' split) <;> first | rfl | omega)]), rfl, Ext0 hO⟩))
        · refine q_iconst hx hb dX3_openView_136 ?_
          refine lv_goto (tgt := 142) hx hb dX3_openView_137 (by decide) ?_
          refine q_put C0 iX1 tyX1 tyX1_ok nmX1 hP hD hS (CP_v hC hb_r1).1 hvF rfl 1 (by decide) flX3_182 rfl rfl rfl rfl (Nat.le_of_ble_eq_true rfl) dX3_openView_142 (fun H locs hP hD hS => ?_)
          obtain ⟨F38, eF38⟩ : ∃ z, z = va_up F30 (gva G xv) (.inr (3, [.ref ((grh G (zbk σ xb))), .int (iI 0), .int (iI (zvh σ xv))])) := ⟨_, rfl⟩
          have hP : va_P D vwCl (va_pl L F38) H := by rw [eF38]; exact hP
          have hD : va_D (AL L s.heap.size) (va_pl L F38) := by rw [eF38]; exact hD
          have hvF : F38 (gva G xv) = (.inr (3, [.ref ((grh G (zbk σ xb))), .int (iI 0), .int (iI (zvh σ xv))])) := by rw [eF38]; exact va_up_self _ _ _
          have hO : OE O F F38 := by rw [eF38]; exact hO.tr (OE1 ((CP_O hC).2.2.2.2.2.1 _ hb_r1.1 hb_r1.2))
          have hC : CP y L F38 O G (sVw (sVw σ xv (zbk σ xb) (zvl σ xv) (zvh σ xv)) xv (zbk σ xb) 0 (zvh σ xv)) := by rw [eF38]; exact CP_vw hC hb_r1 (va_up_self _ _ _) (fun q hq => va_up_ne _ _ hq)
          refine lv_aload hx hb dX3_openView_145 (lv_at hl 7 rfl) ?_
          refine lv_iload_n hx hb dX3_openView_147 rfl (lv_at hl 11 rfl) ?_
          refine q_iconst hx hb dX3_openView_148 ?_
          refine q_icmp_ne hx hb dX3_openView_149 (tgt := 157) (by decide) (by omega) (by omega) (fun c39 => ?_) (fun c39 => ?_)
          · refine lv_iload hx hb dX3_openView_157 (lv_at hl 0 rfl) ?_
            refine q_put C0 iX1 tyX1 tyX1_ok nmX1 hP hD hS (CP_v hC hb_r1).1 hvF rfl 2 (by decide) flX3_185 rfl rfl rfl rfl (Nat.le_of_ble_eq_true rfl) dX3_openView_159 (fun H locs hP hD hS => ?_)
            obtain ⟨F40, eF40⟩ : ∃ z, z = va_up F38 (gva G xv) (.inr (3, [.ref ((grh G (zbk σ xb))), .int (iI 0), .int (iI ((turn (zod σ (zbk σ xb)) xhigh)))])) := ⟨_, rfl⟩
            have hP : va_P D vwCl (va_pl L F40) H := by rw [eF40]; exact hP
            have hD : va_D (AL L s.heap.size) (va_pl L F40) := by rw [eF40]; exact hD
            have hvF : F40 (gva G xv) = (.inr (3, [.ref ((grh G (zbk σ xb))), .int (iI 0), .int (iI ((turn (zod σ (zbk σ xb)) xhigh)))])) := by rw [eF40]; exact va_up_self _ _ _
            have hO : OE O F F40 := by rw [eF40]; exact hO.tr (OE1 ((CP_O hC).2.2.2.2.2.1 _ hb_r1.1 hb_r1.2))
            have hC : CP y L F40 O G (sVw (sVw (sVw σ xv (zbk σ xb) (zvl σ xv) (zvh σ xv)) xv (zbk σ xb) 0 (zvh σ xv)) xv (zbk σ xb) 0 (turn (zod σ (zbk σ xb)) xhigh)) := by rw [eF40]; exact CP_vw hC hb_r1 (va_up_self _ _ _) (fun q hq => va_up_ne _ _ hq)
            refine lv_aload hx hb dX3_openView_162 (lv_at hl 6 rfl) ?_
            refine lv_aload hx hb dX3_openView_164 (lv_at hl 7 rfl) ?_
            refine q_get C0 iX1 hP (CP_v hC hb_r1).1 hvF rfl 1 (by decide) flX3_182 rfl rfl dX3_openView_166 ?_
            refine lv_aload hx hb dX3_openView_169 (lv_at hl 7 rfl) ?_
            refine q_get C0 iX1 hP (CP_v hC hb_r1).1 hvF rfl 2 (by decide) flX3_185 rfl rfl dX3_openView_171 ?_
            refine q_vS C0 lX3_188 (c_X0_countOfPart l D y L F40 (grh G (zbk σ xb)) (grw G (zbk σ xb)) (zod σ (zbk σ xb)) ((zst σ (zbk σ xb)).1) ((zst σ (zbk σ xb)).2.1) ((zst σ (zbk σ xb)).2.2) 0 (turn (zod σ (zbk σ xb)) xhigh) (CP_r hC (hW.1 xb)) (by omega) (by omega)) ⟨rfl, rfl⟩ rfl hP (CP_r hC (hW.1 xb)).1 (CP_r hC (hW.1 xb)).2.1 rfl rfl rfl hl rfl (Nat.le_of_ble_eq_true rfl) dX3_openView_174 ⟨Nat.le_of_ble_eq_true rfl, Nat.le_of_ble_eq_true rfl⟩ (fun r41 e_r41 => ?_)
            subst e_r41
            refine W.widen (k := 8) (n := 60) (Nat.le_of_ble_eq_true rfl) (Nat.le_of_ble_eq_true rfl) ?_
            exact vx_ret (q_retMi C0 hret rfl hlk dX3_openView_177 hP hD hS (⟨by omega, by omega, (by unfold kR_openView; rw [if_neg (by omega), show oLo (zod σ (zbk σ xb)) xkind xlow xends = 0 by (unfold oLo; (repeat' split) <;> first | rfl | omega), show oHi (zod σ (zbk σ xb)) xkind xhigh xends = (turn (zod σ (zbk σ xb)) xhigh) by (unfold oHi; (repeat' split) <;> first | rfl | omega)]), O, G, CP_eq hC (by rw [sVw2, sVw2]; unfold kS_openView; rw [if_neg (by omega), show oLo (zod σ (zbk σ xb)) xkind xlow xends = 0 by (unfold oLo; (repeat' split) <;> first | rfl | omega), show oHi (zod σ (zbk σ xb)) xkind xhigh xends = (turn (zod σ (zbk σ xb)) xhigh) by (unfold oHi; (repeat' split) <;> first | rfl | omega)]), rfl, Ext0 hO⟩))
          · refine q_bipush hx hb dX3_openView_152 (by decide) ?_
            refine lv_goto (tgt := 159) hx hb dX3_openView_154 (by decide) ?_
            refine q_put C0 iX1 tyX1 tyX1_ok nmX1 hP hD hS (CP_v hC hb_r1).1 hvF rfl 2 (by decide) flX3_185 rfl rfl rfl rfl (Nat.le_of_ble_eq_true rfl) dX3_openView_159 (fun H locs hP hD hS => ?_)
            obtain ⟨F42, eF42⟩ : ∃ z, z = va_up F38 (gva G xv) (.inr (3, [.ref ((grh G (zbk σ xb))), .int (iI 0), .int (iI 99)])) := ⟨_, rfl⟩
            have hP : va_P D vwCl (va_pl L F42) H := by rw [eF42]; exact hP
            have hD : va_D (AL L s.heap.size) (va_pl L F42) := by rw [eF42]; exact hD
            have hvF : F42 (gva G xv) = (.inr (3, [.ref ((grh G (zbk σ xb))), .int (iI 0), .int (iI 99)])) := by rw [eF42]; exact va_up_self _ _ _
            have hO : OE O F F42 := by rw [eF42]; exact hO.tr (OE1 ((CP_O hC).2.2.2.2.2.1 _ hb_r1.1 hb_r1.2))
            have hC : CP y L F42 O G (sVw (sVw (sVw σ xv (zbk σ xb) (zvl σ xv) (zvh σ xv)) xv (zbk σ xb) 0 (zvh σ xv)) xv (zbk σ xb) 0 99) := by rw [eF42]; exact CP_vw hC hb_r1 (va_up_self _ _ _) (fun q hq => va_up_ne _ _ hq)
            refine lv_aload hx hb dX3_openView_162 (lv_at hl 6 rfl) ?_
            refine lv_aload hx hb dX3_openView_164 (lv_at hl 7 rfl) ?_
            refine q_get C0 iX1 hP (CP_v hC hb_r1).1 hvF rfl 1 (by decide) flX3_182 rfl rfl dX3_openView_166 ?_
            refine lv_aload hx hb dX3_openView_169 (lv_at hl 7 rfl) ?_
            refine q_get C0 iX1 hP (CP_v hC hb_r1).1 hvF rfl 2 (by decide) flX3_185 rfl rfl dX3_openView_171 ?_
            refine q_vS C0 lX3_188 (c_X0_countOfPart l D y L F42 (grh G (zbk σ xb)) (grw G (zbk σ xb)) (zod σ (zbk σ xb)) ((zst σ (zbk σ xb)).1) ((zst σ (zbk σ xb)).2.1) ((zst σ (zbk σ xb)).2.2) 0 99 (CP_r hC (hW.1 xb)) (by omega) (by omega)) ⟨rfl, rfl⟩ rfl hP (CP_r hC (hW.1 xb)).1 (CP_r hC (hW.1 xb)).2.1 rfl rfl rfl hl rfl (Nat.le_of_ble_eq_true rfl) dX3_openView_174 ⟨Nat.le_of_ble_eq_true rfl, Nat.le_of_ble_eq_true rfl⟩ (fun r43 e_r43 => ?_)
            subst e_r43
            refine W.widen (k := 8) (n := 60) (Nat.le_of_ble_eq_true rfl) (Nat.le_of_ble_eq_true rfl) ?_
            exact vx_ret (q_retMi C0 hret rfl hlk dX3_openView_177 hP hD hS (⟨by omega, by omega, (by unfold kR_openView; rw [if_neg (by omega), show oLo (zod σ (zbk σ xb)) xkind xlow xends = 0 by (unfold oLo; (repeat' split) <;> first | rfl | omega), show oHi (zod σ (zbk σ xb)) xkind xhigh xends = 99 by (unfold oHi; (repeat' split) <;> first | rfl | omega)]), O, G, CP_eq hC (by rw [sVw2, sVw2]; unfold kS_openView; rw [if_neg (by omega), show oLo (zod σ (zbk σ xb)) xkind xlow xends = 0 by (unfold oLo; (repeat' split) <;> first | rfl | omega), show oHi (zod σ (zbk σ xb)) xkind xhigh xends = 99 by (unfold oHi; (repeat' split) <;> first | rfl | omega)]), rfl, Ext0 hO⟩))
    · refine q_iconst hx hb dX3_openView_70 ?_
      refine lv_goto (tgt := 75) hx hb dX3_openView_71 (by decide) ?_
      refine lv_istore (lv' := [(11, .int (iI 1)), (10, .int (iI ((turn (zod σ (zbk σ xb)) xhigh)))), (9, .int (iI ((turn (zod σ (zbk σ xb)) xlow)))), (8, .ref ((grh G (zbk σ xb)))), (7, .ref ((gva G xv))), (0, .ref ((gbg G))), (1, .int (iI xv)), (2, .int (iI xb)), (3, .int (iI xkind)), (4, .int (iI xlow)), (5, .int (iI xhigh)), (6, .int (iI xends))]) hx hb dX3_openView_75 hl (by decide) rfl (fun ls hl => ?_)
      refine lv_iload hx hb dX3_openView_77 (lv_at hl 11 rfl) ?_
      refine q_iconst hx hb dX3_openView_79 ?_
      refine q_iand hx hb dX3_openView_80 ?_
      refine q_if_eq hx hb dX3_openView_81 (tgt := 88) (by decide) (by omega) (fun c44 => ?_) (fun c44 => ?_)
      · refine q_iconst hx hb dX3_openView_88 ?_
        refine lv_istore (lv' := [(12, .int (iI 0)), (11, .int (iI 1)), (10, .int (iI ((turn (zod σ (zbk σ xb)) xhigh)))), (9, .int (iI ((turn (zod σ (zbk σ xb)) xlow)))), (8, .ref ((grh G (zbk σ xb)))), (7, .ref ((gva G xv))), (0, .ref ((gbg G))), (1, .int (iI xv)), (2, .int (iI xb)), (3, .int (iI xkind)), (4, .int (iI xlow)), (5, .int (iI xhigh)), (6, .int (iI xends))]) hx hb dX3_openView_89 hl (by decide) rfl (fun ls hl => ?_)
        refine lv_iload hx hb dX3_openView_91 (lv_at hl 1 rfl) ?_
        refine q_if_eq hx hb dX3_openView_93 (tgt := 101) (by decide) (by omega) (fun c45 => absurd c45 (by omega)) (fun c45 => ?_)
        refine lv_iload hx hb dX3_openView_96 (lv_at hl 3 rfl) ?_
        refine lv_goto (tgt := 105) hx hb dX3_openView_98 (by decide) ?_
        refine lv_istore (lv' := [(13, .int (iI ((turn (zod σ (zbk σ xb)) xlow)))), (12, .int (iI 0)), (11, .int (iI 1)), (10, .int (iI ((turn (zod σ (zbk σ xb)) xhigh)))), (9, .int (iI ((turn (zod σ (zbk σ xb)) xlow)))), (8, .ref ((grh G (zbk σ xb)))), (7, .ref ((gva G xv))), (0, .ref ((gbg G))), (1, .int (iI xv)), (2, .int (iI xb)), (3, .int (iI xkind)), (4, .int (iI xlow)), (5, .int (iI xhigh)), (6, .int (iI xends))]) hx hb dX3_openView_105 hl (by decide) rfl (fun ls hl => ?_)
        refine lv_iload hx hb dX3_openView_107 (lv_at hl 1 rfl) ?_
        refine q_if_eq hx hb dX3_openView_109 (tgt := 117) (by decide) (by omega) (fun c46 => ?_) (fun c46 => absurd c46 (by omega))
        refine lv_iload hx hb dX3_openView_117 (lv_at hl 3 rfl) ?_
        refine q_iconst hx hb dX3_openView_119 ?_
        refine q_isub hx hb dX3_openView_120 ?_
        refine lv_istore (lv' := [(14, .int (iI (((turn (zod σ (zbk σ xb)) xhigh) - 1)))), (13, .int (iI ((turn (zod σ (zbk σ xb)) xlow)))), (12, .int (iI 0)), (11, .int (iI 1)), (10, .int (iI ((turn (zod σ (zbk σ xb)) xhigh)))), (9, .int (iI ((turn (zod σ (zbk σ xb)) xlow)))), (8, .ref ((grh G (zbk σ xb)))), (7, .ref ((gva G xv))), (0, .ref ((gbg G))), (1, .int (iI xv)), (2, .int (iI xb)), (3, .int (iI xkind)), (4, .int (iI xlow)), (5, .int (iI xhigh)), (6, .int (iI xends))]) hx hb dX3_openView_121 hl (by decide) rfl (fun ls hl => ?_)
        refine lv_aload hx hb dX3_openView_123 (lv_at hl 7 rfl) ?_
        refine lv_aload hx hb dX3_openView_125 (lv_at hl 6 rfl) ?_
        refine q_put C0 iX1 tyX1 tyX1_ok nmX1 hP hD hS (CP_v hC hb_r1).1 (CP_v hC hb_r1).2 rfl 0 (by decide) flX3_178 rfl rfl rfl rfl (Nat.le_of_ble_eq_true rfl) dX3_openView_127 (fun H locs hP hD hS => ?_)
        obtain ⟨F47, eF47⟩ : ∃ z, z = va_up F (gva G xv) (.inr (3, [.ref ((grh G (zbk σ xb))), .int (iI (zvl σ xv)), .int (iI (zvh σ xv))])) := ⟨_, rfl⟩
        have hP : va_P D vwCl (va_pl L F47) H := by rw [eF47]; exact hP
        have hD : va_D (AL L s.heap.size) (va_pl L F47) := by rw [eF47]; exact hD
        have hvF : F47 (gva G xv) = (.inr (3, [.ref ((grh G (zbk σ xb))), .int (iI (zvl σ xv)), .int (iI (zvh σ xv))])) := by rw [eF47]; exact va_up_self _ _ _
        have hO : OE O F F47 := by rw [eF47]; exact hO.tr (OE1 ((CP_O hC).2.2.2.2.2.1 _ hb_r1.1 hb_r1.2))
        have hC : CP y L F47 O G (sVw σ xv (zbk σ xb) (zvl σ xv) (zvh σ xv)) := by rw [eF47]; exact CP_vw hC hb_r1 (va_up_self _ _ _) (fun q hq => va_up_ne _ _ hq)
        refine lv_aload hx hb dX3_openView_130 (lv_at hl 7 rfl) ?_
        refine lv_iload_n hx hb dX3_openView_132 rfl (lv_at hl 11 rfl) ?_
        refine q_if_ne hx hb dX3_openView_133 (tgt := 140) (by decide) (by omega) (fun c48 => ?_) (fun c48 => ?_)
        · refine lv_iload hx hb dX3_openView_140 (lv_at hl 1 rfl) ?_
          refine q_put C0 iX1 tyX1 tyX1_ok nmX1 hP hD hS (CP_v hC hb_r1).1 hvF rfl 1 (by decide) flX3_182 rfl rfl rfl rfl (Nat.le_of_ble_eq_true rfl) dX3_openView_142 (fun H locs hP hD hS => ?_)
          obtain ⟨F49, eF49⟩ : ∃ z, z = va_up F47 (gva G xv) (.inr (3, [.ref ((grh G (zbk σ xb))), .int (iI ((turn (zod σ (zbk σ xb)) xlow))), .int (iI (zvh σ xv))])) := ⟨_, rfl⟩
          have hP : va_P D vwCl (va_pl L F49) H := by rw [eF49]; exact hP
          have hD : va_D (AL L s.heap.size) (va_pl L F49) := by rw [eF49]; exact hD
          have hvF : F49 (gva G xv) = (.inr (3, [.ref ((grh G (zbk σ xb))), .int (iI ((turn (zod σ (zbk σ xb)) xlow))), .int (iI (zvh σ xv))])) := by rw [eF49]; exact va_up_self _ _ _
          have hO : OE O F F49 := by rw [eF49]; exact hO.tr (OE1 ((CP_O hC).2.2.2.2.2.1 _ hb_r1.1 hb_r1.2))
          have hC : CP y L F49 O G (sVw (sVw σ xv (zbk σ xb) (zvl σ xv) (zvh σ xv)) xv (zbk σ xb) (turn (zod σ (zbk σ xb)) xlow) (zvh σ xv)) := by rw [eF49]; exact CP_vw hC hb_r1 (va_up_self _ _ _) (fun q hq => va_up_ne _ _ hq)
          refine lv_aload hx hb dX3_openView_145 (lv_at hl 7 rfl) ?_
          refine lv_iload_n hx hb dX3_openView_147 rfl (lv_at hl 11 rfl) ?_
          refine q_iconst hx hb dX3_openView_148 ?_
          refine q_icmp_ne hx hb dX3_openView_149 (tgt := 157) (by decide) (by omega) (by omega) (fun c50 => ?_) (fun c50 => ?_)
          · refine lv_iload hx hb dX3_openView_157 (lv_at hl 0 rfl) ?_
            refine q_put C0 iX1 tyX1 tyX1_ok nmX1 hP hD hS (CP_v hC hb_r1).1 hvF rfl 2 (by decide) flX3_185 rfl rfl rfl rfl (Nat.le_of_ble_eq_true rfl) dX3_openView_159 (fun H locs hP hD hS => ?_)
            obtain ⟨F51, eF51⟩ : ∃ z, z = va_up F49 (gva G xv) (.inr (3, [.ref ((grh G (zbk σ xb))), .int (iI ((turn (zod σ (zbk σ xb)) xlow))), .int (iI (((turn (zod σ (zbk σ xb)) xhigh) - 1)))])) := ⟨_, rfl⟩
            have hP : va_P D vwCl (va_pl L F51) H := by rw [eF51]; exact hP
            have hD : va_D (AL L s.heap.size) (va_pl L F51) := by rw [eF51]; exact hD
            have hvF : F51 (gva G xv) = (.inr (3, [.ref ((grh G (zbk σ xb))), .int (iI ((turn (zod σ (zbk σ xb)) xlow))), .int (iI (((turn (zod σ (zbk σ xb)) xhigh) - 1)))])) := by rw [eF51]; exact va_up_self _ _ _
            have hO : OE O F F51 := by rw [eF51]; exact hO.tr (OE1 ((CP_O hC).2.2.2.2.2.1 _ hb_r1.1 hb_r1.2))
            have hC : CP y L F51 O G (sVw (sVw (sVw σ xv (zbk σ xb) (zvl σ xv) (zvh σ xv)) xv (zbk σ xb) (turn (zod σ (zbk σ xb)) xlow) (zvh σ xv)) xv (zbk σ xb) (turn (zod σ (zbk σ xb)) xlow) ((turn (zod σ (zbk σ xb)) xhigh) - 1)) := by rw [eF51]; exact CP_vw hC hb_r1 (va_up_self _ _ _) (fun q hq => va_up_ne _ _ hq)
            refine lv_aload hx hb dX3_openView_162 (lv_at hl 6 rfl) ?_
            refine lv_aload hx hb dX3_openView_164 (lv_at hl 7 rfl) ?_
            refine q_get C0 iX1 hP (CP_v hC hb_r1).1 hvF rfl 1 (by decide) flX3_182 rfl rfl dX3_openView_166 ?_
            refine lv_aload hx hb dX3_openView_169 (lv_at hl 7 rfl) ?_
            refine q_get C0 iX1 hP (CP_v hC hb_r1).1 hvF rfl 2 (by decide) flX3_185 rfl rfl dX3_openView_171 ?_
            refine q_vS C0 lX3_188 (c_X0_countOfPart l D y L F51 (grh G (zbk σ xb)) (grw G (zbk σ xb)) (zod σ (zbk σ xb)) ((zst σ (zbk σ xb)).1) ((zst σ (zbk σ xb)).2.1) ((zst σ (zbk σ xb)).2.2) (turn (zod σ (zbk σ xb)) xlow) ((turn (zod σ (zbk σ xb)) xhigh) - 1) (CP_r hC (hW.1 xb)) (by omega) (by omega)) ⟨rfl, rfl⟩ rfl hP (CP_r hC (hW.1 xb)).1 (CP_r hC (hW.1 xb)).2.1 rfl rfl rfl hl rfl (Nat.le_of_ble_eq_true rfl) dX3_openView_174 ⟨Nat.le_of_ble_eq_true rfl, Nat.le_of_ble_eq_true rfl⟩ (fun r52 e_r52 => ?_)
            subst e_r52
            refine W.widen (k := 8) (n := 60) (Nat.le_of_ble_eq_true rfl) (Nat.le_of_ble_eq_true rfl) ?_
            exact vx_ret (q_retMi C0 hret rfl hlk dX3_openView_177 hP hD hS (⟨by omega, by omega, (by unfold kR_openView; rw [if_neg (by omega), show oLo (zod σ (zbk σ xb)) xkind xlow xends = (turn (zod σ (zbk σ xb)) xlow) by (unfold oLo; (repeat' split) <;> first | rfl | omega), show oHi (zod σ (zbk σ xb)) xkind xhigh xends = ((turn (zod σ (zbk σ xb)) xhigh) - 1) by (unfold oHi; (repeat' split) <;> first | rfl | omega)]), O, G, CP_eq hC (by rw [sVw2, sVw2]; unfold kS_openView; rw [if_neg (by omega), show oLo (zod σ (zbk σ xb)) xkind xlow xends = (turn (zod σ (zbk σ xb)) xlow) by (unfold oLo; (repeat' split) <;> first | rfl | omega), show oHi (zod σ (zbk σ xb)) xkind xhigh xends = ((turn (zod σ (zbk σ xb)) xhigh) - 1) by (unfold oHi; (repeat' split) <;> first | rfl | omega)]), rfl, Ext0 hO⟩))
          · refine q_bipush hx hb dX3_openView_152 (by decide) ?_
            refine lv_goto (tgt := 159) hx hb dX3_openView_154 (by decide) ?_
            refine q_put C0 iX1 tyX1 tyX1_ok nmX1 hP hD hS (CP_v hC hb_r1).1 hvF rfl 2 (by decide) flX3_185 rfl rfl rfl rfl (Nat.le_of_ble_eq_true rfl) dX3_openView_159 (fun H locs hP hD hS => ?_)
            obtain ⟨F53, eF53⟩ : ∃ z, z = va_up F49 (gva G xv) (.inr (3, [.ref ((grh G (zbk σ xb))), .int (iI ((turn (zod σ (zbk σ xb)) xlow))), .int (iI 99)])) := ⟨_, rfl⟩
            have hP : va_P D vwCl (va_pl L F53) H := by rw [eF53]; exact hP
            have hD : va_D (AL L s.heap.size) (va_pl L F53) := by rw [eF53]; exact hD
            have hvF : F53 (gva G xv) = (.inr (3, [.ref ((grh G (zbk σ xb))), .int (iI ((turn (zod σ (zbk σ xb)) xlow))), .int (iI 99)])) := by rw [eF53]; exact va_up_self _ _ _
            have hO : OE O F F53 := by rw [eF53]; exact hO.tr (OE1 ((CP_O hC).2.2.2.2.2.1 _ hb_r1.1 hb_r1.2))
            have hC : CP y L F53 O G (sVw (sVw (sVw σ xv (zbk σ xb) (zvl σ xv) (zvh σ xv)) xv (zbk σ xb) (turn (zod σ (zbk σ xb)) xlow) (zvh σ xv)) xv (zbk σ xb) (turn (zod σ (zbk σ xb)) xlow) 99) := by rw [eF53]; exact CP_vw hC hb_r1 (va_up_self _ _ _) (fun q hq => va_up_ne _ _ hq)
            refine lv_aload hx hb dX3_openView_162 (lv_at hl 6 rfl) ?_
            refine lv_aload hx hb dX3_openView_164 (lv_at hl 7 rfl) ?_
            refine q_get C0 iX1 hP (CP_v hC hb_r1).1 hvF rfl 1 (by decide) flX3_182 rfl rfl dX3_openView_166 ?_
            refine lv_aload hx hb dX3_openView_169 (lv_at hl 7 rfl) ?_
            refine q_get C0 iX1 hP (CP_v hC hb_r1).1 hvF rfl 2 (by decide) flX3_185 rfl rfl dX3_openView_171 ?_
            refine q_vS C0 lX3_188 (c_X0_countOfPart l D y L F53 (grh G (zbk σ xb)) (grw G (zbk σ xb)) (zod σ (zbk σ xb)) ((zst σ (zbk σ xb)).1) ((zst σ (zbk σ xb)).2.1) ((zst σ (zbk σ xb)).2.2) (turn (zod σ (zbk σ xb)) xlow) 99 (CP_r hC (hW.1 xb)) (by omega) (by omega)) ⟨rfl, rfl⟩ rfl hP (CP_r hC (hW.1 xb)).1 (CP_r hC (hW.1 xb)).2.1 rfl rfl rfl hl rfl (Nat.le_of_ble_eq_true rfl) dX3_openView_174 ⟨Nat.le_of_ble_eq_true rfl, Nat.le_of_ble_eq_true rfl⟩ (fun r54 e_r54 => ?_)
            subst e_r54
            refine W.widen (k := 8) (n := 60) (Nat.le_of_ble_eq_true rfl) (Nat.le_of_ble_eq_true rfl) ?_
            exact vx_ret (q_retMi C0 hret rfl hlk dX3_openView_177 hP hD hS (⟨by omega, by omega, (by unfold kR_openView; rw [if_neg (by omega), show oLo (zod σ (zbk σ xb)) xkind xlow xends = (turn (zod σ (zbk σ xb)) xlow) by (unfold oLo; (repeat' split) <;> first | rfl | omega), show oHi (zod σ (zbk σ xb)) xkind xhigh xends = 99 by (unfold oHi; (repeat' split) <;> first | rfl | omega)]), O, G, CP_eq hC (by rw [sVw2, sVw2]; unfold kS_openView; rw [if_neg (by omega), show oLo (zod σ (zbk σ xb)) xkind xlow xends = (turn (zod σ (zbk σ xb)) xlow) by (unfold oLo; (repeat' split) <;> first | rfl | omega), show oHi (zod σ (zbk σ xb)) xkind xhigh xends = 99 by (unfold oHi; (repeat' split) <;> first | rfl | omega)]), rfl, Ext0 hO⟩))
        · refine q_iconst hx hb dX3_openView_136 ?_
          refine lv_goto (tgt := 142) hx hb dX3_openView_137 (by decide) ?_
          refine q_put C0 iX1 tyX1 tyX1_ok nmX1 hP hD hS (CP_v hC hb_r1).1 hvF rfl 1 (by decide) flX3_182 rfl rfl rfl rfl (Nat.le_of_ble_eq_true rfl) dX3_openView_142 (fun H locs hP hD hS => ?_)
          obtain ⟨F55, eF55⟩ : ∃ z, z = va_up F47 (gva G xv) (.inr (3, [.ref ((grh G (zbk σ xb))), .int (iI 0), .int (iI (zvh σ xv))])) := ⟨_, rfl⟩
          have hP : va_P D vwCl (va_pl L F55) H := by rw [eF55]; exact hP
          have hD : va_D (AL L s.heap.size) (va_pl L F55) := by rw [eF55]; exact hD
          have hvF : F55 (gva G xv) = (.inr (3, [.ref ((grh G (zbk σ xb))), .int (iI 0), .int (iI (zvh σ xv))])) := by rw [eF55]; exact va_up_self _ _ _
          have hO : OE O F F55 := by rw [eF55]; exact hO.tr (OE1 ((CP_O hC).2.2.2.2.2.1 _ hb_r1.1 hb_r1.2))
          have hC : CP y L F55 O G (sVw (sVw σ xv (zbk σ xb) (zvl σ xv) (zvh σ xv)) xv (zbk σ xb) 0 (zvh σ xv)) := by rw [eF55]; exact CP_vw hC hb_r1 (va_up_self _ _ _) (fun q hq => va_up_ne _ _ hq)
          refine lv_aload hx hb dX3_openView_145 (lv_at hl 7 rfl) ?_
          refine lv_iload_n hx hb dX3_openView_147 rfl (lv_at hl 11 rfl) ?_
          refine q_iconst hx hb dX3_openView_148 ?_
          refine q_icmp_ne hx hb dX3_openView_149 (tgt := 157) (by decide) (by omega) (by omega) (fun c56 => ?_) (fun c56 => ?_)
          · refine lv_iload hx hb dX3_openView_157 (lv_at hl 0 rfl) ?_
            refine q_put C0 iX1 tyX1 tyX1_ok nmX1 hP hD hS (CP_v hC hb_r1).1 hvF rfl 2 (by decide) flX3_185 rfl rfl rfl rfl (Nat.le_of_ble_eq_true rfl) dX3_openView_159 (fun H locs hP hD hS => ?_)
            obtain ⟨F57, eF57⟩ : ∃ z, z = va_up F55 (gva G xv) (.inr (3, [.ref ((grh G (zbk σ xb))), .int (iI 0), .int (iI (((turn (zod σ (zbk σ xb)) xhigh) - 1)))])) := ⟨_, rfl⟩
            have hP : va_P D vwCl (va_pl L F57) H := by rw [eF57]; exact hP
            have hD : va_D (AL L s.heap.size) (va_pl L F57) := by rw [eF57]; exact hD
            have hvF : F57 (gva G xv) = (.inr (3, [.ref ((grh G (zbk σ xb))), .int (iI 0), .int (iI (((turn (zod σ (zbk σ xb)) xhigh) - 1)))])) := by rw [eF57]; exact va_up_self _ _ _
            have hO : OE O F F57 := by rw [eF57]; exact hO.tr (OE1 ((CP_O hC).2.2.2.2.2.1 _ hb_r1.1 hb_r1.2))
            have hC : CP y L F57 O G (sVw (sVw (sVw σ xv (zbk σ xb) (zvl σ xv) (zvh σ xv)) xv (zbk σ xb) 0 (zvh σ xv)) xv (zbk σ xb) 0 ((turn (zod σ (zbk σ xb)) xhigh) - 1)) := by rw [eF57]; exact CP_vw hC hb_r1 (va_up_self _ _ _) (fun q hq => va_up_ne _ _ hq)
            refine lv_aload hx hb dX3_openView_162 (lv_at hl 6 rfl) ?_
            refine lv_aload hx hb dX3_openView_164 (lv_at hl 7 rfl) ?_
            refine q_get C0 iX1 hP (CP_v hC hb_r1).1 hvF rfl 1 (by decide) flX3_182 rfl rfl dX3_openView_166 ?_
            refine lv_aload hx hb dX3_openView_169 (lv_at hl 7 rfl) ?_
            refine q_get C0 iX1 hP (CP_v hC hb_r1).1 hvF rfl 2 (by decide) flX3_185 rfl rfl dX3_openView_171 ?_
            refine q_vS C0 lX3_188 (c_X0_countOfPart l D y L F57 (grh G (zbk σ xb)) (grw G (zbk σ xb)) (zod σ (zbk σ xb)) ((zst σ (zbk σ xb)).1) ((zst σ (zbk σ xb)).2.1) ((zst σ (zbk σ xb)).2.2) 0 ((turn (zod σ (zbk σ xb)) xhigh) - 1) (CP_r hC (hW.1 xb)) (by omega) (by omega)) ⟨rfl, rfl⟩ rfl hP (CP_r hC (hW.1 xb)).1 (CP_r hC (hW.1 xb)).2.1 rfl rfl rfl hl rfl (Nat.le_of_ble_eq_true rfl) dX3_openView_174 ⟨Nat.le_of_ble_eq_true rfl, Nat.le_of_ble_eq_true rfl⟩ (fun r58 e_r58 => ?_)
            subst e_r58
            refine W.widen (k := 8) (n := 60) (Nat.le_of_ble_eq_true rfl) (Nat.le_of_ble_eq_true rfl) ?_
            exact vx_ret (q_retMi C0 hret rfl hlk dX3_openView_177 hP hD hS (⟨by omega, by omega, (by unfold kR_openView; rw [if_neg (by omega), show oLo (zod σ (zbk σ xb)) xkind xlow xends = 0 by (unfold oLo; (repeat' split) <;> first | rfl | omega), show oHi (zod σ (zbk σ xb)) xkind xhigh xends = ((turn (zod σ (zbk σ xb)) xhigh) - 1) by (unfold oHi; (repeat' split) <;> first | rfl | omega)]), O, G, CP_eq hC (by rw [sVw2, sVw2]; unfold kS_openView; rw [if_neg (by omega), show oLo (zod σ (zbk σ xb)) xkind xlow xends = 0 by (unfold oLo; (repeat' split) <;> first | rfl | omega), show oHi (zod σ (zbk σ xb)) xkind xhigh xends = ((turn (zod σ (zbk σ xb)) xhigh) - 1) by (unfold oHi; (repeat' split) <;> first | rfl | omega)]), rfl, Ext0 hO⟩))
          · refine q_bipush hx hb dX3_openView_152 (by decide) ?_
            refine lv_goto (tgt := 159) hx hb dX3_openView_154 (by decide) ?_
            refine q_put C0 iX1 tyX1 tyX1_ok nmX1 hP hD hS (CP_v hC hb_r1).1 hvF rfl 2 (by decide) flX3_185 rfl rfl rfl rfl (Nat.le_of_ble_eq_true rfl) dX3_openView_159 (fun H locs hP hD hS => ?_)
            obtain ⟨F59, eF59⟩ : ∃ z, z = va_up F55 (gva G xv) (.inr (3, [.ref ((grh G (zbk σ xb))), .int (iI 0), .int (iI 99)])) := ⟨_, rfl⟩
            have hP : va_P D vwCl (va_pl L F59) H := by rw [eF59]; exact hP
            have hD : va_D (AL L s.heap.size) (va_pl L F59) := by rw [eF59]; exact hD
            have hvF : F59 (gva G xv) = (.inr (3, [.ref ((grh G (zbk σ xb))), .int (iI 0), .int (iI 99)])) := by rw [eF59]; exact va_up_self _ _ _
            have hO : OE O F F59 := by rw [eF59]; exact hO.tr (OE1 ((CP_O hC).2.2.2.2.2.1 _ hb_r1.1 hb_r1.2))
            have hC : CP y L F59 O G (sVw (sVw (sVw σ xv (zbk σ xb) (zvl σ xv) (zvh σ xv)) xv (zbk σ xb) 0 (zvh σ xv)) xv (zbk σ xb) 0 99) := by rw [eF59]; exact CP_vw hC hb_r1 (va_up_self _ _ _) (fun q hq => va_up_ne _ _ hq)
            refine lv_aload hx hb dX3_openView_162 (lv_at hl 6 rfl) ?_
            refine lv_aload hx hb dX3_openView_164 (lv_at hl 7 rfl) ?_
            refine q_get C0 iX1 hP (CP_v hC hb_r1).1 hvF rfl 1 (by decide) flX3_182 rfl rfl dX3_openView_166 ?_
            refine lv_aload hx hb dX3_openView_169 (lv_at hl 7 rfl) ?_
            refine q_get C0 iX1 hP (CP_v hC hb_r1).1 hvF rfl 2 (by decide) flX3_185 rfl rfl dX3_openView_171 ?_
            refine q_vS C0 lX3_188 (c_X0_countOfPart l D y L F59 (grh G (zbk σ xb)) (grw G (zbk σ xb)) (zod σ (zbk σ xb)) ((zst σ (zbk σ xb)).1) ((zst σ (zbk σ xb)).2.1) ((zst σ (zbk σ xb)).2.2) 0 99 (CP_r hC (hW.1 xb)) (by omega) (by omega)) ⟨rfl, rfl⟩ rfl hP (CP_r hC (hW.1 xb)).1 (CP_r hC (hW.1 xb)).2.1 rfl rfl rfl hl rfl (Nat.le_of_ble_eq_true rfl) dX3_openView_174 ⟨Nat.le_of_ble_eq_true rfl, Nat.le_of_ble_eq_true rfl⟩ (fun r60 e_r60 => ?_)
            subst e_r60
            refine W.widen (k := 8) (n := 60) (Nat.le_of_ble_eq_true rfl) (Nat.le_of_ble_eq_true rfl) ?_
            exact vx_ret (q_retMi C0 hret rfl hlk dX3_openView_177 hP hD hS (⟨by omega, by omega, (by unfold kR_openView; rw [if_neg (by omega), show oLo (zod σ (zbk σ xb)) xkind xlow xends = 0 by (unfold oLo; (repeat' split) <;> first | rfl | omega), show oHi (zod σ (zbk σ xb)) xkind xhigh xends = 99 by (unfold oHi; (repeat' split) <;> first | rfl | omega)]), O, G, CP_eq hC (by rw [sVw2, sVw2]; unfold kS_openView; rw [if_neg (by omega), show oLo (zod σ (zbk σ xb)) xkind xlow xends = 0 by (unfold oLo; (repeat' split) <;> first | rfl | omega), show oHi (zod σ (zbk σ xb)) xkind xhigh xends = 99 by (unfold oHi; (repeat' split) <;> first | rfl | omega)]), rfl, Ext0 hO⟩))
      · refine q_iconst hx hb dX3_openView_84 ?_
        refine lv_goto (tgt := 89) hx hb dX3_openView_85 (by decide) ?_
        refine lv_istore (lv' := [(12, .int (iI 1)), (11, .int (iI 1)), (10, .int (iI ((turn (zod σ (zbk σ xb)) xhigh)))), (9, .int (iI ((turn (zod σ (zbk σ xb)) xlow)))), (8, .ref ((grh G (zbk σ xb)))), (7, .ref ((gva G xv))), (0, .ref ((gbg G))), (1, .int (iI xv)), (2, .int (iI xb)), (3, .int (iI xkind)), (4, .int (iI xlow)), (5, .int (iI xhigh)), (6, .int (iI xends))]) hx hb dX3_openView_89 hl (by decide) rfl (fun ls hl => ?_)
        refine lv_iload hx hb dX3_openView_91 (lv_at hl 1 rfl) ?_
        refine q_if_eq hx hb dX3_openView_93 (tgt := 101) (by decide) (by omega) (fun c61 => absurd c61 (by omega)) (fun c61 => ?_)
        refine lv_iload hx hb dX3_openView_96 (lv_at hl 3 rfl) ?_
        refine lv_goto (tgt := 105) hx hb dX3_openView_98 (by decide) ?_
        refine lv_istore (lv' := [(13, .int (iI ((turn (zod σ (zbk σ xb)) xlow)))), (12, .int (iI 1)), (11, .int (iI 1)), (10, .int (iI ((turn (zod σ (zbk σ xb)) xhigh)))), (9, .int (iI ((turn (zod σ (zbk σ xb)) xlow)))), (8, .ref ((grh G (zbk σ xb)))), (7, .ref ((gva G xv))), (0, .ref ((gbg G))), (1, .int (iI xv)), (2, .int (iI xb)), (3, .int (iI xkind)), (4, .int (iI xlow)), (5, .int (iI xhigh)), (6, .int (iI xends))]) hx hb dX3_openView_105 hl (by decide) rfl (fun ls hl => ?_)
        refine lv_iload hx hb dX3_openView_107 (lv_at hl 1 rfl) ?_
        refine q_if_eq hx hb dX3_openView_109 (tgt := 117) (by decide) (by omega) (fun c62 => absurd c62 (by omega)) (fun c62 => ?_)
        refine lv_iload hx hb dX3_openView_112 (lv_at hl 3 rfl) ?_
        refine lv_goto (tgt := 121) hx hb dX3_openView_114 (by decide) ?_
        refine lv_istore (lv' := [(14, .int (iI ((turn (zod σ (zbk σ xb)) xhigh)))), (13, .int (iI ((turn (zod σ (zbk σ xb)) xlow)))), (12, .int (iI 1)), (11, .int (iI 1)), (10, .int (iI ((turn (zod σ (zbk σ xb)) xhigh)))), (9, .int (iI ((turn (zod σ (zbk σ xb)) xlow)))), (8, .ref ((grh G (zbk σ xb)))), (7, .ref ((gva G xv))), (0, .ref ((gbg G))), (1, .int (iI xv)), (2, .int (iI xb)), (3, .int (iI xkind)), (4, .int (iI xlow)), (5, .int (iI xhigh)), (6, .int (iI xends))]) hx hb dX3_openView_121 hl (by decide) rfl (fun ls hl => ?_)
        refine lv_aload hx hb dX3_openView_123 (lv_at hl 7 rfl) ?_
        refine lv_aload hx hb dX3_openView_125 (lv_at hl 6 rfl) ?_
        refine q_put C0 iX1 tyX1 tyX1_ok nmX1 hP hD hS (CP_v hC hb_r1).1 (CP_v hC hb_r1).2 rfl 0 (by decide) flX3_178 rfl rfl rfl rfl (Nat.le_of_ble_eq_true rfl) dX3_openView_127 (fun H locs hP hD hS => ?_)
        obtain ⟨F63, eF63⟩ : ∃ z, z = va_up F (gva G xv) (.inr (3, [.ref ((grh G (zbk σ xb))), .int (iI (zvl σ xv)), .int (iI (zvh σ xv))])) := ⟨_, rfl⟩
        have hP : va_P D vwCl (va_pl L F63) H := by rw [eF63]; exact hP
        have hD : va_D (AL L s.heap.size) (va_pl L F63) := by rw [eF63]; exact hD
        have hvF : F63 (gva G xv) = (.inr (3, [.ref ((grh G (zbk σ xb))), .int (iI (zvl σ xv)), .int (iI (zvh σ xv))])) := by rw [eF63]; exact va_up_self _ _ _
        have hO : OE O F F63 := by rw [eF63]; exact hO.tr (OE1 ((CP_O hC).2.2.2.2.2.1 _ hb_r1.1 hb_r1.2))
        have hC : CP y L F63 O G (sVw σ xv (zbk σ xb) (zvl σ xv) (zvh σ xv)) := by rw [eF63]; exact CP_vw hC hb_r1 (va_up_self _ _ _) (fun q hq => va_up_ne _ _ hq)
        refine lv_aload hx hb dX3_openView_130 (lv_at hl 7 rfl) ?_
        refine lv_iload_n hx hb dX3_openView_132 rfl (lv_at hl 11 rfl) ?_
        refine q_if_ne hx hb dX3_openView_133 (tgt := 140) (by decide) (by omega) (fun c64 => ?_) (fun c64 => ?_)
        · refine lv_iload hx hb dX3_openView_140 (lv_at hl 1 rfl) ?_
          refine q_put C0 iX1 tyX1 tyX1_ok nmX1 hP hD hS (CP_v hC hb_r1).1 hvF rfl 1 (by decide) flX3_182 rfl rfl rfl rfl (Nat.le_of_ble_eq_true rfl) dX3_openView_142 (fun H locs hP hD hS => ?_)
          obtain ⟨F65, eF65⟩ : ∃ z, z = va_up F63 (gva G xv) (.inr (3, [.ref ((grh G (zbk σ xb))), .int (iI ((turn (zod σ (zbk σ xb)) xlow))), .int (iI (zvh σ xv))])) := ⟨_, rfl⟩
          have hP : va_P D vwCl (va_pl L F65) H := by rw [eF65]; exact hP
          have hD : va_D (AL L s.heap.size) (va_pl L F65) := by rw [eF65]; exact hD
          have hvF : F65 (gva G xv) = (.inr (3, [.ref ((grh G (zbk σ xb))), .int (iI ((turn (zod σ (zbk σ xb)) xlow))), .int (iI (zvh σ xv))])) := by rw [eF65]; exact va_up_self _ _ _
          have hO : OE O F F65 := by rw [eF65]; exact hO.tr (OE1 ((CP_O hC).2.2.2.2.2.1 _ hb_r1.1 hb_r1.2))
          have hC : CP y L F65 O G (sVw (sVw σ xv (zbk σ xb) (zvl σ xv) (zvh σ xv)) xv (zbk σ xb) (turn (zod σ (zbk σ xb)) xlow) (zvh σ xv)) := by rw [eF65]; exact CP_vw hC hb_r1 (va_up_self _ _ _) (fun q hq => va_up_ne _ _ hq)
          refine lv_aload hx hb dX3_openView_145 (lv_at hl 7 rfl) ?_
          refine lv_iload_n hx hb dX3_openView_147 rfl (lv_at hl 11 rfl) ?_
          refine q_iconst hx hb dX3_openView_148 ?_
          refine q_icmp_ne hx hb dX3_openView_149 (tgt := 157) (by decide) (by omega) (by omega) (fun c66 => ?_) (fun c66 => ?_)
          · refine lv_iload hx hb dX3_openView_157 (lv_at hl 0 rfl) ?_
            refine q_put C0 iX1 tyX1 tyX1_ok nmX1 hP hD hS (CP_v hC hb_r1).1 hvF rfl 2 (by decide) flX3_185 rfl rfl rfl rfl (Nat.le_of_ble_eq_true rfl) dX3_openView_159 (fun H locs hP hD hS => ?_)
            obtain ⟨F67, eF67⟩ : ∃ z, z = va_up F65 (gva G xv) (.inr (3, [.ref ((grh G (zbk σ xb))), .int (iI ((turn (zod σ (zbk σ xb)) xlow))), .int (iI ((turn (zod σ (zbk σ xb)) xhigh)))])) := ⟨_, rfl⟩
            have hP : va_P D vwCl (va_pl L F67) H := by rw [eF67]; exact hP
            have hD : va_D (AL L s.heap.size) (va_pl L F67) := by rw [eF67]; exact hD
            have hvF : F67 (gva G xv) = (.inr (3, [.ref ((grh G (zbk σ xb))), .int (iI ((turn (zod σ (zbk σ xb)) xlow))), .int (iI ((turn (zod σ (zbk σ xb)) xhigh)))])) := by rw [eF67]; exact va_up_self _ _ _
            have hO : OE O F F67 := by rw [eF67]; exact hO.tr (OE1 ((CP_O hC).2.2.2.2.2.1 _ hb_r1.1 hb_r1.2))
            have hC : CP y L F67 O G (sVw (sVw (sVw σ xv (zbk σ xb) (zvl σ xv) (zvh σ xv)) xv (zbk σ xb) (turn (zod σ (zbk σ xb)) xlow) (zvh σ xv)) xv (zbk σ xb) (turn (zod σ (zbk σ xb)) xlow) (turn (zod σ (zbk σ xb)) xhigh)) := by rw [eF67]; exact CP_vw hC hb_r1 (va_up_self _ _ _) (fun q hq => va_up_ne _ _ hq)
            refine lv_aload hx hb dX3_openView_162 (lv_at hl 6 rfl) ?_
            refine lv_aload hx hb dX3_openView_164 (lv_at hl 7 rfl) ?_
            refine q_get C0 iX1 hP (CP_v hC hb_r1).1 hvF rfl 1 (by decide) flX3_182 rfl rfl dX3_openView_166 ?_
            refine lv_aload hx hb dX3_openView_169 (lv_at hl 7 rfl) ?_
            refine q_get C0 iX1 hP (CP_v hC hb_r1).1 hvF rfl 2 (by decide) flX3_185 rfl rfl dX3_openView_171 ?_
            refine q_vS C0 lX3_188 (c_X0_countOfPart l D y L F67 (grh G (zbk σ xb)) (grw G (zbk σ xb)) (zod σ (zbk σ xb)) ((zst σ (zbk σ xb)).1) ((zst σ (zbk σ xb)).2.1) ((zst σ (zbk σ xb)).2.2) (turn (zod σ (zbk σ xb)) xlow) (turn (zod σ (zbk σ xb)) xhigh) (CP_r hC (hW.1 xb)) (by omega) (by omega)) ⟨rfl, rfl⟩ rfl hP (CP_r hC (hW.1 xb)).1 (CP_r hC (hW.1 xb)).2.1 rfl rfl rfl hl rfl (Nat.le_of_ble_eq_true rfl) dX3_openView_174 ⟨Nat.le_of_ble_eq_true rfl, Nat.le_of_ble_eq_true rfl⟩ (fun r68 e_r68 => ?_)
            subst e_r68
            refine W.widen (k := 8) (n := 60) (Nat.le_of_ble_eq_true rfl) (Nat.le_of_ble_eq_true rfl) ?_
            exact vx_ret (q_retMi C0 hret rfl hlk dX3_openView_177 hP hD hS (⟨by omega, by omega, (by unfold kR_openView; rw [if_neg (by omega), show oLo (zod σ (zbk σ xb)) xkind xlow xends = (turn (zod σ (zbk σ xb)) xlow) by (unfold oLo; (repeat' split) <;> first | rfl | omega), show oHi (zod σ (zbk σ xb)) xkind xhigh xends = (turn (zod σ (zbk σ xb)) xhigh) by (unfold oHi; (repeat' split) <;> first | rfl | omega)]), O, G, CP_eq hC (by rw [sVw2, sVw2]; unfold kS_openView; rw [if_neg (by omega), show oLo (zod σ (zbk σ xb)) xkind xlow xends = (turn (zod σ (zbk σ xb)) xlow) by (unfold oLo; (repeat' split) <;> first | rfl | omega), show oHi (zod σ (zbk σ xb)) xkind xhigh xends = (turn (zod σ (zbk σ xb)) xhigh) by (unfold oHi; (repeat' split) <;> first | rfl | omega)]), rfl, Ext0 hO⟩))
          · refine q_bipush hx hb dX3_openView_152 (by decide) ?_
            refine lv_goto (tgt := 159) hx hb dX3_openView_154 (by decide) ?_
            refine q_put C0 iX1 tyX1 tyX1_ok nmX1 hP hD hS (CP_v hC hb_r1).1 hvF rfl 2 (by decide) flX3_185 rfl rfl rfl rfl (Nat.le_of_ble_eq_true rfl) dX3_openView_159 (fun H locs hP hD hS => ?_)
            obtain ⟨F69, eF69⟩ : ∃ z, z = va_up F65 (gva G xv) (.inr (3, [.ref ((grh G (zbk σ xb))), .int (iI ((turn (zod σ (zbk σ xb)) xlow))), .int (iI 99)])) := ⟨_, rfl⟩
            have hP : va_P D vwCl (va_pl L F69) H := by rw [eF69]; exact hP
            have hD : va_D (AL L s.heap.size) (va_pl L F69) := by rw [eF69]; exact hD
            have hvF : F69 (gva G xv) = (.inr (3, [.ref ((grh G (zbk σ xb))), .int (iI ((turn (zod σ (zbk σ xb)) xlow))), .int (iI 99)])) := by rw [eF69]; exact va_up_self _ _ _
            have hO : OE O F F69 := by rw [eF69]; exact hO.tr (OE1 ((CP_O hC).2.2.2.2.2.1 _ hb_r1.1 hb_r1.2))
            have hC : CP y L F69 O G (sVw (sVw (sVw σ xv (zbk σ xb) (zvl σ xv) (zvh σ xv)) xv (zbk σ xb) (turn (zod σ (zbk σ xb)) xlow) (zvh σ xv)) xv (zbk σ xb) (turn (zod σ (zbk σ xb)) xlow) 99) := by rw [eF69]; exact CP_vw hC hb_r1 (va_up_self _ _ _) (fun q hq => va_up_ne _ _ hq)
            refine lv_aload hx hb dX3_openView_162 (lv_at hl 6 rfl) ?_
            refine lv_aload hx hb dX3_openView_164 (lv_at hl 7 rfl) ?_
            refine q_get C0 iX1 hP (CP_v hC hb_r1).1 hvF rfl 1 (by decide) flX3_182 rfl rfl dX3_openView_166 ?_
            refine lv_aload hx hb dX3_openView_169 (lv_at hl 7 rfl) ?_
            refine q_get C0 iX1 hP (CP_v hC hb_r1).1 hvF rfl 2 (by decide) flX3_185 rfl rfl dX3_openView_171 ?_
            refine q_vS C0 lX3_188 (c_X0_countOfPart l D y L F69 (grh G (zbk σ xb)) (grw G (zbk σ xb)) (zod σ (zbk σ xb)) ((zst σ (zbk σ xb)).1) ((zst σ (zbk σ xb)).2.1) ((zst σ (zbk σ xb)).2.2) (turn (zod σ (zbk σ xb)) xlow) 99 (CP_r hC (hW.1 xb)) (by omega) (by omega)) ⟨rfl, rfl⟩ rfl hP (CP_r hC (hW.1 xb)).1 (CP_r hC (hW.1 xb)).2.1 rfl rfl rfl hl rfl (Nat.le_of_ble_eq_true rfl) dX3_openView_174 ⟨Nat.le_of_ble_eq_true rfl, Nat.le_of_ble_eq_true rfl⟩ (fun r70 e_r70 => ?_)
            subst e_r70
            refine W.widen (k := 8) (n := 60) (Nat.le_of_ble_eq_true rfl) (Nat.le_of_ble_eq_true rfl) ?_
            exact vx_ret (q_retMi C0 hret rfl hlk dX3_openView_177 hP hD hS (⟨by omega, by omega, (by unfold kR_openView; rw [if_neg (by omega), show oLo (zod σ (zbk σ xb)) xkind xlow xends = (turn (zod σ (zbk σ xb)) xlow) by (unfold oLo; (repeat' split) <;> first | rfl | omega), show oHi (zod σ (zbk σ xb)) xkind xhigh xends = 99 by (unfold oHi; (repeat' split) <;> first | rfl | omega)]), O, G, CP_eq hC (by rw [sVw2, sVw2]; unfold kS_openView; rw [if_neg (by omega), show oLo (zod σ (zbk σ xb)) xkind xlow xends = (turn (zod σ (zbk σ xb)) xlow) by (unfold oLo; (repeat' split) <;> first | rfl | omega), show oHi (zod σ (zbk σ xb)) xkind xhigh xends = 99 by (unfold oHi; (repeat' split) <;> first | rfl | omega)]), rfl, Ext0 hO⟩))
        · refine q_iconst hx hb dX3_openView_136 ?_
          refine lv_goto (tgt := 142) hx hb dX3_openView_137 (by decide) ?_
          refine q_put C0 iX1 tyX1 tyX1_ok nmX1 hP hD hS (CP_v hC hb_r1).1 hvF rfl 1 (by decide) flX3_182 rfl rfl rfl rfl (Nat.le_of_ble_eq_true rfl) dX3_openView_142 (fun H locs hP hD hS => ?_)
          obtain ⟨F71, eF71⟩ : ∃ z, z = va_up F63 (gva G xv) (.inr (3, [.ref ((grh G (zbk σ xb))), .int (iI 0), .int (iI (zvh σ xv))])) := ⟨_, rfl⟩
          have hP : va_P D vwCl (va_pl L F71) H := by rw [eF71]; exact hP
          have hD : va_D (AL L s.heap.size) (va_pl L F71) := by rw [eF71]; exact hD
          have hvF : F71 (gva G xv) = (.inr (3, [.ref ((grh G (zbk σ xb))), .int (iI 0), .int (iI (zvh σ xv))])) := by rw [eF71]; exact va_up_self _ _ _
          have hO : OE O F F71 := by rw [eF71]; exact hO.tr (OE1 ((CP_O hC).2.2.2.2.2.1 _ hb_r1.1 hb_r1.2))
          have hC : CP y L F71 O G (sVw (sVw σ xv (zbk σ xb) (zvl σ xv) (zvh σ xv)) xv (zbk σ xb) 0 (zvh σ xv)) := by rw [eF71]; exact CP_vw hC hb_r1 (va_up_self _ _ _) (fun q hq => va_up_ne _ _ hq)
          refine lv_aload hx hb dX3_openView_145 (lv_at hl 7 rfl) ?_
          refine lv_iload_n hx hb dX3_openView_147 rfl (lv_at hl 11 rfl) ?_
          refine q_iconst hx hb dX3_openView_148 ?_
          refine q_icmp_ne hx hb dX3_openView_149 (tgt := 157) (by decide) (by omega) (by omega) (fun c72 => ?_) (fun c72 => ?_)
          · refine lv_iload hx hb dX3_openView_157 (lv_at hl 0 rfl) ?_
            refine q_put C0 iX1 tyX1 tyX1_ok nmX1 hP hD hS (CP_v hC hb_r1).1 hvF rfl 2 (by decide) flX3_185 rfl rfl rfl rfl (Nat.le_of_ble_eq_true rfl) dX3_openView_159 (fun H locs hP hD hS => ?_)
            obtain ⟨F73, eF73⟩ : ∃ z, z = va_up F71 (gva G xv) (.inr (3, [.ref ((grh G (zbk σ xb))), .int (iI 0), .int (iI ((turn (zod σ (zbk σ xb)) xhigh)))])) := ⟨_, rfl⟩
            have hP : va_P D vwCl (va_pl L F73) H := by rw [eF73]; exact hP
            have hD : va_D (AL L s.heap.size) (va_pl L F73) := by rw [eF73]; exact hD
            have hvF : F73 (gva G xv) = (.inr (3, [.ref ((grh G (zbk σ xb))), .int (iI 0), .int (iI ((turn (zod σ (zbk σ xb)) xhigh)))])) := by rw [eF73]; exact va_up_self _ _ _
            have hO : OE O F F73 := by rw [eF73]; exact hO.tr (OE1 ((CP_O hC).2.2.2.2.2.1 _ hb_r1.1 hb_r1.2))
            have hC : CP y L F73 O G (sVw (sVw (sVw σ xv (zbk σ xb) (zvl σ xv) (zvh σ xv)) xv (zbk σ xb) 0 (zvh σ xv)) xv (zbk σ xb) 0 (turn (zod σ (zbk σ xb)) xhigh)) := by rw [eF73]; exact CP_vw hC hb_r1 (va_up_self _ _ _) (fun q hq => va_up_ne _ _ hq)
            refine lv_aload hx hb dX3_openView_162 (lv_at hl 6 rfl) ?_
            refine lv_aload hx hb dX3_openView_164 (lv_at hl 7 rfl) ?_
            refine q_get C0 iX1 hP (CP_v hC hb_r1).1 hvF rfl 1 (by decide) flX3_182 rfl rfl dX3_openView_166 ?_
            refine lv_aload hx hb dX3_openView_169 (lv_at hl 7 rfl) ?_
            refine q_get C0 iX1 hP (CP_v hC hb_r1).1 hvF rfl 2 (by decide) flX3_185 rfl rfl dX3_openView_171 ?_
            refine q_vS C0 lX3_188 (c_X0_countOfPart l D y L F73 (grh G (zbk σ xb)) (grw G (zbk σ xb)) (zod σ (zbk σ xb)) ((zst σ (zbk σ xb)).1) ((zst σ (zbk σ xb)).2.1) ((zst σ (zbk σ xb)).2.2) 0 (turn (zod σ (zbk σ xb)) xhigh) (CP_r hC (hW.1 xb)) (by omega) (by omega)) ⟨rfl, rfl⟩ rfl hP (CP_r hC (hW.1 xb)).1 (CP_r hC (hW.1 xb)).2.1 rfl rfl rfl hl rfl (Nat.le_of_ble_eq_true rfl) dX3_openView_174 ⟨Nat.le_of_ble_eq_true rfl, Nat.le_of_ble_eq_true rfl⟩ (fun r74 e_r74 => ?_)
            subst e_r74
            refine W.widen (k := 8) (n := 60) (Nat.le_of_ble_eq_true rfl) (Nat.le_of_ble_eq_true rfl) ?_
            exact vx_ret (q_retMi C0 hret rfl hlk dX3_openView_177 hP hD hS (⟨by omega, by omega, (by unfold kR_openView; rw [if_neg (by omega), show oLo (zod σ (zbk σ xb)) xkind xlow xends = 0 by (unfold oLo; (repeat' split) <;> first | rfl | omega), show oHi (zod σ (zbk σ xb)) xkind xhigh xends = (turn (zod σ (zbk σ xb)) xhigh) by (unfold oHi; (repeat' split) <;> first | rfl | omega)]), O, G, CP_eq hC (by rw [sVw2, sVw2]; unfold kS_openView; rw [if_neg (by omega), show oLo (zod σ (zbk σ xb)) xkind xlow xends = 0 by (unfold oLo; (repeat' split) <;> first | rfl | omega), show oHi (zod σ (zbk σ xb)) xkind xhigh xends = (turn (zod σ (zbk σ xb)) xhigh) by (unfold oHi; (repeat' split) <;> first | rfl | omega)]), rfl, Ext0 hO⟩))
          · refine q_bipush hx hb dX3_openView_152 (by decide) ?_
            refine lv_goto (tgt := 159) hx hb dX3_openView_154 (by decide) ?_
            refine q_put C0 iX1 tyX1 tyX1_ok nmX1 hP hD hS (CP_v hC hb_r1).1 hvF rfl 2 (by decide) flX3_185 rfl rfl rfl rfl (Nat.le_of_ble_eq_true rfl) dX3_openView_159 (fun H locs hP hD hS => ?_)
            obtain ⟨F75, eF75⟩ : ∃ z, z = va_up F71 (gva G xv) (.inr (3, [.ref ((grh G (zbk σ xb))), .int (iI 0), .int (iI 99)])) := ⟨_, rfl⟩
            have hP : va_P D vwCl (va_pl L F75) H := by rw [eF75]; exact hP
            have hD : va_D (AL L s.heap.size) (va_pl L F75) := by rw [eF75]; exact hD
            have hvF : F75 (gva G xv) = (.inr (3, [.ref ((grh G (zbk σ xb))), .int (iI 0), .int (iI 99)])) := by rw [eF75]; exact va_up_self _ _ _
            have hO : OE O F F75 := by rw [eF75]; exact hO.tr (OE1 ((CP_O hC).2.2.2.2.2.1 _ hb_r1.1 hb_r1.2))
            have hC : CP y L F75 O G (sVw (sVw (sVw σ xv (zbk σ xb) (zvl σ xv) (zvh σ xv)) xv (zbk σ xb) 0 (zvh σ xv)) xv (zbk σ xb) 0 99) := by rw [eF75]; exact CP_vw hC hb_r1 (va_up_self _ _ _) (fun q hq => va_up_ne _ _ hq)
            refine lv_aload hx hb dX3_openView_162 (lv_at hl 6 rfl) ?_
            refine lv_aload hx hb dX3_openView_164 (lv_at hl 7 rfl) ?_
            refine q_get C0 iX1 hP (CP_v hC hb_r1).1 hvF rfl 1 (by decide) flX3_182 rfl rfl dX3_openView_166 ?_
            refine lv_aload hx hb dX3_openView_169 (lv_at hl 7 rfl) ?_
            refine q_get C0 iX1 hP (CP_v hC hb_r1).1 hvF rfl 2 (by decide) flX3_185 rfl rfl dX3_openView_171 ?_
            refine q_vS C0 lX3_188 (c_X0_countOfPart l D y L F75 (grh G (zbk σ xb)) (grw G (zbk σ xb)) (zod σ (zbk σ xb)) ((zst σ (zbk σ xb)).1) ((zst σ (zbk σ xb)).2.1) ((zst σ (zbk σ xb)).2.2) 0 99 (CP_r hC (hW.1 xb)) (by omega) (by omega)) ⟨rfl, rfl⟩ rfl hP (CP_r hC (hW.1 xb)).1 (CP_r hC (hW.1 xb)).2.1 rfl rfl rfl hl rfl (Nat.le_of_ble_eq_true rfl) dX3_openView_174 ⟨Nat.le_of_ble_eq_true rfl, Nat.le_of_ble_eq_true rfl⟩ (fun r76 e_r76 => ?_)
            subst e_r76
            refine W.widen (k := 8) (n := 60) (Nat.le_of_ble_eq_true rfl) (Nat.le_of_ble_eq_true rfl) ?_
            exact vx_ret (q_retMi C0 hret rfl hlk dX3_openView_177 hP hD hS (⟨by omega, by omega, (by unfold kR_openView; rw [if_neg (by omega), show oLo (zod σ (zbk σ xb)) xkind xlow xends = 0 by (unfold oLo; (repeat' split) <;> first | rfl | omega), show oHi (zod σ (zbk σ xb)) xkind xhigh xends = 99 by (unfold oHi; (repeat' split) <;> first | rfl | omega)]), O, G, CP_eq hC (by rw [sVw2, sVw2]; unfold kS_openView; rw [if_neg (by omega), show oLo (zod σ (zbk σ xb)) xkind xlow xends = 0 by (unfold oLo; (repeat' split) <;> first | rfl | omega), show oHi (zod σ (zbk σ xb)) xkind xhigh xends = 99 by (unfold oHi; (repeat' split) <;> first | rfl | omega)]), rfl, Ext0 hO⟩))
  · refine lv_iload hx hb dX3_openView_51 (lv_at hl 1 rfl) ?_
    refine lv_iload hx hb dX3_openView_53 (lv_at hl 0 rfl) ?_
    refine q_icmp_le hx hb dX3_openView_55 (tgt := 63) (by decide) (by omega) (by omega) (fun c77 => ?_) (fun c77 => ?_)
    · refine lv_iload hx hb dX3_openView_63 (lv_at hl 10 rfl) ?_
      refine q_iconst hx hb dX3_openView_65 ?_
      refine q_iand hx hb dX3_openView_66 ?_
      refine q_if_eq hx hb dX3_openView_67 (tgt := 74) (by decide) (by omega) (fun c78 => ?_) (fun c78 => ?_)
      · refine q_iconst hx hb dX3_openView_74 ?_
        refine lv_istore (lv' := [(11, .int (iI 0)), (10, .int (iI ((turn (zod σ (zbk σ xb)) xhigh)))), (9, .int (iI ((turn (zod σ (zbk σ xb)) xlow)))), (8, .ref ((grh G (zbk σ xb)))), (7, .ref ((gva G xv))), (0, .ref ((gbg G))), (1, .int (iI xv)), (2, .int (iI xb)), (3, .int (iI xkind)), (4, .int (iI xlow)), (5, .int (iI xhigh)), (6, .int (iI xends))]) hx hb dX3_openView_75 hl (by decide) rfl (fun ls hl => ?_)
        refine lv_iload hx hb dX3_openView_77 (lv_at hl 11 rfl) ?_
        refine q_iconst hx hb dX3_openView_79 ?_
        refine q_iand hx hb dX3_openView_80 ?_
        refine q_if_eq hx hb dX3_openView_81 (tgt := 88) (by decide) (by omega) (fun c79 => ?_) (fun c79 => ?_)
        · refine q_iconst hx hb dX3_openView_88 ?_
          refine lv_istore (lv' := [(12, .int (iI 0)), (11, .int (iI 0)), (10, .int (iI ((turn (zod σ (zbk σ xb)) xhigh)))), (9, .int (iI ((turn (zod σ (zbk σ xb)) xlow)))), (8, .ref ((grh G (zbk σ xb)))), (7, .ref ((gva G xv))), (0, .ref ((gbg G))), (1, .int (iI xv)), (2, .int (iI xb)), (3, .int (iI xkind)), (4, .int (iI xlow)), (5, .int (iI xhigh)), (6, .int (iI xends))]) hx hb dX3_openView_89 hl (by decide) rfl (fun ls hl => ?_)
          refine lv_iload hx hb dX3_openView_91 (lv_at hl 1 rfl) ?_
          refine q_if_eq hx hb dX3_openView_93 (tgt := 101) (by decide) (by omega) (fun c80 => ?_) (fun c80 => absurd c80 (by omega))
          refine lv_iload hx hb dX3_openView_101 (lv_at hl 3 rfl) ?_
          refine q_iconst hx hb dX3_openView_103 ?_
          refine q_iadd hx hb dX3_openView_104 ?_
          refine lv_istore (lv' := [(13, .int (iI (((turn (zod σ (zbk σ xb)) xlow) + 1)))), (12, .int (iI 0)), (11, .int (iI 0)), (10, .int (iI ((turn (zod σ (zbk σ xb)) xhigh)))), (9, .int (iI ((turn (zod σ (zbk σ xb)) xlow)))), (8, .ref ((grh G (zbk σ xb)))), (7, .ref ((gva G xv))), (0, .ref ((gbg G))), (1, .int (iI xv)), (2, .int (iI xb)), (3, .int (iI xkind)), (4, .int (iI xlow)), (5, .int (iI xhigh)), (6, .int (iI xends))]) hx hb dX3_openView_105 hl (by decide) rfl (fun ls hl => ?_)
          refine lv_iload hx hb dX3_openView_107 (lv_at hl 1 rfl) ?_
          refine q_if_eq hx hb dX3_openView_109 (tgt := 117) (by decide) (by omega) (fun c81 => ?_) (fun c81 => absurd c81 (by omega))
          refine lv_iload hx hb dX3_openView_117 (lv_at hl 3 rfl) ?_
          refine q_iconst hx hb dX3_openView_119 ?_
          refine q_isub hx hb dX3_openView_120 ?_
          refine lv_istore (lv' := [(14, .int (iI (((turn (zod σ (zbk σ xb)) xhigh) - 1)))), (13, .int (iI (((turn (zod σ (zbk σ xb)) xlow) + 1)))), (12, .int (iI 0)), (11, .int (iI 0)), (10, .int (iI ((turn (zod σ (zbk σ xb)) xhigh)))), (9, .int (iI ((turn (zod σ (zbk σ xb)) xlow)))), (8, .ref ((grh G (zbk σ xb)))), (7, .ref ((gva G xv))), (0, .ref ((gbg G))), (1, .int (iI xv)), (2, .int (iI xb)), (3, .int (iI xkind)), (4, .int (iI xlow)), (5, .int (iI xhigh)), (6, .int (iI xends))]) hx hb dX3_openView_121 hl (by decide) rfl (fun ls hl => ?_)
          refine lv_aload hx hb dX3_openView_123 (lv_at hl 7 rfl) ?_
          refine lv_aload hx hb dX3_openView_125 (lv_at hl 6 rfl) ?_
          refine q_put C0 iX1 tyX1 tyX1_ok nmX1 hP hD hS (CP_v hC hb_r1).1 (CP_v hC hb_r1).2 rfl 0 (by decide) flX3_178 rfl rfl rfl rfl (Nat.le_of_ble_eq_true rfl) dX3_openView_127 (fun H locs hP hD hS => ?_)
          obtain ⟨F82, eF82⟩ : ∃ z, z = va_up F (gva G xv) (.inr (3, [.ref ((grh G (zbk σ xb))), .int (iI (zvl σ xv)), .int (iI (zvh σ xv))])) := ⟨_, rfl⟩
          have hP : va_P D vwCl (va_pl L F82) H := by rw [eF82]; exact hP
          have hD : va_D (AL L s.heap.size) (va_pl L F82) := by rw [eF82]; exact hD
          have hvF : F82 (gva G xv) = (.inr (3, [.ref ((grh G (zbk σ xb))), .int (iI (zvl σ xv)), .int (iI (zvh σ xv))])) := by rw [eF82]; exact va_up_self _ _ _
          have hO : OE O F F82 := by rw [eF82]; exact hO.tr (OE1 ((CP_O hC).2.2.2.2.2.1 _ hb_r1.1 hb_r1.2))
          have hC : CP y L F82 O G (sVw σ xv (zbk σ xb) (zvl σ xv) (zvh σ xv)) := by rw [eF82]; exact CP_vw hC hb_r1 (va_up_self _ _ _) (fun q hq => va_up_ne _ _ hq)
          refine lv_aload hx hb dX3_openView_130 (lv_at hl 7 rfl) ?_
          refine lv_iload_n hx hb dX3_openView_132 rfl (lv_at hl 11 rfl) ?_
          refine q_if_ne hx hb dX3_openView_133 (tgt := 140) (by decide) (by omega) (fun c83 => ?_) (fun c83 => ?_)
          · refine lv_iload hx hb dX3_openView_140 (lv_at hl 1 rfl) ?_
            refine q_put C0 iX1 tyX1 tyX1_ok nmX1 hP hD hS (CP_v hC hb_r1).1 hvF rfl 1 (by decide) flX3_182 rfl rfl rfl rfl (Nat.le_of_ble_eq_true rfl) dX3_openView_142 (fun H locs hP hD hS => ?_)
            obtain ⟨F84, eF84⟩ : ∃ z, z = va_up F82 (gva G xv) (.inr (3, [.ref ((grh G (zbk σ xb))), .int (iI (((turn (zod σ (zbk σ xb)) xlow) + 1))), .int (iI (zvh σ xv))])) := ⟨_, rfl⟩
            have hP : va_P D vwCl (va_pl L F84) H := by rw [eF84]; exact hP
            have hD : va_D (AL L s.heap.size) (va_pl L F84) := by rw [eF84]; exact hD
            have hvF : F84 (gva G xv) = (.inr (3, [.ref ((grh G (zbk σ xb))), .int (iI (((turn (zod σ (zbk σ xb)) xlow) + 1))), .int (iI (zvh σ xv))])) := by rw [eF84]; exact va_up_self _ _ _
            have hO : OE O F F84 := by rw [eF84]; exact hO.tr (OE1 ((CP_O hC).2.2.2.2.2.1 _ hb_r1.1 hb_r1.2))
            have hC : CP y L F84 O G (sVw (sVw σ xv (zbk σ xb) (zvl σ xv) (zvh σ xv)) xv (zbk σ xb) ((turn (zod σ (zbk σ xb)) xlow) + 1) (zvh σ xv)) := by rw [eF84]; exact CP_vw hC hb_r1 (va_up_self _ _ _) (fun q hq => va_up_ne _ _ hq)
            refine lv_aload hx hb dX3_openView_145 (lv_at hl 7 rfl) ?_
            refine lv_iload_n hx hb dX3_openView_147 rfl (lv_at hl 11 rfl) ?_
            refine q_iconst hx hb dX3_openView_148 ?_
            refine q_icmp_ne hx hb dX3_openView_149 (tgt := 157) (by decide) (by omega) (by omega) (fun c85 => ?_) (fun c85 => ?_)
            · refine lv_iload hx hb dX3_openView_157 (lv_at hl 0 rfl) ?_
              refine q_put C0 iX1 tyX1 tyX1_ok nmX1 hP hD hS (CP_v hC hb_r1).1 hvF rfl 2 (by decide) flX3_185 rfl rfl rfl rfl (Nat.le_of_ble_eq_true rfl) dX3_openView_159 (fun H locs hP hD hS => ?_)
              obtain ⟨F86, eF86⟩ : ∃ z, z = va_up F84 (gva G xv) (.inr (3, [.ref ((grh G (zbk σ xb))), .int (iI (((turn (zod σ (zbk σ xb)) xlow) + 1))), .int (iI (((turn (zod σ (zbk σ xb)) xhigh) - 1)))])) := ⟨_, rfl⟩
              have hP : va_P D vwCl (va_pl L F86) H := by rw [eF86]; exact hP
              have hD : va_D (AL L s.heap.size) (va_pl L F86) := by rw [eF86]; exact hD
              have hvF : F86 (gva G xv) = (.inr (3, [.ref ((grh G (zbk σ xb))), .int (iI (((turn (zod σ (zbk σ xb)) xlow) + 1))), .int (iI (((turn (zod σ (zbk σ xb)) xhigh) - 1)))])) := by rw [eF86]; exact va_up_self _ _ _
              have hO : OE O F F86 := by rw [eF86]; exact hO.tr (OE1 ((CP_O hC).2.2.2.2.2.1 _ hb_r1.1 hb_r1.2))
              have hC : CP y L F86 O G (sVw (sVw (sVw σ xv (zbk σ xb) (zvl σ xv) (zvh σ xv)) xv (zbk σ xb) ((turn (zod σ (zbk σ xb)) xlow) + 1) (zvh σ xv)) xv (zbk σ xb) ((turn (zod σ (zbk σ xb)) xlow) + 1) ((turn (zod σ (zbk σ xb)) xhigh) - 1)) := by rw [eF86]; exact CP_vw hC hb_r1 (va_up_self _ _ _) (fun q hq => va_up_ne _ _ hq)
              refine lv_aload hx hb dX3_openView_162 (lv_at hl 6 rfl) ?_
              refine lv_aload hx hb dX3_openView_164 (lv_at hl 7 rfl) ?_
              refine q_get C0 iX1 hP (CP_v hC hb_r1).1 hvF rfl 1 (by decide) flX3_182 rfl rfl dX3_openView_166 ?_
              refine lv_aload hx hb dX3_openView_169 (lv_at hl 7 rfl) ?_
              refine q_get C0 iX1 hP (CP_v hC hb_r1).1 hvF rfl 2 (by decide) flX3_185 rfl rfl dX3_openView_171 ?_
              refine q_vS C0 lX3_188 (c_X0_countOfPart l D y L F86 (grh G (zbk σ xb)) (grw G (zbk σ xb)) (zod σ (zbk σ xb)) ((zst σ (zbk σ xb)).1) ((zst σ (zbk σ xb)).2.1) ((zst σ (zbk σ xb)).2.2) ((turn (zod σ (zbk σ xb)) xlow) + 1) ((turn (zod σ (zbk σ xb)) xhigh) - 1) (CP_r hC (hW.1 xb)) (by omega) (by omega)) ⟨rfl, rfl⟩ rfl hP (CP_r hC (hW.1 xb)).1 (CP_r hC (hW.1 xb)).2.1 rfl rfl rfl hl rfl (Nat.le_of_ble_eq_true rfl) dX3_openView_174 ⟨Nat.le_of_ble_eq_true rfl, Nat.le_of_ble_eq_true rfl⟩ (fun r87 e_r87 => ?_)
              subst e_r87
              refine W.widen (k := 8) (n := 60) (Nat.le_of_ble_eq_true rfl) (Nat.le_of_ble_eq_true rfl) ?_
              exact vx_ret (q_retMi C0 hret rfl hlk dX3_openView_177 hP hD hS (⟨by omega, by omega, (by unfold kR_openView; rw [if_neg (by omega), show oLo (zod σ (zbk σ xb)) xkind xlow xends = ((turn (zod σ (zbk σ xb)) xlow) + 1) by (unfold oLo; (repeat' split) <;> first | rfl | omega), show oHi (zod σ (zbk σ xb)) xkind xhigh xends = ((turn (zod σ (zbk σ xb)) xhigh) - 1) by (unfold oHi; (repeat' split) <;> first | rfl | omega)]), O, G, CP_eq hC (by rw [sVw2, sVw2]; unfold kS_openView; rw [if_neg (by omega), show oLo (zod σ (zbk σ xb)) xkind xlow xends = ((turn (zod σ (zbk σ xb)) xlow) + 1) by (unfold oLo; (repeat' split) <;> first | rfl | omega), show oHi (zod σ (zbk σ xb)) xkind xhigh xends = ((turn (zod σ (zbk σ xb)) xhigh) - 1) by (unfold oHi; (repeat' split) <;> first | rfl | omega)]), rfl, Ext0 hO⟩))
            · refine q_bipush hx hb dX3_openView_152 (by decide) ?_
              refine lv_goto (tgt := 159) hx hb dX3_openView_154 (by decide) ?_
              refine q_put C0 iX1 tyX1 tyX1_ok nmX1 hP hD hS (CP_v hC hb_r1).1 hvF rfl 2 (by decide) flX3_185 rfl rfl rfl rfl (Nat.le_of_ble_eq_true rfl) dX3_openView_159 (fun H locs hP hD hS => ?_)
              obtain ⟨F88, eF88⟩ : ∃ z, z = va_up F84 (gva G xv) (.inr (3, [.ref ((grh G (zbk σ xb))), .int (iI (((turn (zod σ (zbk σ xb)) xlow) + 1))), .int (iI 99)])) := ⟨_, rfl⟩
              have hP : va_P D vwCl (va_pl L F88) H := by rw [eF88]; exact hP
              have hD : va_D (AL L s.heap.size) (va_pl L F88) := by rw [eF88]; exact hD
              have hvF : F88 (gva G xv) = (.inr (3, [.ref ((grh G (zbk σ xb))), .int (iI (((turn (zod σ (zbk σ xb)) xlow) + 1))), .int (iI 99)])) := by rw [eF88]; exact va_up_self _ _ _
              have hO : OE O F F88 := by rw [eF88]; exact hO.tr (OE1 ((CP_O hC).2.2.2.2.2.1 _ hb_r1.1 hb_r1.2))
              have hC : CP y L F88 O G (sVw (sVw (sVw σ xv (zbk σ xb) (zvl σ xv) (zvh σ xv)) xv (zbk σ xb) ((turn (zod σ (zbk σ xb)) xlow) + 1) (zvh σ xv)) xv (zbk σ xb) ((turn (zod σ (zbk σ xb)) xlow) + 1) 99) := by rw [eF88]; exact CP_vw hC hb_r1 (va_up_self _ _ _) (fun q hq => va_up_ne _ _ hq)
              refine lv_aload hx hb dX3_openView_162 (lv_at hl 6 rfl) ?_
              refine lv_aload hx hb dX3_openView_164 (lv_at hl 7 rfl) ?_
              refine q_get C0 iX1 hP (CP_v hC hb_r1).1 hvF rfl 1 (by decide) flX3_182 rfl rfl dX3_openView_166 ?_
              refine lv_aload hx hb dX3_openView_169 (lv_at hl 7 rfl) ?_
              refine q_get C0 iX1 hP (CP_v hC hb_r1).1 hvF rfl 2 (by decide) flX3_185 rfl rfl dX3_openView_171 ?_
              refine q_vS C0 lX3_188 (c_X0_countOfPart l D y L F88 (grh G (zbk σ xb)) (grw G (zbk σ xb)) (zod σ (zbk σ xb)) ((zst σ (zbk σ xb)).1) ((zst σ (zbk σ xb)).2.1) ((zst σ (zbk σ xb)).2.2) ((turn (zod σ (zbk σ xb)) xlow) + 1) 99 (CP_r hC (hW.1 xb)) (by omega) (by omega)) ⟨rfl, rfl⟩ rfl hP (CP_r hC (hW.1 xb)).1 (CP_r hC (hW.1 xb)).2.1 rfl rfl rfl hl rfl (Nat.le_of_ble_eq_true rfl) dX3_openView_174 ⟨Nat.le_of_ble_eq_true rfl, Nat.le_of_ble_eq_true rfl⟩ (fun r89 e_r89 => ?_)
              subst e_r89
              refine W.widen (k := 8) (n := 60) (Nat.le_of_ble_eq_true rfl) (Nat.le_of_ble_eq_true rfl) ?_
              exact vx_ret (q_retMi C0 hret rfl hlk dX3_openView_177 hP hD hS (⟨by omega, by omega, (by unfold kR_openView; rw [if_neg (by omega), show oLo (zod σ (zbk σ xb)) xkind xlow xends = ((turn (zod σ (zbk σ xb)) xlow) + 1) by (unfold oLo; (repeat' split) <;> first | rfl | omega), show oHi (zod σ (zbk σ xb)) xkind xhigh xends = 99 by (unfold oHi; (repeat' split) <;> first | rfl | omega)]), O, G, CP_eq hC (by rw [sVw2, sVw2]; unfold kS_openView; rw [if_neg (by omega), show oLo (zod σ (zbk σ xb)) xkind xlow xends = ((turn (zod σ (zbk σ xb)) xlow) + 1) by (unfold oLo; (repeat' split) <;> first | rfl | omega), show oHi (zod σ (zbk σ xb)) xkind xhigh xends = 99 by (unfold oHi; (repeat' split) <;> first | rfl | omega)]), rfl, Ext0 hO⟩))
          · refine q_iconst hx hb dX3_openView_136 ?_
            refine lv_goto (tgt := 142) hx hb dX3_openView_137 (by decide) ?_
            refine q_put C0 iX1 tyX1 tyX1_ok nmX1 hP hD hS (CP_v hC hb_r1).1 hvF rfl 1 (by decide) flX3_182 rfl rfl rfl rfl (Nat.le_of_ble_eq_true rfl) dX3_openView_142 (fun H locs hP hD hS => ?_)
            obtain ⟨F90, eF90⟩ : ∃ z, z = va_up F82 (gva G xv) (.inr (3, [.ref ((grh G (zbk σ xb))), .int (iI 0), .int (iI (zvh σ xv))])) := ⟨_, rfl⟩
            have hP : va_P D vwCl (va_pl L F90) H := by rw [eF90]; exact hP
            have hD : va_D (AL L s.heap.size) (va_pl L F90) := by rw [eF90]; exact hD
            have hvF : F90 (gva G xv) = (.inr (3, [.ref ((grh G (zbk σ xb))), .int (iI 0), .int (iI (zvh σ xv))])) := by rw [eF90]; exact va_up_self _ _ _
            have hO : OE O F F90 := by rw [eF90]; exact hO.tr (OE1 ((CP_O hC).2.2.2.2.2.1 _ hb_r1.1 hb_r1.2))
            have hC : CP y L F90 O G (sVw (sVw σ xv (zbk σ xb) (zvl σ xv) (zvh σ xv)) xv (zbk σ xb) 0 (zvh σ xv)) := by rw [eF90]; exact CP_vw hC hb_r1 (va_up_self _ _ _) (fun q hq => va_up_ne _ _ hq)
            refine lv_aload hx hb dX3_openView_145 (lv_at hl 7 rfl) ?_
            refine lv_iload_n hx hb dX3_openView_147 rfl (lv_at hl 11 rfl) ?_
            refine q_iconst hx hb dX3_openView_148 ?_
            refine q_icmp_ne hx hb dX3_openView_149 (tgt := 157) (by decide) (by omega) (by omega) (fun c91 => ?_) (fun c91 => ?_)
            · refine lv_iload hx hb dX3_openView_157 (lv_at hl 0 rfl) ?_
              refine q_put C0 iX1 tyX1 tyX1_ok nmX1 hP hD hS (CP_v hC hb_r1).1 hvF rfl 2 (by decide) flX3_185 rfl rfl rfl rfl (Nat.le_of_ble_eq_true rfl) dX3_openView_159 (fun H locs hP hD hS => ?_)
              obtain ⟨F92, eF92⟩ : ∃ z, z = va_up F90 (gva G xv) (.inr (3, [.ref ((grh G (zbk σ xb))), .int (iI 0), .int (iI (((turn (zod σ (zbk σ xb)) xhigh) - 1)))])) := ⟨_, rfl⟩
              have hP : va_P D vwCl (va_pl L F92) H := by rw [eF92]; exact hP
              have hD : va_D (AL L s.heap.size) (va_pl L F92) := by rw [eF92]; exact hD
              have hvF : F92 (gva G xv) = (.inr (3, [.ref ((grh G (zbk σ xb))), .int (iI 0), .int (iI (((turn (zod σ (zbk σ xb)) xhigh) - 1)))])) := by rw [eF92]; exact va_up_self _ _ _
              have hO : OE O F F92 := by rw [eF92]; exact hO.tr (OE1 ((CP_O hC).2.2.2.2.2.1 _ hb_r1.1 hb_r1.2))
              have hC : CP y L F92 O G (sVw (sVw (sVw σ xv (zbk σ xb) (zvl σ xv) (zvh σ xv)) xv (zbk σ xb) 0 (zvh σ xv)) xv (zbk σ xb) 0 ((turn (zod σ (zbk σ xb)) xhigh) - 1)) := by rw [eF92]; exact CP_vw hC hb_r1 (va_up_self _ _ _) (fun q hq => va_up_ne _ _ hq)
              refine lv_aload hx hb dX3_openView_162 (lv_at hl 6 rfl) ?_
              refine lv_aload hx hb dX3_openView_164 (lv_at hl 7 rfl) ?_
              refine q_get C0 iX1 hP (CP_v hC hb_r1).1 hvF rfl 1 (by decide) flX3_182 rfl rfl dX3_openView_166 ?_
              refine lv_aload hx hb dX3_openView_169 (lv_at hl 7 rfl) ?_
              refine q_get C0 iX1 hP (CP_v hC hb_r1).1 hvF rfl 2 (by decide) flX3_185 rfl rfl dX3_openView_171 ?_
              refine q_vS C0 lX3_188 (c_X0_countOfPart l D y L F92 (grh G (zbk σ xb)) (grw G (zbk σ xb)) (zod σ (zbk σ xb)) ((zst σ (zbk σ xb)).1) ((zst σ (zbk σ xb)).2.1) ((zst σ (zbk σ xb)).2.2) 0 ((turn (zod σ (zbk σ xb)) xhigh) - 1) (CP_r hC (hW.1 xb)) (by omega) (by omega)) ⟨rfl, rfl⟩ rfl hP (CP_r hC (hW.1 xb)).1 (CP_r hC (hW.1 xb)).2.1 rfl rfl rfl hl rfl (Nat.le_of_ble_eq_true rfl) dX3_openView_174 ⟨Nat.le_of_ble_eq_true rfl, Nat.le_of_ble_eq_true rfl⟩ (fun r93 e_r93 => ?_)
              subst e_r93
              refine W.widen (k := 8) (n := 60) (Nat.le_of_ble_eq_true rfl) (Nat.le_of_ble_eq_true rfl) ?_
              exact vx_ret (q_retMi C0 hret rfl hlk dX3_openView_177 hP hD hS (⟨by omega, by omega, (by unfold kR_openView; rw [if_neg (by omega), show oLo (zod σ (zbk σ xb)) xkind xlow xends = 0 by (unfold oLo; (repeat' split) <;> first | rfl | omega), show oHi (zod σ (zbk σ xb)) xkind xhigh xends = ((turn (zod σ (zbk σ xb)) xhigh) - 1) by (unfold oHi; (repeat' split) <;> first | rfl | omega)]), O, G, CP_eq hC (by rw [sVw2, sVw2]; unfold kS_openView; rw [if_neg (by omega), show oLo (zod σ (zbk σ xb)) xkind xlow xends = 0 by (unfold oLo; (repeat' split) <;> first | rfl | omega), show oHi (zod σ (zbk σ xb)) xkind xhigh xends = ((turn (zod σ (zbk σ xb)) xhigh) - 1) by (unfold oHi; (repeat' split) <;> first | rfl | omega)]), rfl, Ext0 hO⟩))
            · refine q_bipush hx hb dX3_openView_152 (by decide) ?_
              refine lv_goto (tgt := 159) hx hb dX3_openView_154 (by decide) ?_
              refine q_put C0 iX1 tyX1 tyX1_ok nmX1 hP hD hS (CP_v hC hb_r1).1 hvF rfl 2 (by decide) flX3_185 rfl rfl rfl rfl (Nat.le_of_ble_eq_true rfl) dX3_openView_159 (fun H locs hP hD hS => ?_)
              obtain ⟨F94, eF94⟩ : ∃ z, z = va_up F90 (gva G xv) (.inr (3, [.ref ((grh G (zbk σ xb))), .int (iI 0), .int (iI 99)])) := ⟨_, rfl⟩
              have hP : va_P D vwCl (va_pl L F94) H := by rw [eF94]; exact hP
              have hD : va_D (AL L s.heap.size) (va_pl L F94) := by rw [eF94]; exact hD
              have hvF : F94 (gva G xv) = (.inr (3, [.ref ((grh G (zbk σ xb))), .int (iI 0), .int (iI 99)])) := by rw [eF94]; exact va_up_self _ _ _
              have hO : OE O F F94 := by rw [eF94]; exact hO.tr (OE1 ((CP_O hC).2.2.2.2.2.1 _ hb_r1.1 hb_r1.2))
              have hC : CP y L F94 O G (sVw (sVw (sVw σ xv (zbk σ xb) (zvl σ xv) (zvh σ xv)) xv (zbk σ xb) 0 (zvh σ xv)) xv (zbk σ xb) 0 99) := by rw [eF94]; exact CP_vw hC hb_r1 (va_up_self _ _ _) (fun q hq => va_up_ne _ _ hq)
              refine lv_aload hx hb dX3_openView_162 (lv_at hl 6 rfl) ?_
              refine lv_aload hx hb dX3_openView_164 (lv_at hl 7 rfl) ?_
              refine q_get C0 iX1 hP (CP_v hC hb_r1).1 hvF rfl 1 (by decide) flX3_182 rfl rfl dX3_openView_166 ?_
              refine lv_aload hx hb dX3_openView_169 (lv_at hl 7 rfl) ?_
              refine q_get C0 iX1 hP (CP_v hC hb_r1).1 hvF rfl 2 (by decide) flX3_185 rfl rfl dX3_openView_171 ?_
              refine q_vS C0 lX3_188 (c_X0_countOfPart l D y L F94 (grh G (zbk σ xb)) (grw G (zbk σ xb)) (zod σ (zbk σ xb)) ((zst σ (zbk σ xb)).1) ((zst σ (zbk σ xb)).2.1) ((zst σ (zbk σ xb)).2.2) 0 99 (CP_r hC (hW.1 xb)) (by omega) (by omega)) ⟨rfl, rfl⟩ rfl hP (CP_r hC (hW.1 xb)).1 (CP_r hC (hW.1 xb)).2.1 rfl rfl rfl hl rfl (Nat.le_of_ble_eq_true rfl) dX3_openView_174 ⟨Nat.le_of_ble_eq_true rfl, Nat.le_of_ble_eq_true rfl⟩ (fun r95 e_r95 => ?_)
              subst e_r95
              refine W.widen (k := 8) (n := 60) (Nat.le_of_ble_eq_true rfl) (Nat.le_of_ble_eq_true rfl) ?_
              exact vx_ret (q_retMi C0 hret rfl hlk dX3_openView_177 hP hD hS (⟨by omega, by omega, (by unfold kR_openView; rw [if_neg (by omega), show oLo (zod σ (zbk σ xb)) xkind xlow xends = 0 by (unfold oLo; (repeat' split) <;> first | rfl | omega), show oHi (zod σ (zbk σ xb)) xkind xhigh xends = 99 by (unfold oHi; (repeat' split) <;> first | rfl | omega)]), O, G, CP_eq hC (by rw [sVw2, sVw2]; unfold kS_openView; rw [if_neg (by omega), show oLo (zod σ (zbk σ xb)) xkind xlow xends = 0 by (unfold oLo; (repeat' split) <;> first | rfl | omega), show oHi (zod σ (zbk σ xb)) xkind xhigh xends = 99 by (unfold oHi; (repeat' split) <;> first | rfl | omega)]), rfl, Ext0 hO⟩))
        · refine q_iconst hx hb dX3_openView_84 ?_
          refine lv_goto (tgt := 89) hx hb dX3_openView_85 (by decide) ?_
          refine lv_istore (lv' := [(12, .int (iI 1)), (11, .int (iI 0)), (10, .int (iI ((turn (zod σ (zbk σ xb)) xhigh)))), (9, .int (iI ((turn (zod σ (zbk σ xb)) xlow)))), (8, .ref ((grh G (zbk σ xb)))), (7, .ref ((gva G xv))), (0, .ref ((gbg G))), (1, .int (iI xv)), (2, .int (iI xb)), (3, .int (iI xkind)), (4, .int (iI xlow)), (5, .int (iI xhigh)), (6, .int (iI xends))]) hx hb dX3_openView_89 hl (by decide) rfl (fun ls hl => ?_)
          refine lv_iload hx hb dX3_openView_91 (lv_at hl 1 rfl) ?_
          refine q_if_eq hx hb dX3_openView_93 (tgt := 101) (by decide) (by omega) (fun c96 => ?_) (fun c96 => absurd c96 (by omega))
          refine lv_iload hx hb dX3_openView_101 (lv_at hl 3 rfl) ?_
          refine q_iconst hx hb dX3_openView_103 ?_
          refine q_iadd hx hb dX3_openView_104 ?_
          refine lv_istore (lv' := [(13, .int (iI (((turn (zod σ (zbk σ xb)) xlow) + 1)))), (12, .int (iI 1)), (11, .int (iI 0)), (10, .int (iI ((turn (zod σ (zbk σ xb)) xhigh)))), (9, .int (iI ((turn (zod σ (zbk σ xb)) xlow)))), (8, .ref ((grh G (zbk σ xb)))), (7, .ref ((gva G xv))), (0, .ref ((gbg G))), (1, .int (iI xv)), (2, .int (iI xb)), (3, .int (iI xkind)), (4, .int (iI xlow)), (5, .int (iI xhigh)), (6, .int (iI xends))]) hx hb dX3_openView_105 hl (by decide) rfl (fun ls hl => ?_)
          refine lv_iload hx hb dX3_openView_107 (lv_at hl 1 rfl) ?_
          refine q_if_eq hx hb dX3_openView_109 (tgt := 117) (by decide) (by omega) (fun c97 => absurd c97 (by omega)) (fun c97 => ?_)
          refine lv_iload hx hb dX3_openView_112 (lv_at hl 3 rfl) ?_
          refine lv_goto (tgt := 121) hx hb dX3_openView_114 (by decide) ?_
          refine lv_istore (lv' := [(14, .int (iI ((turn (zod σ (zbk σ xb)) xhigh)))), (13, .int (iI (((turn (zod σ (zbk σ xb)) xlow) + 1)))), (12, .int (iI 1)), (11, .int (iI 0)), (10, .int (iI ((turn (zod σ (zbk σ xb)) xhigh)))), (9, .int (iI ((turn (zod σ (zbk σ xb)) xlow)))), (8, .ref ((grh G (zbk σ xb)))), (7, .ref ((gva G xv))), (0, .ref ((gbg G))), (1, .int (iI xv)), (2, .int (iI xb)), (3, .int (iI xkind)), (4, .int (iI xlow)), (5, .int (iI xhigh)), (6, .int (iI xends))]) hx hb dX3_openView_121 hl (by decide) rfl (fun ls hl => ?_)
          refine lv_aload hx hb dX3_openView_123 (lv_at hl 7 rfl) ?_
          refine lv_aload hx hb dX3_openView_125 (lv_at hl 6 rfl) ?_
          refine q_put C0 iX1 tyX1 tyX1_ok nmX1 hP hD hS (CP_v hC hb_r1).1 (CP_v hC hb_r1).2 rfl 0 (by decide) flX3_178 rfl rfl rfl rfl (Nat.le_of_ble_eq_true rfl) dX3_openView_127 (fun H locs hP hD hS => ?_)
          obtain ⟨F98, eF98⟩ : ∃ z, z = va_up F (gva G xv) (.inr (3, [.ref ((grh G (zbk σ xb))), .int (iI (zvl σ xv)), .int (iI (zvh σ xv))])) := ⟨_, rfl⟩
          have hP : va_P D vwCl (va_pl L F98) H := by rw [eF98]; exact hP
          have hD : va_D (AL L s.heap.size) (va_pl L F98) := by rw [eF98]; exact hD
          have hvF : F98 (gva G xv) = (.inr (3, [.ref ((grh G (zbk σ xb))), .int (iI (zvl σ xv)), .int (iI (zvh σ xv))])) := by rw [eF98]; exact va_up_self _ _ _
          have hO : OE O F F98 := by rw [eF98]; exact hO.tr (OE1 ((CP_O hC).2.2.2.2.2.1 _ hb_r1.1 hb_r1.2))
          have hC : CP y L F98 O G (sVw σ xv (zbk σ xb) (zvl σ xv) (zvh σ xv)) := by rw [eF98]; exact CP_vw hC hb_r1 (va_up_self _ _ _) (fun q hq => va_up_ne _ _ hq)
          refine lv_aload hx hb dX3_openView_130 (lv_at hl 7 rfl) ?_
          refine lv_iload_n hx hb dX3_openView_132 rfl (lv_at hl 11 rfl) ?_
          refine q_if_ne hx hb dX3_openView_133 (tgt := 140) (by decide) (by omega) (fun c99 => ?_) (fun c99 => ?_)
          · refine lv_iload hx hb dX3_openView_140 (lv_at hl 1 rfl) ?_
            refine q_put C0 iX1 tyX1 tyX1_ok nmX1 hP hD hS (CP_v hC hb_r1).1 hvF rfl 1 (by decide) flX3_182 rfl rfl rfl rfl (Nat.le_of_ble_eq_true rfl) dX3_openView_142 (fun H locs hP hD hS => ?_)
            obtain ⟨F100, eF100⟩ : ∃ z, z = va_up F98 (gva G xv) (.inr (3, [.ref ((grh G (zbk σ xb))), .int (iI (((turn (zod σ (zbk σ xb)) xlow) + 1))), .int (iI (zvh σ xv))])) := ⟨_, rfl⟩
            have hP : va_P D vwCl (va_pl L F100) H := by rw [eF100]; exact hP
            have hD : va_D (AL L s.heap.size) (va_pl L F100) := by rw [eF100]; exact hD
            have hvF : F100 (gva G xv) = (.inr (3, [.ref ((grh G (zbk σ xb))), .int (iI (((turn (zod σ (zbk σ xb)) xlow) + 1))), .int (iI (zvh σ xv))])) := by rw [eF100]; exact va_up_self _ _ _
            have hO : OE O F F100 := by rw [eF100]; exact hO.tr (OE1 ((CP_O hC).2.2.2.2.2.1 _ hb_r1.1 hb_r1.2))
            have hC : CP y L F100 O G (sVw (sVw σ xv (zbk σ xb) (zvl σ xv) (zvh σ xv)) xv (zbk σ xb) ((turn (zod σ (zbk σ xb)) xlow) + 1) (zvh σ xv)) := by rw [eF100]; exact CP_vw hC hb_r1 (va_up_self _ _ _) (fun q hq => va_up_ne _ _ hq)
            refine lv_aload hx hb dX3_openView_145 (lv_at hl 7 rfl) ?_
            refine lv_iload_n hx hb dX3_openView_147 rfl (lv_at hl 11 rfl) ?_
            refine q_iconst hx hb dX3_openView_148 ?_
            refine q_icmp_ne hx hb dX3_openView_149 (tgt := 157) (by decide) (by omega) (by omega) (fun c101 => ?_) (fun c101 => ?_)
            · refine lv_iload hx hb dX3_openView_157 (lv_at hl 0 rfl) ?_
              refine q_put C0 iX1 tyX1 tyX1_ok nmX1 hP hD hS (CP_v hC hb_r1).1 hvF rfl 2 (by decide) flX3_185 rfl rfl rfl rfl (Nat.le_of_ble_eq_true rfl) dX3_openView_159 (fun H locs hP hD hS => ?_)
              obtain ⟨F102, eF102⟩ : ∃ z, z = va_up F100 (gva G xv) (.inr (3, [.ref ((grh G (zbk σ xb))), .int (iI (((turn (zod σ (zbk σ xb)) xlow) + 1))), .int (iI ((turn (zod σ (zbk σ xb)) xhigh)))])) := ⟨_, rfl⟩
              have hP : va_P D vwCl (va_pl L F102) H := by rw [eF102]; exact hP
              have hD : va_D (AL L s.heap.size) (va_pl L F102) := by rw [eF102]; exact hD
              have hvF : F102 (gva G xv) = (.inr (3, [.ref ((grh G (zbk σ xb))), .int (iI (((turn (zod σ (zbk σ xb)) xlow) + 1))), .int (iI ((turn (zod σ (zbk σ xb)) xhigh)))])) := by rw [eF102]; exact va_up_self _ _ _
              have hO : OE O F F102 := by rw [eF102]; exact hO.tr (OE1 ((CP_O hC).2.2.2.2.2.1 _ hb_r1.1 hb_r1.2))
              have hC : CP y L F102 O G (sVw (sVw (sVw σ xv (zbk σ xb) (zvl σ xv) (zvh σ xv)) xv (zbk σ xb) ((turn (zod σ (zbk σ xb)) xlow) + 1) (zvh σ xv)) xv (zbk σ xb) ((turn (zod σ (zbk σ xb)) xlow) + 1) (turn (zod σ (zbk σ xb)) xhigh)) := by rw [eF102]; exact CP_vw hC hb_r1 (va_up_self _ _ _) (fun q hq => va_up_ne _ _ hq)
              refine lv_aload hx hb dX3_openView_162 (lv_at hl 6 rfl) ?_
              refine lv_aload hx hb dX3_openView_164 (lv_at hl 7 rfl) ?_
              refine q_get C0 iX1 hP (CP_v hC hb_r1).1 hvF rfl 1 (by decide) flX3_182 rfl rfl dX3_openView_166 ?_
              refine lv_aload hx hb dX3_openView_169 (lv_at hl 7 rfl) ?_
              refine q_get C0 iX1 hP (CP_v hC hb_r1).1 hvF rfl 2 (by decide) flX3_185 rfl rfl dX3_openView_171 ?_
              refine q_vS C0 lX3_188 (c_X0_countOfPart l D y L F102 (grh G (zbk σ xb)) (grw G (zbk σ xb)) (zod σ (zbk σ xb)) ((zst σ (zbk σ xb)).1) ((zst σ (zbk σ xb)).2.1) ((zst σ (zbk σ xb)).2.2) ((turn (zod σ (zbk σ xb)) xlow) + 1) (turn (zod σ (zbk σ xb)) xhigh) (CP_r hC (hW.1 xb)) (by omega) (by omega)) ⟨rfl, rfl⟩ rfl hP (CP_r hC (hW.1 xb)).1 (CP_r hC (hW.1 xb)).2.1 rfl rfl rfl hl rfl (Nat.le_of_ble_eq_true rfl) dX3_openView_174 ⟨Nat.le_of_ble_eq_true rfl, Nat.le_of_ble_eq_true rfl⟩ (fun r103 e_r103 => ?_)
              subst e_r103
              refine W.widen (k := 8) (n := 60) (Nat.le_of_ble_eq_true rfl) (Nat.le_of_ble_eq_true rfl) ?_
              exact vx_ret (q_retMi C0 hret rfl hlk dX3_openView_177 hP hD hS (⟨by omega, by omega, (by unfold kR_openView; rw [if_neg (by omega), show oLo (zod σ (zbk σ xb)) xkind xlow xends = ((turn (zod σ (zbk σ xb)) xlow) + 1) by (unfold oLo; (repeat' split) <;> first | rfl | omega), show oHi (zod σ (zbk σ xb)) xkind xhigh xends = (turn (zod σ (zbk σ xb)) xhigh) by (unfold oHi; (repeat' split) <;> first | rfl | omega)]), O, G, CP_eq hC (by rw [sVw2, sVw2]; unfold kS_openView; rw [if_neg (by omega), show oLo (zod σ (zbk σ xb)) xkind xlow xends = ((turn (zod σ (zbk σ xb)) xlow) + 1) by (unfold oLo; (repeat' split) <;> first | rfl | omega), show oHi (zod σ (zbk σ xb)) xkind xhigh xends = (turn (zod σ (zbk σ xb)) xhigh) by (unfold oHi; (repeat' split) <;> first | rfl | omega)]), rfl, Ext0 hO⟩))
            · refine q_bipush hx hb dX3_openView_152 (by decide) ?_
              refine lv_goto (tgt := 159) hx hb dX3_openView_154 (by decide) ?_
              refine q_put C0 iX1 tyX1 tyX1_ok nmX1 hP hD hS (CP_v hC hb_r1).1 hvF rfl 2 (by decide) flX3_185 rfl rfl rfl rfl (Nat.le_of_ble_eq_true rfl) dX3_openView_159 (fun H locs hP hD hS => ?_)
              obtain ⟨F104, eF104⟩ : ∃ z, z = va_up F100 (gva G xv) (.inr (3, [.ref ((grh G (zbk σ xb))), .int (iI (((turn (zod σ (zbk σ xb)) xlow) + 1))), .int (iI 99)])) := ⟨_, rfl⟩
              have hP : va_P D vwCl (va_pl L F104) H := by rw [eF104]; exact hP
              have hD : va_D (AL L s.heap.size) (va_pl L F104) := by rw [eF104]; exact hD
              have hvF : F104 (gva G xv) = (.inr (3, [.ref ((grh G (zbk σ xb))), .int (iI (((turn (zod σ (zbk σ xb)) xlow) + 1))), .int (iI 99)])) := by rw [eF104]; exact va_up_self _ _ _
              have hO : OE O F F104 := by rw [eF104]; exact hO.tr (OE1 ((CP_O hC).2.2.2.2.2.1 _ hb_r1.1 hb_r1.2))
              have hC : CP y L F104 O G (sVw (sVw (sVw σ xv (zbk σ xb) (zvl σ xv) (zvh σ xv)) xv (zbk σ xb) ((turn (zod σ (zbk σ xb)) xlow) + 1) (zvh σ xv)) xv (zbk σ xb) ((turn (zod σ (zbk σ xb)) xlow) + 1) 99) := by rw [eF104]; exact CP_vw hC hb_r1 (va_up_self _ _ _) (fun q hq => va_up_ne _ _ hq)
              refine lv_aload hx hb dX3_openView_162 (lv_at hl 6 rfl) ?_
              refine lv_aload hx hb dX3_openView_164 (lv_at hl 7 rfl) ?_
              refine q_get C0 iX1 hP (CP_v hC hb_r1).1 hvF rfl 1 (by decide) flX3_182 rfl rfl dX3_openView_166 ?_
              refine lv_aload hx hb dX3_openView_169 (lv_at hl 7 rfl) ?_
              refine q_get C0 iX1 hP (CP_v hC hb_r1).1 hvF rfl 2 (by decide) flX3_185 rfl rfl dX3_openView_171 ?_
              refine q_vS C0 lX3_188 (c_X0_countOfPart l D y L F104 (grh G (zbk σ xb)) (grw G (zbk σ xb)) (zod σ (zbk σ xb)) ((zst σ (zbk σ xb)).1) ((zst σ (zbk σ xb)).2.1) ((zst σ (zbk σ xb)).2.2) ((turn (zod σ (zbk σ xb)) xlow) + 1) 99 (CP_r hC (hW.1 xb)) (by omega) (by omega)) ⟨rfl, rfl⟩ rfl hP (CP_r hC (hW.1 xb)).1 (CP_r hC (hW.1 xb)).2.1 rfl rfl rfl hl rfl (Nat.le_of_ble_eq_true rfl) dX3_openView_174 ⟨Nat.le_of_ble_eq_true rfl, Nat.le_of_ble_eq_true rfl⟩ (fun r105 e_r105 => ?_)
              subst e_r105
              refine W.widen (k := 8) (n := 60) (Nat.le_of_ble_eq_true rfl) (Nat.le_of_ble_eq_true rfl) ?_
              exact vx_ret (q_retMi C0 hret rfl hlk dX3_openView_177 hP hD hS (⟨by omega, by omega, (by unfold kR_openView; rw [if_neg (by omega), show oLo (zod σ (zbk σ xb)) xkind xlow xends = ((turn (zod σ (zbk σ xb)) xlow) + 1) by (unfold oLo; (repeat' split) <;> first | rfl | omega), show oHi (zod σ (zbk σ xb)) xkind xhigh xends = 99 by (unfold oHi; (repeat' split) <;> first | rfl | omega)]), O, G, CP_eq hC (by rw [sVw2, sVw2]; unfold kS_openView; rw [if_neg (by omega), show oLo (zod σ (zbk σ xb)) xkind xlow xends = ((turn (zod σ (zbk σ xb)) xlow) + 1) by (unfold oLo; (repeat' split) <;> first | rfl | omega), show oHi (zod σ (zbk σ xb)) xkind xhigh xends = 99 by (unfold oHi; (repeat' split) <;> first | rfl | omega)]), rfl, Ext0 hO⟩))
          · refine q_iconst hx hb dX3_openView_136 ?_
            refine lv_goto (tgt := 142) hx hb dX3_openView_137 (by decide) ?_
            refine q_put C0 iX1 tyX1 tyX1_ok nmX1 hP hD hS (CP_v hC hb_r1).1 hvF rfl 1 (by decide) flX3_182 rfl rfl rfl rfl (Nat.le_of_ble_eq_true rfl) dX3_openView_142 (fun H locs hP hD hS => ?_)
            obtain ⟨F106, eF106⟩ : ∃ z, z = va_up F98 (gva G xv) (.inr (3, [.ref ((grh G (zbk σ xb))), .int (iI 0), .int (iI (zvh σ xv))])) := ⟨_, rfl⟩
            have hP : va_P D vwCl (va_pl L F106) H := by rw [eF106]; exact hP
            have hD : va_D (AL L s.heap.size) (va_pl L F106) := by rw [eF106]; exact hD
            have hvF : F106 (gva G xv) = (.inr (3, [.ref ((grh G (zbk σ xb))), .int (iI 0), .int (iI (zvh σ xv))])) := by rw [eF106]; exact va_up_self _ _ _
            have hO : OE O F F106 := by rw [eF106]; exact hO.tr (OE1 ((CP_O hC).2.2.2.2.2.1 _ hb_r1.1 hb_r1.2))
            have hC : CP y L F106 O G (sVw (sVw σ xv (zbk σ xb) (zvl σ xv) (zvh σ xv)) xv (zbk σ xb) 0 (zvh σ xv)) := by rw [eF106]; exact CP_vw hC hb_r1 (va_up_self _ _ _) (fun q hq => va_up_ne _ _ hq)
            refine lv_aload hx hb dX3_openView_145 (lv_at hl 7 rfl) ?_
            refine lv_iload_n hx hb dX3_openView_147 rfl (lv_at hl 11 rfl) ?_
            refine q_iconst hx hb dX3_openView_148 ?_
            refine q_icmp_ne hx hb dX3_openView_149 (tgt := 157) (by decide) (by omega) (by omega) (fun c107 => ?_) (fun c107 => ?_)
            · refine lv_iload hx hb dX3_openView_157 (lv_at hl 0 rfl) ?_
              refine q_put C0 iX1 tyX1 tyX1_ok nmX1 hP hD hS (CP_v hC hb_r1).1 hvF rfl 2 (by decide) flX3_185 rfl rfl rfl rfl (Nat.le_of_ble_eq_true rfl) dX3_openView_159 (fun H locs hP hD hS => ?_)
              obtain ⟨F108, eF108⟩ : ∃ z, z = va_up F106 (gva G xv) (.inr (3, [.ref ((grh G (zbk σ xb))), .int (iI 0), .int (iI ((turn (zod σ (zbk σ xb)) xhigh)))])) := ⟨_, rfl⟩
              have hP : va_P D vwCl (va_pl L F108) H := by rw [eF108]; exact hP
              have hD : va_D (AL L s.heap.size) (va_pl L F108) := by rw [eF108]; exact hD
              have hvF : F108 (gva G xv) = (.inr (3, [.ref ((grh G (zbk σ xb))), .int (iI 0), .int (iI ((turn (zod σ (zbk σ xb)) xhigh)))])) := by rw [eF108]; exact va_up_self _ _ _
              have hO : OE O F F108 := by rw [eF108]; exact hO.tr (OE1 ((CP_O hC).2.2.2.2.2.1 _ hb_r1.1 hb_r1.2))
              have hC : CP y L F108 O G (sVw (sVw (sVw σ xv (zbk σ xb) (zvl σ xv) (zvh σ xv)) xv (zbk σ xb) 0 (zvh σ xv)) xv (zbk σ xb) 0 (turn (zod σ (zbk σ xb)) xhigh)) := by rw [eF108]; exact CP_vw hC hb_r1 (va_up_self _ _ _) (fun q hq => va_up_ne _ _ hq)
              refine lv_aload hx hb dX3_openView_162 (lv_at hl 6 rfl) ?_
              refine lv_aload hx hb dX3_openView_164 (lv_at hl 7 rfl) ?_
              refine q_get C0 iX1 hP (CP_v hC hb_r1).1 hvF rfl 1 (by decide) flX3_182 rfl rfl dX3_openView_166 ?_
              refine lv_aload hx hb dX3_openView_169 (lv_at hl 7 rfl) ?_
              refine q_get C0 iX1 hP (CP_v hC hb_r1).1 hvF rfl 2 (by decide) flX3_185 rfl rfl dX3_openView_171 ?_
              refine q_vS C0 lX3_188 (c_X0_countOfPart l D y L F108 (grh G (zbk σ xb)) (grw G (zbk σ xb)) (zod σ (zbk σ xb)) ((zst σ (zbk σ xb)).1) ((zst σ (zbk σ xb)).2.1) ((zst σ (zbk σ xb)).2.2) 0 (turn (zod σ (zbk σ xb)) xhigh) (CP_r hC (hW.1 xb)) (by omega) (by omega)) ⟨rfl, rfl⟩ rfl hP (CP_r hC (hW.1 xb)).1 (CP_r hC (hW.1 xb)).2.1 rfl rfl rfl hl rfl (Nat.le_of_ble_eq_true rfl) dX3_openView_174 ⟨Nat.le_of_ble_eq_true rfl, Nat.le_of_ble_eq_true rfl⟩ (fun r109 e_r109 => ?_)
              subst e_r109
              refine W.widen (k := 8) (n := 60) (Nat.le_of_ble_eq_true rfl) (Nat.le_of_ble_eq_true rfl) ?_
              exact vx_ret (q_retMi C0 hret rfl hlk dX3_openView_177 hP hD hS (⟨by omega, by omega, (by unfold kR_openView; rw [if_neg (by omega), show oLo (zod σ (zbk σ xb)) xkind xlow xends = 0 by (unfold oLo; (repeat' split) <;> first | rfl | omega), show oHi (zod σ (zbk σ xb)) xkind xhigh xends = (turn (zod σ (zbk σ xb)) xhigh) by (unfold oHi; (repeat' split) <;> first | rfl | omega)]), O, G, CP_eq hC (by rw [sVw2, sVw2]; unfold kS_openView; rw [if_neg (by omega), show oLo (zod σ (zbk σ xb)) xkind xlow xends = 0 by (unfold oLo; (repeat' split) <;> first | rfl | omega), show oHi (zod σ (zbk σ xb)) xkind xhigh xends = (turn (zod σ (zbk σ xb)) xhigh) by (unfold oHi; (repeat' split) <;> first | rfl | omega)]), rfl, Ext0 hO⟩))
            · refine q_bipush hx hb dX3_openView_152 (by decide) ?_
              refine lv_goto (tgt := 159) hx hb dX3_openView_154 (by decide) ?_
              refine q_put C0 iX1 tyX1 tyX1_ok nmX1 hP hD hS (CP_v hC hb_r1).1 hvF rfl 2 (by decide) flX3_185 rfl rfl rfl rfl (Nat.le_of_ble_eq_true rfl) dX3_openView_159 (fun H locs hP hD hS => ?_)
              obtain ⟨F110, eF110⟩ : ∃ z, z = va_up F106 (gva G xv) (.inr (3, [.ref ((grh G (zbk σ xb))), .int (iI 0), .int (iI 99)])) := ⟨_, rfl⟩
              have hP : va_P D vwCl (va_pl L F110) H := by rw [eF110]; exact hP
              have hD : va_D (AL L s.heap.size) (va_pl L F110) := by rw [eF110]; exact hD
              have hvF : F110 (gva G xv) = (.inr (3, [.ref ((grh G (zbk σ xb))), .int (iI 0), .int (iI 99)])) := by rw [eF110]; exact va_up_self _ _ _
              have hO : OE O F F110 := by rw [eF110]; exact hO.tr (OE1 ((CP_O hC).2.2.2.2.2.1 _ hb_r1.1 hb_r1.2))
              have hC : CP y L F110 O G (sVw (sVw (sVw σ xv (zbk σ xb) (zvl σ xv) (zvh σ xv)) xv (zbk σ xb) 0 (zvh σ xv)) xv (zbk σ xb) 0 99) := by rw [eF110]; exact CP_vw hC hb_r1 (va_up_self _ _ _) (fun q hq => va_up_ne _ _ hq)
              refine lv_aload hx hb dX3_openView_162 (lv_at hl 6 rfl) ?_
              refine lv_aload hx hb dX3_openView_164 (lv_at hl 7 rfl) ?_
              refine q_get C0 iX1 hP (CP_v hC hb_r1).1 hvF rfl 1 (by decide) flX3_182 rfl rfl dX3_openView_166 ?_
              refine lv_aload hx hb dX3_openView_169 (lv_at hl 7 rfl) ?_
              refine q_get C0 iX1 hP (CP_v hC hb_r1).1 hvF rfl 2 (by decide) flX3_185 rfl rfl dX3_openView_171 ?_
              refine q_vS C0 lX3_188 (c_X0_countOfPart l D y L F110 (grh G (zbk σ xb)) (grw G (zbk σ xb)) (zod σ (zbk σ xb)) ((zst σ (zbk σ xb)).1) ((zst σ (zbk σ xb)).2.1) ((zst σ (zbk σ xb)).2.2) 0 99 (CP_r hC (hW.1 xb)) (by omega) (by omega)) ⟨rfl, rfl⟩ rfl hP (CP_r hC (hW.1 xb)).1 (CP_r hC (hW.1 xb)).2.1 rfl rfl rfl hl rfl (Nat.le_of_ble_eq_true rfl) dX3_openView_174 ⟨Nat.le_of_ble_eq_true rfl, Nat.le_of_ble_eq_true rfl⟩ (fun r111 e_r111 => ?_)
              subst e_r111
              refine W.widen (k := 8) (n := 60) (Nat.le_of_ble_eq_true rfl) (Nat.le_of_ble_eq_true rfl) ?_
              exact vx_ret (q_retMi C0 hret rfl hlk dX3_openView_177 hP hD hS (⟨by omega, by omega, (by unfold kR_openView; rw [if_neg (by omega), show oLo (zod σ (zbk σ xb)) xkind xlow xends = 0 by (unfold oLo; (repeat' split) <;> first | rfl | omega), show oHi (zod σ (zbk σ xb)) xkind xhigh xends = 99 by (unfold oHi; (repeat' split) <;> first | rfl | omega)]), O, G, CP_eq hC (by rw [sVw2, sVw2]; unfold kS_openView; rw [if_neg (by omega), show oLo (zod σ (zbk σ xb)) xkind xlow xends = 0 by (unfold oLo; (repeat' split) <;> first | rfl | omega), show oHi (zod σ (zbk σ xb)) xkind xhigh xends = 99 by (unfold oHi; (repeat' split) <;> first | rfl | omega)]), rfl, Ext0 hO⟩))
      · refine q_iconst hx hb dX3_openView_70 ?_
        refine lv_goto (tgt := 75) hx hb dX3_openView_71 (by decide) ?_
        refine lv_istore (lv' := [(11, .int (iI 1)), (10, .int (iI ((turn (zod σ (zbk σ xb)) xhigh)))), (9, .int (iI ((turn (zod σ (zbk σ xb)) xlow)))), (8, .ref ((grh G (zbk σ xb)))), (7, .ref ((gva G xv))), (0, .ref ((gbg G))), (1, .int (iI xv)), (2, .int (iI xb)), (3, .int (iI xkind)), (4, .int (iI xlow)), (5, .int (iI xhigh)), (6, .int (iI xends))]) hx hb dX3_openView_75 hl (by decide) rfl (fun ls hl => ?_)
        refine lv_iload hx hb dX3_openView_77 (lv_at hl 11 rfl) ?_
        refine q_iconst hx hb dX3_openView_79 ?_
        refine q_iand hx hb dX3_openView_80 ?_
        refine q_if_eq hx hb dX3_openView_81 (tgt := 88) (by decide) (by omega) (fun c112 => ?_) (fun c112 => ?_)
        · refine q_iconst hx hb dX3_openView_88 ?_
          refine lv_istore (lv' := [(12, .int (iI 0)), (11, .int (iI 1)), (10, .int (iI ((turn (zod σ (zbk σ xb)) xhigh)))), (9, .int (iI ((turn (zod σ (zbk σ xb)) xlow)))), (8, .ref ((grh G (zbk σ xb)))), (7, .ref ((gva G xv))), (0, .ref ((gbg G))), (1, .int (iI xv)), (2, .int (iI xb)), (3, .int (iI xkind)), (4, .int (iI xlow)), (5, .int (iI xhigh)), (6, .int (iI xends))]) hx hb dX3_openView_89 hl (by decide) rfl (fun ls hl => ?_)
          refine lv_iload hx hb dX3_openView_91 (lv_at hl 1 rfl) ?_
          refine q_if_eq hx hb dX3_openView_93 (tgt := 101) (by decide) (by omega) (fun c113 => absurd c113 (by omega)) (fun c113 => ?_)
          refine lv_iload hx hb dX3_openView_96 (lv_at hl 3 rfl) ?_
          refine lv_goto (tgt := 105) hx hb dX3_openView_98 (by decide) ?_
          refine lv_istore (lv' := [(13, .int (iI ((turn (zod σ (zbk σ xb)) xlow)))), (12, .int (iI 0)), (11, .int (iI 1)), (10, .int (iI ((turn (zod σ (zbk σ xb)) xhigh)))), (9, .int (iI ((turn (zod σ (zbk σ xb)) xlow)))), (8, .ref ((grh G (zbk σ xb)))), (7, .ref ((gva G xv))), (0, .ref ((gbg G))), (1, .int (iI xv)), (2, .int (iI xb)), (3, .int (iI xkind)), (4, .int (iI xlow)), (5, .int (iI xhigh)), (6, .int (iI xends))]) hx hb dX3_openView_105 hl (by decide) rfl (fun ls hl => ?_)
          refine lv_iload hx hb dX3_openView_107 (lv_at hl 1 rfl) ?_
          refine q_if_eq hx hb dX3_openView_109 (tgt := 117) (by decide) (by omega) (fun c114 => ?_) (fun c114 => absurd c114 (by omega))
          refine lv_iload hx hb dX3_openView_117 (lv_at hl 3 rfl) ?_
          refine q_iconst hx hb dX3_openView_119 ?_
          refine q_isub hx hb dX3_openView_120 ?_
          refine lv_istore (lv' := [(14, .int (iI (((turn (zod σ (zbk σ xb)) xhigh) - 1)))), (13, .int (iI ((turn (zod σ (zbk σ xb)) xlow)))), (12, .int (iI 0)), (11, .int (iI 1)), (10, .int (iI ((turn (zod σ (zbk σ xb)) xhigh)))), (9, .int (iI ((turn (zod σ (zbk σ xb)) xlow)))), (8, .ref ((grh G (zbk σ xb)))), (7, .ref ((gva G xv))), (0, .ref ((gbg G))), (1, .int (iI xv)), (2, .int (iI xb)), (3, .int (iI xkind)), (4, .int (iI xlow)), (5, .int (iI xhigh)), (6, .int (iI xends))]) hx hb dX3_openView_121 hl (by decide) rfl (fun ls hl => ?_)
          refine lv_aload hx hb dX3_openView_123 (lv_at hl 7 rfl) ?_
          refine lv_aload hx hb dX3_openView_125 (lv_at hl 6 rfl) ?_
          refine q_put C0 iX1 tyX1 tyX1_ok nmX1 hP hD hS (CP_v hC hb_r1).1 (CP_v hC hb_r1).2 rfl 0 (by decide) flX3_178 rfl rfl rfl rfl (Nat.le_of_ble_eq_true rfl) dX3_openView_127 (fun H locs hP hD hS => ?_)
          obtain ⟨F115, eF115⟩ : ∃ z, z = va_up F (gva G xv) (.inr (3, [.ref ((grh G (zbk σ xb))), .int (iI (zvl σ xv)), .int (iI (zvh σ xv))])) := ⟨_, rfl⟩
          have hP : va_P D vwCl (va_pl L F115) H := by rw [eF115]; exact hP
          have hD : va_D (AL L s.heap.size) (va_pl L F115) := by rw [eF115]; exact hD
          have hvF : F115 (gva G xv) = (.inr (3, [.ref ((grh G (zbk σ xb))), .int (iI (zvl σ xv)), .int (iI (zvh σ xv))])) := by rw [eF115]; exact va_up_self _ _ _
          have hO : OE O F F115 := by rw [eF115]; exact hO.tr (OE1 ((CP_O hC).2.2.2.2.2.1 _ hb_r1.1 hb_r1.2))
          have hC : CP y L F115 O G (sVw σ xv (zbk σ xb) (zvl σ xv) (zvh σ xv)) := by rw [eF115]; exact CP_vw hC hb_r1 (va_up_self _ _ _) (fun q hq => va_up_ne _ _ hq)
          refine lv_aload hx hb dX3_openView_130 (lv_at hl 7 rfl) ?_
          refine lv_iload_n hx hb dX3_openView_132 rfl (lv_at hl 11 rfl) ?_
          refine q_if_ne hx hb dX3_openView_133 (tgt := 140) (by decide) (by omega) (fun c116 => ?_) (fun c116 => ?_)
          · refine lv_iload hx hb dX3_openView_140 (lv_at hl 1 rfl) ?_
            refine q_put C0 iX1 tyX1 tyX1_ok nmX1 hP hD hS (CP_v hC hb_r1).1 hvF rfl 1 (by decide) flX3_182 rfl rfl rfl rfl (Nat.le_of_ble_eq_true rfl) dX3_openView_142 (fun H locs hP hD hS => ?_)
            obtain ⟨F117, eF117⟩ : ∃ z, z = va_up F115 (gva G xv) (.inr (3, [.ref ((grh G (zbk σ xb))), .int (iI ((turn (zod σ (zbk σ xb)) xlow))), .int (iI (zvh σ xv))])) := ⟨_, rfl⟩
            have hP : va_P D vwCl (va_pl L F117) H := by rw [eF117]; exact hP
            have hD : va_D (AL L s.heap.size) (va_pl L F117) := by rw [eF117]; exact hD
            have hvF : F117 (gva G xv) = (.inr (3, [.ref ((grh G (zbk σ xb))), .int (iI ((turn (zod σ (zbk σ xb)) xlow))), .int (iI (zvh σ xv))])) := by rw [eF117]; exact va_up_self _ _ _
            have hO : OE O F F117 := by rw [eF117]; exact hO.tr (OE1 ((CP_O hC).2.2.2.2.2.1 _ hb_r1.1 hb_r1.2))
            have hC : CP y L F117 O G (sVw (sVw σ xv (zbk σ xb) (zvl σ xv) (zvh σ xv)) xv (zbk σ xb) (turn (zod σ (zbk σ xb)) xlow) (zvh σ xv)) := by rw [eF117]; exact CP_vw hC hb_r1 (va_up_self _ _ _) (fun q hq => va_up_ne _ _ hq)
            refine lv_aload hx hb dX3_openView_145 (lv_at hl 7 rfl) ?_
            refine lv_iload_n hx hb dX3_openView_147 rfl (lv_at hl 11 rfl) ?_
            refine q_iconst hx hb dX3_openView_148 ?_
            refine q_icmp_ne hx hb dX3_openView_149 (tgt := 157) (by decide) (by omega) (by omega) (fun c118 => ?_) (fun c118 => ?_)
            · refine lv_iload hx hb dX3_openView_157 (lv_at hl 0 rfl) ?_
              refine q_put C0 iX1 tyX1 tyX1_ok nmX1 hP hD hS (CP_v hC hb_r1).1 hvF rfl 2 (by decide) flX3_185 rfl rfl rfl rfl (Nat.le_of_ble_eq_true rfl) dX3_openView_159 (fun H locs hP hD hS => ?_)
              obtain ⟨F119, eF119⟩ : ∃ z, z = va_up F117 (gva G xv) (.inr (3, [.ref ((grh G (zbk σ xb))), .int (iI ((turn (zod σ (zbk σ xb)) xlow))), .int (iI (((turn (zod σ (zbk σ xb)) xhigh) - 1)))])) := ⟨_, rfl⟩
              have hP : va_P D vwCl (va_pl L F119) H := by rw [eF119]; exact hP
              have hD : va_D (AL L s.heap.size) (va_pl L F119) := by rw [eF119]; exact hD
              have hvF : F119 (gva G xv) = (.inr (3, [.ref ((grh G (zbk σ xb))), .int (iI ((turn (zod σ (zbk σ xb)) xlow))), .int (iI (((turn (zod σ (zbk σ xb)) xhigh) - 1)))])) := by rw [eF119]; exact va_up_self _ _ _
              have hO : OE O F F119 := by rw [eF119]; exact hO.tr (OE1 ((CP_O hC).2.2.2.2.2.1 _ hb_r1.1 hb_r1.2))
              have hC : CP y L F119 O G (sVw (sVw (sVw σ xv (zbk σ xb) (zvl σ xv) (zvh σ xv)) xv (zbk σ xb) (turn (zod σ (zbk σ xb)) xlow) (zvh σ xv)) xv (zbk σ xb) (turn (zod σ (zbk σ xb)) xlow) ((turn (zod σ (zbk σ xb)) xhigh) - 1)) := by rw [eF119]; exact CP_vw hC hb_r1 (va_up_self _ _ _) (fun q hq => va_up_ne _ _ hq)
              refine lv_aload hx hb dX3_openView_162 (lv_at hl 6 rfl) ?_
              refine lv_aload hx hb dX3_openView_164 (lv_at hl 7 rfl) ?_
              refine q_get C0 iX1 hP (CP_v hC hb_r1).1 hvF rfl 1 (by decide) flX3_182 rfl rfl dX3_openView_166 ?_
              refine lv_aload hx hb dX3_openView_169 (lv_at hl 7 rfl) ?_
              refine q_get C0 iX1 hP (CP_v hC hb_r1).1 hvF rfl 2 (by decide) flX3_185 rfl rfl dX3_openView_171 ?_
              refine q_vS C0 lX3_188 (c_X0_countOfPart l D y L F119 (grh G (zbk σ xb)) (grw G (zbk σ xb)) (zod σ (zbk σ xb)) ((zst σ (zbk σ xb)).1) ((zst σ (zbk σ xb)).2.1) ((zst σ (zbk σ xb)).2.2) (turn (zod σ (zbk σ xb)) xlow) ((turn (zod σ (zbk σ xb)) xhigh) - 1) (CP_r hC (hW.1 xb)) (by omega) (by omega)) ⟨rfl, rfl⟩ rfl hP (CP_r hC (hW.1 xb)).1 (CP_r hC (hW.1 xb)).2.1 rfl rfl rfl hl rfl (Nat.le_of_ble_eq_true rfl) dX3_openView_174 ⟨Nat.le_of_ble_eq_true rfl, Nat.le_of_ble_eq_true rfl⟩ (fun r120 e_r120 => ?_)
              subst e_r120
              refine W.widen (k := 8) (n := 60) (Nat.le_of_ble_eq_true rfl) (Nat.le_of_ble_eq_true rfl) ?_
              exact vx_ret (q_retMi C0 hret rfl hlk dX3_openView_177 hP hD hS (⟨by omega, by omega, (by unfold kR_openView; rw [if_neg (by omega), show oLo (zod σ (zbk σ xb)) xkind xlow xends = (turn (zod σ (zbk σ xb)) xlow) by (unfold oLo; (repeat' split) <;> first | rfl | omega), show oHi (zod σ (zbk σ xb)) xkind xhigh xends = ((turn (zod σ (zbk σ xb)) xhigh) - 1) by (unfold oHi; (repeat' split) <;> first | rfl | omega)]), O, G, CP_eq hC (by rw [sVw2, sVw2]; unfold kS_openView; rw [if_neg (by omega), show oLo (zod σ (zbk σ xb)) xkind xlow xends = (turn (zod σ (zbk σ xb)) xlow) by (unfold oLo; (repeat' split) <;> first | rfl | omega), show oHi (zod σ (zbk σ xb)) xkind xhigh xends = ((turn (zod σ (zbk σ xb)) xhigh) - 1) by (unfold oHi; (repeat' split) <;> first | rfl | omega)]), rfl, Ext0 hO⟩))
            · refine q_bipush hx hb dX3_openView_152 (by decide) ?_
              refine lv_goto (tgt := 159) hx hb dX3_openView_154 (by decide) ?_
              refine q_put C0 iX1 tyX1 tyX1_ok nmX1 hP hD hS (CP_v hC hb_r1).1 hvF rfl 2 (by decide) flX3_185 rfl rfl rfl rfl (Nat.le_of_ble_eq_true rfl) dX3_openView_159 (fun H locs hP hD hS => ?_)
              obtain ⟨F121, eF121⟩ : ∃ z, z = va_up F117 (gva G xv) (.inr (3, [.ref ((grh G (zbk σ xb))), .int (iI ((turn (zod σ (zbk σ xb)) xlow))), .int (iI 99)])) := ⟨_, rfl⟩
              have hP : va_P D vwCl (va_pl L F121) H := by rw [eF121]; exact hP
              have hD : va_D (AL L s.heap.size) (va_pl L F121) := by rw [eF121]; exact hD
              have hvF : F121 (gva G xv) = (.inr (3, [.ref ((grh G (zbk σ xb))), .int (iI ((turn (zod σ (zbk σ xb)) xlow))), .int (iI 99)])) := by rw [eF121]; exact va_up_self _ _ _
              have hO : OE O F F121 := by rw [eF121]; exact hO.tr (OE1 ((CP_O hC).2.2.2.2.2.1 _ hb_r1.1 hb_r1.2))
              have hC : CP y L F121 O G (sVw (sVw (sVw σ xv (zbk σ xb) (zvl σ xv) (zvh σ xv)) xv (zbk σ xb) (turn (zod σ (zbk σ xb)) xlow) (zvh σ xv)) xv (zbk σ xb) (turn (zod σ (zbk σ xb)) xlow) 99) := by rw [eF121]; exact CP_vw hC hb_r1 (va_up_self _ _ _) (fun q hq => va_up_ne _ _ hq)
              refine lv_aload hx hb dX3_openView_162 (lv_at hl 6 rfl) ?_
              refine lv_aload hx hb dX3_openView_164 (lv_at hl 7 rfl) ?_
              refine q_get C0 iX1 hP (CP_v hC hb_r1).1 hvF rfl 1 (by decide) flX3_182 rfl rfl dX3_openView_166 ?_
              refine lv_aload hx hb dX3_openView_169 (lv_at hl 7 rfl) ?_
              refine q_get C0 iX1 hP (CP_v hC hb_r1).1 hvF rfl 2 (by decide) flX3_185 rfl rfl dX3_openView_171 ?_
              refine q_vS C0 lX3_188 (c_X0_countOfPart l D y L F121 (grh G (zbk σ xb)) (grw G (zbk σ xb)) (zod σ (zbk σ xb)) ((zst σ (zbk σ xb)).1) ((zst σ (zbk σ xb)).2.1) ((zst σ (zbk σ xb)).2.2) (turn (zod σ (zbk σ xb)) xlow) 99 (CP_r hC (hW.1 xb)) (by omega) (by omega)) ⟨rfl, rfl⟩ rfl hP (CP_r hC (hW.1 xb)).1 (CP_r hC (hW.1 xb)).2.1 rfl rfl rfl hl rfl (Nat.le_of_ble_eq_true rfl) dX3_openView_174 ⟨Nat.le_of_ble_eq_true rfl, Nat.le_of_ble_eq_true rfl⟩ (fun r122 e_r122 => ?_)
              subst e_r122
              refine W.widen (k := 8) (n := 60) (Nat.le_of_ble_eq_true rfl) (Nat.le_of_ble_eq_true rfl) ?_
              exact vx_ret (q_retMi C0 hret rfl hlk dX3_openView_177 hP hD hS (⟨by omega, by omega, (by unfold kR_openView; rw [if_neg (by omega), show oLo (zod σ (zbk σ xb)) xkind xlow xends = (turn (zod σ (zbk σ xb)) xlow) by (unfold oLo; (repeat' split) <;> first | rfl | omega), show oHi (zod σ (zbk σ xb)) xkind xhigh xends = 99 by (unfold oHi; (repeat' split) <;> first | rfl | omega)]), O, G, CP_eq hC (by rw [sVw2, sVw2]; unfold kS_openView; rw [if_neg (by omega), show oLo (zod σ (zbk σ xb)) xkind xlow xends = (turn (zod σ (zbk σ xb)) xlow) by (unfold oLo; (repeat' split) <;> first | rfl | omega), show oHi (zod σ (zbk σ xb)) xkind xhigh xends = 99 by (unfold oHi; (repeat' split) <;> first | rfl | omega)]), rfl, Ext0 hO⟩))
          · refine q_iconst hx hb dX3_openView_136 ?_
            refine lv_goto (tgt := 142) hx hb dX3_openView_137 (by decide) ?_
            refine q_put C0 iX1 tyX1 tyX1_ok nmX1 hP hD hS (CP_v hC hb_r1).1 hvF rfl 1 (by decide) flX3_182 rfl rfl rfl rfl (Nat.le_of_ble_eq_true rfl) dX3_openView_142 (fun H locs hP hD hS => ?_)
            obtain ⟨F123, eF123⟩ : ∃ z, z = va_up F115 (gva G xv) (.inr (3, [.ref ((grh G (zbk σ xb))), .int (iI 0), .int (iI (zvh σ xv))])) := ⟨_, rfl⟩
            have hP : va_P D vwCl (va_pl L F123) H := by rw [eF123]; exact hP
            have hD : va_D (AL L s.heap.size) (va_pl L F123) := by rw [eF123]; exact hD
            have hvF : F123 (gva G xv) = (.inr (3, [.ref ((grh G (zbk σ xb))), .int (iI 0), .int (iI (zvh σ xv))])) := by rw [eF123]; exact va_up_self _ _ _
            have hO : OE O F F123 := by rw [eF123]; exact hO.tr (OE1 ((CP_O hC).2.2.2.2.2.1 _ hb_r1.1 hb_r1.2))
            have hC : CP y L F123 O G (sVw (sVw σ xv (zbk σ xb) (zvl σ xv) (zvh σ xv)) xv (zbk σ xb) 0 (zvh σ xv)) := by rw [eF123]; exact CP_vw hC hb_r1 (va_up_self _ _ _) (fun q hq => va_up_ne _ _ hq)
            refine lv_aload hx hb dX3_openView_145 (lv_at hl 7 rfl) ?_
            refine lv_iload_n hx hb dX3_openView_147 rfl (lv_at hl 11 rfl) ?_
            refine q_iconst hx hb dX3_openView_148 ?_
            refine q_icmp_ne hx hb dX3_openView_149 (tgt := 157) (by decide) (by omega) (by omega) (fun c124 => ?_) (fun c124 => ?_)
            · refine lv_iload hx hb dX3_openView_157 (lv_at hl 0 rfl) ?_
              refine q_put C0 iX1 tyX1 tyX1_ok nmX1 hP hD hS (CP_v hC hb_r1).1 hvF rfl 2 (by decide) flX3_185 rfl rfl rfl rfl (Nat.le_of_ble_eq_true rfl) dX3_openView_159 (fun H locs hP hD hS => ?_)
              obtain ⟨F125, eF125⟩ : ∃ z, z = va_up F123 (gva G xv) (.inr (3, [.ref ((grh G (zbk σ xb))), .int (iI 0), .int (iI (((turn (zod σ (zbk σ xb)) xhigh) - 1)))])) := ⟨_, rfl⟩
              have hP : va_P D vwCl (va_pl L F125) H := by rw [eF125]; exact hP
              have hD : va_D (AL L s.heap.size) (va_pl L F125) := by rw [eF125]; exact hD
              have hvF : F125 (gva G xv) = (.inr (3, [.ref ((grh G (zbk σ xb))), .int (iI 0), .int (iI (((turn (zod σ (zbk σ xb)) xhigh) - 1)))])) := by rw [eF125]; exact va_up_self _ _ _
              have hO : OE O F F125 := by rw [eF125]; exact hO.tr (OE1 ((CP_O hC).2.2.2.2.2.1 _ hb_r1.1 hb_r1.2))
              have hC : CP y L F125 O G (sVw (sVw (sVw σ xv (zbk σ xb) (zvl σ xv) (zvh σ xv)) xv (zbk σ xb) 0 (zvh σ xv)) xv (zbk σ xb) 0 ((turn (zod σ (zbk σ xb)) xhigh) - 1)) := by rw [eF125]; exact CP_vw hC hb_r1 (va_up_self _ _ _) (fun q hq => va_up_ne _ _ hq)
              refine lv_aload hx hb dX3_openView_162 (lv_at hl 6 rfl) ?_
              refine lv_aload hx hb dX3_openView_164 (lv_at hl 7 rfl) ?_
              refine q_get C0 iX1 hP (CP_v hC hb_r1).1 hvF rfl 1 (by decide) flX3_182 rfl rfl dX3_openView_166 ?_
              refine lv_aload hx hb dX3_openView_169 (lv_at hl 7 rfl) ?_
              refine q_get C0 iX1 hP (CP_v hC hb_r1).1 hvF rfl 2 (by decide) flX3_185 rfl rfl dX3_openView_171 ?_
              refine q_vS C0 lX3_188 (c_X0_countOfPart l D y L F125 (grh G (zbk σ xb)) (grw G (zbk σ xb)) (zod σ (zbk σ xb)) ((zst σ (zbk σ xb)).1) ((zst σ (zbk σ xb)).2.1) ((zst σ (zbk σ xb)).2.2) 0 ((turn (zod σ (zbk σ xb)) xhigh) - 1) (CP_r hC (hW.1 xb)) (by omega) (by omega)) ⟨rfl, rfl⟩ rfl hP (CP_r hC (hW.1 xb)).1 (CP_r hC (hW.1 xb)).2.1 rfl rfl rfl hl rfl (Nat.le_of_ble_eq_true rfl) dX3_openView_174 ⟨Nat.le_of_ble_eq_true rfl, Nat.le_of_ble_eq_true rfl⟩ (fun r126 e_r126 => ?_)
              subst e_r126
              refine W.widen (k := 8) (n := 60) (Nat.le_of_ble_eq_true rfl) (Nat.le_of_ble_eq_true rfl) ?_
              exact vx_ret (q_retMi C0 hret rfl hlk dX3_openView_177 hP hD hS (⟨by omega, by omega, (by unfold kR_openView; rw [if_neg (by omega), show oLo (zod σ (zbk σ xb)) xkind xlow xends = 0 by (unfold oLo; (repeat' split) <;> first | rfl | omega), show oHi (zod σ (zbk σ xb)) xkind xhigh xends = ((turn (zod σ (zbk σ xb)) xhigh) - 1) by (unfold oHi; (repeat' split) <;> first | rfl | omega)]), O, G, CP_eq hC (by rw [sVw2, sVw2]; unfold kS_openView; rw [if_neg (by omega), show oLo (zod σ (zbk σ xb)) xkind xlow xends = 0 by (unfold oLo; (repeat' split) <;> first | rfl | omega), show oHi (zod σ (zbk σ xb)) xkind xhigh xends = ((turn (zod σ (zbk σ xb)) xhigh) - 1) by (unfold oHi; (repeat' split) <;> first | rfl | omega)]), rfl, Ext0 hO⟩))
            · refine q_bipush hx hb dX3_openView_152 (by decide) ?_
              refine lv_goto (tgt := 159) hx hb dX3_openView_154 (by decide) ?_
              refine q_put C0 iX1 tyX1 tyX1_ok nmX1 hP hD hS (CP_v hC hb_r1).1 hvF rfl 2 (by decide) flX3_185 rfl rfl rfl rfl (Nat.le_of_ble_eq_true rfl) dX3_openView_159 (fun H locs hP hD hS => ?_)
              obtain ⟨F127, eF127⟩ : ∃ z, z = va_up F123 (gva G xv) (.inr (3, [.ref ((grh G (zbk σ xb))), .int (iI 0), .int (iI 99)])) := ⟨_, rfl⟩
              have hP : va_P D vwCl (va_pl L F127) H := by rw [eF127]; exact hP
              have hD : va_D (AL L s.heap.size) (va_pl L F127) := by rw [eF127]; exact hD
              have hvF : F127 (gva G xv) = (.inr (3, [.ref ((grh G (zbk σ xb))), .int (iI 0), .int (iI 99)])) := by rw [eF127]; exact va_up_self _ _ _
              have hO : OE O F F127 := by rw [eF127]; exact hO.tr (OE1 ((CP_O hC).2.2.2.2.2.1 _ hb_r1.1 hb_r1.2))
              have hC : CP y L F127 O G (sVw (sVw (sVw σ xv (zbk σ xb) (zvl σ xv) (zvh σ xv)) xv (zbk σ xb) 0 (zvh σ xv)) xv (zbk σ xb) 0 99) := by rw [eF127]; exact CP_vw hC hb_r1 (va_up_self _ _ _) (fun q hq => va_up_ne _ _ hq)
              refine lv_aload hx hb dX3_openView_162 (lv_at hl 6 rfl) ?_
              refine lv_aload hx hb dX3_openView_164 (lv_at hl 7 rfl) ?_
              refine q_get C0 iX1 hP (CP_v hC hb_r1).1 hvF rfl 1 (by decide) flX3_182 rfl rfl dX3_openView_166 ?_
              refine lv_aload hx hb dX3_openView_169 (lv_at hl 7 rfl) ?_
              refine q_get C0 iX1 hP (CP_v hC hb_r1).1 hvF rfl 2 (by decide) flX3_185 rfl rfl dX3_openView_171 ?_
              refine q_vS C0 lX3_188 (c_X0_countOfPart l D y L F127 (grh G (zbk σ xb)) (grw G (zbk σ xb)) (zod σ (zbk σ xb)) ((zst σ (zbk σ xb)).1) ((zst σ (zbk σ xb)).2.1) ((zst σ (zbk σ xb)).2.2) 0 99 (CP_r hC (hW.1 xb)) (by omega) (by omega)) ⟨rfl, rfl⟩ rfl hP (CP_r hC (hW.1 xb)).1 (CP_r hC (hW.1 xb)).2.1 rfl rfl rfl hl rfl (Nat.le_of_ble_eq_true rfl) dX3_openView_174 ⟨Nat.le_of_ble_eq_true rfl, Nat.le_of_ble_eq_true rfl⟩ (fun r128 e_r128 => ?_)
              subst e_r128
              refine W.widen (k := 8) (n := 60) (Nat.le_of_ble_eq_true rfl) (Nat.le_of_ble_eq_true rfl) ?_
              exact vx_ret (q_retMi C0 hret rfl hlk dX3_openView_177 hP hD hS (⟨by omega, by omega, (by unfold kR_openView; rw [if_neg (by omega), show oLo (zod σ (zbk σ xb)) xkind xlow xends = 0 by (unfold oLo; (repeat' split) <;> first | rfl | omega), show oHi (zod σ (zbk σ xb)) xkind xhigh xends = 99 by (unfold oHi; (repeat' split) <;> first | rfl | omega)]), O, G, CP_eq hC (by rw [sVw2, sVw2]; unfold kS_openView; rw [if_neg (by omega), show oLo (zod σ (zbk σ xb)) xkind xlow xends = 0 by (unfold oLo; (repeat' split) <;> first | rfl | omega), show oHi (zod σ (zbk σ xb)) xkind xhigh xends = 99 by (unfold oHi; (repeat' split) <;> first | rfl | omega)]), rfl, Ext0 hO⟩))
        · refine q_iconst hx hb dX3_openView_84 ?_
          refine lv_goto (tgt := 89) hx hb dX3_openView_85 (by decide) ?_
          refine lv_istore (lv' := [(12, .int (iI 1)), (11, .int (iI 1)), (10, .int (iI ((turn (zod σ (zbk σ xb)) xhigh)))), (9, .int (iI ((turn (zod σ (zbk σ xb)) xlow)))), (8, .ref ((grh G (zbk σ xb)))), (7, .ref ((gva G xv))), (0, .ref ((gbg G))), (1, .int (iI xv)), (2, .int (iI xb)), (3, .int (iI xkind)), (4, .int (iI xlow)), (5, .int (iI xhigh)), (6, .int (iI xends))]) hx hb dX3_openView_89 hl (by decide) rfl (fun ls hl => ?_)
          refine lv_iload hx hb dX3_openView_91 (lv_at hl 1 rfl) ?_
          refine q_if_eq hx hb dX3_openView_93 (tgt := 101) (by decide) (by omega) (fun c129 => absurd c129 (by omega)) (fun c129 => ?_)
          refine lv_iload hx hb dX3_openView_96 (lv_at hl 3 rfl) ?_
          refine lv_goto (tgt := 105) hx hb dX3_openView_98 (by decide) ?_
          refine lv_istore (lv' := [(13, .int (iI ((turn (zod σ (zbk σ xb)) xlow)))), (12, .int (iI 1)), (11, .int (iI 1)), (10, .int (iI ((turn (zod σ (zbk σ xb)) xhigh)))), (9, .int (iI ((turn (zod σ (zbk σ xb)) xlow)))), (8, .ref ((grh G (zbk σ xb)))), (7, .ref ((gva G xv))), (0, .ref ((gbg G))), (1, .int (iI xv)), (2, .int (iI xb)), (3, .int (iI xkind)), (4, .int (iI xlow)), (5, .int (iI xhigh)), (6, .int (iI xends))]) hx hb dX3_openView_105 hl (by decide) rfl (fun ls hl => ?_)
          refine lv_iload hx hb dX3_openView_107 (lv_at hl 1 rfl) ?_
          refine q_if_eq hx hb dX3_openView_109 (tgt := 117) (by decide) (by omega) (fun c130 => absurd c130 (by omega)) (fun c130 => ?_)
          refine lv_iload hx hb dX3_openView_112 (lv_at hl 3 rfl) ?_
          refine lv_goto (tgt := 121) hx hb dX3_openView_114 (by decide) ?_
          refine lv_istore (lv' := [(14, .int (iI ((turn (zod σ (zbk σ xb)) xhigh)))), (13, .int (iI ((turn (zod σ (zbk σ xb)) xlow)))), (12, .int (iI 1)), (11, .int (iI 1)), (10, .int (iI ((turn (zod σ (zbk σ xb)) xhigh)))), (9, .int (iI ((turn (zod σ (zbk σ xb)) xlow)))), (8, .ref ((grh G (zbk σ xb)))), (7, .ref ((gva G xv))), (0, .ref ((gbg G))), (1, .int (iI xv)), (2, .int (iI xb)), (3, .int (iI xkind)), (4, .int (iI xlow)), (5, .int (iI xhigh)), (6, .int (iI xends))]) hx hb dX3_openView_121 hl (by decide) rfl (fun ls hl => ?_)
          refine lv_aload hx hb dX3_openView_123 (lv_at hl 7 rfl) ?_
          refine lv_aload hx hb dX3_openView_125 (lv_at hl 6 rfl) ?_
          refine q_put C0 iX1 tyX1 tyX1_ok nmX1 hP hD hS (CP_v hC hb_r1).1 (CP_v hC hb_r1).2 rfl 0 (by decide) flX3_178 rfl rfl rfl rfl (Nat.le_of_ble_eq_true rfl) dX3_openView_127 (fun H locs hP hD hS => ?_)
          obtain ⟨F131, eF131⟩ : ∃ z, z = va_up F (gva G xv) (.inr (3, [.ref ((grh G (zbk σ xb))), .int (iI (zvl σ xv)), .int (iI (zvh σ xv))])) := ⟨_, rfl⟩
          have hP : va_P D vwCl (va_pl L F131) H := by rw [eF131]; exact hP
          have hD : va_D (AL L s.heap.size) (va_pl L F131) := by rw [eF131]; exact hD
          have hvF : F131 (gva G xv) = (.inr (3, [.ref ((grh G (zbk σ xb))), .int (iI (zvl σ xv)), .int (iI (zvh σ xv))])) := by rw [eF131]; exact va_up_self _ _ _
          have hO : OE O F F131 := by rw [eF131]; exact hO.tr (OE1 ((CP_O hC).2.2.2.2.2.1 _ hb_r1.1 hb_r1.2))
          have hC : CP y L F131 O G (sVw σ xv (zbk σ xb) (zvl σ xv) (zvh σ xv)) := by rw [eF131]; exact CP_vw hC hb_r1 (va_up_self _ _ _) (fun q hq => va_up_ne _ _ hq)
          refine lv_aload hx hb dX3_openView_130 (lv_at hl 7 rfl) ?_
          refine lv_iload_n hx hb dX3_openView_132 rfl (lv_at hl 11 rfl) ?_
          refine q_if_ne hx hb dX3_openView_133 (tgt := 140) (by decide) (by omega) (fun c132 => ?_) (fun c132 => ?_)
          · refine lv_iload hx hb dX3_openView_140 (lv_at hl 1 rfl) ?_
            refine q_put C0 iX1 tyX1 tyX1_ok nmX1 hP hD hS (CP_v hC hb_r1).1 hvF rfl 1 (by decide) flX3_182 rfl rfl rfl rfl (Nat.le_of_ble_eq_true rfl) dX3_openView_142 (fun H locs hP hD hS => ?_)
            obtain ⟨F133, eF133⟩ : ∃ z, z = va_up F131 (gva G xv) (.inr (3, [.ref ((grh G (zbk σ xb))), .int (iI ((turn (zod σ (zbk σ xb)) xlow))), .int (iI (zvh σ xv))])) := ⟨_, rfl⟩
            have hP : va_P D vwCl (va_pl L F133) H := by rw [eF133]; exact hP
            have hD : va_D (AL L s.heap.size) (va_pl L F133) := by rw [eF133]; exact hD
            have hvF : F133 (gva G xv) = (.inr (3, [.ref ((grh G (zbk σ xb))), .int (iI ((turn (zod σ (zbk σ xb)) xlow))), .int (iI (zvh σ xv))])) := by rw [eF133]; exact va_up_self _ _ _
            have hO : OE O F F133 := by rw [eF133]; exact hO.tr (OE1 ((CP_O hC).2.2.2.2.2.1 _ hb_r1.1 hb_r1.2))
            have hC : CP y L F133 O G (sVw (sVw σ xv (zbk σ xb) (zvl σ xv) (zvh σ xv)) xv (zbk σ xb) (turn (zod σ (zbk σ xb)) xlow) (zvh σ xv)) := by rw [eF133]; exact CP_vw hC hb_r1 (va_up_self _ _ _) (fun q hq => va_up_ne _ _ hq)
            refine lv_aload hx hb dX3_openView_145 (lv_at hl 7 rfl) ?_
            refine lv_iload_n hx hb dX3_openView_147 rfl (lv_at hl 11 rfl) ?_
            refine q_iconst hx hb dX3_openView_148 ?_
            refine q_icmp_ne hx hb dX3_openView_149 (tgt := 157) (by decide) (by omega) (by omega) (fun c134 => ?_) (fun c134 => ?_)
            · refine lv_iload hx hb dX3_openView_157 (lv_at hl 0 rfl) ?_
              refine q_put C0 iX1 tyX1 tyX1_ok nmX1 hP hD hS (CP_v hC hb_r1).1 hvF rfl 2 (by decide) flX3_185 rfl rfl rfl rfl (Nat.le_of_ble_eq_true rfl) dX3_openView_159 (fun H locs hP hD hS => ?_)
              obtain ⟨F135, eF135⟩ : ∃ z, z = va_up F133 (gva G xv) (.inr (3, [.ref ((grh G (zbk σ xb))), .int (iI ((turn (zod σ (zbk σ xb)) xlow))), .int (iI ((turn (zod σ (zbk σ xb)) xhigh)))])) := ⟨_, rfl⟩
              have hP : va_P D vwCl (va_pl L F135) H := by rw [eF135]; exact hP
              have hD : va_D (AL L s.heap.size) (va_pl L F135) := by rw [eF135]; exact hD
              have hvF : F135 (gva G xv) = (.inr (3, [.ref ((grh G (zbk σ xb))), .int (iI ((turn (zod σ (zbk σ xb)) xlow))), .int (iI ((turn (zod σ (zbk σ xb)) xhigh)))])) := by rw [eF135]; exact va_up_self _ _ _
              have hO : OE O F F135 := by rw [eF135]; exact hO.tr (OE1 ((CP_O hC).2.2.2.2.2.1 _ hb_r1.1 hb_r1.2))
              have hC : CP y L F135 O G (sVw (sVw (sVw σ xv (zbk σ xb) (zvl σ xv) (zvh σ xv)) xv (zbk σ xb) (turn (zod σ (zbk σ xb)) xlow) (zvh σ xv)) xv (zbk σ xb) (turn (zod σ (zbk σ xb)) xlow) (turn (zod σ (zbk σ xb)) xhigh)) := by rw [eF135]; exact CP_vw hC hb_r1 (va_up_self _ _ _) (fun q hq => va_up_ne _ _ hq)
              refine lv_aload hx hb dX3_openView_162 (lv_at hl 6 rfl) ?_
              refine lv_aload hx hb dX3_openView_164 (lv_at hl 7 rfl) ?_
              refine q_get C0 iX1 hP (CP_v hC hb_r1).1 hvF rfl 1 (by decide) flX3_182 rfl rfl dX3_openView_166 ?_
              refine lv_aload hx hb dX3_openView_169 (lv_at hl 7 rfl) ?_
              refine q_get C0 iX1 hP (CP_v hC hb_r1).1 hvF rfl 2 (by decide) flX3_185 rfl rfl dX3_openView_171 ?_
              refine q_vS C0 lX3_188 (c_X0_countOfPart l D y L F135 (grh G (zbk σ xb)) (grw G (zbk σ xb)) (zod σ (zbk σ xb)) ((zst σ (zbk σ xb)).1) ((zst σ (zbk σ xb)).2.1) ((zst σ (zbk σ xb)).2.2) (turn (zod σ (zbk σ xb)) xlow) (turn (zod σ (zbk σ xb)) xhigh) (CP_r hC (hW.1 xb)) (by omega) (by omega)) ⟨rfl, rfl⟩ rfl hP (CP_r hC (hW.1 xb)).1 (CP_r hC (hW.1 xb)).2.1 rfl rfl rfl hl rfl (Nat.le_of_ble_eq_true rfl) dX3_openView_174 ⟨Nat.le_of_ble_eq_true rfl, Nat.le_of_ble_eq_true rfl⟩ (fun r136 e_r136 => ?_)
              subst e_r136
              refine W.widen (k := 8) (n := 60) (Nat.le_of_ble_eq_true rfl) (Nat.le_of_ble_eq_true rfl) ?_
              exact vx_ret (q_retMi C0 hret rfl hlk dX3_openView_177 hP hD hS (⟨by omega, by omega, (by unfold kR_openView; rw [if_neg (by omega), show oLo (zod σ (zbk σ xb)) xkind xlow xends = (turn (zod σ (zbk σ xb)) xlow) by (unfold oLo; (repeat' split) <;> first | rfl | omega), show oHi (zod σ (zbk σ xb)) xkind xhigh xends = (turn (zod σ (zbk σ xb)) xhigh) by (unfold oHi; (repeat' split) <;> first | rfl | omega)]), O, G, CP_eq hC (by rw [sVw2, sVw2]; unfold kS_openView; rw [if_neg (by omega), show oLo (zod σ (zbk σ xb)) xkind xlow xends = (turn (zod σ (zbk σ xb)) xlow) by (unfold oLo; (repeat' split) <;> first | rfl | omega), show oHi (zod σ (zbk σ xb)) xkind xhigh xends = (turn (zod σ (zbk σ xb)) xhigh) by (unfold oHi; (repeat' split) <;> first | rfl | omega)]), rfl, Ext0 hO⟩))
            · refine q_bipush hx hb dX3_openView_152 (by decide) ?_
              refine lv_goto (tgt := 159) hx hb dX3_openView_154 (by decide) ?_
              refine q_put C0 iX1 tyX1 tyX1_ok nmX1 hP hD hS (CP_v hC hb_r1).1 hvF rfl 2 (by decide) flX3_185 rfl rfl rfl rfl (Nat.le_of_ble_eq_true rfl) dX3_openView_159 (fun H locs hP hD hS => ?_)
              obtain ⟨F137, eF137⟩ : ∃ z, z = va_up F133 (gva G xv) (.inr (3, [.ref ((grh G (zbk σ xb))), .int (iI ((turn (zod σ (zbk σ xb)) xlow))), .int (iI 99)])) := ⟨_, rfl⟩
              have hP : va_P D vwCl (va_pl L F137) H := by rw [eF137]; exact hP
              have hD : va_D (AL L s.heap.size) (va_pl L F137) := by rw [eF137]; exact hD
              have hvF : F137 (gva G xv) = (.inr (3, [.ref ((grh G (zbk σ xb))), .int (iI ((turn (zod σ (zbk σ xb)) xlow))), .int (iI 99)])) := by rw [eF137]; exact va_up_self _ _ _
              have hO : OE O F F137 := by rw [eF137]; exact hO.tr (OE1 ((CP_O hC).2.2.2.2.2.1 _ hb_r1.1 hb_r1.2))
              have hC : CP y L F137 O G (sVw (sVw (sVw σ xv (zbk σ xb) (zvl σ xv) (zvh σ xv)) xv (zbk σ xb) (turn (zod σ (zbk σ xb)) xlow) (zvh σ xv)) xv (zbk σ xb) (turn (zod σ (zbk σ xb)) xlow) 99) := by rw [eF137]; exact CP_vw hC hb_r1 (va_up_self _ _ _) (fun q hq => va_up_ne _ _ hq)
              refine lv_aload hx hb dX3_openView_162 (lv_at hl 6 rfl) ?_
              refine lv_aload hx hb dX3_openView_164 (lv_at hl 7 rfl) ?_
              refine q_get C0 iX1 hP (CP_v hC hb_r1).1 hvF rfl 1 (by decide) flX3_182 rfl rfl dX3_openView_166 ?_
              refine lv_aload hx hb dX3_openView_169 (lv_at hl 7 rfl) ?_
              refine q_get C0 iX1 hP (CP_v hC hb_r1).1 hvF rfl 2 (by decide) flX3_185 rfl rfl dX3_openView_171 ?_
              refine q_vS C0 lX3_188 (c_X0_countOfPart l D y L F137 (grh G (zbk σ xb)) (grw G (zbk σ xb)) (zod σ (zbk σ xb)) ((zst σ (zbk σ xb)).1) ((zst σ (zbk σ xb)).2.1) ((zst σ (zbk σ xb)).2.2) (turn (zod σ (zbk σ xb)) xlow) 99 (CP_r hC (hW.1 xb)) (by omega) (by omega)) ⟨rfl, rfl⟩ rfl hP (CP_r hC (hW.1 xb)).1 (CP_r hC (hW.1 xb)).2.1 rfl rfl rfl hl rfl (Nat.le_of_ble_eq_true rfl) dX3_openView_174 ⟨Nat.le_of_ble_eq_true rfl, Nat.le_of_ble_eq_true rfl⟩ (fun r138 e_r138 => ?_)
              subst e_r138
              refine W.widen (k := 8) (n := 60) (Nat.le_of_ble_eq_true rfl) (Nat.le_of_ble_eq_true rfl) ?_
              exact vx_ret (q_retMi C0 hret rfl hlk dX3_openView_177 hP hD hS (⟨by omega, by omega, (by unfold kR_openView; rw [if_neg (by omega), show oLo (zod σ (zbk σ xb)) xkind xlow xends = (turn (zod σ (zbk σ xb)) xlow) by (unfold oLo; (repeat' split) <;> first | rfl | omega), show oHi (zod σ (zbk σ xb)) xkind xhigh xends = 99 by (unfold oHi; (repeat' split) <;> first | rfl | omega)]), O, G, CP_eq hC (by rw [sVw2, sVw2]; unfold kS_openView; rw [if_neg (by omega), show oLo (zod σ (zbk σ xb)) xkind xlow xends = (turn (zod σ (zbk σ xb)) xlow) by (unfold oLo; (repeat' split) <;> first | rfl | omega), show oHi (zod σ (zbk σ xb)) xkind xhigh xends = 99 by (unfold oHi; (repeat' split) <;> first | rfl | omega)]), rfl, Ext0 hO⟩))
          · refine q_iconst hx hb dX3_openView_136 ?_
            refine lv_goto (tgt := 142) hx hb dX3_openView_137 (by decide) ?_
            refine q_put C0 iX1 tyX1 tyX1_ok nmX1 hP hD hS (CP_v hC hb_r1).1 hvF rfl 1 (by decide) flX3_182 rfl rfl rfl rfl (Nat.le_of_ble_eq_true rfl) dX3_openView_142 (fun H locs hP hD hS => ?_)
            obtain ⟨F139, eF139⟩ : ∃ z, z = va_up F131 (gva G xv) (.inr (3, [.ref ((grh G (zbk σ xb))), .int (iI 0), .int (iI (zvh σ xv))])) := ⟨_, rfl⟩
            have hP : va_P D vwCl (va_pl L F139) H := by rw [eF139]; exact hP
            have hD : va_D (AL L s.heap.size) (va_pl L F139) := by rw [eF139]; exact hD
            have hvF : F139 (gva G xv) = (.inr (3, [.ref ((grh G (zbk σ xb))), .int (iI 0), .int (iI (zvh σ xv))])) := by rw [eF139]; exact va_up_self _ _ _
            have hO : OE O F F139 := by rw [eF139]; exact hO.tr (OE1 ((CP_O hC).2.2.2.2.2.1 _ hb_r1.1 hb_r1.2))
            have hC : CP y L F139 O G (sVw (sVw σ xv (zbk σ xb) (zvl σ xv) (zvh σ xv)) xv (zbk σ xb) 0 (zvh σ xv)) := by rw [eF139]; exact CP_vw hC hb_r1 (va_up_self _ _ _) (fun q hq => va_up_ne _ _ hq)
            refine lv_aload hx hb dX3_openView_145 (lv_at hl 7 rfl) ?_
            refine lv_iload_n hx hb dX3_openView_147 rfl (lv_at hl 11 rfl) ?_
            refine q_iconst hx hb dX3_openView_148 ?_
            refine q_icmp_ne hx hb dX3_openView_149 (tgt := 157) (by decide) (by omega) (by omega) (fun c140 => ?_) (fun c140 => ?_)
            · refine lv_iload hx hb dX3_openView_157 (lv_at hl 0 rfl) ?_
              refine q_put C0 iX1 tyX1 tyX1_ok nmX1 hP hD hS (CP_v hC hb_r1).1 hvF rfl 2 (by decide) flX3_185 rfl rfl rfl rfl (Nat.le_of_ble_eq_true rfl) dX3_openView_159 (fun H locs hP hD hS => ?_)
              obtain ⟨F141, eF141⟩ : ∃ z, z = va_up F139 (gva G xv) (.inr (3, [.ref ((grh G (zbk σ xb))), .int (iI 0), .int (iI ((turn (zod σ (zbk σ xb)) xhigh)))])) := ⟨_, rfl⟩
              have hP : va_P D vwCl (va_pl L F141) H := by rw [eF141]; exact hP
              have hD : va_D (AL L s.heap.size) (va_pl L F141) := by rw [eF141]; exact hD
              have hvF : F141 (gva G xv) = (.inr (3, [.ref ((grh G (zbk σ xb))), .int (iI 0), .int (iI ((turn (zod σ (zbk σ xb)) xhigh)))])) := by rw [eF141]; exact va_up_self _ _ _
              have hO : OE O F F141 := by rw [eF141]; exact hO.tr (OE1 ((CP_O hC).2.2.2.2.2.1 _ hb_r1.1 hb_r1.2))
              have hC : CP y L F141 O G (sVw (sVw (sVw σ xv (zbk σ xb) (zvl σ xv) (zvh σ xv)) xv (zbk σ xb) 0 (zvh σ xv)) xv (zbk σ xb) 0 (turn (zod σ (zbk σ xb)) xhigh)) := by rw [eF141]; exact CP_vw hC hb_r1 (va_up_self _ _ _) (fun q hq => va_up_ne _ _ hq)
              refine lv_aload hx hb dX3_openView_162 (lv_at hl 6 rfl) ?_
              refine lv_aload hx hb dX3_openView_164 (lv_at hl 7 rfl) ?_
              refine q_get C0 iX1 hP (CP_v hC hb_r1).1 hvF rfl 1 (by decide) flX3_182 rfl rfl dX3_openView_166 ?_
              refine lv_aload hx hb dX3_openView_169 (lv_at hl 7 rfl) ?_
              refine q_get C0 iX1 hP (CP_v hC hb_r1).1 hvF rfl 2 (by decide) flX3_185 rfl rfl dX3_openView_171 ?_
              refine q_vS C0 lX3_188 (c_X0_countOfPart l D y L F141 (grh G (zbk σ xb)) (grw G (zbk σ xb)) (zod σ (zbk σ xb)) ((zst σ (zbk σ xb)).1) ((zst σ (zbk σ xb)).2.1) ((zst σ (zbk σ xb)).2.2) 0 (turn (zod σ (zbk σ xb)) xhigh) (CP_r hC (hW.1 xb)) (by omega) (by omega)) ⟨rfl, rfl⟩ rfl hP (CP_r hC (hW.1 xb)).1 (CP_r hC (hW.1 xb)).2.1 rfl rfl rfl hl rfl (Nat.le_of_ble_eq_true rfl) dX3_openView_174 ⟨Nat.le_of_ble_eq_true rfl, Nat.le_of_ble_eq_true rfl⟩ (fun r142 e_r142 => ?_)
              subst e_r142
              refine W.widen (k := 8) (n := 60) (Nat.le_of_ble_eq_true rfl) (Nat.le_of_ble_eq_true rfl) ?_
              exact vx_ret (q_retMi C0 hret rfl hlk dX3_openView_177 hP hD hS (⟨by omega, by omega, (by unfold kR_openView; rw [if_neg (by omega), show oLo (zod σ (zbk σ xb)) xkind xlow xends = 0 by (unfold oLo; (repeat' split) <;> first | rfl | omega), show oHi (zod σ (zbk σ xb)) xkind xhigh xends = (turn (zod σ (zbk σ xb)) xhigh) by (unfold oHi; (repeat' split) <;> first | rfl | omega)]), O, G, CP_eq hC (by rw [sVw2, sVw2]; unfold kS_openView; rw [if_neg (by omega), show oLo (zod σ (zbk σ xb)) xkind xlow xends = 0 by (unfold oLo; (repeat' split) <;> first | rfl | omega), show oHi (zod σ (zbk σ xb)) xkind xhigh xends = (turn (zod σ (zbk σ xb)) xhigh) by (unfold oHi; (repeat' split) <;> first | rfl | omega)]), rfl, Ext0 hO⟩))
            · refine q_bipush hx hb dX3_openView_152 (by decide) ?_
              refine lv_goto (tgt := 159) hx hb dX3_openView_154 (by decide) ?_
              refine q_put C0 iX1 tyX1 tyX1_ok nmX1 hP hD hS (CP_v hC hb_r1).1 hvF rfl 2 (by decide) flX3_185 rfl rfl rfl rfl (Nat.le_of_ble_eq_true rfl) dX3_openView_159 (fun H locs hP hD hS => ?_)
              obtain ⟨F143, eF143⟩ : ∃ z, z = va_up F139 (gva G xv) (.inr (3, [.ref ((grh G (zbk σ xb))), .int (iI 0), .int (iI 99)])) := ⟨_, rfl⟩
              have hP : va_P D vwCl (va_pl L F143) H := by rw [eF143]; exact hP
              have hD : va_D (AL L s.heap.size) (va_pl L F143) := by rw [eF143]; exact hD
              have hvF : F143 (gva G xv) = (.inr (3, [.ref ((grh G (zbk σ xb))), .int (iI 0), .int (iI 99)])) := by rw [eF143]; exact va_up_self _ _ _
              have hO : OE O F F143 := by rw [eF143]; exact hO.tr (OE1 ((CP_O hC).2.2.2.2.2.1 _ hb_r1.1 hb_r1.2))
              have hC : CP y L F143 O G (sVw (sVw (sVw σ xv (zbk σ xb) (zvl σ xv) (zvh σ xv)) xv (zbk σ xb) 0 (zvh σ xv)) xv (zbk σ xb) 0 99) := by rw [eF143]; exact CP_vw hC hb_r1 (va_up_self _ _ _) (fun q hq => va_up_ne _ _ hq)
              refine lv_aload hx hb dX3_openView_162 (lv_at hl 6 rfl) ?_
              refine lv_aload hx hb dX3_openView_164 (lv_at hl 7 rfl) ?_
              refine q_get C0 iX1 hP (CP_v hC hb_r1).1 hvF rfl 1 (by decide) flX3_182 rfl rfl dX3_openView_166 ?_
              refine lv_aload hx hb dX3_openView_169 (lv_at hl 7 rfl) ?_
              refine q_get C0 iX1 hP (CP_v hC hb_r1).1 hvF rfl 2 (by decide) flX3_185 rfl rfl dX3_openView_171 ?_
              refine q_vS C0 lX3_188 (c_X0_countOfPart l D y L F143 (grh G (zbk σ xb)) (grw G (zbk σ xb)) (zod σ (zbk σ xb)) ((zst σ (zbk σ xb)).1) ((zst σ (zbk σ xb)).2.1) ((zst σ (zbk σ xb)).2.2) 0 99 (CP_r hC (hW.1 xb)) (by omega) (by omega)) ⟨rfl, rfl⟩ rfl hP (CP_r hC (hW.1 xb)).1 (CP_r hC (hW.1 xb)).2.1 rfl rfl rfl hl rfl (Nat.le_of_ble_eq_true rfl) dX3_openView_174 ⟨Nat.le_of_ble_eq_true rfl, Nat.le_of_ble_eq_true rfl⟩ (fun r144 e_r144 => ?_)
              subst e_r144
              refine W.widen (k := 8) (n := 60) (Nat.le_of_ble_eq_true rfl) (Nat.le_of_ble_eq_true rfl) ?_
              exact vx_ret (q_retMi C0 hret rfl hlk dX3_openView_177 hP hD hS (⟨by omega, by omega, (by unfold kR_openView; rw [if_neg (by omega), show oLo (zod σ (zbk σ xb)) xkind xlow xends = 0 by (unfold oLo; (repeat' split) <;> first | rfl | omega), show oHi (zod σ (zbk σ xb)) xkind xhigh xends = 99 by (unfold oHi; (repeat' split) <;> first | rfl | omega)]), O, G, CP_eq hC (by rw [sVw2, sVw2]; unfold kS_openView; rw [if_neg (by omega), show oLo (zod σ (zbk σ xb)) xkind xlow xends = 0 by (unfold oLo; (repeat' split) <;> first | rfl | omega), show oHi (zod σ (zbk σ xb)) xkind xhigh xends = 99 by (unfold oHi; (repeat' split) <;> first | rfl | omega)]), rfl, Ext0 hO⟩))
    · refine lv_aload_n hx hb dX3_openView_58 rfl (lv_at hl 4 rfl) ?_
      refine q_vMi C0 lX3_63 (c_X3_refuse l D y L F _ O G σ hC) ⟨rfl, rfl⟩ rfl hP hD hS hA hC.1.1 hC.1.2 rfl rfl rfl hl rfl (Nat.le_of_ble_eq_true rfl) dX3_openView_59 ⟨Nat.le_of_ble_eq_true rfl, Nat.le_of_ble_eq_true rfl⟩ (fun r145 H locs L146 F146 hP hD hS hz146 hp146 => ?_)
      obtain ⟨eL, hC, er, hO1⟩ := hp146
      subst eL
      subst er
      have hO := hO.tr hO1
      refine W.widen (k := 8) (n := 60) (Nat.le_of_ble_eq_true rfl) (Nat.le_of_ble_eq_true rfl) ?_
      exact vx_ret (q_retMi C0 hret rfl hlk dX3_openView_62 hP hD hS (⟨by omega, by omega, (by unfold kR_openView; rw [if_pos (by omega)]), O, G, CP_eq hC (by unfold kS_openView; rw [if_pos (by omega)]), rfl, Ext0 hO⟩))
