set_option maxHeartbeats 3000000 in
set_option maxRecDepth 100000 in
theorem c_X3_openView (l : Launch) (hfl : l.stackTraces = false) (D : va_G) (y : Nat → ClassId) (L : List Nat) (F : Nat → va_E) (sz : Nat) (O : Nat → Prop) (G : CG) (σ : CS) (xv : Int) (xb : Int) (xkind : Int) (xlow : Int) (xhigh : Int) (xends : Int) (hC : CP y L F O G σ) (hW : CW σ) (h_xv : -2147483648 ≤ xv ∧ xv ≤ 2147483647) (h_xb : -2147483648 ≤ xb ∧ xb ≤ 2147483647) (h_xkind : -2147483648 ≤ xkind ∧ xkind ≤ 2147483647) (h_xlow : -2147483648 ≤ xlow ∧ xlow ≤ 2147483647) (h_xhigh : -2147483648 ≤ xhigh ∧ xhigh ≤ 2147483647) (h_xends : -2147483648 ≤ xends ∧ xends ≤ 2147483647) : vx_Met l yX3_openView (.code yX3_openView cX3_openView 15 (some .int) :: Tt) ({ frames := 8, cells := 8, slots := 60, locals := 125 }) (PcX D y L F sz [.ref ((gbg G)), .int (iI xv), .int (iI xb), .int (iI xkind), .int (iI xlow), .int (iI xhigh), .int (iI xends)]) (cMi D (AL L sz) (fun r L1 F1 => ((0 ≤ xv ∧ xv ≤ 1) ∧ (0 ≤ xb ∧ xb ≤ 3)) ∧ ((0 ≤ xkind ∧ xkind ≤ 2) ∧ (0 ≤ xlow ∧ xlow ≤ 99) ∧ (0 ≤ xhigh ∧ xhigh ≤ 99) ∧ (0 ≤ xends ∧ xends ≤ 3)) ∧ r = kR_openView σ xv xb xkind xlow xhigh xends ∧ ∃ O1 G1, CP y L1 F1 O1 G1 (kS_openView σ xv xb xkind xlow xhigh xends) ∧ gbg G1 = gbg G ∧ Ext O O1 L L1 F F1)) (XC (pX ((0 ≤ xv ∧ xv ≤ 1) ∧ (0 ≤ xb ∧ xb ≤ 3)) ((0 ≤ xkind ∧ xkind ≤ 2) ∧ (0 ≤ xlow ∧ xlow ≤ 99) ∧ (0 ≤ xhigh ∧ xhigh ≤ 99) ∧ (0 ≤ xends ∧ xends ≤ 3)))) 8 60 (AL L sz) := by
  have ab1 := andI_b xends 1
  have ab2 := andI_b xends 2
  have hO : OE O F F := fun _ _ => rfl
  have hw4 := hW.2.2.2.2.2.1
  have hw5 := hW.2.2.2.2.2.2.1
  have hw6 := hW.2.2.2.2.2.2.2.2.2.2
  refine q_ofX (lv := [(0, .ref ((gbg G))), (1, .int (iI xv)), (2, .int (iI xb)), (3, .int (iI xkind)), (4, .int (iI xlow)), (5, .int (iI xhigh)), (6, .int (iI xends))]) (by decide) (Nat.le_of_ble_eq_true rfl) rfl (fun p e s m below meth c C0 hret hlk hout hsz hA hP hD hS hX ls hl => ?_)
  subst hsz
  have hx := C0.1.1
  have hb := C0.1.2.1
  have hts := C0.1.2.2.2.2
  refine lv_aload_n hx hb dX3_openView_0 rfl (lv_at hl 0 rfl) ?_
  refine lv_iload_n hx hb dX3_openView_1 rfl (lv_at hl 1 rfl) ?_
  refine q_vXa C0 lX3_171 (c_X3_viewAt l hfl D y L F _ O G σ xv hC (by omega)) ⟨rfl, rfl⟩ rfl hP hD hX hout hlk hC.1.1 hC.1.2 rfl rfl rfl hl rfl (Nat.le_of_ble_eq_true rfl) dX3_openView_2 ⟨Nat.le_of_ble_eq_true rfl, Nat.le_of_ble_eq_true rfl⟩ ⟨Nat.le_of_ble_eq_true rfl, Nat.le_of_ble_eq_true rfl⟩ (fun E h => Or.inl ⟨h.1, fun q => h.2 (by omega)⟩) (fun r1 e_r1 => ?_)
  refine W.widen (k := 1) (n := 6) (Nat.le_of_ble_eq_true rfl) (Nat.le_of_ble_eq_true rfl) ?_
  obtain ⟨hb_r1, e_r1⟩ := e_r1
  subst e_r1
  have hv_r1 := hW.2.2.2.2.1 xv
  refine lv_astore (lv' := [(7, .ref ((gva G xv))), (0, .ref ((gbg G))), (1, .int (iI xv)), (2, .int (iI xb)), (3, .int (iI xkind)), (4, .int (iI xlow)), (5, .int (iI xhigh)), (6, .int (iI xends))]) hx hb dX3_openView_5 hl (by decide) rfl (fun ls hl => ?_)
  refine lv_aload_n hx hb dX3_openView_7 rfl (lv_at hl 1 rfl) ?_
  refine lv_iload_n hx hb dX3_openView_8 rfl (lv_at hl 3 rfl) ?_
  refine q_vXa C0 lX3_37 (c_X3_bookAt l hfl D y L F _ O G σ xb hC (by omega)) ⟨rfl, rfl⟩ rfl hP hD hX hout hlk hC.1.1 hC.1.2 rfl rfl rfl hl rfl (Nat.le_of_ble_eq_true rfl) dX3_openView_9 ⟨Nat.le_of_ble_eq_true rfl, Nat.le_of_ble_eq_true rfl⟩ ⟨Nat.le_of_ble_eq_true rfl, Nat.le_of_ble_eq_true rfl⟩ (fun E h => Or.inl ⟨h.1, fun q => h.2 (by omega)⟩) (fun r2 e_r2 => ?_)
  refine W.widen (k := 2) (n := 12) (Nat.le_of_ble_eq_true rfl) (Nat.le_of_ble_eq_true rfl) ?_
  obtain ⟨hb_r2, e_r2⟩ := e_r2
  subst e_r2
  refine lv_astore (lv' := [(8, .ref ((grh G (zbk σ xb)))), (7, .ref ((gva G xv))), (0, .ref ((gbg G))), (1, .int (iI xv)), (2, .int (iI xb)), (3, .int (iI xkind)), (4, .int (iI xlow)), (5, .int (iI xhigh)), (6, .int (iI xends))]) hx hb dX3_openView_12 hl (by decide) rfl (fun ls hl => ?_)
  refine lv_iload_n hx hb dX3_openView_14 rfl (lv_at hl 5 rfl) ?_
  refine lv_iload hx hb dX3_openView_15 (lv_at hl 6 rfl) ?_
  refine lv_iload hx hb dX3_openView_17 (lv_at hl 7 rfl) ?_
  refine q_sXv C0 lX3_175 (c_X3_checkKindAndBounds l hfl D y L F _ xkind xlow xhigh (by omega) (by omega) (by omega)) ⟨rfl, rfl⟩ rfl hP hD hX hout hlk rfl hl rfl (Nat.le_of_ble_eq_true rfl) dX3_openView_19 ⟨Nat.le_of_ble_eq_true rfl, Nat.le_of_ble_eq_true rfl⟩ ⟨Nat.le_of_ble_eq_true rfl, Nat.le_of_ble_eq_true rfl⟩ (fun E h => Or.inr ⟨h.1, by first | trivial | omega, fun q => h.2 (by omega)⟩) (fun _ e_r3 => ?_)
  refine W.widen (k := 5) (n := 30) (Nat.le_of_ble_eq_true rfl) (Nat.le_of_ble_eq_true rfl) ?_
  refine lv_iload hx hb dX3_openView_22 (lv_at hl 8 rfl) ?_
  refine q_iconst hx hb dX3_openView_24 ?_
  refine q_sXv C0 lX3_41 (c_X3_checkUpTo l hfl D y L F _ xends 3 (by omega) (by omega)) ⟨rfl, rfl⟩ rfl hP hD hX hout hlk rfl hl rfl (Nat.le_of_ble_eq_true rfl) dX3_openView_25 ⟨Nat.le_of_ble_eq_true rfl, Nat.le_of_ble_eq_true rfl⟩ ⟨Nat.le_of_ble_eq_true rfl, Nat.le_of_ble_eq_true rfl⟩ (fun E h => Or.inr ⟨h.1, by first | trivial | omega, fun q => h.2 (by omega)⟩) (fun _ e_r4 => ?_)
  refine W.widen (k := 6) (n := 36) (Nat.le_of_ble_eq_true rfl) (Nat.le_of_ble_eq_true rfl) ?_
  refine lv_aload hx hb dX3_openView_28 (lv_at hl 0 rfl) ?_
  refine lv_iload hx hb dX3_openView_30 (lv_at hl 6 rfl) ?_
  refine q_vS C0 lX3_70 (c_X0_rankOf l D y L F (grh G (zbk σ xb)) (grw G (zbk σ xb)) (zod σ (zbk σ xb)) ((zst σ (zbk σ xb)).1) ((zst σ (zbk σ xb)).2.1) ((zst σ (zbk σ xb)).2.2) xlow (CP_r hC (hW.1 xb)) (by omega)) ⟨rfl, rfl⟩ rfl hP (CP_r hC (hW.1 xb)).1 (CP_r hC (hW.1 xb)).2.1 rfl rfl rfl hl rfl (Nat.le_of_ble_eq_true rfl) dX3_openView_32 ⟨Nat.le_of_ble_eq_true rfl, Nat.le_of_ble_eq_true rfl⟩ (fun r5 e_r5 => ?_)
  subst e_r5
  have b_6 := @turn_b (zod σ (zbk σ xb)) xlow (by omega)
  refine lv_istore (lv' := [(9, .int (iI ((turn (zod σ (zbk σ xb)) xlow)))), (8, .ref ((grh G (zbk σ xb)))), (7, .ref ((gva G xv))), (0, .ref ((gbg G))), (1, .int (iI xv)), (2, .int (iI xb)), (3, .int (iI xkind)), (4, .int (iI xlow)), (5, .int (iI xhigh)), (6, .int (iI xends))]) hx hb dX3_openView_35 hl (by decide) rfl (fun ls hl => ?_)
  refine lv_aload hx hb dX3_openView_37 (lv_at hl 1 rfl) ?_
  refine lv_iload hx hb dX3_openView_39 (lv_at hl 8 rfl) ?_
  refine q_vS C0 lX3_70 (c_X0_rankOf l D y L F (grh G (zbk σ xb)) (grw G (zbk σ xb)) (zod σ (zbk σ xb)) ((zst σ (zbk σ xb)).1) ((zst σ (zbk σ xb)).2.1) ((zst σ (zbk σ xb)).2.2) xhigh (CP_r hC (hW.1 xb)) (by omega)) ⟨rfl, rfl⟩ rfl hP (CP_r hC (hW.1 xb)).1 (CP_r hC (hW.1 xb)).2.1 rfl rfl rfl hl rfl (Nat.le_of_ble_eq_true rfl) dX3_openView_41 ⟨Nat.le_of_ble_eq_true rfl, Nat.le_of_ble_eq_true rfl⟩ (fun r7 e_r7 => ?_)
  subst e_r7
  have b_8 := @turn_b (zod σ (zbk σ xb)) xhigh (by omega)
  refine lv_istore (lv' := [(10, .int (iI ((turn (zod σ (zbk σ xb)) xhigh)))), (9, .int (iI ((turn (zod σ (zbk σ xb)) xlow)))), (8, .ref ((grh G (zbk σ xb)))), (7, .ref ((gva G xv))), (0, .ref ((gbg G))), (1, .int (iI xv)), (2, .int (iI xb)), (3, .int (iI xkind)), (4, .int (iI xlow)), (5, .int (iI xhigh)), (6, .int (iI xends))]) hx hb dX3_openView_44 hl (by decide) rfl (fun ls hl => ?_)
  refine lv_iload_n hx hb dX3_openView_46 rfl (lv_at hl 7 rfl) ?_
  refine q_iconst hx hb dX3_openView_47 ?_
  refine q_icmp_ne hx hb dX3_openView_48 (tgt := 63) (by decide) (by omega) (by omega) (fun c9 => ?_) (fun c9 => ?_)
  · refine lv_iload hx hb dX3_openView_63 (lv_at hl 10 rfl) ?_
    refine q_iconst hx hb dX3_openView_65 ?_
    refine q_iand hx hb dX3_openView_66 ?_
    refine q_if_eq hx hb dX3_openView_67 (tgt := 74) (by decide) (by omega) (fun c10 => ?_) (fun c10 => ?_)
    · refine q_iconst hx hb dX3_openView_74 ?_
      refine lv_istore (lv' := [(11, .int (iI 0)), (10, .int (iI ((turn (zod σ (zbk σ xb)) xhigh)))), (9, .int (iI ((turn (zod σ (zbk σ xb)) xlow)))), (8, .ref ((grh G (zbk σ xb)))), (7, .ref ((gva G xv))), (0, .ref ((gbg G))), (1, .int (iI xv)), (2, .int (iI xb)), (3, .int (iI xkind)), (4, .int (iI xlow)), (5, .int (iI xhigh)), (6, .int (iI xends))]) hx hb dX3_openView_75 hl (by decide) rfl (fun ls hl => ?_)
      refine lv_iload hx hb dX3_openView_77 (lv_at hl 11 rfl) ?_
      refine q_iconst hx hb dX3_openView_79 ?_
      refine q_iand hx hb dX3_openView_80 ?_
      refine q_if_eq hx hb dX3_openView_81 (tgt := 88) (by decide) (by omega) (fun c11 => ?_) (fun c11 => ?_)
      · refine q_iconst hx hb dX3_openView_88 ?_
        refine lv_istore (lv' := [(12, .int (iI 0)), (11, .int (iI 0)), (10, .int (iI ((turn (zod σ (zbk σ xb)) xhigh)))), (9, .int (iI ((turn (zod σ (zbk σ xb)) xlow)))), (8, .ref ((grh G (zbk σ xb)))), (7, .ref ((gva G xv))), (0, .ref ((gbg G))), (1, .int (iI xv)), (2, .int (iI xb)), (3, .int (iI xkind)), (4, .int (iI xlow)), (5, .int (iI xhigh)), (6, .int (iI xends))]) hx hb dX3_openView_89 hl (by decide) rfl (fun ls hl => ?_)
        refine lv_iload hx hb dX3_openView_91 (lv_at hl 1 rfl) ?_
        refine q_if_eq hx hb dX3_openView_93 (tgt := 101) (by decide) (by omega) (fun c12 => ?_) (fun c12 => absurd c12 (by omega))
        refine lv_iload hx hb dX3_openView_101 (lv_at hl 3 rfl) ?_
        refine q_iconst hx hb dX3_openView_103 ?_
        refine q_iadd hx hb dX3_openView_104 ?_
        refine lv_istore (lv' := [(13, .int (iI (((turn (zod σ (zbk σ xb)) xlow) + 1)))), (12, .int (iI 0)), (11, .int (iI 0)), (10, .int (iI ((turn (zod σ (zbk σ xb)) xhigh)))), (9, .int (iI ((turn (zod σ (zbk σ xb)) xlow)))), (8, .ref ((grh G (zbk σ xb)))), (7, .ref ((gva G xv))), (0, .ref ((gbg G))), (1, .int (iI xv)), (2, .int (iI xb)), (3, .int (iI xkind)), (4, .int (iI xlow)), (5, .int (iI xhigh)), (6, .int (iI xends))]) hx hb dX3_openView_105 hl (by decide) rfl (fun ls hl => ?_)
        refine lv_iload hx hb dX3_openView_107 (lv_at hl 1 rfl) ?_
        refine q_if_eq hx hb dX3_openView_109 (tgt := 117) (by decide) (by omega) (fun c13 => ?_) (fun c13 => absurd c13 (by omega))
        refine lv_iload hx hb dX3_openView_117 (lv_at hl 3 rfl) ?_
        refine q_iconst hx hb dX3_openView_119 ?_
        refine q_isub hx hb dX3_openView_120 ?_
        refine lv_istore (lv' := [(14, .int (iI (((turn (zod σ (zbk σ xb)) xhigh) - 1)))), (13, .int (iI (((turn (zod σ (zbk σ xb)) xlow) + 1)))), (12, .int (iI 0)), (11, .int (iI 0)), (10, .int (iI ((turn (zod σ (zbk σ xb)) xhigh)))), (9, .int (iI ((turn (zod σ (zbk σ xb)) xlow)))), (8, .ref ((grh G (zbk σ xb)))), (7, .ref ((gva G xv))), (0, .ref ((gbg G))), (1, .int (iI xv)), (2, .int (iI xb)), (3, .int (iI xkind)), (4, .int (iI xlow)), (5, .int (iI xhigh)), (6, .int (iI xends))]) hx hb dX3_openView_121 hl (by decide) rfl (fun ls hl => ?_)
        refine lv_aload hx hb dX3_openView_123 (lv_at hl 7 rfl) ?_
        refine lv_aload hx hb dX3_openView_125 (lv_at hl 6 rfl) ?_
        refine q_put C0 iX1 tyX1 tyX1_ok nmX1 hP hD hS (CP_v hC hb_r1).1 (CP_v hC hb_r1).2 rfl 0 (by decide) flX3_178 rfl rfl rfl rfl (Nat.le_of_ble_eq_true rfl) dX3_openView_127 (fun H locs hP hD hS => ?_)
        obtain ⟨F14, eF14⟩ : ∃ z, z = va_up F (gva G xv) (.inr (3, [.ref ((grh G (zbk σ xb))), .int (iI (zvl σ xv)), .int (iI (zvh σ xv))])) := ⟨_, rfl⟩
        have hP : va_P D vwCl (va_pl L F14) H := by rw [eF14]; exact hP
        have hD : va_D (AL L s.heap.size) (va_pl L F14) := by rw [eF14]; exact hD
        have hvF : F14 (gva G xv) = (.inr (3, [.ref ((grh G (zbk σ xb))), .int (iI (zvl σ xv)), .int (iI (zvh σ xv))])) := by rw [eF14]; exact va_up_self _ _ _
        have hO : OE O F F14 := by rw [eF14]; exact hO.tr (OE1 ((CP_O hC).2.2.2.2.2.1 _ hb_r1.1 hb_r1.2))
        have hC : CP y L F14 O G (sVw σ xv (zbk σ xb) (zvl σ xv) (zvh σ xv)) := by rw [eF14]; exact CP_vw hC hb_r1 (va_up_self _ _ _) (fun q hq => va_up_ne _ _ hq)
        refine lv_aload hx hb dX3_openView_130 (lv_at hl 7 rfl) ?_
        refine lv_iload_n hx hb dX3_openView_132 rfl (lv_at hl 11 rfl) ?_
        refine q_if_ne hx hb dX3_openView_133 (tgt := 140) (by decide) (by omega) (fun c15 => ?_) (fun c15 => ?_)
        · refine lv_iload hx hb dX3_openView_140 (lv_at hl 1 rfl) ?_
          refine q_put C0 iX1 tyX1 tyX1_ok nmX1 hP hD hS (CP_v hC hb_r1).1 hvF rfl 1 (by decide) flX3_182 rfl rfl rfl rfl (Nat.le_of_ble_eq_true rfl) dX3_openView_142 (fun H locs hP hD hS => ?_)
          obtain ⟨F16, eF16⟩ : ∃ z, z = va_up F14 (gva G xv) (.inr (3, [.ref ((grh G (zbk σ xb))), .int (iI (((turn (zod σ (zbk σ xb)) xlow) + 1))), .int (iI (zvh σ xv))])) := ⟨_, rfl⟩
          have hP : va_P D vwCl (va_pl L F16) H := by rw [eF16]; exact hP
          have hD : va_D (AL L s.heap.size) (va_pl L F16) := by rw [eF16]; exact hD
          have hvF : F16 (gva G xv) = (.inr (3, [.ref ((grh G (zbk σ xb))), .int (iI (((turn (zod σ (zbk σ xb)) xlow) + 1))), .int (iI (zvh σ xv))])) := by rw [eF16]; exact va_up_self _ _ _
          have hO : OE O F F16 := by rw [eF16]; exact hO.tr (OE1 ((CP_O hC).2.2.2.2.2.1 _ hb_r1.1 hb_r1.2))
          have hC : CP y L F16 O G (sVw (sVw σ xv (zbk σ xb) (zvl σ xv) (zvh σ xv)) xv (zbk σ xb) ((turn (zod σ (zbk σ xb)) xlow) + 1) (zvh σ xv)) := by rw [eF16]; exact CP_vw hC hb_r1 (va_up_self _ _ _) (fun q hq => va_up_ne _ _ hq)
          refine lv_aload hx hb dX3_openView_145 (lv_at hl 7 rfl) ?_
          refine lv_iload_n hx hb dX3_openView_147 rfl (lv_at hl 11 rfl) ?_
          refine q_iconst hx hb dX3_openView_148 ?_
          refine q_icmp_ne hx hb dX3_openView_149 (tgt := 157) (by decide) (by omega) (by omega) (fun c17 => ?_) (fun c17 => ?_)
          · refine lv_iload hx hb dX3_openView_157 (lv_at hl 0 rfl) ?_
            refine q_put C0 iX1 tyX1 tyX1_ok nmX1 hP hD hS (CP_v hC hb_r1).1 hvF rfl 2 (by decide) flX3_185 rfl rfl rfl rfl (Nat.le_of_ble_eq_true rfl) dX3_openView_159 (fun H locs hP hD hS => ?_)
            obtain ⟨F18, eF18⟩ : ∃ z, z = va_up F16 (gva G xv) (.inr (3, [.ref ((grh G (zbk σ xb))), .int (iI (((turn (zod σ (zbk σ xb)) xlow) + 1))), .int (iI (((turn (zod σ (zbk σ xb)) xhigh) - 1)))])) := ⟨_, rfl⟩
            have hP : va_P D vwCl (va_pl L F18) H := by rw [eF18]; exact hP
            have hD : va_D (AL L s.heap.size) (va_pl L F18) := by rw [eF18]; exact hD
            have hvF : F18 (gva G xv) = (.inr (3, [.ref ((grh G (zbk σ xb))), .int (iI (((turn (zod σ (zbk σ xb)) xlow) + 1))), .int (iI (((turn (zod σ (zbk σ xb)) xhigh) - 1)))])) := by rw [eF18]; exact va_up_self _ _ _
            have hO : OE O F F18 := by rw [eF18]; exact hO.tr (OE1 ((CP_O hC).2.2.2.2.2.1 _ hb_r1.1 hb_r1.2))
            have hC : CP y L F18 O G (sVw (sVw (sVw σ xv (zbk σ xb) (zvl σ xv) (zvh σ xv)) xv (zbk σ xb) ((turn (zod σ (zbk σ xb)) xlow) + 1) (zvh σ xv)) xv (zbk σ xb) ((turn (zod σ (zbk σ xb)) xlow) + 1) ((turn (zod σ (zbk σ xb)) xhigh) - 1)) := by rw [eF18]; exact CP_vw hC hb_r1 (va_up_self _ _ _) (fun q hq => va_up_ne _ _ hq)
            refine lv_aload hx hb dX3_openView_162 (lv_at hl 6 rfl) ?_
            refine lv_aload hx hb dX3_openView_164 (lv_at hl 7 rfl) ?_
            refine q_get C0 iX1 hP (CP_v hC hb_r1).1 hvF rfl 1 (by decide) flX3_182 rfl rfl dX3_openView_166 ?_
            refine lv_aload hx hb dX3_openView_169 (lv_at hl 7 rfl) ?_
            refine q_get C0 iX1 hP (CP_v hC hb_r1).1 hvF rfl 2 (by decide) flX3_185 rfl rfl dX3_openView_171 ?_
            refine q_vS C0 lX3_188 (c_X0_countOfPart l D y L F18 (grh G (zbk σ xb)) (grw G (zbk σ xb)) (zod σ (zbk σ xb)) ((zst σ (zbk σ xb)).1) ((zst σ (zbk σ xb)).2.1) ((zst σ (zbk σ xb)).2.2) ((turn (zod σ (zbk σ xb)) xlow) + 1) ((turn (zod σ (zbk σ xb)) xhigh) - 1) (CP_r hC (hW.1 xb)) (by omega) (by omega)) ⟨rfl, rfl⟩ rfl hP (CP_r hC (hW.1 xb)).1 (CP_r hC (hW.1 xb)).2.1 rfl rfl rfl hl rfl (Nat.le_of_ble_eq_true rfl) dX3_openView_174 ⟨Nat.le_of_ble_eq_true rfl, Nat.le_of_ble_eq_true rfl⟩ (fun r19 e_r19 => ?_)
            subst e_r19
            refine W.widen (k := 8) (n := 60) (Nat.le_of_ble_eq_true rfl) (Nat.le_of_ble_eq_true rfl) ?_
            exact vx_ret (q_retMi C0 hret rfl hlk dX3_openView_177 hP hD hS (⟨by omega, by omega, (by unfold kR_openView; rw [if_neg (by omega), show oLo (zod σ (zbk σ xb)) xkind xlow xends = ((turn (zod σ (zbk σ xb)) xlow) + 1) by (unfold oLo; (repeat' split) <;> first | rfl | omega), show oHi (zod σ (zbk σ xb)) xkind xhigh xends = ((turn (zod σ (zbk σ xb)) xhigh) - 1) by (unfold oHi; (repeat' split) <;> first | rfl | omega)]), O, G, CP_eq hC (by rw [sVw2, sVw2]; unfold kS_openView; rw [if_neg (by omega), show oLo (zod σ (zbk σ xb)) xkind xlow xends = ((turn (zod σ (zbk σ xb)) xlow) + 1) by (unfold oLo; (repeat' split) <;> first | rfl | omega), show oHi (zod σ (zbk σ xb)) xkind xhigh xends = ((turn (zod σ (zbk σ xb)) xhigh) - 1) by (unfold oHi; (repeat' split) <;> first | rfl | omega)]), rfl, Ext0 hO⟩))
          · refine q_bipush hx hb dX3_openView_152 (by decide) ?_
            refine lv_goto (tgt := 159) hx hb dX3_openView_154 (by decide) ?_
            refine q_put C0 iX1 tyX1 tyX1_ok nmX1 hP hD hS (CP_v hC hb_r1).1 hvF rfl 2 (by decide) flX3_185 rfl rfl rfl rfl (Nat.le_of_ble_eq_true rfl) dX3_openView_159 (fun H locs hP hD hS => ?_)
            obtain ⟨F20, eF20⟩ : ∃ z, z = va_up F16 (gva G xv) (.inr (3, [.ref ((grh G (zbk σ xb))), .int (iI (((turn (zod σ (zbk σ xb)) xlow) + 1))), .int (iI 99)])) := ⟨_, rfl⟩
            have hP : va_P D vwCl (va_pl L F20) H := by rw [eF20]; exact hP
            have hD : va_D (AL L s.heap.size) (va_pl L F20) := by rw [eF20]; exact hD
            have hvF : F20 (gva G xv) = (.inr (3, [.ref ((grh G (zbk σ xb))), .int (iI (((turn (zod σ (zbk σ xb)) xlow) + 1))), .int (iI 99)])) := by rw [eF20]; exact va_up_self _ _ _
            have hO : OE O F F20 := by rw [eF20]; exact hO.tr (OE1 ((CP_O hC).2.2.2.2.2.1 _ hb_r1.1 hb_r1.2))
            have hC : CP y L F20 O G (sVw (sVw (sVw σ xv (zbk σ xb) (zvl σ xv) (zvh σ xv)) xv (zbk σ xb) ((turn (zod σ (zbk σ xb)) xlow) + 1) (zvh σ xv)) xv (zbk σ xb) ((turn (zod σ (zbk σ xb)) xlow) + 1) 99) := by rw [eF20]; exact CP_vw hC hb_r1 (va_up_self _ _ _) (fun q hq => va_up_ne _ _ hq)
            refine lv_aload hx hb dX3_openView_162 (lv_at hl 6 rfl) ?_
            refine lv_aload hx hb dX3_openView_164 (lv_at hl 7 rfl) ?_
            refine q_get C0 iX1 hP (CP_v hC hb_r1).1 hvF rfl 1 (by decide) flX3_182 rfl rfl dX3_openView_166 ?_
            refine lv_aload hx hb dX3_openView_169 (lv_at hl 7 rfl) ?_
            refine q_get C0 iX1 hP (CP_v hC hb_r1).1 hvF rfl 2 (by decide) flX3_185 rfl rfl dX3_openView_171 ?_
            refine q_vS C0 lX3_188 (c_X0_countOfPart l D y L F20 (grh G (zbk σ xb)) (grw G (zbk σ xb)) (zod σ (zbk σ xb)) ((zst σ (zbk σ xb)).1) ((zst σ (zbk σ xb)).2.1) ((zst σ (zbk σ xb)).2.2) ((turn (zod σ (zbk σ xb)) xlow) + 1) 99 (CP_r hC (hW.1 xb)) (by omega) (by omega)) ⟨rfl, rfl⟩ rfl hP (CP_r hC (hW.1 xb)).1 (CP_r hC (hW.1 xb)).2.1 rfl rfl rfl hl rfl (Nat.le_of_ble_eq_true rfl) dX3_openView_174 ⟨Nat.le_of_ble_eq_true rfl, Nat.le_of_ble_eq_true rfl⟩ (fun r21 e_r21 => ?_)
            subst e_r21
            refine W.widen (k := 8) (n := 60) (Nat.le_of_ble_eq_true rfl) (Nat.le_of_ble_eq_true rfl) ?_
            exact vx_ret (q_retMi C0 hret rfl hlk dX3_openView_177 hP hD hS (⟨by omega, by omega, (by unfold kR_openView; rw [if_neg (by omega), show oLo (zod σ (zbk σ xb)) xkind xlow xends = ((turn (zod σ (zbk σ xb)) xlow) + 1) by (unfold oLo; (repeat' split) <;> first | rfl | omega), show oHi (zod σ (zbk σ xb)) xkind xhigh xends = 99 by (unfold oHi; (repeat' split) <;> first | rfl | omega)]), O, G, CP_eq hC (by rw [sVw2, sVw2]; unfold kS_openView; rw [if_neg (by omega), show oLo (zod σ (zbk σ xb)) xkind xlow xends = ((turn (zod σ (zbk σ xb)) xlow) + 1) by (unfold oLo; (repeat' split) <;> first | rfl | omega), show oHi (zod σ (zbk σ xb)) xkind xhigh xends = 99 by (unfold oHi; (repeat' split) <;> first | rfl | omega)]), rfl, Ext0 hO⟩))
        · refine q_iconst hx hb dX3_openView_136 ?_
          refine lv_goto (tgt := 142) hx hb dX3_openView_137 (by decide) ?_
          refine q_put C0 iX1 tyX1 tyX1_ok nmX1 hP hD hS (CP_v hC hb_r1).1 hvF rfl 1 (by decide) flX3_182 rfl rfl rfl rfl (Nat.le_of_ble_eq_true rfl) dX3_openView_142 (fun H locs hP hD hS => ?_)
          obtain ⟨F22, eF22⟩ : ∃ z, z = va_up F14 (gva G xv) (.inr (3, [.ref ((grh G (zbk σ xb))), .int (iI 0), .int (iI (zvh σ xv))])) := ⟨_, rfl⟩
          have hP : va_P D vwCl (va_pl L F22) H := by rw [eF22]; exact hP
          have hD : va_D (AL L s.heap.size) (va_pl L F22) := by rw [eF22]; exact hD
          have hvF : F22 (gva G xv) = (.inr (3, [.ref ((grh G (zbk σ xb))), .int (iI 0), .int (iI (zvh σ xv))])) := by rw [eF22]; exact va_up_self _ _ _
          have hO : OE O F F22 := by rw [eF22]; exact hO.tr (OE1 ((CP_O hC).2.2.2.2.2.1 _ hb_r1.1 hb_r1.2))
          have hC : CP y L F22 O G (sVw (sVw σ xv (zbk σ xb) (zvl σ xv) (zvh σ xv)) xv (zbk σ xb) 0 (zvh σ xv)) := by rw [eF22]; exact CP_vw hC hb_r1 (va_up_self _ _ _) (fun q hq => va_up_ne _ _ hq)
          refine lv_aload hx hb dX3_openView_145 (lv_at hl 7 rfl) ?_
          refine lv_iload_n hx hb dX3_openView_147 rfl (lv_at hl 11 rfl) ?_
          refine q_iconst hx hb dX3_openView_148 ?_
          refine q_icmp_ne hx hb dX3_openView_149 (tgt := 157) (by decide) (by omega) (by omega) (fun c23 => ?_) (fun c23 => absurd c23 (by omega))
          refine lv_iload hx hb dX3_openView_157 (lv_at hl 0 rfl) ?_
          refine q_put C0 iX1 tyX1 tyX1_ok nmX1 hP hD hS (CP_v hC hb_r1).1 hvF rfl 2 (by decide) flX3_185 rfl rfl rfl rfl (Nat.le_of_ble_eq_true rfl) dX3_openView_159 (fun H locs hP hD hS => ?_)
          obtain ⟨F24, eF24⟩ : ∃ z, z = va_up F22 (gva G xv) (.inr (3, [.ref ((grh G (zbk σ xb))), .int (iI 0), .int (iI (((turn (zod σ (zbk σ xb)) xhigh) - 1)))])) := ⟨_, rfl⟩
          have hP : va_P D vwCl (va_pl L F24) H := by rw [eF24]; exact hP
          have hD : va_D (AL L s.heap.size) (va_pl L F24) := by rw [eF24]; exact hD
          have hvF : F24 (gva G xv) = (.inr (3, [.ref ((grh G (zbk σ xb))), .int (iI 0), .int (iI (((turn (zod σ (zbk σ xb)) xhigh) - 1)))])) := by rw [eF24]; exact va_up_self _ _ _
          have hO : OE O F F24 := by rw [eF24]; exact hO.tr (OE1 ((CP_O hC).2.2.2.2.2.1 _ hb_r1.1 hb_r1.2))
          have hC : CP y L F24 O G (sVw (sVw (sVw σ xv (zbk σ xb) (zvl σ xv) (zvh σ xv)) xv (zbk σ xb) 0 (zvh σ xv)) xv (zbk σ xb) 0 ((turn (zod σ (zbk σ xb)) xhigh) - 1)) := by rw [eF24]; exact CP_vw hC hb_r1 (va_up_self _ _ _) (fun q hq => va_up_ne _ _ hq)
          refine lv_aload hx hb dX3_openView_162 (lv_at hl 6 rfl) ?_
          refine lv_aload hx hb dX3_openView_164 (lv_at hl 7 rfl) ?_
          refine q_get C0 iX1 hP (CP_v hC hb_r1).1 hvF rfl 1 (by decide) flX3_182 rfl rfl dX3_openView_166 ?_
          refine lv_aload hx hb dX3_openView_169 (lv_at hl 7 rfl) ?_
          refine q_get C0 iX1 hP (CP_v hC hb_r1).1 hvF rfl 2 (by decide) flX3_185 rfl rfl dX3_openView_171 ?_
          refine q_vS C0 lX3_188 (c_X0_countOfPart l D y L F24 (grh G (zbk σ xb)) (grw G (zbk σ xb)) (zod σ (zbk σ xb)) ((zst σ (zbk σ xb)).1) ((zst σ (zbk σ xb)).2.1) ((zst σ (zbk σ xb)).2.2) 0 ((turn (zod σ (zbk σ xb)) xhigh) - 1) (CP_r hC (hW.1 xb)) (by omega) (by omega)) ⟨rfl, rfl⟩ rfl hP (CP_r hC (hW.1 xb)).1 (CP_r hC (hW.1 xb)).2.1 rfl rfl rfl hl rfl (Nat.le_of_ble_eq_true rfl) dX3_openView_174 ⟨Nat.le_of_ble_eq_true rfl, Nat.le_of_ble_eq_true rfl⟩ (fun r25 e_r25 => ?_)
          subst e_r25
          refine W.widen (k := 8) (n := 60) (Nat.le_of_ble_eq_true rfl) (Nat.le_of_ble_eq_true rfl) ?_
          exact vx_ret (q_retMi C0 hret rfl hlk dX3_openView_177 hP hD hS (⟨by omega, by omega, (by unfold kR_openView; rw [if_neg (by omega), show oLo (zod σ (zbk σ xb)) xkind xlow xends = 0 by (unfold oLo; (repeat' split) <;> first | rfl | omega), show oHi (zod σ (zbk σ xb)) xkind xhigh xends = ((turn (zod σ (zbk σ xb)) xhigh) - 1) by (unfold oHi; (repeat' split) <;> first | rfl | omega)]), O, G, CP_eq hC (by rw [sVw2, sVw2]; unfold kS_openView; rw [if_neg (by omega), show oLo (zod σ (zbk σ xb)) xkind xlow xends = 0 by (unfold oLo; (repeat' split) <;> first | rfl | omega), show oHi (zod σ (zbk σ xb)) xkind xhigh xends = ((turn (zod σ (zbk σ xb)) xhigh) - 1) by (unfold oHi; (repeat' split) <;> first | rfl | omega)]), rfl, Ext0 hO⟩))
      · refine q_iconst hx hb dX3_openView_84 ?_
        refine lv_goto (tgt := 89) hx hb dX3_openView_85 (by decide) ?_
        refine lv_istore (lv' := [(12, .int (iI 1)), (11, .int (iI 0)), (10, .int (iI ((turn (zod σ (zbk σ xb)) xhigh)))), (9, .int (iI ((turn (zod σ (zbk σ xb)) xlow)))), (8, .ref ((grh G (zbk σ xb)))), (7, .ref ((gva G xv))), (0, .ref ((gbg G))), (1, .int (iI xv)), (2, .int (iI xb)), (3, .int (iI xkind)), (4, .int (iI xlow)), (5, .int (iI xhigh)), (6, .int (iI xends))]) hx hb dX3_openView_89 hl (by decide) rfl (fun ls hl => ?_)
        refine lv_iload hx hb dX3_openView_91 (lv_at hl 1 rfl) ?_
        refine q_if_eq hx hb dX3_openView_93 (tgt := 101) (by decide) (by omega) (fun c26 => ?_) (fun c26 => absurd c26 (by omega))
        refine lv_iload hx hb dX3_openView_101 (lv_at hl 3 rfl) ?_
        refine q_iconst hx hb dX3_openView_103 ?_
        refine q_iadd hx hb dX3_openView_104 ?_
        refine lv_istore (lv' := [(13, .int (iI (((turn (zod σ (zbk σ xb)) xlow) + 1)))), (12, .int (iI 1)), (11, .int (iI 0)), (10, .int (iI ((turn (zod σ (zbk σ xb)) xhigh)))), (9, .int (iI ((turn (zod σ (zbk σ xb)) xlow)))), (8, .ref ((grh G (zbk σ xb)))), (7, .ref ((gva G xv))), (0, .ref ((gbg G))), (1, .int (iI xv)), (2, .int (iI xb)), (3, .int (iI xkind)), (4, .int (iI xlow)), (5, .int (iI xhigh)), (6, .int (iI xends))]) hx hb dX3_openView_105 hl (by decide) rfl (fun ls hl => ?_)
        refine lv_iload hx hb dX3_openView_107 (lv_at hl 1 rfl) ?_
        refine q_if_eq hx hb dX3_openView_109 (tgt := 117) (by decide) (by omega) (fun c27 => absurd c27 (by omega)) (fun c27 => ?_)
        refine lv_iload hx hb dX3_openView_112 (lv_at hl 3 rfl) ?_
        refine lv_goto (tgt := 121) hx hb dX3_openView_114 (by decide) ?_
        refine lv_istore (lv' := [(14, .int (iI ((turn (zod σ (zbk σ xb)) xhigh)))), (13, .int (iI (((turn (zod σ (zbk σ xb)) xlow) + 1)))), (12, .int (iI 1)), (11, .int (iI 0)), (10, .int (iI ((turn (zod σ (zbk σ xb)) xhigh)))), (9, .int (iI ((turn (zod σ (zbk σ xb)) xlow)))), (8, .ref ((grh G (zbk σ xb)))), (7, .ref ((gva G xv))), (0, .ref ((gbg G))), (1, .int (iI xv)), (2, .int (iI xb)), (3, .int (iI xkind)), (4, .int (iI xlow)), (5, .int (iI xhigh)), (6, .int (iI xends))]) hx hb dX3_openView_121 hl (by decide) rfl (fun ls hl => ?_)
        refine lv_aload hx hb dX3_openView_123 (lv_at hl 7 rfl) ?_
        refine lv_aload hx hb dX3_openView_125 (lv_at hl 6 rfl) ?_
        refine q_put C0 iX1 tyX1 tyX1_ok nmX1 hP hD hS (CP_v hC hb_r1).1 (CP_v hC hb_r1).2 rfl 0 (by decide) flX3_178 rfl rfl rfl rfl (Nat.le_of_ble_eq_true rfl) dX3_openView_127 (fun H locs hP hD hS => ?_)
        obtain ⟨F28, eF28⟩ : ∃ z, z = va_up F (gva G xv) (.inr (3, [.ref ((grh G (zbk σ xb))), .int (iI (zvl σ xv)), .int (iI (zvh σ xv))])) := ⟨_, rfl⟩
        have hP : va_P D vwCl (va_pl L F28) H := by rw [eF28]; exact hP
        have hD : va_D (AL L s.heap.size) (va_pl L F28) := by rw [eF28]; exact hD
        have hvF : F28 (gva G xv) = (.inr (3, [.ref ((grh G (zbk σ xb))), .int (iI (zvl σ xv)), .int (iI (zvh σ xv))])) := by rw [eF28]; exact va_up_self _ _ _
        have hO : OE O F F28 := by rw [eF28]; exact hO.tr (OE1 ((CP_O hC).2.2.2.2.2.1 _ hb_r1.1 hb_r1.2))
        have hC : CP y L F28 O G (sVw σ xv (zbk σ xb) (zvl σ xv) (zvh σ xv)) := by rw [eF28]; exact CP_vw hC hb_r1 (va_up_self _ _ _) (fun q hq => va_up_ne _ _ hq)
        refine lv_aload hx hb dX3_openView_130 (lv_at hl 7 rfl) ?_
        refine lv_iload_n hx hb dX3_openView_132 rfl (lv_at hl 11 rfl) ?_
        refine q_if_ne hx hb dX3_openView_133 (tgt := 140) (by decide) (by omega) (fun c29 => ?_) (fun c29 => ?_)
        · refine lv_iload hx hb dX3_openView_140 (lv_at hl 1 rfl) ?_
          refine q_put C0 iX1 tyX1 tyX1_ok nmX1 hP hD hS (CP_v hC hb_r1).1 hvF rfl 1 (by decide) flX3_182 rfl rfl rfl rfl (Nat.le_of_ble_eq_true rfl) dX3_openView_142 (fun H locs hP hD hS => ?_)
          obtain ⟨F30, eF30⟩ : ∃ z, z = va_up F28 (gva G xv) (.inr (3, [.ref ((grh G (zbk σ xb))), .int (iI (((turn (zod σ (zbk σ xb)) xlow) + 1))), .int (iI (zvh σ xv))])) := ⟨_, rfl⟩
          have hP : va_P D vwCl (va_pl L F30) H := by rw [eF30]; exact hP
          have hD : va_D (AL L s.heap.size) (va_pl L F30) := by rw [eF30]; exact hD
          have hvF : F30 (gva G xv) = (.inr (3, [.ref ((grh G (zbk σ xb))), .int (iI (((turn (zod σ (zbk σ xb)) xlow) + 1))), .int (iI (zvh σ xv))])) := by rw [eF30]; exact va_up_self _ _ _
          have hO : OE O F F30 := by rw [eF30]; exact hO.tr (OE1 ((CP_O hC).2.2.2.2.2.1 _ hb_r1.1 hb_r1.2))
          have hC : CP y L F30 O G (sVw (sVw σ xv (zbk σ xb) (zvl σ xv) (zvh σ xv)) xv (zbk σ xb) ((turn (zod σ (zbk σ xb)) xlow) + 1) (zvh σ xv)) := by rw [eF30]; exact CP_vw hC hb_r1 (va_up_self _ _ _) (fun q hq => va_up_ne _ _ hq)
          refine lv_aload hx hb dX3_openView_145 (lv_at hl 7 rfl) ?_
          refine lv_iload_n hx hb dX3_openView_147 rfl (lv_at hl 11 rfl) ?_
          refine q_iconst hx hb dX3_openView_148 ?_
          refine q_icmp_ne hx hb dX3_openView_149 (tgt := 157) (by decide) (by omega) (by omega) (fun c31 => ?_) (fun c31 => ?_)
          · refine lv_iload hx hb dX3_openView_157 (lv_at hl 0 rfl) ?_
            refine q_put C0 iX1 tyX1 tyX1_ok nmX1 hP hD hS (CP_v hC hb_r1).1 hvF rfl 2 (by decide) flX3_185 rfl rfl rfl rfl (Nat.le_of_ble_eq_true rfl) dX3_openView_159 (fun H locs hP hD hS => ?_)
            obtain ⟨F32, eF32⟩ : ∃ z, z = va_up F30 (gva G xv) (.inr (3, [.ref ((grh G (zbk σ xb))), .int (iI (((turn (zod σ (zbk σ xb)) xlow) + 1))), .int (iI ((turn (zod σ (zbk σ xb)) xhigh)))])) := ⟨_, rfl⟩
            have hP : va_P D vwCl (va_pl L F32) H := by rw [eF32]; exact hP
            have hD : va_D (AL L s.heap.size) (va_pl L F32) := by rw [eF32]; exact hD
            have hvF : F32 (gva G xv) = (.inr (3, [.ref ((grh G (zbk σ xb))), .int (iI (((turn (zod σ (zbk σ xb)) xlow) + 1))), .int (iI ((turn (zod σ (zbk σ xb)) xhigh)))])) := by rw [eF32]; exact va_up_self _ _ _
            have hO : OE O F F32 := by rw [eF32]; exact hO.tr (OE1 ((CP_O hC).2.2.2.2.2.1 _ hb_r1.1 hb_r1.2))
            have hC : CP y L F32 O G (sVw (sVw (sVw σ xv (zbk σ xb) (zvl σ xv) (zvh σ xv)) xv (zbk σ xb) ((turn (zod σ (zbk σ xb)) xlow) + 1) (zvh σ xv)) xv (zbk σ xb) ((turn (zod σ (zbk σ xb)) xlow) + 1) (turn (zod σ (zbk σ xb)) xhigh)) := by rw [eF32]; exact CP_vw hC hb_r1 (va_up_self _ _ _) (fun q hq => va_up_ne _ _ hq)
            refine lv_aload hx hb dX3_openView_162 (lv_at hl 6 rfl) ?_
            refine lv_aload hx hb dX3_openView_164 (lv_at hl 7 rfl) ?_
            refine q_get C0 iX1 hP (CP_v hC hb_r1).1 hvF rfl 1 (by decide) flX3_182 rfl rfl dX3_openView_166 ?_
            refine lv_aload hx hb dX3_openView_169 (lv_at hl 7 rfl) ?_
            refine q_get C0 iX1 hP (CP_v hC hb_r1).1 hvF rfl 2 (by decide) flX3_185 rfl rfl dX3_openView_171 ?_
            refine q_vS C0 lX3_188 (c_X0_countOfPart l D y L F32 (grh G (zbk σ xb)) (grw G (zbk σ xb)) (zod σ (zbk σ xb)) ((zst σ (zbk σ xb)).1) ((zst σ (zbk σ xb)).2.1) ((zst σ (zbk σ xb)).2.2) ((turn (zod σ (zbk σ xb)) xlow) + 1) (turn (zod σ (zbk σ xb)) xhigh) (CP_r hC (hW.1 xb)) (by omega) (by omega)) ⟨rfl, rfl⟩ rfl hP (CP_r hC (hW.1 xb)).1 (CP_r hC (hW.1 xb)).2.1 rfl rfl rfl hl rfl (Nat.le_of_ble_eq_true rfl) dX3_openView_174 ⟨Nat.le_of_ble_eq_true rfl, Nat.le_of_ble_eq_true rfl⟩ (fun r33 e_r33 => ?_)
            subst e_r33
            refine W.widen (k := 8) (n := 60) (Nat.le_of_ble_eq_true rfl) (Nat.le_of_ble_eq_true rfl) ?_
            exact vx_ret (q_retMi C0 hret rfl hlk dX3_openView_177 hP hD hS (⟨by omega, by omega, (by unfold kR_openView; rw [if_neg (by omega), show oLo (zod σ (zbk σ xb)) xkind xlow xends = ((turn (zod σ (zbk σ xb)) xlow) + 1) by (unfold oLo; (repeat' split) <;> first | rfl | omega), show oHi (zod σ (zbk σ xb)) xkind xhigh xends = (turn (zod σ (zbk σ xb)) xhigh) by (unfold oHi; (repeat' split) <;> first | rfl | omega)]), O, G, CP_eq hC (by rw [sVw2, sVw2]; unfold kS_openView; rw [if_neg (by omega), show oLo (zod σ (zbk σ xb)) xkind xlow xends = ((turn (zod σ (zbk σ xb)) xlow) + 1) by (unfold oLo; (repeat' split) <;> first | rfl | omega), show oHi (zod σ (zbk σ xb)) xkind xhigh xends = (turn (zod σ (zbk σ xb)) xhigh) by (unfold oHi; (repeat' split) <;> first | rfl | omega)]), rfl, Ext0 hO⟩))
          · refine q_bipush hx hb dX3_openView_152 (by decide) ?_
            refine lv_goto (tgt := 159) hx hb dX3_openView_154 (by decide) ?_
            refine q_put C0 iX1 tyX1 tyX1_ok nmX1 hP hD hS (CP_v hC hb_r1).1 hvF rfl 2 (by decide) flX3_185 rfl rfl rfl rfl (Nat.le_of_ble_eq_true rfl) dX3_openView_159 (fun H locs hP hD hS => ?_)
            obtain ⟨F34, eF34⟩ : ∃ z, z = va_up F30 (gva G xv) (.inr (3, [.ref ((grh G (zbk σ xb))), .int (iI (((turn (zod σ (zbk σ xb)) xlow) + 1))), .int (iI 99)])) := ⟨_, rfl⟩
            have hP : va_P D vwCl (va_pl L F34) H := by rw [eF34]; exact hP
            have hD : va_D (AL L s.heap.size) (va_pl L F34) := by rw [eF34]; exact hD
            have hvF : F34 (gva G xv) = (.inr (3, [.ref ((grh G (zbk σ xb))), .int (iI (((turn (zod σ (zbk σ xb)) xlow) + 1))), .int (iI 99)])) := by rw [eF34]; exact va_up_self _ _ _
            have hO : OE O F F34 := by rw [eF34]; exact hO.tr (OE1 ((CP_O hC).2.2.2.2.2.1 _ hb_r1.1 hb_r1.2))
            have hC : CP y L F34 O G (sVw (sVw (sVw σ xv (zbk σ xb) (zvl σ xv) (zvh σ xv)) xv (zbk σ xb) ((turn (zod σ (zbk σ xb)) xlow) + 1) (zvh σ xv)) xv (zbk σ xb) ((turn (zod σ (zbk σ xb)) xlow) + 1) 99) := by rw [eF34]; exact CP_vw hC hb_r1 (va_up_self _ _ _) (fun q hq => va_up_ne _ _ hq)
            refine lv_aload hx hb dX3_openView_162 (lv_at hl 6 rfl) ?_
            refine lv_aload hx hb dX3_openView_164 (lv_at hl 7 rfl) ?_
            refine q_get C0 iX1 hP (CP_v hC hb_r1).1 hvF rfl 1 (by decide) flX3_182 rfl rfl dX3_openView_166 ?_
            refine lv_aload hx hb dX3_openView_169 (lv_at hl 7 rfl) ?_
            refine q_get C0 iX1 hP (CP_v hC hb_r1).1 hvF rfl 2 (by decide) flX3_185 rfl rfl dX3_openView_171 ?_
            refine q_vS C0 lX3_188 (c_X0_countOfPart l D y L F34 (grh G (zbk σ xb)) (grw G (zbk σ xb)) (zod σ (zbk σ xb)) ((zst σ (zbk σ xb)).1) ((zst σ (zbk σ xb)).2.1) ((zst σ (zbk σ xb)).2.2) ((turn (zod σ (zbk σ xb)) xlow) + 1) 99 (CP_r hC (hW.1 xb)) (by omega) (by omega)) ⟨rfl, rfl⟩ rfl hP (CP_r hC (hW.1 xb)).1 (CP_r hC (hW.1 xb)).2.1 rfl rfl rfl hl rfl (Nat.le_of_ble_eq_true rfl) dX3_openView_174 ⟨Nat.le_of_ble_eq_true rfl, Nat.le_of_ble_eq_true rfl⟩ (fun r35 e_r35 => ?_)
            subst e_r35
            refine W.widen (k := 8) (n := 60) (Nat.le_of_ble_eq_true rfl) (Nat.le_of_ble_eq_true rfl) ?_
            exact vx_ret (q_retMi C0 hret rfl hlk dX3_openView_177 hP hD hS (⟨by omega, by omega, (by unfold kR_openView; rw [if_neg (by omega), show oLo (zod σ (zbk σ xb)) xkind xlow xends = ((turn (zod σ (zbk σ xb)) xlow) + 1) by (unfold oLo; (repeat' split) <;> first | rfl | omega), show oHi (zod σ (zbk σ xb)) xkind xhigh xends = 99 by (unfold oHi; (repeat' split) <;> first | rfl | omega)]), O, G, CP_eq hC (by rw [sVw2, sVw2]; unfold kS_openView; rw [if_neg (by omega), show oLo (zod σ (zbk σ xb)) xkind xlow xends = ((turn (zod σ (zbk σ xb)) xlow) + 1) by (unfold oLo; (repeat' split) <;> first | rfl | omega), show oHi (zod σ (zbk σ xb)) xkind xhigh xends = 99 by (unfold oHi; (repeat' split) <;> first | rfl | omega)]), rfl, Ext0 hO⟩))
        · refine q_iconst hx hb dX3_openView_136 ?_
          refine lv_goto (tgt := 142) hx hb dX3_openView_137 (by decide) ?_
          refine q_put C0 iX1 tyX1 tyX1_ok nmX1 hP hD hS (CP_v hC hb_r1).1 hvF rfl 1 (by decide) flX3_182 rfl rfl rfl rfl (Nat.le_of_ble_eq_true rfl) dX3_openView_142 (fun H locs hP hD hS => ?_)
          obtain ⟨F36, eF36⟩ : ∃ z, z = va_up F28 (gva G xv) (.inr (3, [.ref ((grh G (zbk σ xb))), .int (iI 0), .int (iI (zvh σ xv))])) := ⟨_, rfl⟩
          have hP : va_P D vwCl (va_pl L F36) H := by rw [eF36]; exact hP
          have hD : va_D (AL L s.heap.size) (va_pl L F36) := by rw [eF36]; exact hD
          have hvF : F36 (gva G xv) = (.inr (3, [.ref ((grh G (zbk σ xb))), .int (iI 0), .int (iI (zvh σ xv))])) := by rw [eF36]; exact va_up_self _ _ _
          have hO : OE O F F36 := by rw [eF36]; exact hO.tr (OE1 ((CP_O hC).2.2.2.2.2.1 _ hb_r1.1 hb_r1.2))
          have hC : CP y L F36 O G (sVw (sVw σ xv (zbk σ xb) (zvl σ xv) (zvh σ xv)) xv (zbk σ xb) 0 (zvh σ xv)) := by rw [eF36]; exact CP_vw hC hb_r1 (va_up_self _ _ _) (fun q hq => va_up_ne _ _ hq)
          refine lv_aload hx hb dX3_openView_145 (lv_at hl 7 rfl) ?_
          refine lv_iload_n hx hb dX3_openView_147 rfl (lv_at hl 11 rfl) ?_
          refine q_iconst hx hb dX3_openView_148 ?_
          refine q_icmp_ne hx hb dX3_openView_149 (tgt := 157) (by decide) (by omega) (by omega) (fun c37 => ?_) (fun c37 => absurd c37 (by omega))
          refine lv_iload hx hb dX3_openView_157 (lv_at hl 0 rfl) ?_
          refine q_put C0 iX1 tyX1 tyX1_ok nmX1 hP hD hS (CP_v hC hb_r1).1 hvF rfl 2 (by decide) flX3_185 rfl rfl rfl rfl (Nat.le_of_ble_eq_true rfl) dX3_openView_159 (fun H locs hP hD hS => ?_)
          obtain ⟨F38, eF38⟩ : ∃ z, z = va_up F36 (gva G xv) (.inr (3, [.ref ((grh G (zbk σ xb))), .int (iI 0), .int (iI ((turn (zod σ (zbk σ xb)) xhigh)))])) := ⟨_, rfl⟩
          have hP : va_P D vwCl (va_pl L F38) H := by rw [eF38]; exact hP
          have hD : va_D (AL L s.heap.size) (va_pl L F38) := by rw [eF38]; exact hD
          have hvF : F38 (gva G xv) = (.inr (3, [.ref ((grh G (zbk σ xb))), .int (iI 0), .int (iI ((turn (zod σ (zbk σ xb)) xhigh)))])) := by rw [eF38]; exact va_up_self _ _ _
          have hO : OE O F F38 := by rw [eF38]; exact hO.tr (OE1 ((CP_O hC).2.2.2.2.2.1 _ hb_r1.1 hb_r1.2))
          have hC : CP y L F38 O G (sVw (sVw (sVw σ xv (zbk σ xb) (zvl σ xv) (zvh σ xv)) xv (zbk σ xb) 0 (zvh σ xv)) xv (zbk σ xb) 0 (turn (zod σ (zbk σ xb)) xhigh)) := by rw [eF38]; exact CP_vw hC hb_r1 (va_up_self _ _ _) (fun q hq => va_up_ne _ _ hq)
          refine lv_aload hx hb dX3_openView_162 (lv_at hl 6 rfl) ?_
          refine lv_aload hx hb dX3_openView_164 (lv_at hl 7 rfl) ?_
          refine q_get C0 iX1 hP (CP_v hC hb_r1).1 hvF rfl 1 (by decide) flX3_182 rfl rfl dX3_openView_166 ?_
          refine lv_aload hx hb dX3_openView_169 (lv_at hl 7 rfl) ?_
          refine q_get C0 iX1 hP (CP_v hC hb_r1).1 hvF rfl 2 (by decide) flX3_185 rfl rfl dX3_openView_171 ?_
          refine q_vS C0 lX3_188 (c_X0_countOfPart l D y L F38 (grh G (zbk σ xb)) (grw G (zbk σ xb)) (zod σ (zbk σ xb)) ((zst σ (zbk σ xb)).1) ((zst σ (zbk σ xb)).2.1) ((zst σ (zbk σ xb)).2.2) 0 (turn (zod σ (zbk σ xb)) xhigh) (CP_r hC (hW.1 xb)) (by omega) (by omega)) ⟨rfl, rfl⟩ rfl hP (CP_r hC (hW.1 xb)).1 (CP_r hC (hW.1 xb)).2.1 rfl rfl rfl hl rfl (Nat.le_of_ble_eq_true rfl) dX3_openView_174 ⟨Nat.le_of_ble_eq_true rfl, Nat.le_of_ble_eq_true rfl⟩ (fun r39 e_r39 => ?_)
          subst e_r39
          refine W.widen (k := 8) (n := 60) (Nat.le_of_ble_eq_true rfl) (Nat.le_of_ble_eq_true rfl) ?_
          exact vx_ret (q_retMi C0 hret rfl hlk dX3_openView_177 hP hD hS (⟨by omega, by omega, (by unfold kR_openView; rw [if_neg (by omega), show oLo (zod σ (zbk σ xb)) xkind xlow xends = 0 by (unfold oLo; (repeat' split) <;> first | rfl | omega), show oHi (zod σ (zbk σ xb)) xkind xhigh xends = (turn (zod σ (zbk σ xb)) xhigh) by (unfold oHi; (repeat' split) <;> first | rfl | omega)]), O, G, CP_eq hC (by rw [sVw2, sVw2]; unfold kS_openView; rw [if_neg (by omega), show oLo (zod σ (zbk σ xb)) xkind xlow xends = 0 by (unfold oLo; (repeat' split) <;> first | rfl | omega), show oHi (zod σ (zbk σ xb)) xkind xhigh xends = (turn (zod σ (zbk σ xb)) xhigh) by (unfold oHi; (repeat' split) <;> first | rfl | omega)]), rfl, Ext0 hO⟩))
    · refine q_iconst hx hb dX3_openView_70 ?_
      refine lv_goto (tgt := 75) hx hb dX3_openView_71 (by decide) ?_
      refine lv_istore (lv' := [(11, .int (iI 1)), (10, .int (iI ((turn (zod σ (zbk σ xb)) xhigh)))), (9, .int (iI ((turn (zod σ (zbk σ xb)) xlow)))), (8, .ref ((grh G (zbk σ xb)))), (7, .ref ((gva G xv))), (0, .ref ((gbg G))), (1, .int (iI xv)), (2, .int (iI xb)), (3, .int (iI xkind)), (4, .int (iI xlow)), (5, .int (iI xhigh)), (6, .int (iI xends))]) hx hb dX3_openView_75 hl (by decide) rfl (fun ls hl => ?_)
      refine lv_iload hx hb dX3_openView_77 (lv_at hl 11 rfl) ?_
      refine q_iconst hx hb dX3_openView_79 ?_
      refine q_iand hx hb dX3_openView_80 ?_
      refine q_if_eq hx hb dX3_openView_81 (tgt := 88) (by decide) (by omega) (fun c40 => ?_) (fun c40 => ?_)
      · refine q_iconst hx hb dX3_openView_88 ?_
        refine lv_istore (lv' := [(12, .int (iI 0)), (11, .int (iI 1)), (10, .int (iI ((turn (zod σ (zbk σ xb)) xhigh)))), (9, .int (iI ((turn (zod σ (zbk σ xb)) xlow)))), (8, .ref ((grh G (zbk σ xb)))), (7, .ref ((gva G xv))), (0, .ref ((gbg G))), (1, .int (iI xv)), (2, .int (iI xb)), (3, .int (iI xkind)), (4, .int (iI xlow)), (5, .int (iI xhigh)), (6, .int (iI xends))]) hx hb dX3_openView_89 hl (by decide) rfl (fun ls hl => ?_)
        refine lv_iload hx hb dX3_openView_91 (lv_at hl 1 rfl) ?_
        refine q_if_eq hx hb dX3_openView_93 (tgt := 101) (by decide) (by omega) (fun c41 => absurd c41 (by omega)) (fun c41 => ?_)
        refine lv_iload hx hb dX3_openView_96 (lv_at hl 3 rfl) ?_
        refine lv_goto (tgt := 105) hx hb dX3_openView_98 (by decide) ?_
        refine lv_istore (lv' := [(13, .int (iI ((turn (zod σ (zbk σ xb)) xlow)))), (12, .int (iI 0)), (11, .int (iI 1)), (10, .int (iI ((turn (zod σ (zbk σ xb)) xhigh)))), (9, .int (iI ((turn (zod σ (zbk σ xb)) xlow)))), (8, .ref ((grh G (zbk σ xb)))), (7, .ref ((gva G xv))), (0, .ref ((gbg G))), (1, .int (iI xv)), (2, .int (iI xb)), (3, .int (iI xkind)), (4, .int (iI xlow)), (5, .int (iI xhigh)), (6, .int (iI xends))]) hx hb dX3_openView_105 hl (by decide) rfl (fun ls hl => ?_)
        refine lv_iload hx hb dX3_openView_107 (lv_at hl 1 rfl) ?_
        refine q_if_eq hx hb dX3_openView_109 (tgt := 117) (by decide) (by omega) (fun c42 => ?_) (fun c42 => absurd c42 (by omega))
        refine lv_iload hx hb dX3_openView_117 (lv_at hl 3 rfl) ?_
        refine q_iconst hx hb dX3_openView_119 ?_
        refine q_isub hx hb dX3_openView_120 ?_
        refine lv_istore (lv' := [(14, .int (iI (((turn (zod σ (zbk σ xb)) xhigh) - 1)))), (13, .int (iI ((turn (zod σ (zbk σ xb)) xlow)))), (12, .int (iI 0)), (11, .int (iI 1)), (10, .int (iI ((turn (zod σ (zbk σ xb)) xhigh)))), (9, .int (iI ((turn (zod σ (zbk σ xb)) xlow)))), (8, .ref ((grh G (zbk σ xb)))), (7, .ref ((gva G xv))), (0, .ref ((gbg G))), (1, .int (iI xv)), (2, .int (iI xb)), (3, .int (iI xkind)), (4, .int (iI xlow)), (5, .int (iI xhigh)), (6, .int (iI xends))]) hx hb dX3_openView_121 hl (by decide) rfl (fun ls hl => ?_)
        refine lv_aload hx hb dX3_openView_123 (lv_at hl 7 rfl) ?_
        refine lv_aload hx hb dX3_openView_125 (lv_at hl 6 rfl) ?_
        refine q_put C0 iX1 tyX1 tyX1_ok nmX1 hP hD hS (CP_v hC hb_r1).1 (CP_v hC hb_r1).2 rfl 0 (by decide) flX3_178 rfl rfl rfl rfl (Nat.le_of_ble_eq_true rfl) dX3_openView_127 (fun H locs hP hD hS => ?_)
        obtain ⟨F43, eF43⟩ : ∃ z, z = va_up F (gva G xv) (.inr (3, [.ref ((grh G (zbk σ xb))), .int (iI (zvl σ xv)), .int (iI (zvh σ xv))])) := ⟨_, rfl⟩
        have hP : va_P D vwCl (va_pl L F43) H := by rw [eF43]; exact hP
        have hD : va_D (AL L s.heap.size) (va_pl L F43) := by rw [eF43]; exact hD
        have hvF : F43 (gva G xv) = (.inr (3, [.ref ((grh G (zbk σ xb))), .int (iI (zvl σ xv)), .int (iI (zvh σ xv))])) := by rw [eF43]; exact va_up_self _ _ _
        have hO : OE O F F43 := by rw [eF43]; exact hO.tr (OE1 ((CP_O hC).2.2.2.2.2.1 _ hb_r1.1 hb_r1.2))
        have hC : CP y L F43 O G (sVw σ xv (zbk σ xb) (zvl σ xv) (zvh σ xv)) := by rw [eF43]; exact CP_vw hC hb_r1 (va_up_self _ _ _) (fun q hq => va_up_ne _ _ hq)
        refine lv_aload hx hb dX3_openView_130 (lv_at hl 7 rfl) ?_
        refine lv_iload_n hx hb dX3_openView_132 rfl (lv_at hl 11 rfl) ?_
        refine q_if_ne hx hb dX3_openView_133 (tgt := 140) (by decide) (by omega) (fun c44 => ?_) (fun c44 => ?_)
        · refine lv_iload hx hb dX3_openView_140 (lv_at hl 1 rfl) ?_
          refine q_put C0 iX1 tyX1 tyX1_ok nmX1 hP hD hS (CP_v hC hb_r1).1 hvF rfl 1 (by decide) flX3_182 rfl rfl rfl rfl (Nat.le_of_ble_eq_true rfl) dX3_openView_142 (fun H locs hP hD hS => ?_)
          obtain ⟨F45, eF45⟩ : ∃ z, z = va_up F43 (gva G xv) (.inr (3, [.ref ((grh G (zbk σ xb))), .int (iI ((turn (zod σ (zbk σ xb)) xlow))), .int (iI (zvh σ xv))])) := ⟨_, rfl⟩
          have hP : va_P D vwCl (va_pl L F45) H := by rw [eF45]; exact hP
          have hD : va_D (AL L s.heap.size) (va_pl L F45) := by rw [eF45]; exact hD
          have hvF : F45 (gva G xv) = (.inr (3, [.ref ((grh G (zbk σ xb))), .int (iI ((turn (zod σ (zbk σ xb)) xlow))), .int (iI (zvh σ xv))])) := by rw [eF45]; exact va_up_self _ _ _
          have hO : OE O F F45 := by rw [eF45]; exact hO.tr (OE1 ((CP_O hC).2.2.2.2.2.1 _ hb_r1.1 hb_r1.2))
          have hC : CP y L F45 O G (sVw (sVw σ xv (zbk σ xb) (zvl σ xv) (zvh σ xv)) xv (zbk σ xb) (turn (zod σ (zbk σ xb)) xlow) (zvh σ xv)) := by rw [eF45]; exact CP_vw hC hb_r1 (va_up_self _ _ _) (fun q hq => va_up_ne _ _ hq)
          refine lv_aload hx hb dX3_openView_145 (lv_at hl 7 rfl) ?_
          refine lv_iload_n hx hb dX3_openView_147 rfl (lv_at hl 11 rfl) ?_
          refine q_iconst hx hb dX3_openView_148 ?_
          refine q_icmp_ne hx hb dX3_openView_149 (tgt := 157) (by decide) (by omega) (by omega) (fun c46 => ?_) (fun c46 => ?_)
          · refine lv_iload hx hb dX3_openView_157 (lv_at hl 0 rfl) ?_
            refine q_put C0 iX1 tyX1 tyX1_ok nmX1 hP hD hS (CP_v hC hb_r1).1 hvF rfl 2 (by decide) flX3_185 rfl rfl rfl rfl (Nat.le_of_ble_eq_true rfl) dX3_openView_159 (fun H locs hP hD hS => ?_)
            obtain ⟨F47, eF47⟩ : ∃ z, z = va_up F45 (gva G xv) (.inr (3, [.ref ((grh G (zbk σ xb))), .int (iI ((turn (zod σ (zbk σ xb)) xlow))), .int (iI (((turn (zod σ (zbk σ xb)) xhigh) - 1)))])) := ⟨_, rfl⟩
            have hP : va_P D vwCl (va_pl L F47) H := by rw [eF47]; exact hP
            have hD : va_D (AL L s.heap.size) (va_pl L F47) := by rw [eF47]; exact hD
            have hvF : F47 (gva G xv) = (.inr (3, [.ref ((grh G (zbk σ xb))), .int (iI ((turn (zod σ (zbk σ xb)) xlow))), .int (iI (((turn (zod σ (zbk σ xb)) xhigh) - 1)))])) := by rw [eF47]; exact va_up_self _ _ _
            have hO : OE O F F47 := by rw [eF47]; exact hO.tr (OE1 ((CP_O hC).2.2.2.2.2.1 _ hb_r1.1 hb_r1.2))
            have hC : CP y L F47 O G (sVw (sVw (sVw σ xv (zbk σ xb) (zvl σ xv) (zvh σ xv)) xv (zbk σ xb) (turn (zod σ (zbk σ xb)) xlow) (zvh σ xv)) xv (zbk σ xb) (turn (zod σ (zbk σ xb)) xlow) ((turn (zod σ (zbk σ xb)) xhigh) - 1)) := by rw [eF47]; exact CP_vw hC hb_r1 (va_up_self _ _ _) (fun q hq => va_up_ne _ _ hq)
            refine lv_aload hx hb dX3_openView_162 (lv_at hl 6 rfl) ?_
            refine lv_aload hx hb dX3_openView_164 (lv_at hl 7 rfl) ?_
            refine q_get C0 iX1 hP (CP_v hC hb_r1).1 hvF rfl 1 (by decide) flX3_182 rfl rfl dX3_openView_166 ?_
            refine lv_aload hx hb dX3_openView_169 (lv_at hl 7 rfl) ?_
            refine q_get C0 iX1 hP (CP_v hC hb_r1).1 hvF rfl 2 (by decide) flX3_185 rfl rfl dX3_openView_171 ?_
            refine q_vS C0 lX3_188 (c_X0_countOfPart l D y L F47 (grh G (zbk σ xb)) (grw G (zbk σ xb)) (zod σ (zbk σ xb)) ((zst σ (zbk σ xb)).1) ((zst σ (zbk σ xb)).2.1) ((zst σ (zbk σ xb)).2.2) (turn (zod σ (zbk σ xb)) xlow) ((turn (zod σ (zbk σ xb)) xhigh) - 1) (CP_r hC (hW.1 xb)) (by omega) (by omega)) ⟨rfl, rfl⟩ rfl hP (CP_r hC (hW.1 xb)).1 (CP_r hC (hW.1 xb)).2.1 rfl rfl rfl hl rfl (Nat.le_of_ble_eq_true rfl) dX3_openView_174 ⟨Nat.le_of_ble_eq_true rfl, Nat.le_of_ble_eq_true rfl⟩ (fun r48 e_r48 => ?_)
            subst e_r48
            refine W.widen (k := 8) (n := 60) (Nat.le_of_ble_eq_true rfl) (Nat.le_of_ble_eq_true rfl) ?_
            exact vx_ret (q_retMi C0 hret rfl hlk dX3_openView_177 hP hD hS (⟨by omega, by omega, (by unfold kR_openView; rw [if_neg (by omega), show oLo (zod σ (zbk σ xb)) xkind xlow xends = (turn (zod σ (zbk σ xb)) xlow) by (unfold oLo; (repeat' split) <;> first | rfl | omega), show oHi (zod σ (zbk σ xb)) xkind xhigh xends = ((turn (zod σ (zbk σ xb)) xhigh) - 1) by (unfold oHi; (repeat' split) <;> first | rfl | omega)]), O, G, CP_eq hC (by rw [sVw2, sVw2]; unfold kS_openView; rw [if_neg (by omega), show oLo (zod σ (zbk σ xb)) xkind xlow xends = (turn (zod σ (zbk σ xb)) xlow) by (unfold oLo; (repeat' split) <;> first | rfl | omega), show oHi (zod σ (zbk σ xb)) xkind xhigh xends = ((turn (zod σ (zbk σ xb)) xhigh) - 1) by (unfold oHi; (repeat' split) <;> first | rfl | omega)]), rfl, Ext0 hO⟩))
          · refine q_bipush hx hb dX3_openView_152 (by decide) ?_
            refine lv_goto (tgt := 159) hx hb dX3_openView_154 (by decide) ?_
            refine q_put C0 iX1 tyX1 tyX1_ok nmX1 hP hD hS (CP_v hC hb_r1).1 hvF rfl 2 (by decide) flX3_185 rfl rfl rfl rfl (Nat.le_of_ble_eq_true rfl) dX3_openView_159 (fun H locs hP hD hS => ?_)
            obtain ⟨F49, eF49⟩ : ∃ z, z = va_up F45 (gva G xv) (.inr (3, [.ref ((grh G (zbk σ xb))), .int (iI ((turn (zod σ (zbk σ xb)) xlow))), .int (iI 99)])) := ⟨_, rfl⟩
            have hP : va_P D vwCl (va_pl L F49) H := by rw [eF49]; exact hP
            have hD : va_D (AL L s.heap.size) (va_pl L F49) := by rw [eF49]; exact hD
            have hvF : F49 (gva G xv) = (.inr (3, [.ref ((grh G (zbk σ xb))), .int (iI ((turn (zod σ (zbk σ xb)) xlow))), .int (iI 99)])) := by rw [eF49]; exact va_up_self _ _ _
            have hO : OE O F F49 := by rw [eF49]; exact hO.tr (OE1 ((CP_O hC).2.2.2.2.2.1 _ hb_r1.1 hb_r1.2))
            have hC : CP y L F49 O G (sVw (sVw (sVw σ xv (zbk σ xb) (zvl σ xv) (zvh σ xv)) xv (zbk σ xb) (turn (zod σ (zbk σ xb)) xlow) (zvh σ xv)) xv (zbk σ xb) (turn (zod σ (zbk σ xb)) xlow) 99) := by rw [eF49]; exact CP_vw hC hb_r1 (va_up_self _ _ _) (fun q hq => va_up_ne _ _ hq)
            refine lv_aload hx hb dX3_openView_162 (lv_at hl 6 rfl) ?_
            refine lv_aload hx hb dX3_openView_164 (lv_at hl 7 rfl) ?_
            refine q_get C0 iX1 hP (CP_v hC hb_r1).1 hvF rfl 1 (by decide) flX3_182 rfl rfl dX3_openView_166 ?_
            refine lv_aload hx hb dX3_openView_169 (lv_at hl 7 rfl) ?_
            refine q_get C0 iX1 hP (CP_v hC hb_r1).1 hvF rfl 2 (by decide) flX3_185 rfl rfl dX3_openView_171 ?_
            refine q_vS C0 lX3_188 (c_X0_countOfPart l D y L F49 (grh G (zbk σ xb)) (grw G (zbk σ xb)) (zod σ (zbk σ xb)) ((zst σ (zbk σ xb)).1) ((zst σ (zbk σ xb)).2.1) ((zst σ (zbk σ xb)).2.2) (turn (zod σ (zbk σ xb)) xlow) 99 (CP_r hC (hW.1 xb)) (by omega) (by omega)) ⟨rfl, rfl⟩ rfl hP (CP_r hC (hW.1 xb)).1 (CP_r hC (hW.1 xb)).2.1 rfl rfl rfl hl rfl (Nat.le_of_ble_eq_true rfl) dX3_openView_174 ⟨Nat.le_of_ble_eq_true rfl, Nat.le_of_ble_eq_true rfl⟩ (fun r50 e_r50 => ?_)
            subst e_r50
            refine W.widen (k := 8) (n := 60) (Nat.le_of_ble_eq_true rfl) (Nat.le_of_ble_eq_true rfl) ?_
            exact vx_ret (q_retMi C0 hret rfl hlk dX3_openView_177 hP hD hS (⟨by omega, by omega, (by unfold kR_openView; rw [if_neg (by omega), show oLo (zod σ (zbk σ xb)) xkind xlow xends = (turn (zod σ (zbk σ xb)) xlow) by (unfold oLo; (repeat' split) <;> first | rfl | omega), show oHi (zod σ (zbk σ xb)) xkind xhigh xends = 99 by (unfold oHi; (repeat' split) <;> first | rfl | omega)]), O, G, CP_eq hC (by rw [sVw2, sVw2]; unfold kS_openView; rw [if_neg (by omega), show oLo (zod σ (zbk σ xb)) xkind xlow xends = (turn (zod σ (zbk σ xb)) xlow) by (unfold oLo; (repeat' split) <;> first | rfl | omega), show oHi (zod σ (zbk σ xb)) xkind xhigh xends = 99 by (unfold oHi; (repeat' split) <;> first | rfl | omega)]), rfl, Ext0 hO⟩))
        · refine q_iconst hx hb dX3_openView_136 ?_
          refine lv_goto (tgt := 142) hx hb dX3_openView_137 (by decide) ?_
          refine q_put C0 iX1 tyX1 tyX1_ok nmX1 hP hD hS (CP_v hC hb_r1).1 hvF rfl 1 (by decide) flX3_182 rfl rfl rfl rfl (Nat.le_of_ble_eq_true rfl) dX3_openView_142 (fun H locs hP hD hS => ?_)
          obtain ⟨F51, eF51⟩ : ∃ z, z = va_up F43 (gva G xv) (.inr (3, [.ref ((grh G (zbk σ xb))), .int (iI 0), .int (iI (zvh σ xv))])) := ⟨_, rfl⟩
          have hP : va_P D vwCl (va_pl L F51) H := by rw [eF51]; exact hP
          have hD : va_D (AL L s.heap.size) (va_pl L F51) := by rw [eF51]; exact hD
          have hvF : F51 (gva G xv) = (.inr (3, [.ref ((grh G (zbk σ xb))), .int (iI 0), .int (iI (zvh σ xv))])) := by rw [eF51]; exact va_up_self _ _ _
          have hO : OE O F F51 := by rw [eF51]; exact hO.tr (OE1 ((CP_O hC).2.2.2.2.2.1 _ hb_r1.1 hb_r1.2))
          have hC : CP y L F51 O G (sVw (sVw σ xv (zbk σ xb) (zvl σ xv) (zvh σ xv)) xv (zbk σ xb) 0 (zvh σ xv)) := by rw [eF51]; exact CP_vw hC hb_r1 (va_up_self _ _ _) (fun q hq => va_up_ne _ _ hq)
          refine lv_aload hx hb dX3_openView_145 (lv_at hl 7 rfl) ?_
          refine lv_iload_n hx hb dX3_openView_147 rfl (lv_at hl 11 rfl) ?_
          refine q_iconst hx hb dX3_openView_148 ?_
          refine q_icmp_ne hx hb dX3_openView_149 (tgt := 157) (by decide) (by omega) (by omega) (fun c52 => ?_) (fun c52 => absurd c52 (by omega))
          refine lv_iload hx hb dX3_openView_157 (lv_at hl 0 rfl) ?_
          refine q_put C0 iX1 tyX1 tyX1_ok nmX1 hP hD hS (CP_v hC hb_r1).1 hvF rfl 2 (by decide) flX3_185 rfl rfl rfl rfl (Nat.le_of_ble_eq_true rfl) dX3_openView_159 (fun H locs hP hD hS => ?_)
          obtain ⟨F53, eF53⟩ : ∃ z, z = va_up F51 (gva G xv) (.inr (3, [.ref ((grh G (zbk σ xb))), .int (iI 0), .int (iI (((turn (zod σ (zbk σ xb)) xhigh) - 1)))])) := ⟨_, rfl⟩
          have hP : va_P D vwCl (va_pl L F53) H := by rw [eF53]; exact hP
          have hD : va_D (AL L s.heap.size) (va_pl L F53) := by rw [eF53]; exact hD
          have hvF : F53 (gva G xv) = (.inr (3, [.ref ((grh G (zbk σ xb))), .int (iI 0), .int (iI (((turn (zod σ (zbk σ xb)) xhigh) - 1)))])) := by rw [eF53]; exact va_up_self _ _ _
          have hO : OE O F F53 := by rw [eF53]; exact hO.tr (OE1 ((CP_O hC).2.2.2.2.2.1 _ hb_r1.1 hb_r1.2))
          have hC : CP y L F53 O G (sVw (sVw (sVw σ xv (zbk σ xb) (zvl σ xv) (zvh σ xv)) xv (zbk σ xb) 0 (zvh σ xv)) xv (zbk σ xb) 0 ((turn (zod σ (zbk σ xb)) xhigh) - 1)) := by rw [eF53]; exact CP_vw hC hb_r1 (va_up_self _ _ _) (fun q hq => va_up_ne _ _ hq)
          refine lv_aload hx hb dX3_openView_162 (lv_at hl 6 rfl) ?_
          refine lv_aload hx hb dX3_openView_164 (lv_at hl 7 rfl) ?_
          refine q_get C0 iX1 hP (CP_v hC hb_r1).1 hvF rfl 1 (by decide) flX3_182 rfl rfl dX3_openView_166 ?_
          refine lv_aload hx hb dX3_openView_169 (lv_at hl 7 rfl) ?_
          refine q_get C0 iX1 hP (CP_v hC hb_r1).1 hvF rfl 2 (by decide) flX3_185 rfl rfl dX3_openView_171 ?_
          refine q_vS C0 lX3_188 (c_X0_countOfPart l D y L F53 (grh G (zbk σ xb)) (grw G (zbk σ xb)) (zod σ (zbk σ xb)) ((zst σ (zbk σ xb)).1) ((zst σ (zbk σ xb)).2.1) ((zst σ (zbk σ xb)).2.2) 0 ((turn (zod σ (zbk σ xb)) xhigh) - 1) (CP_r hC (hW.1 xb)) (by omega) (by omega)) ⟨rfl, rfl⟩ rfl hP (CP_r hC (hW.1 xb)).1 (CP_r hC (hW.1 xb)).2.1 rfl rfl rfl hl rfl (Nat.le_of_ble_eq_true rfl) dX3_openView_174 ⟨Nat.le_of_ble_eq_true rfl, Nat.le_of_ble_eq_true rfl⟩ (fun r54 e_r54 => ?_)
          subst e_r54
          refine W.widen (k := 8) (n := 60) (Nat.le_of_ble_eq_true rfl) (Nat.le_of_ble_eq_true rfl) ?_
          exact vx_ret (q_retMi C0 hret rfl hlk dX3_openView_177 hP hD hS (⟨by omega, by omega, (by unfold kR_openView; rw [if_neg (by omega), show oLo (zod σ (zbk σ xb)) xkind xlow xends = 0 by (unfold oLo; (repeat' split) <;> first | rfl | omega), show oHi (zod σ (zbk σ xb)) xkind xhigh xends = ((turn (zod σ (zbk σ xb)) xhigh) - 1) by (unfold oHi; (repeat' split) <;> first | rfl | omega)]), O, G, CP_eq hC (by rw [sVw2, sVw2]; unfold kS_openView; rw [if_neg (by omega), show oLo (zod σ (zbk σ xb)) xkind xlow xends = 0 by (unfold oLo; (repeat' split) <;> first | rfl | omega), show oHi (zod σ (zbk σ xb)) xkind xhigh xends = ((turn (zod σ (zbk σ xb)) xhigh) - 1) by (unfold oHi; (repeat' split) <;> first | rfl | omega)]), rfl, Ext0 hO⟩))
      · refine q_iconst hx hb dX3_openView_84 ?_
        refine lv_goto (tgt := 89) hx hb dX3_openView_85 (by decide) ?_
        refine lv_istore (lv' := [(12, .int (iI 1)), (11, .int (iI 1)), (10, .int (iI ((turn (zod σ (zbk σ xb)) xhigh)))), (9, .int (iI ((turn (zod σ (zbk σ xb)) xlow)))), (8, .ref ((grh G (zbk σ xb)))), (7, .ref ((gva G xv))), (0, .ref ((gbg G))), (1, .int (iI xv)), (2, .int (iI xb)), (3, .int (iI xkind)), (4, .int (iI xlow)), (5, .int (iI xhigh)), (6, .int (iI xends))]) hx hb dX3_openView_89 hl (by decide) rfl (fun ls hl => ?_)
        refine lv_iload hx hb dX3_openView_91 (lv_at hl 1 rfl) ?_
        refine q_if_eq hx hb dX3_openView_93 (tgt := 101) (by decide) (by omega) (fun c55 => absurd c55 (by omega)) (fun c55 => ?_)
        refine lv_iload hx hb dX3_openView_96 (lv_at hl 3 rfl) ?_
        refine lv_goto (tgt := 105) hx hb dX3_openView_98 (by decide) ?_
        refine lv_istore (lv' := [(13, .int (iI ((turn (zod σ (zbk σ xb)) xlow)))), (12, .int (iI 1)), (11, .int (iI 1)), (10, .int (iI ((turn (zod σ (zbk σ xb)) xhigh)))), (9, .int (iI ((turn (zod σ (zbk σ xb)) xlow)))), (8, .ref ((grh G (zbk σ xb)))), (7, .ref ((gva G xv))), (0, .ref ((gbg G))), (1, .int (iI xv)), (2, .int (iI xb)), (3, .int (iI xkind)), (4, .int (iI xlow)), (5, .int (iI xhigh)), (6, .int (iI xends))]) hx hb dX3_openView_105 hl (by decide) rfl (fun ls hl => ?_)
        refine lv_iload hx hb dX3_openView_107 (lv_at hl 1 rfl) ?_
        refine q_if_eq hx hb dX3_openView_109 (tgt := 117) (by decide) (by omega) (fun c56 => absurd c56 (by omega)) (fun c56 => ?_)
        refine lv_iload hx hb dX3_openView_112 (lv_at hl 3 rfl) ?_
        refine lv_goto (tgt := 121) hx hb dX3_openView_114 (by decide) ?_
        refine lv_istore (lv' := [(14, .int (iI ((turn (zod σ (zbk σ xb)) xhigh)))), (13, .int (iI ((turn (zod σ (zbk σ xb)) xlow)))), (12, .int (iI 1)), (11, .int (iI 1)), (10, .int (iI ((turn (zod σ (zbk σ xb)) xhigh)))), (9, .int (iI ((turn (zod σ (zbk σ xb)) xlow)))), (8, .ref ((grh G (zbk σ xb)))), (7, .ref ((gva G xv))), (0, .ref ((gbg G))), (1, .int (iI xv)), (2, .int (iI xb)), (3, .int (iI xkind)), (4, .int (iI xlow)), (5, .int (iI xhigh)), (6, .int (iI xends))]) hx hb dX3_openView_121 hl (by decide) rfl (fun ls hl => ?_)
        refine lv_aload hx hb dX3_openView_123 (lv_at hl 7 rfl) ?_
        refine lv_aload hx hb dX3_openView_125 (lv_at hl 6 rfl) ?_
        refine q_put C0 iX1 tyX1 tyX1_ok nmX1 hP hD hS (CP_v hC hb_r1).1 (CP_v hC hb_r1).2 rfl 0 (by decide) flX3_178 rfl rfl rfl rfl (Nat.le_of_ble_eq_true rfl) dX3_openView_127 (fun H locs hP hD hS => ?_)
        obtain ⟨F57, eF57⟩ : ∃ z, z = va_up F (gva G xv) (.inr (3, [.ref ((grh G (zbk σ xb))), .int (iI (zvl σ xv)), .int (iI (zvh σ xv))])) := ⟨_, rfl⟩
        have hP : va_P D vwCl (va_pl L F57) H := by rw [eF57]; exact hP
        have hD : va_D (AL L s.heap.size) (va_pl L F57) := by rw [eF57]; exact hD
        have hvF : F57 (gva G xv) = (.inr (3, [.ref ((grh G (zbk σ xb))), .int (iI (zvl σ xv)), .int (iI (zvh σ xv))])) := by rw [eF57]; exact va_up_self _ _ _
        have hO : OE O F F57 := by rw [eF57]; exact hO.tr (OE1 ((CP_O hC).2.2.2.2.2.1 _ hb_r1.1 hb_r1.2))
        have hC : CP y L F57 O G (sVw σ xv (zbk σ xb) (zvl σ xv) (zvh σ xv)) := by rw [eF57]; exact CP_vw hC hb_r1 (va_up_self _ _ _) (fun q hq => va_up_ne _ _ hq)
        refine lv_aload hx hb dX3_openView_130 (lv_at hl 7 rfl) ?_
        refine lv_iload_n hx hb dX3_openView_132 rfl (lv_at hl 11 rfl) ?_
        refine q_if_ne hx hb dX3_openView_133 (tgt := 140) (by decide) (by omega) (fun c58 => ?_) (fun c58 => ?_)
        · refine lv_iload hx hb dX3_openView_140 (lv_at hl 1 rfl) ?_
          refine q_put C0 iX1 tyX1 tyX1_ok nmX1 hP hD hS (CP_v hC hb_r1).1 hvF rfl 1 (by decide) flX3_182 rfl rfl rfl rfl (Nat.le_of_ble_eq_true rfl) dX3_openView_142 (fun H locs hP hD hS => ?_)
          obtain ⟨F59, eF59⟩ : ∃ z, z = va_up F57 (gva G xv) (.inr (3, [.ref ((grh G (zbk σ xb))), .int (iI ((turn (zod σ (zbk σ xb)) xlow))), .int (iI (zvh σ xv))])) := ⟨_, rfl⟩
          have hP : va_P D vwCl (va_pl L F59) H := by rw [eF59]; exact hP
          have hD : va_D (AL L s.heap.size) (va_pl L F59) := by rw [eF59]; exact hD
          have hvF : F59 (gva G xv) = (.inr (3, [.ref ((grh G (zbk σ xb))), .int (iI ((turn (zod σ (zbk σ xb)) xlow))), .int (iI (zvh σ xv))])) := by rw [eF59]; exact va_up_self _ _ _
          have hO : OE O F F59 := by rw [eF59]; exact hO.tr (OE1 ((CP_O hC).2.2.2.2.2.1 _ hb_r1.1 hb_r1.2))
          have hC : CP y L F59 O G (sVw (sVw σ xv (zbk σ xb) (zvl σ xv) (zvh σ xv)) xv (zbk σ xb) (turn (zod σ (zbk σ xb)) xlow) (zvh σ xv)) := by rw [eF59]; exact CP_vw hC hb_r1 (va_up_self _ _ _) (fun q hq => va_up_ne _ _ hq)
          refine lv_aload hx hb dX3_openView_145 (lv_at hl 7 rfl) ?_
          refine lv_iload_n hx hb dX3_openView_147 rfl (lv_at hl 11 rfl) ?_
          refine q_iconst hx hb dX3_openView_148 ?_
          refine q_icmp_ne hx hb dX3_openView_149 (tgt := 157) (by decide) (by omega) (by omega) (fun c60 => ?_) (fun c60 => ?_)
          · refine lv_iload hx hb dX3_openView_157 (lv_at hl 0 rfl) ?_
            refine q_put C0 iX1 tyX1 tyX1_ok nmX1 hP hD hS (CP_v hC hb_r1).1 hvF rfl 2 (by decide) flX3_185 rfl rfl rfl rfl (Nat.le_of_ble_eq_true rfl) dX3_openView_159 (fun H locs hP hD hS => ?_)
            obtain ⟨F61, eF61⟩ : ∃ z, z = va_up F59 (gva G xv) (.inr (3, [.ref ((grh G (zbk σ xb))), .int (iI ((turn (zod σ (zbk σ xb)) xlow))), .int (iI ((turn (zod σ (zbk σ xb)) xhigh)))])) := ⟨_, rfl⟩
            have hP : va_P D vwCl (va_pl L F61) H := by rw [eF61]; exact hP
            have hD : va_D (AL L s.heap.size) (va_pl L F61) := by rw [eF61]; exact hD
            have hvF : F61 (gva G xv) = (.inr (3, [.ref ((grh G (zbk σ xb))), .int (iI ((turn (zod σ (zbk σ xb)) xlow))), .int (iI ((turn (zod σ (zbk σ xb)) xhigh)))])) := by rw [eF61]; exact va_up_self _ _ _
            have hO : OE O F F61 := by rw [eF61]; exact hO.tr (OE1 ((CP_O hC).2.2.2.2.2.1 _ hb_r1.1 hb_r1.2))
            have hC : CP y L F61 O G (sVw (sVw (sVw σ xv (zbk σ xb) (zvl σ xv) (zvh σ xv)) xv (zbk σ xb) (turn (zod σ (zbk σ xb)) xlow) (zvh σ xv)) xv (zbk σ xb) (turn (zod σ (zbk σ xb)) xlow) (turn (zod σ (zbk σ xb)) xhigh)) := by rw [eF61]; exact CP_vw hC hb_r1 (va_up_self _ _ _) (fun q hq => va_up_ne _ _ hq)
            refine lv_aload hx hb dX3_openView_162 (lv_at hl 6 rfl) ?_
            refine lv_aload hx hb dX3_openView_164 (lv_at hl 7 rfl) ?_
            refine q_get C0 iX1 hP (CP_v hC hb_r1).1 hvF rfl 1 (by decide) flX3_182 rfl rfl dX3_openView_166 ?_
            refine lv_aload hx hb dX3_openView_169 (lv_at hl 7 rfl) ?_
            refine q_get C0 iX1 hP (CP_v hC hb_r1).1 hvF rfl 2 (by decide) flX3_185 rfl rfl dX3_openView_171 ?_
            refine q_vS C0 lX3_188 (c_X0_countOfPart l D y L F61 (grh G (zbk σ xb)) (grw G (zbk σ xb)) (zod σ (zbk σ xb)) ((zst σ (zbk σ xb)).1) ((zst σ (zbk σ xb)).2.1) ((zst σ (zbk σ xb)).2.2) (turn (zod σ (zbk σ xb)) xlow) (turn (zod σ (zbk σ xb)) xhigh) (CP_r hC (hW.1 xb)) (by omega) (by omega)) ⟨rfl, rfl⟩ rfl hP (CP_r hC (hW.1 xb)).1 (CP_r hC (hW.1 xb)).2.1 rfl rfl rfl hl rfl (Nat.le_of_ble_eq_true rfl) dX3_openView_174 ⟨Nat.le_of_ble_eq_true rfl, Nat.le_of_ble_eq_true rfl⟩ (fun r62 e_r62 => ?_)
            subst e_r62
            refine W.widen (k := 8) (n := 60) (Nat.le_of_ble_eq_true rfl) (Nat.le_of_ble_eq_true rfl) ?_
            exact vx_ret (q_retMi C0 hret rfl hlk dX3_openView_177 hP hD hS (⟨by omega, by omega, (by unfold kR_openView; rw [if_neg (by omega), show oLo (zod σ (zbk σ xb)) xkind xlow xends = (turn (zod σ (zbk σ xb)) xlow) by (unfold oLo; (repeat' split) <;> first | rfl | omega), show oHi (zod σ (zbk σ xb)) xkind xhigh xends = (turn (zod σ (zbk σ xb)) xhigh) by (unfold oHi; (repeat' split) <;> first | rfl | omega)]), O, G, CP_eq hC (by rw [sVw2, sVw2]; unfold kS_openView; rw [if_neg (by omega), show oLo (zod σ (zbk σ xb)) xkind xlow xends = (turn (zod σ (zbk σ xb)) xlow) by (unfold oLo; (repeat' split) <;> first | rfl | omega), show oHi (zod σ (zbk σ xb)) xkind xhigh xends = (turn (zod σ (zbk σ xb)) xhigh) by (unfold oHi; (repeat' split) <;> first | rfl | omega)]), rfl, Ext0 hO⟩))
          · refine q_bipush hx hb dX3_openView_152 (by decide) ?_
            refine lv_goto (tgt := 159) hx hb dX3_openView_154 (by decide) ?_
            refine q_put C0 iX1 tyX1 tyX1_ok nmX1 hP hD hS (CP_v hC hb_r1).1 hvF rfl 2 (by decide) flX3_185 rfl rfl rfl rfl (Nat.le_of_ble_eq_true rfl) dX3_openView_159 (fun H locs hP hD hS => ?_)
            obtain ⟨F63, eF63⟩ : ∃ z, z = va_up F59 (gva G xv) (.inr (3, [.ref ((grh G (zbk σ xb))), .int (iI ((turn (zod σ (zbk σ xb)) xlow))), .int (iI 99)])) := ⟨_, rfl⟩
            have hP : va_P D vwCl (va_pl L F63) H := by rw [eF63]; exact hP
            have hD : va_D (AL L s.heap.size) (va_pl L F63) := by rw [eF63]; exact hD
            have hvF : F63 (gva G xv) = (.inr (3, [.ref ((grh G (zbk σ xb))), .int (iI ((turn (zod σ (zbk σ xb)) xlow))), .int (iI 99)])) := by rw [eF63]; exact va_up_self _ _ _
            have hO : OE O F F63 := by rw [eF63]; exact hO.tr (OE1 ((CP_O hC).2.2.2.2.2.1 _ hb_r1.1 hb_r1.2))
            have hC : CP y L F63 O G (sVw (sVw (sVw σ xv (zbk σ xb) (zvl σ xv) (zvh σ xv)) xv (zbk σ xb) (turn (zod σ (zbk σ xb)) xlow) (zvh σ xv)) xv (zbk σ xb) (turn (zod σ (zbk σ xb)) xlow) 99) := by rw [eF63]; exact CP_vw hC hb_r1 (va_up_self _ _ _) (fun q hq => va_up_ne _ _ hq)
            refine lv_aload hx hb dX3_openView_162 (lv_at hl 6 rfl) ?_
            refine lv_aload hx hb dX3_openView_164 (lv_at hl 7 rfl) ?_
            refine q_get C0 iX1 hP (CP_v hC hb_r1).1 hvF rfl 1 (by decide) flX3_182 rfl rfl dX3_openView_166 ?_
            refine lv_aload hx hb dX3_openView_169 (lv_at hl 7 rfl) ?_
            refine q_get C0 iX1 hP (CP_v hC hb_r1).1 hvF rfl 2 (by decide) flX3_185 rfl rfl dX3_openView_171 ?_
            refine q_vS C0 lX3_188 (c_X0_countOfPart l D y L F63 (grh G (zbk σ xb)) (grw G (zbk σ xb)) (zod σ (zbk σ xb)) ((zst σ (zbk σ xb)).1) ((zst σ (zbk σ xb)).2.1) ((zst σ (zbk σ xb)).2.2) (turn (zod σ (zbk σ xb)) xlow) 99 (CP_r hC (hW.1 xb)) (by omega) (by omega)) ⟨rfl, rfl⟩ rfl hP (CP_r hC (hW.1 xb)).1 (CP_r hC (hW.1 xb)).2.1 rfl rfl rfl hl rfl (Nat.le_of_ble_eq_true rfl) dX3_openView_174 ⟨Nat.le_of_ble_eq_true rfl, Nat.le_of_ble_eq_true rfl⟩ (fun r64 e_r64 => ?_)
            subst e_r64
            refine W.widen (k := 8) (n := 60) (Nat.le_of_ble_eq_true rfl) (Nat.le_of_ble_eq_true rfl) ?_
            exact vx_ret (q_retMi C0 hret rfl hlk dX3_openView_177 hP hD hS (⟨by omega, by omega, (by unfold kR_openView; rw [if_neg (by omega), show oLo (zod σ (zbk σ xb)) xkind xlow xends = (turn (zod σ (zbk σ xb)) xlow) by (unfold oLo; (repeat' split) <;> first | rfl | omega), show oHi (zod σ (zbk σ xb)) xkind xhigh xends = 99 by (unfold oHi; (repeat' split) <;> first | rfl | omega)]), O, G, CP_eq hC (by rw [sVw2, sVw2]; unfold kS_openView; rw [if_neg (by omega), show oLo (zod σ (zbk σ xb)) xkind xlow xends = (turn (zod σ (zbk σ xb)) xlow) by (unfold oLo; (repeat' split) <;> first | rfl | omega), show oHi (zod σ (zbk σ xb)) xkind xhigh xends = 99 by (unfold oHi; (repeat' split) <;> first | rfl | omega)]), rfl, Ext0 hO⟩))
        · refine q_iconst hx hb dX3_openView_136 ?_
          refine lv_goto (tgt := 142) hx hb dX3_openView_137 (by decide) ?_
          refine q_put C0 iX1 tyX1 tyX1_ok nmX1 hP hD hS (CP_v hC hb_r1).1 hvF rfl 1 (by decide) flX3_182 rfl rfl rfl rfl (Nat.le_of_ble_eq_true rfl) dX3_openView_142 (fun H locs hP hD hS => ?_)
          obtain ⟨F65, eF65⟩ : ∃ z, z = va_up F57 (gva G xv) (.inr (3, [.ref ((grh G (zbk σ xb))), .int (iI 0), .int (iI (zvh σ xv))])) := ⟨_, rfl⟩
          have hP : va_P D vwCl (va_pl L F65) H := by rw [eF65]; exact hP
          have hD : va_D (AL L s.heap.size) (va_pl L F65) := by rw [eF65]; exact hD
          have hvF : F65 (gva G xv) = (.inr (3, [.ref ((grh G (zbk σ xb))), .int (iI 0), .int (iI (zvh σ xv))])) := by rw [eF65]; exact va_up_self _ _ _
          have hO : OE O F F65 := by rw [eF65]; exact hO.tr (OE1 ((CP_O hC).2.2.2.2.2.1 _ hb_r1.1 hb_r1.2))
          have hC : CP y L F65 O G (sVw (sVw σ xv (zbk σ xb) (zvl σ xv) (zvh σ xv)) xv (zbk σ xb) 0 (zvh σ xv)) := by rw [eF65]; exact CP_vw hC hb_r1 (va_up_self _ _ _) (fun q hq => va_up_ne _ _ hq)
          refine lv_aload hx hb dX3_openView_145 (lv_at hl 7 rfl) ?_
          refine lv_iload_n hx hb dX3_openView_147 rfl (lv_at hl 11 rfl) ?_
          refine q_iconst hx hb dX3_openView_148 ?_
          refine q_icmp_ne hx hb dX3_openView_149 (tgt := 157) (by decide) (by omega) (by omega) (fun c66 => ?_) (fun c66 => absurd c66 (by omega))
          refine lv_iload hx hb dX3_openView_157 (lv_at hl 0 rfl) ?_
          refine q_put C0 iX1 tyX1 tyX1_ok nmX1 hP hD hS (CP_v hC hb_r1).1 hvF rfl 2 (by decide) flX3_185 rfl rfl rfl rfl (Nat.le_of_ble_eq_true rfl) dX3_openView_159 (fun H locs hP hD hS => ?_)
          obtain ⟨F67, eF67⟩ : ∃ z, z = va_up F65 (gva G xv) (.inr (3, [.ref ((grh G (zbk σ xb))), .int (iI 0), .int (iI ((turn (zod σ (zbk σ xb)) xhigh)))])) := ⟨_, rfl⟩
          have hP : va_P D vwCl (va_pl L F67) H := by rw [eF67]; exact hP
          have hD : va_D (AL L s.heap.size) (va_pl L F67) := by rw [eF67]; exact hD
          have hvF : F67 (gva G xv) = (.inr (3, [.ref ((grh G (zbk σ xb))), .int (iI 0), .int (iI ((turn (zod σ (zbk σ xb)) xhigh)))])) := by rw [eF67]; exact va_up_self _ _ _
          have hO : OE O F F67 := by rw [eF67]; exact hO.tr (OE1 ((CP_O hC).2.2.2.2.2.1 _ hb_r1.1 hb_r1.2))
          have hC : CP y L F67 O G (sVw (sVw (sVw σ xv (zbk σ xb) (zvl σ xv) (zvh σ xv)) xv (zbk σ xb) 0 (zvh σ xv)) xv (zbk σ xb) 0 (turn (zod σ (zbk σ xb)) xhigh)) := by rw [eF67]; exact CP_vw hC hb_r1 (va_up_self _ _ _) (fun q hq => va_up_ne _ _ hq)
          refine lv_aload hx hb dX3_openView_162 (lv_at hl 6 rfl) ?_
          refine lv_aload hx hb dX3_openView_164 (lv_at hl 7 rfl) ?_
          refine q_get C0 iX1 hP (CP_v hC hb_r1).1 hvF rfl 1 (by decide) flX3_182 rfl rfl dX3_openView_166 ?_
          refine lv_aload hx hb dX3_openView_169 (lv_at hl 7 rfl) ?_
          refine q_get C0 iX1 hP (CP_v hC hb_r1).1 hvF rfl 2 (by decide) flX3_185 rfl rfl dX3_openView_171 ?_
          refine q_vS C0 lX3_188 (c_X0_countOfPart l D y L F67 (grh G (zbk σ xb)) (grw G (zbk σ xb)) (zod σ (zbk σ xb)) ((zst σ (zbk σ xb)).1) ((zst σ (zbk σ xb)).2.1) ((zst σ (zbk σ xb)).2.2) 0 (turn (zod σ (zbk σ xb)) xhigh) (CP_r hC (hW.1 xb)) (by omega) (by omega)) ⟨rfl, rfl⟩ rfl hP (CP_r hC (hW.1 xb)).1 (CP_r hC (hW.1 xb)).2.1 rfl rfl rfl hl rfl (Nat.le_of_ble_eq_true rfl) dX3_openView_174 ⟨Nat.le_of_ble_eq_true rfl, Nat.le_of_ble_eq_true rfl⟩ (fun r68 e_r68 => ?_)
          subst e_r68
          refine W.widen (k := 8) (n := 60) (Nat.le_of_ble_eq_true rfl) (Nat.le_of_ble_eq_true rfl) ?_
          exact vx_ret (q_retMi C0 hret rfl hlk dX3_openView_177 hP hD hS (⟨by omega, by omega, (by unfold kR_openView; rw [if_neg (by omega), show oLo (zod σ (zbk σ xb)) xkind xlow xends = 0 by (unfold oLo; (repeat' split) <;> first | rfl | omega), show oHi (zod σ (zbk σ xb)) xkind xhigh xends = (turn (zod σ (zbk σ xb)) xhigh) by (unfold oHi; (repeat' split) <;> first | rfl | omega)]), O, G, CP_eq hC (by rw [sVw2, sVw2]; unfold kS_openView; rw [if_neg (by omega), show oLo (zod σ (zbk σ xb)) xkind xlow xends = 0 by (unfold oLo; (repeat' split) <;> first | rfl | omega), show oHi (zod σ (zbk σ xb)) xkind xhigh xends = (turn (zod σ (zbk σ xb)) xhigh) by (unfold oHi; (repeat' split) <;> first | rfl | omega)]), rfl, Ext0 hO⟩))
  · refine lv_iload hx hb dX3_openView_51 (lv_at hl 1 rfl) ?_
    refine lv_iload hx hb dX3_openView_53 (lv_at hl 0 rfl) ?_
    refine q_icmp_le hx hb dX3_openView_55 (tgt := 63) (by decide) (by omega) (by omega) (fun c69 => ?_) (fun c69 => ?_)
    · refine lv_iload hx hb dX3_openView_63 (lv_at hl 10 rfl) ?_
      refine q_iconst hx hb dX3_openView_65 ?_
      refine q_iand hx hb dX3_openView_66 ?_
      refine q_if_eq hx hb dX3_openView_67 (tgt := 74) (by decide) (by omega) (fun c70 => ?_) (fun c70 => ?_)
      · refine q_iconst hx hb dX3_openView_74 ?_
        refine lv_istore (lv' := [(11, .int (iI 0)), (10, .int (iI ((turn (zod σ (zbk σ xb)) xhigh)))), (9, .int (iI ((turn (zod σ (zbk σ xb)) xlow)))), (8, .ref ((grh G (zbk σ xb)))), (7, .ref ((gva G xv))), (0, .ref ((gbg G))), (1, .int (iI xv)), (2, .int (iI xb)), (3, .int (iI xkind)), (4, .int (iI xlow)), (5, .int (iI xhigh)), (6, .int (iI xends))]) hx hb dX3_openView_75 hl (by decide) rfl (fun ls hl => ?_)
        refine lv_iload hx hb dX3_openView_77 (lv_at hl 11 rfl) ?_
        refine q_iconst hx hb dX3_openView_79 ?_
        refine q_iand hx hb dX3_openView_80 ?_
        refine q_if_eq hx hb dX3_openView_81 (tgt := 88) (by decide) (by omega) (fun c71 => ?_) (fun c71 => ?_)
        · refine q_iconst hx hb dX3_openView_88 ?_
          refine lv_istore (lv' := [(12, .int (iI 0)), (11, .int (iI 0)), (10, .int (iI ((turn (zod σ (zbk σ xb)) xhigh)))), (9, .int (iI ((turn (zod σ (zbk σ xb)) xlow)))), (8, .ref ((grh G (zbk σ xb)))), (7, .ref ((gva G xv))), (0, .ref ((gbg G))), (1, .int (iI xv)), (2, .int (iI xb)), (3, .int (iI xkind)), (4, .int (iI xlow)), (5, .int (iI xhigh)), (6, .int (iI xends))]) hx hb dX3_openView_89 hl (by decide) rfl (fun ls hl => ?_)
          refine lv_iload hx hb dX3_openView_91 (lv_at hl 1 rfl) ?_
          refine q_if_eq hx hb dX3_openView_93 (tgt := 101) (by decide) (by omega) (fun c72 => ?_) (fun c72 => absurd c72 (by omega))
          refine lv_iload hx hb dX3_openView_101 (lv_at hl 3 rfl) ?_
          refine q_iconst hx hb dX3_openView_103 ?_
          refine q_iadd hx hb dX3_openView_104 ?_
          refine lv_istore (lv' := [(13, .int (iI (((turn (zod σ (zbk σ xb)) xlow) + 1)))), (12, .int (iI 0)), (11, .int (iI 0)), (10, .int (iI ((turn (zod σ (zbk σ xb)) xhigh)))), (9, .int (iI ((turn (zod σ (zbk σ xb)) xlow)))), (8, .ref ((grh G (zbk σ xb)))), (7, .ref ((gva G xv))), (0, .ref ((gbg G))), (1, .int (iI xv)), (2, .int (iI xb)), (3, .int (iI xkind)), (4, .int (iI xlow)), (5, .int (iI xhigh)), (6, .int (iI xends))]) hx hb dX3_openView_105 hl (by decide) rfl (fun ls hl => ?_)
          refine lv_iload hx hb dX3_openView_107 (lv_at hl 1 rfl) ?_
          refine q_if_eq hx hb dX3_openView_109 (tgt := 117) (by decide) (by omega) (fun c73 => ?_) (fun c73 => absurd c73 (by omega))
          refine lv_iload hx hb dX3_openView_117 (lv_at hl 3 rfl) ?_
          refine q_iconst hx hb dX3_openView_119 ?_
          refine q_isub hx hb dX3_openView_120 ?_
          refine lv_istore (lv' := [(14, .int (iI (((turn (zod σ (zbk σ xb)) xhigh) - 1)))), (13, .int (iI (((turn (zod σ (zbk σ xb)) xlow) + 1)))), (12, .int (iI 0)), (11, .int (iI 0)), (10, .int (iI ((turn (zod σ (zbk σ xb)) xhigh)))), (9, .int (iI ((turn (zod σ (zbk σ xb)) xlow)))), (8, .ref ((grh G (zbk σ xb)))), (7, .ref ((gva G xv))), (0, .ref ((gbg G))), (1, .int (iI xv)), (2, .int (iI xb)), (3, .int (iI xkind)), (4, .int (iI xlow)), (5, .int (iI xhigh)), (6, .int (iI xends))]) hx hb dX3_openView_121 hl (by decide) rfl (fun ls hl => ?_)
          refine lv_aload hx hb dX3_openView_123 (lv_at hl 7 rfl) ?_
          refine lv_aload hx hb dX3_openView_125 (lv_at hl 6 rfl) ?_
          refine q_put C0 iX1 tyX1 tyX1_ok nmX1 hP hD hS (CP_v hC hb_r1).1 (CP_v hC hb_r1).2 rfl 0 (by decide) flX3_178 rfl rfl rfl rfl (Nat.le_of_ble_eq_true rfl) dX3_openView_127 (fun H locs hP hD hS => ?_)
          obtain ⟨F74, eF74⟩ : ∃ z, z = va_up F (gva G xv) (.inr (3, [.ref ((grh G (zbk σ xb))), .int (iI (zvl σ xv)), .int (iI (zvh σ xv))])) := ⟨_, rfl⟩
          have hP : va_P D vwCl (va_pl L F74) H := by rw [eF74]; exact hP
          have hD : va_D (AL L s.heap.size) (va_pl L F74) := by rw [eF74]; exact hD
          have hvF : F74 (gva G xv) = (.inr (3, [.ref ((grh G (zbk σ xb))), .int (iI (zvl σ xv)), .int (iI (zvh σ xv))])) := by rw [eF74]; exact va_up_self _ _ _
          have hO : OE O F F74 := by rw [eF74]; exact hO.tr (OE1 ((CP_O hC).2.2.2.2.2.1 _ hb_r1.1 hb_r1.2))
          have hC : CP y L F74 O G (sVw σ xv (zbk σ xb) (zvl σ xv) (zvh σ xv)) := by rw [eF74]; exact CP_vw hC hb_r1 (va_up_self _ _ _) (fun q hq => va_up_ne _ _ hq)
          refine lv_aload hx hb dX3_openView_130 (lv_at hl 7 rfl) ?_
          refine lv_iload_n hx hb dX3_openView_132 rfl (lv_at hl 11 rfl) ?_
          refine q_if_ne hx hb dX3_openView_133 (tgt := 140) (by decide) (by omega) (fun c75 => ?_) (fun c75 => absurd c75 (by omega))
          refine lv_iload hx hb dX3_openView_140 (lv_at hl 1 rfl) ?_
          refine q_put C0 iX1 tyX1 tyX1_ok nmX1 hP hD hS (CP_v hC hb_r1).1 hvF rfl 1 (by decide) flX3_182 rfl rfl rfl rfl (Nat.le_of_ble_eq_true rfl) dX3_openView_142 (fun H locs hP hD hS => ?_)
          obtain ⟨F76, eF76⟩ : ∃ z, z = va_up F74 (gva G xv) (.inr (3, [.ref ((grh G (zbk σ xb))), .int (iI (((turn (zod σ (zbk σ xb)) xlow) + 1))), .int (iI (zvh σ xv))])) := ⟨_, rfl⟩
          have hP : va_P D vwCl (va_pl L F76) H := by rw [eF76]; exact hP
          have hD : va_D (AL L s.heap.size) (va_pl L F76) := by rw [eF76]; exact hD
          have hvF : F76 (gva G xv) = (.inr (3, [.ref ((grh G (zbk σ xb))), .int (iI (((turn (zod σ (zbk σ xb)) xlow) + 1))), .int (iI (zvh σ xv))])) := by rw [eF76]; exact va_up_self _ _ _
          have hO : OE O F F76 := by rw [eF76]; exact hO.tr (OE1 ((CP_O hC).2.2.2.2.2.1 _ hb_r1.1 hb_r1.2))
          have hC : CP y L F76 O G (sVw (sVw σ xv (zbk σ xb) (zvl σ xv) (zvh σ xv)) xv (zbk σ xb) ((turn (zod σ (zbk σ xb)) xlow) + 1) (zvh σ xv)) := by rw [eF76]; exact CP_vw hC hb_r1 (va_up_self _ _ _) (fun q hq => va_up_ne _ _ hq)
          refine lv_aload hx hb dX3_openView_145 (lv_at hl 7 rfl) ?_
          refine lv_iload_n hx hb dX3_openView_147 rfl (lv_at hl 11 rfl) ?_
          refine q_iconst hx hb dX3_openView_148 ?_
          refine q_icmp_ne hx hb dX3_openView_149 (tgt := 157) (by decide) (by omega) (by omega) (fun c77 => ?_) (fun c77 => absurd c77 (by omega))
          refine lv_iload hx hb dX3_openView_157 (lv_at hl 0 rfl) ?_
          refine q_put C0 iX1 tyX1 tyX1_ok nmX1 hP hD hS (CP_v hC hb_r1).1 hvF rfl 2 (by decide) flX3_185 rfl rfl rfl rfl (Nat.le_of_ble_eq_true rfl) dX3_openView_159 (fun H locs hP hD hS => ?_)
          obtain ⟨F78, eF78⟩ : ∃ z, z = va_up F76 (gva G xv) (.inr (3, [.ref ((grh G (zbk σ xb))), .int (iI (((turn (zod σ (zbk σ xb)) xlow) + 1))), .int (iI (((turn (zod σ (zbk σ xb)) xhigh) - 1)))])) := ⟨_, rfl⟩
          have hP : va_P D vwCl (va_pl L F78) H := by rw [eF78]; exact hP
          have hD : va_D (AL L s.heap.size) (va_pl L F78) := by rw [eF78]; exact hD
          have hvF : F78 (gva G xv) = (.inr (3, [.ref ((grh G (zbk σ xb))), .int (iI (((turn (zod σ (zbk σ xb)) xlow) + 1))), .int (iI (((turn (zod σ (zbk σ xb)) xhigh) - 1)))])) := by rw [eF78]; exact va_up_self _ _ _
          have hO : OE O F F78 := by rw [eF78]; exact hO.tr (OE1 ((CP_O hC).2.2.2.2.2.1 _ hb_r1.1 hb_r1.2))
          have hC : CP y L F78 O G (sVw (sVw (sVw σ xv (zbk σ xb) (zvl σ xv) (zvh σ xv)) xv (zbk σ xb) ((turn (zod σ (zbk σ xb)) xlow) + 1) (zvh σ xv)) xv (zbk σ xb) ((turn (zod σ (zbk σ xb)) xlow) + 1) ((turn (zod σ (zbk σ xb)) xhigh) - 1)) := by rw [eF78]; exact CP_vw hC hb_r1 (va_up_self _ _ _) (fun q hq => va_up_ne _ _ hq)
          refine lv_aload hx hb dX3_openView_162 (lv_at hl 6 rfl) ?_
          refine lv_aload hx hb dX3_openView_164 (lv_at hl 7 rfl) ?_
          refine q_get C0 iX1 hP (CP_v hC hb_r1).1 hvF rfl 1 (by decide) flX3_182 rfl rfl dX3_openView_166 ?_
          refine lv_aload hx hb dX3_openView_169 (lv_at hl 7 rfl) ?_
          refine q_get C0 iX1 hP (CP_v hC hb_r1).1 hvF rfl 2 (by decide) flX3_185 rfl rfl dX3_openView_171 ?_
          refine q_vS C0 lX3_188 (c_X0_countOfPart l D y L F78 (grh G (zbk σ xb)) (grw G (zbk σ xb)) (zod σ (zbk σ xb)) ((zst σ (zbk σ xb)).1) ((zst σ (zbk σ xb)).2.1) ((zst σ (zbk σ xb)).2.2) ((turn (zod σ (zbk σ xb)) xlow) + 1) ((turn (zod σ (zbk σ xb)) xhigh) - 1) (CP_r hC (hW.1 xb)) (by omega) (by omega)) ⟨rfl, rfl⟩ rfl hP (CP_r hC (hW.1 xb)).1 (CP_r hC (hW.1 xb)).2.1 rfl rfl rfl hl rfl (Nat.le_of_ble_eq_true rfl) dX3_openView_174 ⟨Nat.le_of_ble_eq_true rfl, Nat.le_of_ble_eq_true rfl⟩ (fun r79 e_r79 => ?_)
          subst e_r79
          refine W.widen (k := 8) (n := 60) (Nat.le_of_ble_eq_true rfl) (Nat.le_of_ble_eq_true rfl) ?_
          exact vx_ret (q_retMi C0 hret rfl hlk dX3_openView_177 hP hD hS (⟨by omega, by omega, (by unfold kR_openView; rw [if_neg (by omega), show oLo (zod σ (zbk σ xb)) xkind xlow xends = ((turn (zod σ (zbk σ xb)) xlow) + 1) by (unfold oLo; (repeat' split) <;> first | rfl | omega), show oHi (zod σ (zbk σ xb)) xkind xhigh xends = ((turn (zod σ (zbk σ xb)) xhigh) - 1) by (unfold oHi; (repeat' split) <;> first | rfl | omega)]), O, G, CP_eq hC (by rw [sVw2, sVw2]; unfold kS_openView; rw [if_neg (by omega), show oLo (zod σ (zbk σ xb)) xkind xlow xends = ((turn (zod σ (zbk σ xb)) xlow) + 1) by (unfold oLo; (repeat' split) <;> first | rfl | omega), show oHi (zod σ (zbk σ xb)) xkind xhigh xends = ((turn (zod σ (zbk σ xb)) xhigh) - 1) by (unfold oHi; (repeat' split) <;> first | rfl | omega)]), rfl, Ext0 hO⟩))
        · refine q_iconst hx hb dX3_openView_84 ?_
          refine lv_goto (tgt := 89) hx hb dX3_openView_85 (by decide) ?_
          refine lv_istore (lv' := [(12, .int (iI 1)), (11, .int (iI 0)), (10, .int (iI ((turn (zod σ (zbk σ xb)) xhigh)))), (9, .int (iI ((turn (zod σ (zbk σ xb)) xlow)))), (8, .ref ((grh G (zbk σ xb)))), (7, .ref ((gva G xv))), (0, .ref ((gbg G))), (1, .int (iI xv)), (2, .int (iI xb)), (3, .int (iI xkind)), (4, .int (iI xlow)), (5, .int (iI xhigh)), (6, .int (iI xends))]) hx hb dX3_openView_89 hl (by decide) rfl (fun ls hl => ?_)
          refine lv_iload hx hb dX3_openView_91 (lv_at hl 1 rfl) ?_
          refine q_if_eq hx hb dX3_openView_93 (tgt := 101) (by decide) (by omega) (fun c80 => ?_) (fun c80 => absurd c80 (by omega))
          refine lv_iload hx hb dX3_openView_101 (lv_at hl 3 rfl) ?_
          refine q_iconst hx hb dX3_openView_103 ?_
          refine q_iadd hx hb dX3_openView_104 ?_
          refine lv_istore (lv' := [(13, .int (iI (((turn (zod σ (zbk σ xb)) xlow) + 1)))), (12, .int (iI 1)), (11, .int (iI 0)), (10, .int (iI ((turn (zod σ (zbk σ xb)) xhigh)))), (9, .int (iI ((turn (zod σ (zbk σ xb)) xlow)))), (8, .ref ((grh G (zbk σ xb)))), (7, .ref ((gva G xv))), (0, .ref ((gbg G))), (1, .int (iI xv)), (2, .int (iI xb)), (3, .int (iI xkind)), (4, .int (iI xlow)), (5, .int (iI xhigh)), (6, .int (iI xends))]) hx hb dX3_openView_105 hl (by decide) rfl (fun ls hl => ?_)
          refine lv_iload hx hb dX3_openView_107 (lv_at hl 1 rfl) ?_
          refine q_if_eq hx hb dX3_openView_109 (tgt := 117) (by decide) (by omega) (fun c81 => absurd c81 (by omega)) (fun c81 => ?_)
          refine lv_iload hx hb dX3_openView_112 (lv_at hl 3 rfl) ?_
          refine lv_goto (tgt := 121) hx hb dX3_openView_114 (by decide) ?_
          refine lv_istore (lv' := [(14, .int (iI ((turn (zod σ (zbk σ xb)) xhigh)))), (13, .int (iI (((turn (zod σ (zbk σ xb)) xlow) + 1)))), (12, .int (iI 1)), (11, .int (iI 0)), (10, .int (iI ((turn (zod σ (zbk σ xb)) xhigh)))), (9, .int (iI ((turn (zod σ (zbk σ xb)) xlow)))), (8, .ref ((grh G (zbk σ xb)))), (7, .ref ((gva G xv))), (0, .ref ((gbg G))), (1, .int (iI xv)), (2, .int (iI xb)), (3, .int (iI xkind)), (4, .int (iI xlow)), (5, .int (iI xhigh)), (6, .int (iI xends))]) hx hb dX3_openView_121 hl (by decide) rfl (fun ls hl => ?_)
          refine lv_aload hx hb dX3_openView_123 (lv_at hl 7 rfl) ?_
          refine lv_aload hx hb dX3_openView_125 (lv_at hl 6 rfl) ?_
          refine q_put C0 iX1 tyX1 tyX1_ok nmX1 hP hD hS (CP_v hC hb_r1).1 (CP_v hC hb_r1).2 rfl 0 (by decide) flX3_178 rfl rfl rfl rfl (Nat.le_of_ble_eq_true rfl) dX3_openView_127 (fun H locs hP hD hS => ?_)
          obtain ⟨F82, eF82⟩ : ∃ z, z = va_up F (gva G xv) (.inr (3, [.ref ((grh G (zbk σ xb))), .int (iI (zvl σ xv)), .int (iI (zvh σ xv))])) := ⟨_, rfl⟩
          have hP : va_P D vwCl (va_pl L F82) H := by rw [eF82]; exact hP
          have hD : va_D (AL L s.heap.size) (va_pl L F82) := by rw [eF82]; exact hD
          have hvF : F82 (gva G xv) = (.inr (3, [.ref ((grh G (zbk σ xb))), .int (iI (zvl σ xv)), .int (iI (zvh σ xv))])) := by rw [eF82]; exact va_up_self _ _ _
          have hO : OE O F F82 := by rw [eF82]; exact hO.tr (OE1 ((CP_O hC).2.2.2.2.2.1 _ hb_r1.1 hb_r1.2))
          have hC : CP y L F82 O G (sVw σ xv (zbk σ xb) (zvl σ xv) (zvh σ xv)) := by rw [eF82]; exact CP_vw hC hb_r1 (va_up_self _ _ _) (fun q hq => va_up_ne _ _ hq)
          refine lv_aload hx hb dX3_openView_130 (lv_at hl 7 rfl) ?_
          refine lv_iload_n hx hb dX3_openView_132 rfl (lv_at hl 11 rfl) ?_
          refine q_if_ne hx hb dX3_openView_133 (tgt := 140) (by decide) (by omega) (fun c83 => ?_) (fun c83 => absurd c83 (by omega))
          refine lv_iload hx hb dX3_openView_140 (lv_at hl 1 rfl) ?_
          refine q_put C0 iX1 tyX1 tyX1_ok nmX1 hP hD hS (CP_v hC hb_r1).1 hvF rfl 1 (by decide) flX3_182 rfl rfl rfl rfl (Nat.le_of_ble_eq_true rfl) dX3_openView_142 (fun H locs hP hD hS => ?_)
          obtain ⟨F84, eF84⟩ : ∃ z, z = va_up F82 (gva G xv) (.inr (3, [.ref ((grh G (zbk σ xb))), .int (iI (((turn (zod σ (zbk σ xb)) xlow) + 1))), .int (iI (zvh σ xv))])) := ⟨_, rfl⟩
          have hP : va_P D vwCl (va_pl L F84) H := by rw [eF84]; exact hP
          have hD : va_D (AL L s.heap.size) (va_pl L F84) := by rw [eF84]; exact hD
          have hvF : F84 (gva G xv) = (.inr (3, [.ref ((grh G (zbk σ xb))), .int (iI (((turn (zod σ (zbk σ xb)) xlow) + 1))), .int (iI (zvh σ xv))])) := by rw [eF84]; exact va_up_self _ _ _
          have hO : OE O F F84 := by rw [eF84]; exact hO.tr (OE1 ((CP_O hC).2.2.2.2.2.1 _ hb_r1.1 hb_r1.2))
          have hC : CP y L F84 O G (sVw (sVw σ xv (zbk σ xb) (zvl σ xv) (zvh σ xv)) xv (zbk σ xb) ((turn (zod σ (zbk σ xb)) xlow) + 1) (zvh σ xv)) := by rw [eF84]; exact CP_vw hC hb_r1 (va_up_self _ _ _) (fun q hq => va_up_ne _ _ hq)
          refine lv_aload hx hb dX3_openView_145 (lv_at hl 7 rfl) ?_
          refine lv_iload_n hx hb dX3_openView_147 rfl (lv_at hl 11 rfl) ?_
          refine q_iconst hx hb dX3_openView_148 ?_
          refine q_icmp_ne hx hb dX3_openView_149 (tgt := 157) (by decide) (by omega) (by omega) (fun c85 => ?_) (fun c85 => absurd c85 (by omega))
          refine lv_iload hx hb dX3_openView_157 (lv_at hl 0 rfl) ?_
          refine q_put C0 iX1 tyX1 tyX1_ok nmX1 hP hD hS (CP_v hC hb_r1).1 hvF rfl 2 (by decide) flX3_185 rfl rfl rfl rfl (Nat.le_of_ble_eq_true rfl) dX3_openView_159 (fun H locs hP hD hS => ?_)
          obtain ⟨F86, eF86⟩ : ∃ z, z = va_up F84 (gva G xv) (.inr (3, [.ref ((grh G (zbk σ xb))), .int (iI (((turn (zod σ (zbk σ xb)) xlow) + 1))), .int (iI ((turn (zod σ (zbk σ xb)) xhigh)))])) := ⟨_, rfl⟩
          have hP : va_P D vwCl (va_pl L F86) H := by rw [eF86]; exact hP
          have hD : va_D (AL L s.heap.size) (va_pl L F86) := by rw [eF86]; exact hD
          have hvF : F86 (gva G xv) = (.inr (3, [.ref ((grh G (zbk σ xb))), .int (iI (((turn (zod σ (zbk σ xb)) xlow) + 1))), .int (iI ((turn (zod σ (zbk σ xb)) xhigh)))])) := by rw [eF86]; exact va_up_self _ _ _
          have hO : OE O F F86 := by rw [eF86]; exact hO.tr (OE1 ((CP_O hC).2.2.2.2.2.1 _ hb_r1.1 hb_r1.2))
          have hC : CP y L F86 O G (sVw (sVw (sVw σ xv (zbk σ xb) (zvl σ xv) (zvh σ xv)) xv (zbk σ xb) ((turn (zod σ (zbk σ xb)) xlow) + 1) (zvh σ xv)) xv (zbk σ xb) ((turn (zod σ (zbk σ xb)) xlow) + 1) (turn (zod σ (zbk σ xb)) xhigh)) := by rw [eF86]; exact CP_vw hC hb_r1 (va_up_self _ _ _) (fun q hq => va_up_ne _ _ hq)
          refine lv_aload hx hb dX3_openView_162 (lv_at hl 6 rfl) ?_
          refine lv_aload hx hb dX3_openView_164 (lv_at hl 7 rfl) ?_
          refine q_get C0 iX1 hP (CP_v hC hb_r1).1 hvF rfl 1 (by decide) flX3_182 rfl rfl dX3_openView_166 ?_
          refine lv_aload hx hb dX3_openView_169 (lv_at hl 7 rfl) ?_
          refine q_get C0 iX1 hP (CP_v hC hb_r1).1 hvF rfl 2 (by decide) flX3_185 rfl rfl dX3_openView_171 ?_
          refine q_vS C0 lX3_188 (c_X0_countOfPart l D y L F86 (grh G (zbk σ xb)) (grw G (zbk σ xb)) (zod σ (zbk σ xb)) ((zst σ (zbk σ xb)).1) ((zst σ (zbk σ xb)).2.1) ((zst σ (zbk σ xb)).2.2) ((turn (zod σ (zbk σ xb)) xlow) + 1) (turn (zod σ (zbk σ xb)) xhigh) (CP_r hC (hW.1 xb)) (by omega) (by omega)) ⟨rfl, rfl⟩ rfl hP (CP_r hC (hW.1 xb)).1 (CP_r hC (hW.1 xb)).2.1 rfl rfl rfl hl rfl (Nat.le_of_ble_eq_true rfl) dX3_openView_174 ⟨Nat.le_of_ble_eq_true rfl, Nat.le_of_ble_eq_true rfl⟩ (fun r87 e_r87 => ?_)
          subst e_r87
          refine W.widen (k := 8) (n := 60) (Nat.le_of_ble_eq_true rfl) (Nat.le_of_ble_eq_true rfl) ?_
          exact vx_ret (q_retMi C0 hret rfl hlk dX3_openView_177 hP hD hS (⟨by omega, by omega, (by unfold kR_openView; rw [if_neg (by omega), show oLo (zod σ (zbk σ xb)) xkind xlow xends = ((turn (zod σ (zbk σ xb)) xlow) + 1) by (unfold oLo; (repeat' split) <;> first | rfl | omega), show oHi (zod σ (zbk σ xb)) xkind xhigh xends = (turn (zod σ (zbk σ xb)) xhigh) by (unfold oHi; (repeat' split) <;> first | rfl | omega)]), O, G, CP_eq hC (by rw [sVw2, sVw2]; unfold kS_openView; rw [if_neg (by omega), show oLo (zod σ (zbk σ xb)) xkind xlow xends = ((turn (zod σ (zbk σ xb)) xlow) + 1) by (unfold oLo; (repeat' split) <;> first | rfl | omega), show oHi (zod σ (zbk σ xb)) xkind xhigh xends = (turn (zod σ (zbk σ xb)) xhigh) by (unfold oHi; (repeat' split) <;> first | rfl | omega)]), rfl, Ext0 hO⟩))
      · refine q_iconst hx hb dX3_openView_70 ?_
        refine lv_goto (tgt := 75) hx hb dX3_openView_71 (by decide) ?_
        refine lv_istore (lv' := [(11, .int (iI 1)), (10, .int (iI ((turn (zod σ (zbk σ xb)) xhigh)))), (9, .int (iI ((turn (zod σ (zbk σ xb)) xlow)))), (8, .ref ((grh G (zbk σ xb)))), (7, .ref ((gva G xv))), (0, .ref ((gbg G))), (1, .int (iI xv)), (2, .int (iI xb)), (3, .int (iI xkind)), (4, .int (iI xlow)), (5, .int (iI xhigh)), (6, .int (iI xends))]) hx hb dX3_openView_75 hl (by decide) rfl (fun ls hl => ?_)
        refine lv_iload hx hb dX3_openView_77 (lv_at hl 11 rfl) ?_
        refine q_iconst hx hb dX3_openView_79 ?_
        refine q_iand hx hb dX3_openView_80 ?_
        refine q_if_eq hx hb dX3_openView_81 (tgt := 88) (by decide) (by omega) (fun c88 => ?_) (fun c88 => ?_)
        · refine q_iconst hx hb dX3_openView_88 ?_
          refine lv_istore (lv' := [(12, .int (iI 0)), (11, .int (iI 1)), (10, .int (iI ((turn (zod σ (zbk σ xb)) xhigh)))), (9, .int (iI ((turn (zod σ (zbk σ xb)) xlow)))), (8, .ref ((grh G (zbk σ xb)))), (7, .ref ((gva G xv))), (0, .ref ((gbg G))), (1, .int (iI xv)), (2, .int (iI xb)), (3, .int (iI xkind)), (4, .int (iI xlow)), (5, .int (iI xhigh)), (6, .int (iI xends))]) hx hb dX3_openView_89 hl (by decide) rfl (fun ls hl => ?_)
          refine lv_iload hx hb dX3_openView_91 (lv_at hl 1 rfl) ?_
          refine q_if_eq hx hb dX3_openView_93 (tgt := 101) (by decide) (by omega) (fun c89 => absurd c89 (by omega)) (fun c89 => ?_)
          refine lv_iload hx hb dX3_openView_96 (lv_at hl 3 rfl) ?_
          refine lv_goto (tgt := 105) hx hb dX3_openView_98 (by decide) ?_
          refine lv_istore (lv' := [(13, .int (iI ((turn (zod σ (zbk σ xb)) xlow)))), (12, .int (iI 0)), (11, .int (iI 1)), (10, .int (iI ((turn (zod σ (zbk σ xb)) xhigh)))), (9, .int (iI ((turn (zod σ (zbk σ xb)) xlow)))), (8, .ref ((grh G (zbk σ xb)))), (7, .ref ((gva G xv))), (0, .ref ((gbg G))), (1, .int (iI xv)), (2, .int (iI xb)), (3, .int (iI xkind)), (4, .int (iI xlow)), (5, .int (iI xhigh)), (6, .int (iI xends))]) hx hb dX3_openView_105 hl (by decide) rfl (fun ls hl => ?_)
          refine lv_iload hx hb dX3_openView_107 (lv_at hl 1 rfl) ?_
          refine q_if_eq hx hb dX3_openView_109 (tgt := 117) (by decide) (by omega) (fun c90 => ?_) (fun c90 => absurd c90 (by omega))
          refine lv_iload hx hb dX3_openView_117 (lv_at hl 3 rfl) ?_
          refine q_iconst hx hb dX3_openView_119 ?_
          refine q_isub hx hb dX3_openView_120 ?_
          refine lv_istore (lv' := [(14, .int (iI (((turn (zod σ (zbk σ xb)) xhigh) - 1)))), (13, .int (iI ((turn (zod σ (zbk σ xb)) xlow)))), (12, .int (iI 0)), (11, .int (iI 1)), (10, .int (iI ((turn (zod σ (zbk σ xb)) xhigh)))), (9, .int (iI ((turn (zod σ (zbk σ xb)) xlow)))), (8, .ref ((grh G (zbk σ xb)))), (7, .ref ((gva G xv))), (0, .ref ((gbg G))), (1, .int (iI xv)), (2, .int (iI xb)), (3, .int (iI xkind)), (4, .int (iI xlow)), (5, .int (iI xhigh)), (6, .int (iI xends))]) hx hb dX3_openView_121 hl (by decide) rfl (fun ls hl => ?_)
          refine lv_aload hx hb dX3_openView_123 (lv_at hl 7 rfl) ?_
          refine lv_aload hx hb dX3_openView_125 (lv_at hl 6 rfl) ?_
          refine q_put C0 iX1 tyX1 tyX1_ok nmX1 hP hD hS (CP_v hC hb_r1).1 (CP_v hC hb_r1).2 rfl 0 (by decide) flX3_178 rfl rfl rfl rfl (Nat.le_of_ble_eq_true rfl) dX3_openView_127 (fun H locs hP hD hS => ?_)
          obtain ⟨F91, eF91⟩ : ∃ z, z = va_up F (gva G xv) (.inr (3, [.ref ((grh G (zbk σ xb))), .int (iI (zvl σ xv)), .int (iI (zvh σ xv))])) := ⟨_, rfl⟩
          have hP : va_P D vwCl (va_pl L F91) H := by rw [eF91]; exact hP
          have hD : va_D (AL L s.heap.size) (va_pl L F91) := by rw [eF91]; exact hD
          have hvF : F91 (gva G xv) = (.inr (3, [.ref ((grh G (zbk σ xb))), .int (iI (zvl σ xv)), .int (iI (zvh σ xv))])) := by rw [eF91]; exact va_up_self _ _ _
          have hO : OE O F F91 := by rw [eF91]; exact hO.tr (OE1 ((CP_O hC).2.2.2.2.2.1 _ hb_r1.1 hb_r1.2))
          have hC : CP y L F91 O G (sVw σ xv (zbk σ xb) (zvl σ xv) (zvh σ xv)) := by rw [eF91]; exact CP_vw hC hb_r1 (va_up_self _ _ _) (fun q hq => va_up_ne _ _ hq)
          refine lv_aload hx hb dX3_openView_130 (lv_at hl 7 rfl) ?_
          refine lv_iload_n hx hb dX3_openView_132 rfl (lv_at hl 11 rfl) ?_
          refine q_if_ne hx hb dX3_openView_133 (tgt := 140) (by decide) (by omega) (fun c92 => ?_) (fun c92 => absurd c92 (by omega))
          refine lv_iload hx hb dX3_openView_140 (lv_at hl 1 rfl) ?_
          refine q_put C0 iX1 tyX1 tyX1_ok nmX1 hP hD hS (CP_v hC hb_r1).1 hvF rfl 1 (by decide) flX3_182 rfl rfl rfl rfl (Nat.le_of_ble_eq_true rfl) dX3_openView_142 (fun H locs hP hD hS => ?_)
          obtain ⟨F93, eF93⟩ : ∃ z, z = va_up F91 (gva G xv) (.inr (3, [.ref ((grh G (zbk σ xb))), .int (iI ((turn (zod σ (zbk σ xb)) xlow))), .int (iI (zvh σ xv))])) := ⟨_, rfl⟩
          have hP : va_P D vwCl (va_pl L F93) H := by rw [eF93]; exact hP
          have hD : va_D (AL L s.heap.size) (va_pl L F93) := by rw [eF93]; exact hD
          have hvF : F93 (gva G xv) = (.inr (3, [.ref ((grh G (zbk σ xb))), .int (iI ((turn (zod σ (zbk σ xb)) xlow))), .int (iI (zvh σ xv))])) := by rw [eF93]; exact va_up_self _ _ _
          have hO : OE O F F93 := by rw [eF93]; exact hO.tr (OE1 ((CP_O hC).2.2.2.2.2.1 _ hb_r1.1 hb_r1.2))
          have hC : CP y L F93 O G (sVw (sVw σ xv (zbk σ xb) (zvl σ xv) (zvh σ xv)) xv (zbk σ xb) (turn (zod σ (zbk σ xb)) xlow) (zvh σ xv)) := by rw [eF93]; exact CP_vw hC hb_r1 (va_up_self _ _ _) (fun q hq => va_up_ne _ _ hq)
          refine lv_aload hx hb dX3_openView_145 (lv_at hl 7 rfl) ?_
          refine lv_iload_n hx hb dX3_openView_147 rfl (lv_at hl 11 rfl) ?_
          refine q_iconst hx hb dX3_openView_148 ?_
          refine q_icmp_ne hx hb dX3_openView_149 (tgt := 157) (by decide) (by omega) (by omega) (fun c94 => ?_) (fun c94 => absurd c94 (by omega))
          refine lv_iload hx hb dX3_openView_157 (lv_at hl 0 rfl) ?_
          refine q_put C0 iX1 tyX1 tyX1_ok nmX1 hP hD hS (CP_v hC hb_r1).1 hvF rfl 2 (by decide) flX3_185 rfl rfl rfl rfl (Nat.le_of_ble_eq_true rfl) dX3_openView_159 (fun H locs hP hD hS => ?_)
          obtain ⟨F95, eF95⟩ : ∃ z, z = va_up F93 (gva G xv) (.inr (3, [.ref ((grh G (zbk σ xb))), .int (iI ((turn (zod σ (zbk σ xb)) xlow))), .int (iI (((turn (zod σ (zbk σ xb)) xhigh) - 1)))])) := ⟨_, rfl⟩
          have hP : va_P D vwCl (va_pl L F95) H := by rw [eF95]; exact hP
          have hD : va_D (AL L s.heap.size) (va_pl L F95) := by rw [eF95]; exact hD
          have hvF : F95 (gva G xv) = (.inr (3, [.ref ((grh G (zbk σ xb))), .int (iI ((turn (zod σ (zbk σ xb)) xlow))), .int (iI (((turn (zod σ (zbk σ xb)) xhigh) - 1)))])) := by rw [eF95]; exact va_up_self _ _ _
          have hO : OE O F F95 := by rw [eF95]; exact hO.tr (OE1 ((CP_O hC).2.2.2.2.2.1 _ hb_r1.1 hb_r1.2))
          have hC : CP y L F95 O G (sVw (sVw (sVw σ xv (zbk σ xb) (zvl σ xv) (zvh σ xv)) xv (zbk σ xb) (turn (zod σ (zbk σ xb)) xlow) (zvh σ xv)) xv (zbk σ xb) (turn (zod σ (zbk σ xb)) xlow) ((turn (zod σ (zbk σ xb)) xhigh) - 1)) := by rw [eF95]; exact CP_vw hC hb_r1 (va_up_self _ _ _) (fun q hq => va_up_ne _ _ hq)
          refine lv_aload hx hb dX3_openView_162 (lv_at hl 6 rfl) ?_
          refine lv_aload hx hb dX3_openView_164 (lv_at hl 7 rfl) ?_
          refine q_get C0 iX1 hP (CP_v hC hb_r1).1 hvF rfl 1 (by decide) flX3_182 rfl rfl dX3_openView_166 ?_
          refine lv_aload hx hb dX3_openView_169 (lv_at hl 7 rfl) ?_
          refine q_get C0 iX1 hP (CP_v hC hb_r1).1 hvF rfl 2 (by decide) flX3_185 rfl rfl dX3_openView_171 ?_
          refine q_vS C0 lX3_188 (c_X0_countOfPart l D y L F95 (grh G (zbk σ xb)) (grw G (zbk σ xb)) (zod σ (zbk σ xb)) ((zst σ (zbk σ xb)).1) ((zst σ (zbk σ xb)).2.1) ((zst σ (zbk σ xb)).2.2) (turn (zod σ (zbk σ xb)) xlow) ((turn (zod σ (zbk σ xb)) xhigh) - 1) (CP_r hC (hW.1 xb)) (by omega) (by omega)) ⟨rfl, rfl⟩ rfl hP (CP_r hC (hW.1 xb)).1 (CP_r hC (hW.1 xb)).2.1 rfl rfl rfl hl rfl (Nat.le_of_ble_eq_true rfl) dX3_openView_174 ⟨Nat.le_of_ble_eq_true rfl, Nat.le_of_ble_eq_true rfl⟩ (fun r96 e_r96 => ?_)
          subst e_r96
          refine W.widen (k := 8) (n := 60) (Nat.le_of_ble_eq_true rfl) (Nat.le_of_ble_eq_true rfl) ?_
          exact vx_ret (q_retMi C0 hret rfl hlk dX3_openView_177 hP hD hS (⟨by omega, by omega, (by unfold kR_openView; rw [if_neg (by omega), show oLo (zod σ (zbk σ xb)) xkind xlow xends = (turn (zod σ (zbk σ xb)) xlow) by (unfold oLo; (repeat' split) <;> first | rfl | omega), show oHi (zod σ (zbk σ xb)) xkind xhigh xends = ((turn (zod σ (zbk σ xb)) xhigh) - 1) by (unfold oHi; (repeat' split) <;> first | rfl | omega)]), O, G, CP_eq hC (by rw [sVw2, sVw2]; unfold kS_openView; rw [if_neg (by omega), show oLo (zod σ (zbk σ xb)) xkind xlow xends = (turn (zod σ (zbk σ xb)) xlow) by (unfold oLo; (repeat' split) <;> first | rfl | omega), show oHi (zod σ (zbk σ xb)) xkind xhigh xends = ((turn (zod σ (zbk σ xb)) xhigh) - 1) by (unfold oHi; (repeat' split) <;> first | rfl | omega)]), rfl, Ext0 hO⟩))
        · refine q_iconst hx hb dX3_openView_84 ?_
          refine lv_goto (tgt := 89) hx hb dX3_openView_85 (by decide) ?_
          refine lv_istore (lv' := [(12, .int (iI 1)), (11, .int (iI 1)), (10, .int (iI ((turn (zod σ (zbk σ xb)) xhigh)))), (9, .int (iI ((turn (zod σ (zbk σ xb)) xlow)))), (8, .ref ((grh G (zbk σ xb)))), (7, .ref ((gva G xv))), (0, .ref ((gbg G))), (1, .int (iI xv)), (2, .int (iI xb)), (3, .int (iI xkind)), (4, .int (iI xlow)), (5, .int (iI xhigh)), (6, .int (iI xends))]) hx hb dX3_openView_89 hl (by decide) rfl (fun ls hl => ?_)
          refine lv_iload hx hb dX3_openView_91 (lv_at hl 1 rfl) ?_
          refine q_if_eq hx hb dX3_openView_93 (tgt := 101) (by decide) (by omega) (fun c97 => absurd c97 (by omega)) (fun c97 => ?_)
          refine lv_iload hx hb dX3_openView_96 (lv_at hl 3 rfl) ?_
          refine lv_goto (tgt := 105) hx hb dX3_openView_98 (by decide) ?_
          refine lv_istore (lv' := [(13, .int (iI ((turn (zod σ (zbk σ xb)) xlow)))), (12, .int (iI 1)), (11, .int (iI 1)), (10, .int (iI ((turn (zod σ (zbk σ xb)) xhigh)))), (9, .int (iI ((turn (zod σ (zbk σ xb)) xlow)))), (8, .ref ((grh G (zbk σ xb)))), (7, .ref ((gva G xv))), (0, .ref ((gbg G))), (1, .int (iI xv)), (2, .int (iI xb)), (3, .int (iI xkind)), (4, .int (iI xlow)), (5, .int (iI xhigh)), (6, .int (iI xends))]) hx hb dX3_openView_105 hl (by decide) rfl (fun ls hl => ?_)
          refine lv_iload hx hb dX3_openView_107 (lv_at hl 1 rfl) ?_
          refine q_if_eq hx hb dX3_openView_109 (tgt := 117) (by decide) (by omega) (fun c98 => absurd c98 (by omega)) (fun c98 => ?_)
          refine lv_iload hx hb dX3_openView_112 (lv_at hl 3 rfl) ?_
          refine lv_goto (tgt := 121) hx hb dX3_openView_114 (by decide) ?_
          refine lv_istore (lv' := [(14, .int (iI ((turn (zod σ (zbk σ xb)) xhigh)))), (13, .int (iI ((turn (zod σ (zbk σ xb)) xlow)))), (12, .int (iI 1)), (11, .int (iI 1)), (10, .int (iI ((turn (zod σ (zbk σ xb)) xhigh)))), (9, .int (iI ((turn (zod σ (zbk σ xb)) xlow)))), (8, .ref ((grh G (zbk σ xb)))), (7, .ref ((gva G xv))), (0, .ref ((gbg G))), (1, .int (iI xv)), (2, .int (iI xb)), (3, .int (iI xkind)), (4, .int (iI xlow)), (5, .int (iI xhigh)), (6, .int (iI xends))]) hx hb dX3_openView_121 hl (by decide) rfl (fun ls hl => ?_)
          refine lv_aload hx hb dX3_openView_123 (lv_at hl 7 rfl) ?_
          refine lv_aload hx hb dX3_openView_125 (lv_at hl 6 rfl) ?_
          refine q_put C0 iX1 tyX1 tyX1_ok nmX1 hP hD hS (CP_v hC hb_r1).1 (CP_v hC hb_r1).2 rfl 0 (by decide) flX3_178 rfl rfl rfl rfl (Nat.le_of_ble_eq_true rfl) dX3_openView_127 (fun H locs hP hD hS => ?_)
          obtain ⟨F99, eF99⟩ : ∃ z, z = va_up F (gva G xv) (.inr (3, [.ref ((grh G (zbk σ xb))), .int (iI (zvl σ xv)), .int (iI (zvh σ xv))])) := ⟨_, rfl⟩
          have hP : va_P D vwCl (va_pl L F99) H := by rw [eF99]; exact hP
          have hD : va_D (AL L s.heap.size) (va_pl L F99) := by rw [eF99]; exact hD
          have hvF : F99 (gva G xv) = (.inr (3, [.ref ((grh G (zbk σ xb))), .int (iI (zvl σ xv)), .int (iI (zvh σ xv))])) := by rw [eF99]; exact va_up_self _ _ _
          have hO : OE O F F99 := by rw [eF99]; exact hO.tr (OE1 ((CP_O hC).2.2.2.2.2.1 _ hb_r1.1 hb_r1.2))
          have hC : CP y L F99 O G (sVw σ xv (zbk σ xb) (zvl σ xv) (zvh σ xv)) := by rw [eF99]; exact CP_vw hC hb_r1 (va_up_self _ _ _) (fun q hq => va_up_ne _ _ hq)
          refine lv_aload hx hb dX3_openView_130 (lv_at hl 7 rfl) ?_
          refine lv_iload_n hx hb dX3_openView_132 rfl (lv_at hl 11 rfl) ?_
          refine q_if_ne hx hb dX3_openView_133 (tgt := 140) (by decide) (by omega) (fun c100 => ?_) (fun c100 => absurd c100 (by omega))
          refine lv_iload hx hb dX3_openView_140 (lv_at hl 1 rfl) ?_
          refine q_put C0 iX1 tyX1 tyX1_ok nmX1 hP hD hS (CP_v hC hb_r1).1 hvF rfl 1 (by decide) flX3_182 rfl rfl rfl rfl (Nat.le_of_ble_eq_true rfl) dX3_openView_142 (fun H locs hP hD hS => ?_)
          obtain ⟨F101, eF101⟩ : ∃ z, z = va_up F99 (gva G xv) (.inr (3, [.ref ((grh G (zbk σ xb))), .int (iI ((turn (zod σ (zbk σ xb)) xlow))), .int (iI (zvh σ xv))])) := ⟨_, rfl⟩
          have hP : va_P D vwCl (va_pl L F101) H := by rw [eF101]; exact hP
          have hD : va_D (AL L s.heap.size) (va_pl L F101) := by rw [eF101]; exact hD
          have hvF : F101 (gva G xv) = (.inr (3, [.ref ((grh G (zbk σ xb))), .int (iI ((turn (zod σ (zbk σ xb)) xlow))), .int (iI (zvh σ xv))])) := by rw [eF101]; exact va_up_self _ _ _
          have hO : OE O F F101 := by rw [eF101]; exact hO.tr (OE1 ((CP_O hC).2.2.2.2.2.1 _ hb_r1.1 hb_r1.2))
          have hC : CP y L F101 O G (sVw (sVw σ xv (zbk σ xb) (zvl σ xv) (zvh σ xv)) xv (zbk σ xb) (turn (zod σ (zbk σ xb)) xlow) (zvh σ xv)) := by rw [eF101]; exact CP_vw hC hb_r1 (va_up_self _ _ _) (fun q hq => va_up_ne _ _ hq)
          refine lv_aload hx hb dX3_openView_145 (lv_at hl 7 rfl) ?_
          refine lv_iload_n hx hb dX3_openView_147 rfl (lv_at hl 11 rfl) ?_
          refine q_iconst hx hb dX3_openView_148 ?_
          refine q_icmp_ne hx hb dX3_openView_149 (tgt := 157) (by decide) (by omega) (by omega) (fun c102 => ?_) (fun c102 => absurd c102 (by omega))
          refine lv_iload hx hb dX3_openView_157 (lv_at hl 0 rfl) ?_
          refine q_put C0 iX1 tyX1 tyX1_ok nmX1 hP hD hS (CP_v hC hb_r1).1 hvF rfl 2 (by decide) flX3_185 rfl rfl rfl rfl (Nat.le_of_ble_eq_true rfl) dX3_openView_159 (fun H locs hP hD hS => ?_)
          obtain ⟨F103, eF103⟩ : ∃ z, z = va_up F101 (gva G xv) (.inr (3, [.ref ((grh G (zbk σ xb))), .int (iI ((turn (zod σ (zbk σ xb)) xlow))), .int (iI ((turn (zod σ (zbk σ xb)) xhigh)))])) := ⟨_, rfl⟩
          have hP : va_P D vwCl (va_pl L F103) H := by rw [eF103]; exact hP
          have hD : va_D (AL L s.heap.size) (va_pl L F103) := by rw [eF103]; exact hD
          have hvF : F103 (gva G xv) = (.inr (3, [.ref ((grh G (zbk σ xb))), .int (iI ((turn (zod σ (zbk σ xb)) xlow))), .int (iI ((turn (zod σ (zbk σ xb)) xhigh)))])) := by rw [eF103]; exact va_up_self _ _ _
          have hO : OE O F F103 := by rw [eF103]; exact hO.tr (OE1 ((CP_O hC).2.2.2.2.2.1 _ hb_r1.1 hb_r1.2))
          have hC : CP y L F103 O G (sVw (sVw (sVw σ xv (zbk σ xb) (zvl σ xv) (zvh σ xv)) xv (zbk σ xb) (turn (zod σ (zbk σ xb)) xlow) (zvh σ xv)) xv (zbk σ xb) (turn (zod σ (zbk σ xb)) xlow) (turn (zod σ (zbk σ xb)) xhigh)) := by rw [eF103]; exact CP_vw hC hb_r1 (va_up_self _ _ _) (fun q hq => va_up_ne _ _ hq)
          refine lv_aload hx hb dX3_openView_162 (lv_at hl 6 rfl) ?_
          refine lv_aload hx hb dX3_openView_164 (lv_at hl 7 rfl) ?_
          refine q_get C0 iX1 hP (CP_v hC hb_r1).1 hvF rfl 1 (by decide) flX3_182 rfl rfl dX3_openView_166 ?_
          refine lv_aload hx hb dX3_openView_169 (lv_at hl 7 rfl) ?_
          refine q_get C0 iX1 hP (CP_v hC hb_r1).1 hvF rfl 2 (by decide) flX3_185 rfl rfl dX3_openView_171 ?_
          refine q_vS C0 lX3_188 (c_X0_countOfPart l D y L F103 (grh G (zbk σ xb)) (grw G (zbk σ xb)) (zod σ (zbk σ xb)) ((zst σ (zbk σ xb)).1) ((zst σ (zbk σ xb)).2.1) ((zst σ (zbk σ xb)).2.2) (turn (zod σ (zbk σ xb)) xlow) (turn (zod σ (zbk σ xb)) xhigh) (CP_r hC (hW.1 xb)) (by omega) (by omega)) ⟨rfl, rfl⟩ rfl hP (CP_r hC (hW.1 xb)).1 (CP_r hC (hW.1 xb)).2.1 rfl rfl rfl hl rfl (Nat.le_of_ble_eq_true rfl) dX3_openView_174 ⟨Nat.le_of_ble_eq_true rfl, Nat.le_of_ble_eq_true rfl⟩ (fun r104 e_r104 => ?_)
          subst e_r104
          refine W.widen (k := 8) (n := 60) (Nat.le_of_ble_eq_true rfl) (Nat.le_of_ble_eq_true rfl) ?_
          exact vx_ret (q_retMi C0 hret rfl hlk dX3_openView_177 hP hD hS (⟨by omega, by omega, (by unfold kR_openView; rw [if_neg (by omega), show oLo (zod σ (zbk σ xb)) xkind xlow xends = (turn (zod σ (zbk σ xb)) xlow) by (unfold oLo; (repeat' split) <;> first | rfl | omega), show oHi (zod σ (zbk σ xb)) xkind xhigh xends = (turn (zod σ (zbk σ xb)) xhigh) by (unfold oHi; (repeat' split) <;> first | rfl | omega)]), O, G, CP_eq hC (by rw [sVw2, sVw2]; unfold kS_openView; rw [if_neg (by omega), show oLo (zod σ (zbk σ xb)) xkind xlow xends = (turn (zod σ (zbk σ xb)) xlow) by (unfold oLo; (repeat' split) <;> first | rfl | omega), show oHi (zod σ (zbk σ xb)) xkind xhigh xends = (turn (zod σ (zbk σ xb)) xhigh) by (unfold oHi; (repeat' split) <;> first | rfl | omega)]), rfl, Ext0 hO⟩))
    · refine lv_aload_n hx hb dX3_openView_58 rfl (lv_at hl 4 rfl) ?_
      refine q_vMi C0 lX3_63 (c_X3_refuse l D y L F _ O G σ hC) ⟨rfl, rfl⟩ rfl hP hD hS hA hC.1.1 hC.1.2 rfl rfl rfl hl rfl (Nat.le_of_ble_eq_true rfl) dX3_openView_59 ⟨Nat.le_of_ble_eq_true rfl, Nat.le_of_ble_eq_true rfl⟩ (fun r105 H locs L106 F106 hP hD hS hz106 hp106 => ?_)
      obtain ⟨eL, hC, er, hO1⟩ := hp106
      subst eL
      subst er
      have hO := hO.tr hO1
      refine W.widen (k := 8) (n := 60) (Nat.le_of_ble_eq_true rfl) (Nat.le_of_ble_eq_true rfl) ?_
      exact vx_ret (q_retMi C0 hret rfl hlk dX3_openView_62 hP hD hS (⟨by omega, by omega, (by unfold kR_openView; rw [if_pos (by omega)]), O, G, CP_eq hC (by unfold kS_openView; rw [if_pos (by omega)]), rfl, Ext0 hO⟩))
set_option maxHeartbeats 3000000 in
set_option maxRecDepth 100000 in
theorem c_X3_narrowView (l : Launch) (hfl : l.stackTraces = false) (D : va_G) (y : Nat → ClassId) (L : List Nat) (F : Nat → va_E) (sz : Nat) (O : Nat → Prop) (G : CG) (σ : CS) (xv : Int) (xkind : Int) (xlow : Int) (xhigh : Int) (hC : CP y L F O G σ) (hW : CW σ) (h_xv : -2147483648 ≤ xv ∧ xv ≤ 2147483647) (h_xkind : -2147483648 ≤ xkind ∧ xkind ≤ 2147483647) (h_xlow : -2147483648 ≤ xlow ∧ xlow ≤ 2147483647) (h_xhigh : -2147483648 ≤ xhigh ∧ xhigh ≤ 2147483647) : vx_Met l yX3_narrowView (.code yX3_narrowView cX3_narrowView 10 (some .int) :: Tt) ({ frames := 8, cells := 8, slots := 60, locals := 125 }) (PcX D y L F sz [.ref ((gbg G)), .int (iI xv), .int (iI xkind), .int (iI xlow), .int (iI xhigh)]) (cMi D (AL L sz) (fun r L1 F1 => ((0 ≤ xv ∧ xv ≤ 1)) ∧ ((0 ≤ xkind ∧ xkind ≤ 2) ∧ (0 ≤ xlow ∧ xlow ≤ 99) ∧ (0 ≤ xhigh ∧ xhigh ≤ 99)) ∧ r = kR_narrowView σ xv xkind xlow xhigh ∧ ∃ O1 G1, CP y L1 F1 O1 G1 (kS_narrowView σ xv xkind xlow xhigh) ∧ gbg G1 = gbg G ∧ Ext O O1 L L1 F F1)) (XC (pX ((0 ≤ xv ∧ xv ≤ 1)) ((0 ≤ xkind ∧ xkind ≤ 2) ∧ (0 ≤ xlow ∧ xlow ≤ 99) ∧ (0 ≤ xhigh ∧ xhigh ≤ 99)))) 8 60 (AL L sz) := by
  have vb_ := hW.2.2.2.2.1 xv
  have hO : OE O F F := fun _ _ => rfl
  have hw4 := hW.2.2.2.2.2.1
  have hw5 := hW.2.2.2.2.2.2.1
  have hw6 := hW.2.2.2.2.2.2.2.2.2.2
  refine q_ofX (lv := [(0, .ref ((gbg G))), (1, .int (iI xv)), (2, .int (iI xkind)), (3, .int (iI xlow)), (4, .int (iI xhigh))]) (by decide) (Nat.le_of_ble_eq_true rfl) rfl (fun p e s m below meth c C0 hret hlk hout hsz hA hP hD hS hX ls hl => ?_)
  subst hsz
  have hx := C0.1.1
  have hb := C0.1.2.1
  have hts := C0.1.2.2.2.2
  refine lv_aload_n hx hb dX3_narrowView_0 rfl (lv_at hl 0 rfl) ?_
  refine lv_iload_n hx hb dX3_narrowView_1 rfl (lv_at hl 1 rfl) ?_
  refine q_vXa C0 lX3_171 (c_X3_viewAt l hfl D y L F _ O G σ xv hC (by omega)) ⟨rfl, rfl⟩ rfl hP hD hX hout hlk hC.1.1 hC.1.2 rfl rfl rfl hl rfl (Nat.le_of_ble_eq_true rfl) dX3_narrowView_2 ⟨Nat.le_of_ble_eq_true rfl, Nat.le_of_ble_eq_true rfl⟩ ⟨Nat.le_of_ble_eq_true rfl, Nat.le_of_ble_eq_true rfl⟩ (fun E h => Or.inl ⟨h.1, fun q => h.2 (by omega)⟩) (fun r1 e_r1 => ?_)
  refine W.widen (k := 1) (n := 6) (Nat.le_of_ble_eq_true rfl) (Nat.le_of_ble_eq_true rfl) ?_
  obtain ⟨hb_r1, e_r1⟩ := e_r1
  subst e_r1
  have hv_r1 := hW.2.2.2.2.1 xv
  refine lv_astore (lv' := [(5, .ref ((gva G xv))), (0, .ref ((gbg G))), (1, .int (iI xv)), (2, .int (iI xkind)), (3, .int (iI xlow)), (4, .int (iI xhigh))]) hx hb dX3_narrowView_5 hl (by decide) rfl (fun ls hl => ?_)
  refine lv_iload_n hx hb dX3_narrowView_7 rfl (lv_at hl 3 rfl) ?_
  refine lv_iload_n hx hb dX3_narrowView_8 rfl (lv_at hl 4 rfl) ?_
  refine lv_iload hx hb dX3_narrowView_9 (lv_at hl 5 rfl) ?_
  refine q_sXv C0 lX3_175 (c_X3_checkKindAndBounds l hfl D y L F _ xkind xlow xhigh (by omega) (by omega) (by omega)) ⟨rfl, rfl⟩ rfl hP hD hX hout hlk rfl hl rfl (Nat.le_of_ble_eq_true rfl) dX3_narrowView_11 ⟨Nat.le_of_ble_eq_true rfl, Nat.le_of_ble_eq_true rfl⟩ ⟨Nat.le_of_ble_eq_true rfl, Nat.le_of_ble_eq_true rfl⟩ (fun E h => Or.inr ⟨h.1, by first | trivial | omega, fun q => h.2 (by omega)⟩) (fun _ e_r2 => ?_)
  refine W.widen (k := 4) (n := 24) (Nat.le_of_ble_eq_true rfl) (Nat.le_of_ble_eq_true rfl) ?_
  refine lv_iload_n hx hb dX3_narrowView_14 rfl (lv_at hl 3 rfl) ?_
  refine q_if_ne hx hb dX3_narrowView_15 (tgt := 26) (by decide) (by omega) (fun c3 => ?_) (fun c3 => ?_)
  · refine lv_aload hx hb dX3_narrowView_26 (lv_at hl 0 rfl) ?_
    refine q_get C0 iX1 hP (CP_v hC hb_r1).1 (CP_v hC hb_r1).2 rfl 0 (by decide) flX3_178 rfl rfl dX3_narrowView_28 ?_
    refine lv_iload_n hx hb dX3_narrowView_31 rfl (lv_at hl 4 rfl) ?_
    refine q_vS C0 lX3_70 (c_X0_rankOf l D y L F (grh G (zvw σ xv)) (grw G (zvw σ xv)) (zod σ (zvw σ xv)) ((zst σ (zvw σ xv)).1) ((zst σ (zvw σ xv)).2.1) ((zst σ (zvw σ xv)).2.2) xlow (CP_r hC (hW.2.2.1 xv)) (by omega)) ⟨rfl, rfl⟩ rfl hP (CP_r hC (hW.2.2.1 xv)).1 (CP_r hC (hW.2.2.1 xv)).2.1 rfl rfl rfl hl rfl (Nat.le_of_ble_eq_true rfl) dX3_narrowView_32 ⟨Nat.le_of_ble_eq_true rfl, Nat.le_of_ble_eq_true rfl⟩ (fun r4 e_r4 => ?_)
    subst e_r4
    have b_5 := @turn_b (zod σ (zvw σ xv)) xlow (by omega)
    refine lv_istore (lv' := [(6, .int (iI ((turn (zod σ (zvw σ xv)) xlow)))), (5, .ref ((gva G xv))), (0, .ref ((gbg G))), (1, .int (iI xv)), (2, .int (iI xkind)), (3, .int (iI xlow)), (4, .int (iI xhigh))]) hx hb dX3_narrowView_35 hl (by decide) rfl (fun ls hl => ?_)
    refine lv_iload_n hx hb dX3_narrowView_37 rfl (lv_at hl 4 rfl) ?_
    refine q_iconst hx hb dX3_narrowView_38 ?_
    refine q_icmp_ne hx hb dX3_narrowView_39 (tgt := 50) (by decide) (by omega) (by omega) (fun c6 => ?_) (fun c6 => ?_)
    · refine lv_aload hx hb dX3_narrowView_50 (lv_at hl 1 rfl) ?_
      refine q_get C0 iX1 hP (CP_v hC hb_r1).1 (CP_v hC hb_r1).2 rfl 0 (by decide) flX3_178 rfl rfl dX3_narrowView_52 ?_
      refine lv_iload hx hb dX3_narrowView_55 (lv_at hl 6 rfl) ?_
      refine q_vS C0 lX3_70 (c_X0_rankOf l D y L F (grh G (zvw σ xv)) (grw G (zvw σ xv)) (zod σ (zvw σ xv)) ((zst σ (zvw σ xv)).1) ((zst σ (zvw σ xv)).2.1) ((zst σ (zvw σ xv)).2.2) xhigh (CP_r hC (hW.2.2.1 xv)) (by omega)) ⟨rfl, rfl⟩ rfl hP (CP_r hC (hW.2.2.1 xv)).1 (CP_r hC (hW.2.2.1 xv)).2.1 rfl rfl rfl hl rfl (Nat.le_of_ble_eq_true rfl) dX3_narrowView_57 ⟨Nat.le_of_ble_eq_true rfl, Nat.le_of_ble_eq_true rfl⟩ (fun r7 e_r7 => ?_)
      subst e_r7
      have b_8 := @turn_b (zod σ (zvw σ xv)) xhigh (by omega)
      refine lv_istore (lv' := [(7, .int (iI ((turn (zod σ (zvw σ xv)) xhigh)))), (6, .int (iI ((turn (zod σ (zvw σ xv)) xlow)))), (5, .ref ((gva G xv))), (0, .ref ((gbg G))), (1, .int (iI xv)), (2, .int (iI xkind)), (3, .int (iI xlow)), (4, .int (iI xhigh))]) hx hb dX3_narrowView_60 hl (by decide) rfl (fun ls hl => ?_)
      refine lv_iload_n hx hb dX3_narrowView_62 rfl (lv_at hl 5 rfl) ?_
      refine q_if_eq hx hb dX3_narrowView_63 (tgt := 80) (by decide) (by omega) (fun c9 => absurd c9 (by omega)) (fun c9 => ?_)
      refine lv_aload hx hb dX3_narrowView_66 (lv_at hl 2 rfl) ?_
      refine lv_iload hx hb dX3_narrowView_68 (lv_at hl 1 rfl) ?_
      refine q_vS C0 lX3_191 (c_X1_isWithin l D y L F (gva G xv) (grh G (zvw σ xv)) (zvl σ xv) (zvh σ xv) (turn (zod σ (zvw σ xv)) xlow) (CP_v hC hb_r1).1 (CP_v hC hb_r1).2 (by omega) (by omega) (by omega)) ⟨rfl, rfl⟩ rfl hP (CP_v hC hb_r1).1 (CP_v hC hb_r1).2 rfl rfl rfl hl rfl (Nat.le_of_ble_eq_true rfl) dX3_narrowView_70 ⟨Nat.le_of_ble_eq_true rfl, Nat.le_of_ble_eq_true rfl⟩ (fun r10 e_r10 => ?_)
      subst e_r10
      refine q_if_ne hx hb dX3_narrowView_73 (tgt := 80) (by decide) (by omega) (fun c11 => ?_) (fun c11 => ?_)
      · refine q_iconst hx hb dX3_narrowView_80 ?_
        refine lv_istore (lv' := [(8, .int (iI 0)), (7, .int (iI ((turn (zod σ (zvw σ xv)) xhigh)))), (6, .int (iI ((turn (zod σ (zvw σ xv)) xlow)))), (5, .ref ((gva G xv))), (0, .ref ((gbg G))), (1, .int (iI xv)), (2, .int (iI xkind)), (3, .int (iI xlow)), (4, .int (iI xhigh))]) hx hb dX3_narrowView_81 hl (by decide) rfl (fun ls hl => ?_)
        refine lv_iload_n hx hb dX3_narrowView_83 rfl (lv_at hl 6 rfl) ?_
        refine q_iconst hx hb dX3_narrowView_84 ?_
        refine q_icmp_eq hx hb dX3_narrowView_85 (tgt := 102) (by decide) (by omega) (by omega) (fun c12 => absurd c12 (by omega)) (fun c12 => ?_)
        refine lv_aload hx hb dX3_narrowView_88 (lv_at hl 3 rfl) ?_
        refine lv_iload hx hb dX3_narrowView_90 (lv_at hl 1 rfl) ?_
        refine q_vS C0 lX3_191 (c_X1_isWithin l D y L F (gva G xv) (grh G (zvw σ xv)) (zvl σ xv) (zvh σ xv) (turn (zod σ (zvw σ xv)) xhigh) (CP_v hC hb_r1).1 (CP_v hC hb_r1).2 (by omega) (by omega) (by omega)) ⟨rfl, rfl⟩ rfl hP (CP_v hC hb_r1).1 (CP_v hC hb_r1).2 rfl rfl rfl hl rfl (Nat.le_of_ble_eq_true rfl) dX3_narrowView_92 ⟨Nat.le_of_ble_eq_true rfl, Nat.le_of_ble_eq_true rfl⟩ (fun r13 e_r13 => ?_)
        subst e_r13
        refine q_if_ne hx hb dX3_narrowView_95 (tgt := 102) (by decide) (by omega) (fun c14 => ?_) (fun c14 => ?_)
        · refine q_iconst hx hb dX3_narrowView_102 ?_
          refine lv_istore (lv' := [(9, .int (iI 0)), (8, .int (iI 0)), (7, .int (iI ((turn (zod σ (zvw σ xv)) xhigh)))), (6, .int (iI ((turn (zod σ (zvw σ xv)) xlow)))), (5, .ref ((gva G xv))), (0, .ref ((gbg G))), (1, .int (iI xv)), (2, .int (iI xkind)), (3, .int (iI xlow)), (4, .int (iI xhigh))]) hx hb dX3_narrowView_103 hl (by decide) rfl (fun ls hl => ?_)
          refine lv_iload hx hb dX3_narrowView_105 (lv_at hl 1 rfl) ?_
          refine q_if_ne hx hb dX3_narrowView_107 (tgt := 127) (by decide) (by omega) (fun c15 => absurd c15 (by omega)) (fun c15 => ?_)
          refine lv_iload hx hb dX3_narrowView_110 (lv_at hl 0 rfl) ?_
          refine q_if_ne hx hb dX3_narrowView_112 (tgt := 127) (by decide) (by omega) (fun c16 => absurd c16 (by omega)) (fun c16 => ?_)
          refine lv_iload_n hx hb dX3_narrowView_115 rfl (lv_at hl 7 rfl) ?_
          refine q_iconst hx hb dX3_narrowView_116 ?_
          refine q_icmp_ne hx hb dX3_narrowView_117 (tgt := 132) (by decide) (by omega) (by omega) (fun c17 => ?_) (fun c17 => ?_)
          · refine lv_aload hx hb dX3_narrowView_132 (lv_at hl 4 rfl) ?_
            refine lv_iload hx hb dX3_narrowView_134 (lv_at hl 3 rfl) ?_
            refine q_put C0 iX1 tyX1 tyX1_ok nmX1 hP hD hS (CP_v hC hb_r1).1 (CP_v hC hb_r1).2 rfl 1 (by decide) flX3_182 rfl rfl rfl rfl (Nat.le_of_ble_eq_true rfl) dX3_narrowView_136 (fun H locs hP hD hS => ?_)
            obtain ⟨F18, eF18⟩ : ∃ z, z = va_up F (gva G xv) (.inr (3, [.ref ((grh G (zvw σ xv))), .int (iI ((turn (zod σ (zvw σ xv)) xlow))), .int (iI (zvh σ xv))])) := ⟨_, rfl⟩
            have hP : va_P D vwCl (va_pl L F18) H := by rw [eF18]; exact hP
            have hD : va_D (AL L s.heap.size) (va_pl L F18) := by rw [eF18]; exact hD
            have hvF : F18 (gva G xv) = (.inr (3, [.ref ((grh G (zvw σ xv))), .int (iI ((turn (zod σ (zvw σ xv)) xlow))), .int (iI (zvh σ xv))])) := by rw [eF18]; exact va_up_self _ _ _
            have hO : OE O F F18 := by rw [eF18]; exact hO.tr (OE1 ((CP_O hC).2.2.2.2.2.1 _ hb_r1.1 hb_r1.2))
            have hC : CP y L F18 O G (sVw σ xv (zvw σ xv) (turn (zod σ (zvw σ xv)) xlow) (zvh σ xv)) := by rw [eF18]; exact CP_vw hC hb_r1 (va_up_self _ _ _) (fun q hq => va_up_ne _ _ hq)
            refine lv_aload hx hb dX3_narrowView_139 (lv_at hl 4 rfl) ?_
            refine lv_iload hx hb dX3_narrowView_141 (lv_at hl 2 rfl) ?_
            refine q_put C0 iX1 tyX1 tyX1_ok nmX1 hP hD hS (CP_v hC hb_r1).1 hvF rfl 2 (by decide) flX3_185 rfl rfl rfl rfl (Nat.le_of_ble_eq_true rfl) dX3_narrowView_143 (fun H locs hP hD hS => ?_)
            obtain ⟨F19, eF19⟩ : ∃ z, z = va_up F18 (gva G xv) (.inr (3, [.ref ((grh G (zvw σ xv))), .int (iI ((turn (zod σ (zvw σ xv)) xlow))), .int (iI ((turn (zod σ (zvw σ xv)) xhigh)))])) := ⟨_, rfl⟩
            have hP : va_P D vwCl (va_pl L F19) H := by rw [eF19]; exact hP
            have hD : va_D (AL L s.heap.size) (va_pl L F19) := by rw [eF19]; exact hD
            have hvF : F19 (gva G xv) = (.inr (3, [.ref ((grh G (zvw σ xv))), .int (iI ((turn (zod σ (zvw σ xv)) xlow))), .int (iI ((turn (zod σ (zvw σ xv)) xhigh)))])) := by rw [eF19]; exact va_up_self _ _ _
            have hO : OE O F F19 := by rw [eF19]; exact hO.tr (OE1 ((CP_O hC).2.2.2.2.2.1 _ hb_r1.1 hb_r1.2))
            have hC : CP y L F19 O G (sVw (sVw σ xv (zvw σ xv) (turn (zod σ (zvw σ xv)) xlow) (zvh σ xv)) xv (zvw σ xv) (turn (zod σ (zvw σ xv)) xlow) (turn (zod σ (zvw σ xv)) xhigh)) := by rw [eF19]; exact CP_vw hC hb_r1 (va_up_self _ _ _) (fun q hq => va_up_ne _ _ hq)
            refine lv_aload hx hb dX3_narrowView_146 (lv_at hl 4 rfl) ?_
            refine q_get C0 iX1 hP (CP_v hC hb_r1).1 hvF rfl 0 (by decide) flX3_178 rfl rfl dX3_narrowView_148 ?_
            refine lv_aload hx hb dX3_narrowView_151 (lv_at hl 4 rfl) ?_
            refine q_get C0 iX1 hP (CP_v hC hb_r1).1 hvF rfl 1 (by decide) flX3_182 rfl rfl dX3_narrowView_153 ?_
            refine lv_aload hx hb dX3_narrowView_156 (lv_at hl 4 rfl) ?_
            refine q_get C0 iX1 hP (CP_v hC hb_r1).1 hvF rfl 2 (by decide) flX3_185 rfl rfl dX3_narrowView_158 ?_
            refine q_vS C0 lX3_188 (c_X0_countOfPart l D y L F19 (grh G (zvw σ xv)) (grw G (zvw σ xv)) (zod σ (zvw σ xv)) ((zst σ (zvw σ xv)).1) ((zst σ (zvw σ xv)).2.1) ((zst σ (zvw σ xv)).2.2) (turn (zod σ (zvw σ xv)) xlow) (turn (zod σ (zvw σ xv)) xhigh) (CP_r hC (hW.2.2.1 xv)) (by omega) (by omega)) ⟨rfl, rfl⟩ rfl hP (CP_r hC (hW.2.2.1 xv)).1 (CP_r hC (hW.2.2.1 xv)).2.1 rfl rfl rfl hl rfl (Nat.le_of_ble_eq_true rfl) dX3_narrowView_161 ⟨Nat.le_of_ble_eq_true rfl, Nat.le_of_ble_eq_true rfl⟩ (fun r20 e_r20 => ?_)
            subst e_r20
            refine W.widen (k := 8) (n := 60) (Nat.le_of_ble_eq_true rfl) (Nat.le_of_ble_eq_true rfl) ?_
            exact vx_ret (q_retMi C0 hret rfl hlk dX3_narrowView_164 hP hD hS (⟨by omega, by omega, (by unfold kR_narrowView; rw [if_neg (by (unfold nRef; (repeat' split) <;> omega)), show nLo σ xv xkind xlow = (turn (zod σ (zvw σ xv)) xlow) by (unfold nLo; (repeat' split) <;> first | rfl | omega), show nHi σ xv xkind xhigh = (turn (zod σ (zvw σ xv)) xhigh) by (unfold nHi; (repeat' split) <;> first | rfl | omega)]), O, G, CP_eq hC (by rw [sVw2]; unfold kS_narrowView; rw [if_neg (by (unfold nRef; (repeat' split) <;> omega)), show nLo σ xv xkind xlow = (turn (zod σ (zvw σ xv)) xlow) by (unfold nLo; (repeat' split) <;> first | rfl | omega), show nHi σ xv xkind xhigh = (turn (zod σ (zvw σ xv)) xhigh) by (unfold nHi; (repeat' split) <;> first | rfl | omega)]), rfl, Ext0 hO⟩))
          · refine lv_iload hx hb dX3_narrowView_120 (lv_at hl 3 rfl) ?_
            refine lv_iload hx hb dX3_narrowView_122 (lv_at hl 2 rfl) ?_
            refine q_icmp_le hx hb dX3_narrowView_124 (tgt := 132) (by decide) (by omega) (by omega) (fun c21 => ?_) (fun c21 => ?_)
            · refine lv_aload hx hb dX3_narrowView_132 (lv_at hl 4 rfl) ?_
              refine lv_iload hx hb dX3_narrowView_134 (lv_at hl 3 rfl) ?_
              refine q_put C0 iX1 tyX1 tyX1_ok nmX1 hP hD hS (CP_v hC hb_r1).1 (CP_v hC hb_r1).2 rfl 1 (by decide) flX3_182 rfl rfl rfl rfl (Nat.le_of_ble_eq_true rfl) dX3_narrowView_136 (fun H locs hP hD hS => ?_)
              obtain ⟨F22, eF22⟩ : ∃ z, z = va_up F (gva G xv) (.inr (3, [.ref ((grh G (zvw σ xv))), .int (iI ((turn (zod σ (zvw σ xv)) xlow))), .int (iI (zvh σ xv))])) := ⟨_, rfl⟩
              have hP : va_P D vwCl (va_pl L F22) H := by rw [eF22]; exact hP
              have hD : va_D (AL L s.heap.size) (va_pl L F22) := by rw [eF22]; exact hD
              have hvF : F22 (gva G xv) = (.inr (3, [.ref ((grh G (zvw σ xv))), .int (iI ((turn (zod σ (zvw σ xv)) xlow))), .int (iI (zvh σ xv))])) := by rw [eF22]; exact va_up_self _ _ _
              have hO : OE O F F22 := by rw [eF22]; exact hO.tr (OE1 ((CP_O hC).2.2.2.2.2.1 _ hb_r1.1 hb_r1.2))
              have hC : CP y L F22 O G (sVw σ xv (zvw σ xv) (turn (zod σ (zvw σ xv)) xlow) (zvh σ xv)) := by rw [eF22]; exact CP_vw hC hb_r1 (va_up_self _ _ _) (fun q hq => va_up_ne _ _ hq)
              refine lv_aload hx hb dX3_narrowView_139 (lv_at hl 4 rfl) ?_
              refine lv_iload hx hb dX3_narrowView_141 (lv_at hl 2 rfl) ?_
              refine q_put C0 iX1 tyX1 tyX1_ok nmX1 hP hD hS (CP_v hC hb_r1).1 hvF rfl 2 (by decide) flX3_185 rfl rfl rfl rfl (Nat.le_of_ble_eq_true rfl) dX3_narrowView_143 (fun H locs hP hD hS => ?_)
              obtain ⟨F23, eF23⟩ : ∃ z, z = va_up F22 (gva G xv) (.inr (3, [.ref ((grh G (zvw σ xv))), .int (iI ((turn (zod σ (zvw σ xv)) xlow))), .int (iI ((turn (zod σ (zvw σ xv)) xhigh)))])) := ⟨_, rfl⟩
              have hP : va_P D vwCl (va_pl L F23) H := by rw [eF23]; exact hP
              have hD : va_D (AL L s.heap.size) (va_pl L F23) := by rw [eF23]; exact hD
              have hvF : F23 (gva G xv) = (.inr (3, [.ref ((grh G (zvw σ xv))), .int (iI ((turn (zod σ (zvw σ xv)) xlow))), .int (iI ((turn (zod σ (zvw σ xv)) xhigh)))])) := by rw [eF23]; exact va_up_self _ _ _
              have hO : OE O F F23 := by rw [eF23]; exact hO.tr (OE1 ((CP_O hC).2.2.2.2.2.1 _ hb_r1.1 hb_r1.2))
              have hC : CP y L F23 O G (sVw (sVw σ xv (zvw σ xv) (turn (zod σ (zvw σ xv)) xlow) (zvh σ xv)) xv (zvw σ xv) (turn (zod σ (zvw σ xv)) xlow) (turn (zod σ (zvw σ xv)) xhigh)) := by rw [eF23]; exact CP_vw hC hb_r1 (va_up_self _ _ _) (fun q hq => va_up_ne _ _ hq)
              refine lv_aload hx hb dX3_narrowView_146 (lv_at hl 4 rfl) ?_
              refine q_get C0 iX1 hP (CP_v hC hb_r1).1 hvF rfl 0 (by decide) flX3_178 rfl rfl dX3_narrowView_148 ?_
              refine lv_aload hx hb dX3_narrowView_151 (lv_at hl 4 rfl) ?_
              refine q_get C0 iX1 hP (CP_v hC hb_r1).1 hvF rfl 1 (by decide) flX3_182 rfl rfl dX3_narrowView_153 ?_
              refine lv_aload hx hb dX3_narrowView_156 (lv_at hl 4 rfl) ?_
              refine q_get C0 iX1 hP (CP_v hC hb_r1).1 hvF rfl 2 (by decide) flX3_185 rfl rfl dX3_narrowView_158 ?_
              refine q_vS C0 lX3_188 (c_X0_countOfPart l D y L F23 (grh G (zvw σ xv)) (grw G (zvw σ xv)) (zod σ (zvw σ xv)) ((zst σ (zvw σ xv)).1) ((zst σ (zvw σ xv)).2.1) ((zst σ (zvw σ xv)).2.2) (turn (zod σ (zvw σ xv)) xlow) (turn (zod σ (zvw σ xv)) xhigh) (CP_r hC (hW.2.2.1 xv)) (by omega) (by omega)) ⟨rfl, rfl⟩ rfl hP (CP_r hC (hW.2.2.1 xv)).1 (CP_r hC (hW.2.2.1 xv)).2.1 rfl rfl rfl hl rfl (Nat.le_of_ble_eq_true rfl) dX3_narrowView_161 ⟨Nat.le_of_ble_eq_true rfl, Nat.le_of_ble_eq_true rfl⟩ (fun r24 e_r24 => ?_)
              subst e_r24
              refine W.widen (k := 8) (n := 60) (Nat.le_of_ble_eq_true rfl) (Nat.le_of_ble_eq_true rfl) ?_
              exact vx_ret (q_retMi C0 hret rfl hlk dX3_narrowView_164 hP hD hS (⟨by omega, by omega, (by unfold kR_narrowView; rw [if_neg (by (unfold nRef; (repeat' split) <;> omega)), show nLo σ xv xkind xlow = (turn (zod σ (zvw σ xv)) xlow) by (unfold nLo; (repeat' split) <;> first | rfl | omega), show nHi σ xv xkind xhigh = (turn (zod σ (zvw σ xv)) xhigh) by (unfold nHi; (repeat' split) <;> first | rfl | omega)]), O, G, CP_eq hC (by rw [sVw2]; unfold kS_narrowView; rw [if_neg (by (unfold nRef; (repeat' split) <;> omega)), show nLo σ xv xkind xlow = (turn (zod σ (zvw σ xv)) xlow) by (unfold nLo; (repeat' split) <;> first | rfl | omega), show nHi σ xv xkind xhigh = (turn (zod σ (zvw σ xv)) xhigh) by (unfold nHi; (repeat' split) <;> first | rfl | omega)]), rfl, Ext0 hO⟩))
            · refine lv_aload_n hx hb dX3_narrowView_127 rfl (lv_at hl 5 rfl) ?_
              refine q_vMi C0 lX3_63 (c_X3_refuse l D y L F _ O G σ hC) ⟨rfl, rfl⟩ rfl hP hD hS hA hC.1.1 hC.1.2 rfl rfl rfl hl rfl (Nat.le_of_ble_eq_true rfl) dX3_narrowView_128 ⟨Nat.le_of_ble_eq_true rfl, Nat.le_of_ble_eq_true rfl⟩ (fun r25 H locs L26 F26 hP hD hS hz26 hp26 => ?_)
              obtain ⟨eL, hC, er, hO1⟩ := hp26
              subst eL
              subst er
              have hO := hO.tr hO1
              refine W.widen (k := 8) (n := 60) (Nat.le_of_ble_eq_true rfl) (Nat.le_of_ble_eq_true rfl) ?_
              exact vx_ret (q_retMi C0 hret rfl hlk dX3_narrowView_131 hP hD hS (⟨by omega, by omega, (by unfold kR_narrowView; rw [if_pos (by unfold nRef; (repeat' split) <;> first | rfl | omega)]), O, G, CP_eq hC (by unfold kS_narrowView; rw [if_pos (by unfold nRef; (repeat' split) <;> first | rfl | omega)]), rfl, Ext0 hO⟩))
        · refine q_iconst hx hb dX3_narrowView_98 ?_
          refine lv_goto (tgt := 103) hx hb dX3_narrowView_99 (by decide) ?_
          refine lv_istore (lv' := [(9, .int (iI 1)), (8, .int (iI 0)), (7, .int (iI ((turn (zod σ (zvw σ xv)) xhigh)))), (6, .int (iI ((turn (zod σ (zvw σ xv)) xlow)))), (5, .ref ((gva G xv))), (0, .ref ((gbg G))), (1, .int (iI xv)), (2, .int (iI xkind)), (3, .int (iI xlow)), (4, .int (iI xhigh))]) hx hb dX3_narrowView_103 hl (by decide) rfl (fun ls hl => ?_)
          refine lv_iload hx hb dX3_narrowView_105 (lv_at hl 1 rfl) ?_
          refine q_if_ne hx hb dX3_narrowView_107 (tgt := 127) (by decide) (by omega) (fun c27 => absurd c27 (by omega)) (fun c27 => ?_)
          refine lv_iload hx hb dX3_narrowView_110 (lv_at hl 0 rfl) ?_
          refine q_if_ne hx hb dX3_narrowView_112 (tgt := 127) (by decide) (by omega) (fun c28 => ?_) (fun c28 => absurd c28 (by omega))
          refine lv_aload_n hx hb dX3_narrowView_127 rfl (lv_at hl 5 rfl) ?_
          refine q_vMi C0 lX3_63 (c_X3_refuse l D y L F _ O G σ hC) ⟨rfl, rfl⟩ rfl hP hD hS hA hC.1.1 hC.1.2 rfl rfl rfl hl rfl (Nat.le_of_ble_eq_true rfl) dX3_narrowView_128 ⟨Nat.le_of_ble_eq_true rfl, Nat.le_of_ble_eq_true rfl⟩ (fun r29 H locs L30 F30 hP hD hS hz30 hp30 => ?_)
          obtain ⟨eL, hC, er, hO1⟩ := hp30
          subst eL
          subst er
          have hO := hO.tr hO1
          refine W.widen (k := 8) (n := 60) (Nat.le_of_ble_eq_true rfl) (Nat.le_of_ble_eq_true rfl) ?_
          exact vx_ret (q_retMi C0 hret rfl hlk dX3_narrowView_131 hP hD hS (⟨by omega, by omega, (by unfold kR_narrowView; rw [if_pos (by unfold nRef; (repeat' split) <;> first | rfl | omega)]), O, G, CP_eq hC (by unfold kS_narrowView; rw [if_pos (by unfold nRef; (repeat' split) <;> first | rfl | omega)]), rfl, Ext0 hO⟩))
      · refine q_iconst hx hb dX3_narrowView_76 ?_
        refine lv_goto (tgt := 81) hx hb dX3_narrowView_77 (by decide) ?_
        refine lv_istore (lv' := [(8, .int (iI 1)), (7, .int (iI ((turn (zod σ (zvw σ xv)) xhigh)))), (6, .int (iI ((turn (zod σ (zvw σ xv)) xlow)))), (5, .ref ((gva G xv))), (0, .ref ((gbg G))), (1, .int (iI xv)), (2, .int (iI xkind)), (3, .int (iI xlow)), (4, .int (iI xhigh))]) hx hb dX3_narrowView_81 hl (by decide) rfl (fun ls hl => ?_)
        refine lv_iload_n hx hb dX3_narrowView_83 rfl (lv_at hl 6 rfl) ?_
        refine q_iconst hx hb dX3_narrowView_84 ?_
        refine q_icmp_eq hx hb dX3_narrowView_85 (tgt := 102) (by decide) (by omega) (by omega) (fun c31 => absurd c31 (by omega)) (fun c31 => ?_)
        refine lv_aload hx hb dX3_narrowView_88 (lv_at hl 3 rfl) ?_
        refine lv_iload hx hb dX3_narrowView_90 (lv_at hl 1 rfl) ?_
        refine q_vS C0 lX3_191 (c_X1_isWithin l D y L F (gva G xv) (grh G (zvw σ xv)) (zvl σ xv) (zvh σ xv) (turn (zod σ (zvw σ xv)) xhigh) (CP_v hC hb_r1).1 (CP_v hC hb_r1).2 (by omega) (by omega) (by omega)) ⟨rfl, rfl⟩ rfl hP (CP_v hC hb_r1).1 (CP_v hC hb_r1).2 rfl rfl rfl hl rfl (Nat.le_of_ble_eq_true rfl) dX3_narrowView_92 ⟨Nat.le_of_ble_eq_true rfl, Nat.le_of_ble_eq_true rfl⟩ (fun r32 e_r32 => ?_)
        subst e_r32
        refine q_if_ne hx hb dX3_narrowView_95 (tgt := 102) (by decide) (by omega) (fun c33 => ?_) (fun c33 => ?_)
        · refine q_iconst hx hb dX3_narrowView_102 ?_
          refine lv_istore (lv' := [(9, .int (iI 0)), (8, .int (iI 1)), (7, .int (iI ((turn (zod σ (zvw σ xv)) xhigh)))), (6, .int (iI ((turn (zod σ (zvw σ xv)) xlow)))), (5, .ref ((gva G xv))), (0, .ref ((gbg G))), (1, .int (iI xv)), (2, .int (iI xkind)), (3, .int (iI xlow)), (4, .int (iI xhigh))]) hx hb dX3_narrowView_103 hl (by decide) rfl (fun ls hl => ?_)
          refine lv_iload hx hb dX3_narrowView_105 (lv_at hl 1 rfl) ?_
          refine q_if_ne hx hb dX3_narrowView_107 (tgt := 127) (by decide) (by omega) (fun c34 => ?_) (fun c34 => absurd c34 (by omega))
          refine lv_aload_n hx hb dX3_narrowView_127 rfl (lv_at hl 5 rfl) ?_
          refine q_vMi C0 lX3_63 (c_X3_refuse l D y L F _ O G σ hC) ⟨rfl, rfl⟩ rfl hP hD hS hA hC.1.1 hC.1.2 rfl rfl rfl hl rfl (Nat.le_of_ble_eq_true rfl) dX3_narrowView_128 ⟨Nat.le_of_ble_eq_true rfl, Nat.le_of_ble_eq_true rfl⟩ (fun r35 H locs L36 F36 hP hD hS hz36 hp36 => ?_)
          obtain ⟨eL, hC, er, hO1⟩ := hp36
          subst eL
          subst er
          have hO := hO.tr hO1
          refine W.widen (k := 8) (n := 60) (Nat.le_of_ble_eq_true rfl) (Nat.le_of_ble_eq_true rfl) ?_
          exact vx_ret (q_retMi C0 hret rfl hlk dX3_narrowView_131 hP hD hS (⟨by omega, by omega, (by unfold kR_narrowView; rw [if_pos (by unfold nRef; (repeat' split) <;> first | rfl | omega)]), O, G, CP_eq hC (by unfold kS_narrowView; rw [if_pos (by unfold nRef; (repeat' split) <;> first | rfl | omega)]), rfl, Ext0 hO⟩))
        · refine q_iconst hx hb dX3_narrowView_98 ?_
          refine lv_goto (tgt := 103) hx hb dX3_narrowView_99 (by decide) ?_
          refine lv_istore (lv' := [(9, .int (iI 1)), (8, .int (iI 1)), (7, .int (iI ((turn (zod σ (zvw σ xv)) xhigh)))), (6, .int (iI ((turn (zod σ (zvw σ xv)) xlow)))), (5, .ref ((gva G xv))), (0, .ref ((gbg G))), (1, .int (iI xv)), (2, .int (iI xkind)), (3, .int (iI xlow)), (4, .int (iI xhigh))]) hx hb dX3_narrowView_103 hl (by decide) rfl (fun ls hl => ?_)
          refine lv_iload hx hb dX3_narrowView_105 (lv_at hl 1 rfl) ?_
          refine q_if_ne hx hb dX3_narrowView_107 (tgt := 127) (by decide) (by omega) (fun c37 => ?_) (fun c37 => absurd c37 (by omega))
          refine lv_aload_n hx hb dX3_narrowView_127 rfl (lv_at hl 5 rfl) ?_
          refine q_vMi C0 lX3_63 (c_X3_refuse l D y L F _ O G σ hC) ⟨rfl, rfl⟩ rfl hP hD hS hA hC.1.1 hC.1.2 rfl rfl rfl hl rfl (Nat.le_of_ble_eq_true rfl) dX3_narrowView_128 ⟨Nat.le_of_ble_eq_true rfl, Nat.le_of_ble_eq_true rfl⟩ (fun r38 H locs L39 F39 hP hD hS hz39 hp39 => ?_)
          obtain ⟨eL, hC, er, hO1⟩ := hp39
          subst eL
          subst er
          have hO := hO.tr hO1
          refine W.widen (k := 8) (n := 60) (Nat.le_of_ble_eq_true rfl) (Nat.le_of_ble_eq_true rfl) ?_
          exact vx_ret (q_retMi C0 hret rfl hlk dX3_narrowView_131 hP hD hS (⟨by omega, by omega, (by unfold kR_narrowView; rw [if_pos (by unfold nRef; (repeat' split) <;> first | rfl | omega)]), O, G, CP_eq hC (by unfold kS_narrowView; rw [if_pos (by unfold nRef; (repeat' split) <;> first | rfl | omega)]), rfl, Ext0 hO⟩))
    · refine lv_aload hx hb dX3_narrowView_42 (lv_at hl 1 rfl) ?_
      refine q_get C0 iX1 hP (CP_v hC hb_r1).1 (CP_v hC hb_r1).2 rfl 2 (by decide) flX3_185 rfl rfl dX3_narrowView_44 ?_
      refine lv_goto (tgt := 60) hx hb dX3_narrowView_47 (by decide) ?_
      refine lv_istore (lv' := [(7, .int (iI (zvh σ xv))), (6, .int (iI ((turn (zod σ (zvw σ xv)) xlow)))), (5, .ref ((gva G xv))), (0, .ref ((gbg G))), (1, .int (iI xv)), (2, .int (iI xkind)), (3, .int (iI xlow)), (4, .int (iI xhigh))]) hx hb dX3_narrowView_60 hl (by decide) rfl (fun ls hl => ?_)
      refine lv_iload_n hx hb dX3_narrowView_62 rfl (lv_at hl 5 rfl) ?_
      refine q_if_eq hx hb dX3_narrowView_63 (tgt := 80) (by decide) (by omega) (fun c40 => absurd c40 (by omega)) (fun c40 => ?_)
      refine lv_aload hx hb dX3_narrowView_66 (lv_at hl 2 rfl) ?_
      refine lv_iload hx hb dX3_narrowView_68 (lv_at hl 1 rfl) ?_
      refine q_vS C0 lX3_191 (c_X1_isWithin l D y L F (gva G xv) (grh G (zvw σ xv)) (zvl σ xv) (zvh σ xv) (turn (zod σ (zvw σ xv)) xlow) (CP_v hC hb_r1).1 (CP_v hC hb_r1).2 (by omega) (by omega) (by omega)) ⟨rfl, rfl⟩ rfl hP (CP_v hC hb_r1).1 (CP_v hC hb_r1).2 rfl rfl rfl hl rfl (Nat.le_of_ble_eq_true rfl) dX3_narrowView_70 ⟨Nat.le_of_ble_eq_true rfl, Nat.le_of_ble_eq_true rfl⟩ (fun r41 e_r41 => ?_)
      subst e_r41
      refine q_if_ne hx hb dX3_narrowView_73 (tgt := 80) (by decide) (by omega) (fun c42 => ?_) (fun c42 => ?_)
      · refine q_iconst hx hb dX3_narrowView_80 ?_
        refine lv_istore (lv' := [(8, .int (iI 0)), (7, .int (iI (zvh σ xv))), (6, .int (iI ((turn (zod σ (zvw σ xv)) xlow)))), (5, .ref ((gva G xv))), (0, .ref ((gbg G))), (1, .int (iI xv)), (2, .int (iI xkind)), (3, .int (iI xlow)), (4, .int (iI xhigh))]) hx hb dX3_narrowView_81 hl (by decide) rfl (fun ls hl => ?_)
        refine lv_iload_n hx hb dX3_narrowView_83 rfl (lv_at hl 6 rfl) ?_
        refine q_iconst hx hb dX3_narrowView_84 ?_
        refine q_icmp_eq hx hb dX3_narrowView_85 (tgt := 102) (by decide) (by omega) (by omega) (fun c43 => ?_) (fun c43 => absurd c43 (by omega))
        refine q_iconst hx hb dX3_narrowView_102 ?_
        refine lv_istore (lv' := [(9, .int (iI 0)), (8, .int (iI 0)), (7, .int (iI (zvh σ xv))), (6, .int (iI ((turn (zod σ (zvw σ xv)) xlow)))), (5, .ref ((gva G xv))), (0, .ref ((gbg G))), (1, .int (iI xv)), (2, .int (iI xkind)), (3, .int (iI xlow)), (4, .int (iI xhigh))]) hx hb dX3_narrowView_103 hl (by decide) rfl (fun ls hl => ?_)
        refine lv_iload hx hb dX3_narrowView_105 (lv_at hl 1 rfl) ?_
        refine q_if_ne hx hb dX3_narrowView_107 (tgt := 127) (by decide) (by omega) (fun c44 => absurd c44 (by omega)) (fun c44 => ?_)
        refine lv_iload hx hb dX3_narrowView_110 (lv_at hl 0 rfl) ?_
        refine q_if_ne hx hb dX3_narrowView_112 (tgt := 127) (by decide) (by omega) (fun c45 => absurd c45 (by omega)) (fun c45 => ?_)
        refine lv_iload_n hx hb dX3_narrowView_115 rfl (lv_at hl 7 rfl) ?_
        refine q_iconst hx hb dX3_narrowView_116 ?_
        refine q_icmp_ne hx hb dX3_narrowView_117 (tgt := 132) (by decide) (by omega) (by omega) (fun c46 => ?_) (fun c46 => absurd c46 (by omega))
        refine lv_aload hx hb dX3_narrowView_132 (lv_at hl 4 rfl) ?_
        refine lv_iload hx hb dX3_narrowView_134 (lv_at hl 3 rfl) ?_
        refine q_put C0 iX1 tyX1 tyX1_ok nmX1 hP hD hS (CP_v hC hb_r1).1 (CP_v hC hb_r1).2 rfl 1 (by decide) flX3_182 rfl rfl rfl rfl (Nat.le_of_ble_eq_true rfl) dX3_narrowView_136 (fun H locs hP hD hS => ?_)
        obtain ⟨F47, eF47⟩ : ∃ z, z = va_up F (gva G xv) (.inr (3, [.ref ((grh G (zvw σ xv))), .int (iI ((turn (zod σ (zvw σ xv)) xlow))), .int (iI (zvh σ xv))])) := ⟨_, rfl⟩
        have hP : va_P D vwCl (va_pl L F47) H := by rw [eF47]; exact hP
        have hD : va_D (AL L s.heap.size) (va_pl L F47) := by rw [eF47]; exact hD
        have hvF : F47 (gva G xv) = (.inr (3, [.ref ((grh G (zvw σ xv))), .int (iI ((turn (zod σ (zvw σ xv)) xlow))), .int (iI (zvh σ xv))])) := by rw [eF47]; exact va_up_self _ _ _
        have hO : OE O F F47 := by rw [eF47]; exact hO.tr (OE1 ((CP_O hC).2.2.2.2.2.1 _ hb_r1.1 hb_r1.2))
        have hC : CP y L F47 O G (sVw σ xv (zvw σ xv) (turn (zod σ (zvw σ xv)) xlow) (zvh σ xv)) := by rw [eF47]; exact CP_vw hC hb_r1 (va_up_self _ _ _) (fun q hq => va_up_ne _ _ hq)
        refine lv_aload hx hb dX3_narrowView_139 (lv_at hl 4 rfl) ?_
        refine lv_iload hx hb dX3_narrowView_141 (lv_at hl 2 rfl) ?_
        refine q_put C0 iX1 tyX1 tyX1_ok nmX1 hP hD hS (CP_v hC hb_r1).1 hvF rfl 2 (by decide) flX3_185 rfl rfl rfl rfl (Nat.le_of_ble_eq_true rfl) dX3_narrowView_143 (fun H locs hP hD hS => ?_)
        obtain ⟨F48, eF48⟩ : ∃ z, z = va_up F47 (gva G xv) (.inr (3, [.ref ((grh G (zvw σ xv))), .int (iI ((turn (zod σ (zvw σ xv)) xlow))), .int (iI (zvh σ xv))])) := ⟨_, rfl⟩
        have hP : va_P D vwCl (va_pl L F48) H := by rw [eF48]; exact hP
        have hD : va_D (AL L s.heap.size) (va_pl L F48) := by rw [eF48]; exact hD
        have hvF : F48 (gva G xv) = (.inr (3, [.ref ((grh G (zvw σ xv))), .int (iI ((turn (zod σ (zvw σ xv)) xlow))), .int (iI (zvh σ xv))])) := by rw [eF48]; exact va_up_self _ _ _
        have hO : OE O F F48 := by rw [eF48]; exact hO.tr (OE1 ((CP_O hC).2.2.2.2.2.1 _ hb_r1.1 hb_r1.2))
        have hC : CP y L F48 O G (sVw (sVw σ xv (zvw σ xv) (turn (zod σ (zvw σ xv)) xlow) (zvh σ xv)) xv (zvw σ xv) (turn (zod σ (zvw σ xv)) xlow) (zvh σ xv)) := by rw [eF48]; exact CP_vw hC hb_r1 (va_up_self _ _ _) (fun q hq => va_up_ne _ _ hq)
        refine lv_aload hx hb dX3_narrowView_146 (lv_at hl 4 rfl) ?_
        refine q_get C0 iX1 hP (CP_v hC hb_r1).1 hvF rfl 0 (by decide) flX3_178 rfl rfl dX3_narrowView_148 ?_
        refine lv_aload hx hb dX3_narrowView_151 (lv_at hl 4 rfl) ?_
        refine q_get C0 iX1 hP (CP_v hC hb_r1).1 hvF rfl 1 (by decide) flX3_182 rfl rfl dX3_narrowView_153 ?_
        refine lv_aload hx hb dX3_narrowView_156 (lv_at hl 4 rfl) ?_
        refine q_get C0 iX1 hP (CP_v hC hb_r1).1 hvF rfl 2 (by decide) flX3_185 rfl rfl dX3_narrowView_158 ?_
        refine q_vS C0 lX3_188 (c_X0_countOfPart l D y L F48 (grh G (zvw σ xv)) (grw G (zvw σ xv)) (zod σ (zvw σ xv)) ((zst σ (zvw σ xv)).1) ((zst σ (zvw σ xv)).2.1) ((zst σ (zvw σ xv)).2.2) (turn (zod σ (zvw σ xv)) xlow) (zvh σ xv) (CP_r hC (hW.2.2.1 xv)) (by omega) (by omega)) ⟨rfl, rfl⟩ rfl hP (CP_r hC (hW.2.2.1 xv)).1 (CP_r hC (hW.2.2.1 xv)).2.1 rfl rfl rfl hl rfl (Nat.le_of_ble_eq_true rfl) dX3_narrowView_161 ⟨Nat.le_of_ble_eq_true rfl, Nat.le_of_ble_eq_true rfl⟩ (fun r49 e_r49 => ?_)
        subst e_r49
        refine W.widen (k := 8) (n := 60) (Nat.le_of_ble_eq_true rfl) (Nat.le_of_ble_eq_true rfl) ?_
        exact vx_ret (q_retMi C0 hret rfl hlk dX3_narrowView_164 hP hD hS (⟨by omega, by omega, (by unfold kR_narrowView; rw [if_neg (by (unfold nRef; (repeat' split) <;> omega)), show nLo σ xv xkind xlow = (turn (zod σ (zvw σ xv)) xlow) by (unfold nLo; (repeat' split) <;> first | rfl | omega), show nHi σ xv xkind xhigh = zvh σ xv by (unfold nHi; (repeat' split) <;> first | rfl | omega)]), O, G, CP_eq hC (by rw [sVw2]; unfold kS_narrowView; rw [if_neg (by (unfold nRef; (repeat' split) <;> omega)), show nLo σ xv xkind xlow = (turn (zod σ (zvw σ xv)) xlow) by (unfold nLo; (repeat' split) <;> first | rfl | omega), show nHi σ xv xkind xhigh = zvh σ xv by (unfold nHi; (repeat' split) <;> first | rfl | omega)]), rfl, Ext0 hO⟩))
      · refine q_iconst hx hb dX3_narrowView_76 ?_
        refine lv_goto (tgt := 81) hx hb dX3_narrowView_77 (by decide) ?_
        refine lv_istore (lv' := [(8, .int (iI 1)), (7, .int (iI (zvh σ xv))), (6, .int (iI ((turn (zod σ (zvw σ xv)) xlow)))), (5, .ref ((gva G xv))), (0, .ref ((gbg G))), (1, .int (iI xv)), (2, .int (iI xkind)), (3, .int (iI xlow)), (4, .int (iI xhigh))]) hx hb dX3_narrowView_81 hl (by decide) rfl (fun ls hl => ?_)
        refine lv_iload_n hx hb dX3_narrowView_83 rfl (lv_at hl 6 rfl) ?_
        refine q_iconst hx hb dX3_narrowView_84 ?_
        refine q_icmp_eq hx hb dX3_narrowView_85 (tgt := 102) (by decide) (by omega) (by omega) (fun c50 => ?_) (fun c50 => absurd c50 (by omega))
        refine q_iconst hx hb dX3_narrowView_102 ?_
        refine lv_istore (lv' := [(9, .int (iI 0)), (8, .int (iI 1)), (7, .int (iI (zvh σ xv))), (6, .int (iI ((turn (zod σ (zvw σ xv)) xlow)))), (5, .ref ((gva G xv))), (0, .ref ((gbg G))), (1, .int (iI xv)), (2, .int (iI xkind)), (3, .int (iI xlow)), (4, .int (iI xhigh))]) hx hb dX3_narrowView_103 hl (by decide) rfl (fun ls hl => ?_)
        refine lv_iload hx hb dX3_narrowView_105 (lv_at hl 1 rfl) ?_
        refine q_if_ne hx hb dX3_narrowView_107 (tgt := 127) (by decide) (by omega) (fun c51 => ?_) (fun c51 => absurd c51 (by omega))
        refine lv_aload_n hx hb dX3_narrowView_127 rfl (lv_at hl 5 rfl) ?_
        refine q_vMi C0 lX3_63 (c_X3_refuse l D y L F _ O G σ hC) ⟨rfl, rfl⟩ rfl hP hD hS hA hC.1.1 hC.1.2 rfl rfl rfl hl rfl (Nat.le_of_ble_eq_true rfl) dX3_narrowView_128 ⟨Nat.le_of_ble_eq_true rfl, Nat.le_of_ble_eq_true rfl⟩ (fun r52 H locs L53 F53 hP hD hS hz53 hp53 => ?_)
        obtain ⟨eL, hC, er, hO1⟩ := hp53
        subst eL
        subst er
        have hO := hO.tr hO1
        refine W.widen (k := 8) (n := 60) (Nat.le_of_ble_eq_true rfl) (Nat.le_of_ble_eq_true rfl) ?_
        exact vx_ret (q_retMi C0 hret rfl hlk dX3_narrowView_131 hP hD hS (⟨by omega, by omega, (by unfold kR_narrowView; rw [if_pos (by unfold nRef; (repeat' split) <;> first | rfl | omega)]), O, G, CP_eq hC (by unfold kS_narrowView; rw [if_pos (by unfold nRef; (repeat' split) <;> first | rfl | omega)]), rfl, Ext0 hO⟩))
  · refine lv_aload hx hb dX3_narrowView_18 (lv_at hl 0 rfl) ?_
    refine q_get C0 iX1 hP (CP_v hC hb_r1).1 (CP_v hC hb_r1).2 rfl 1 (by decide) flX3_182 rfl rfl dX3_narrowView_20 ?_
    refine lv_goto (tgt := 35) hx hb dX3_narrowView_23 (by decide) ?_
    refine lv_istore (lv' := [(6, .int (iI (zvl σ xv))), (5, .ref ((gva G xv))), (0, .ref ((gbg G))), (1, .int (iI xv)), (2, .int (iI xkind)), (3, .int (iI xlow)), (4, .int (iI xhigh))]) hx hb dX3_narrowView_35 hl (by decide) rfl (fun ls hl => ?_)
    refine lv_iload_n hx hb dX3_narrowView_37 rfl (lv_at hl 4 rfl) ?_
    refine q_iconst hx hb dX3_narrowView_38 ?_
    refine q_icmp_ne hx hb dX3_narrowView_39 (tgt := 50) (by decide) (by omega) (by omega) (fun c54 => ?_) (fun c54 => absurd c54 (by omega))
    refine lv_aload hx hb dX3_narrowView_50 (lv_at hl 1 rfl) ?_
    refine q_get C0 iX1 hP (CP_v hC hb_r1).1 (CP_v hC hb_r1).2 rfl 0 (by decide) flX3_178 rfl rfl dX3_narrowView_52 ?_
    refine lv_iload hx hb dX3_narrowView_55 (lv_at hl 6 rfl) ?_
    refine q_vS C0 lX3_70 (c_X0_rankOf l D y L F (grh G (zvw σ xv)) (grw G (zvw σ xv)) (zod σ (zvw σ xv)) ((zst σ (zvw σ xv)).1) ((zst σ (zvw σ xv)).2.1) ((zst σ (zvw σ xv)).2.2) xhigh (CP_r hC (hW.2.2.1 xv)) (by omega)) ⟨rfl, rfl⟩ rfl hP (CP_r hC (hW.2.2.1 xv)).1 (CP_r hC (hW.2.2.1 xv)).2.1 rfl rfl rfl hl rfl (Nat.le_of_ble_eq_true rfl) dX3_narrowView_57 ⟨Nat.le_of_ble_eq_true rfl, Nat.le_of_ble_eq_true rfl⟩ (fun r55 e_r55 => ?_)
    subst e_r55
    have b_56 := @turn_b (zod σ (zvw σ xv)) xhigh (by omega)
    refine lv_istore (lv' := [(7, .int (iI ((turn (zod σ (zvw σ xv)) xhigh)))), (6, .int (iI (zvl σ xv))), (5, .ref ((gva G xv))), (0, .ref ((gbg G))), (1, .int (iI xv)), (2, .int (iI xkind)), (3, .int (iI xlow)), (4, .int (iI xhigh))]) hx hb dX3_narrowView_60 hl (by decide) rfl (fun ls hl => ?_)
    refine lv_iload_n hx hb dX3_narrowView_62 rfl (lv_at hl 5 rfl) ?_
    refine q_if_eq hx hb dX3_narrowView_63 (tgt := 80) (by decide) (by omega) (fun c57 => ?_) (fun c57 => absurd c57 (by omega))
    refine q_iconst hx hb dX3_narrowView_80 ?_
    refine lv_istore (lv' := [(8, .int (iI 0)), (7, .int (iI ((turn (zod σ (zvw σ xv)) xhigh)))), (6, .int (iI (zvl σ xv))), (5, .ref ((gva G xv))), (0, .ref ((gbg G))), (1, .int (iI xv)), (2, .int (iI xkind)), (3, .int (iI xlow)), (4, .int (iI xhigh))]) hx hb dX3_narrowView_81 hl (by decide) rfl (fun ls hl => ?_)
    refine lv_iload_n hx hb dX3_narrowView_83 rfl (lv_at hl 6 rfl) ?_
    refine q_iconst hx hb dX3_narrowView_84 ?_
    refine q_icmp_eq hx hb dX3_narrowView_85 (tgt := 102) (by decide) (by omega) (by omega) (fun c58 => absurd c58 (by omega)) (fun c58 => ?_)
    refine lv_aload hx hb dX3_narrowView_88 (lv_at hl 3 rfl) ?_
    refine lv_iload hx hb dX3_narrowView_90 (lv_at hl 1 rfl) ?_
    refine q_vS C0 lX3_191 (c_X1_isWithin l D y L F (gva G xv) (grh G (zvw σ xv)) (zvl σ xv) (zvh σ xv) (turn (zod σ (zvw σ xv)) xhigh) (CP_v hC hb_r1).1 (CP_v hC hb_r1).2 (by omega) (by omega) (by omega)) ⟨rfl, rfl⟩ rfl hP (CP_v hC hb_r1).1 (CP_v hC hb_r1).2 rfl rfl rfl hl rfl (Nat.le_of_ble_eq_true rfl) dX3_narrowView_92 ⟨Nat.le_of_ble_eq_true rfl, Nat.le_of_ble_eq_true rfl⟩ (fun r59 e_r59 => ?_)
    subst e_r59
    refine q_if_ne hx hb dX3_narrowView_95 (tgt := 102) (by decide) (by omega) (fun c60 => ?_) (fun c60 => ?_)
    · refine q_iconst hx hb dX3_narrowView_102 ?_
      refine lv_istore (lv' := [(9, .int (iI 0)), (8, .int (iI 0)), (7, .int (iI ((turn (zod σ (zvw σ xv)) xhigh)))), (6, .int (iI (zvl σ xv))), (5, .ref ((gva G xv))), (0, .ref ((gbg G))), (1, .int (iI xv)), (2, .int (iI xkind)), (3, .int (iI xlow)), (4, .int (iI xhigh))]) hx hb dX3_narrowView_103 hl (by decide) rfl (fun ls hl => ?_)
      refine lv_iload hx hb dX3_narrowView_105 (lv_at hl 1 rfl) ?_
      refine q_if_ne hx hb dX3_narrowView_107 (tgt := 127) (by decide) (by omega) (fun c61 => absurd c61 (by omega)) (fun c61 => ?_)
      refine lv_iload hx hb dX3_narrowView_110 (lv_at hl 0 rfl) ?_
      refine q_if_ne hx hb dX3_narrowView_112 (tgt := 127) (by decide) (by omega) (fun c62 => absurd c62 (by omega)) (fun c62 => ?_)
      refine lv_iload_n hx hb dX3_narrowView_115 rfl (lv_at hl 7 rfl) ?_
      refine q_iconst hx hb dX3_narrowView_116 ?_
      refine q_icmp_ne hx hb dX3_narrowView_117 (tgt := 132) (by decide) (by omega) (by omega) (fun c63 => ?_) (fun c63 => absurd c63 (by omega))
      refine lv_aload hx hb dX3_narrowView_132 (lv_at hl 4 rfl) ?_
      refine lv_iload hx hb dX3_narrowView_134 (lv_at hl 3 rfl) ?_
      refine q_put C0 iX1 tyX1 tyX1_ok nmX1 hP hD hS (CP_v hC hb_r1).1 (CP_v hC hb_r1).2 rfl 1 (by decide) flX3_182 rfl rfl rfl rfl (Nat.le_of_ble_eq_true rfl) dX3_narrowView_136 (fun H locs hP hD hS => ?_)
      obtain ⟨F64, eF64⟩ : ∃ z, z = va_up F (gva G xv) (.inr (3, [.ref ((grh G (zvw σ xv))), .int (iI (zvl σ xv)), .int (iI (zvh σ xv))])) := ⟨_, rfl⟩
      have hP : va_P D vwCl (va_pl L F64) H := by rw [eF64]; exact hP
      have hD : va_D (AL L s.heap.size) (va_pl L F64) := by rw [eF64]; exact hD
      have hvF : F64 (gva G xv) = (.inr (3, [.ref ((grh G (zvw σ xv))), .int (iI (zvl σ xv)), .int (iI (zvh σ xv))])) := by rw [eF64]; exact va_up_self _ _ _
      have hO : OE O F F64 := by rw [eF64]; exact hO.tr (OE1 ((CP_O hC).2.2.2.2.2.1 _ hb_r1.1 hb_r1.2))
      have hC : CP y L F64 O G (sVw σ xv (zvw σ xv) (zvl σ xv) (zvh σ xv)) := by rw [eF64]; exact CP_vw hC hb_r1 (va_up_self _ _ _) (fun q hq => va_up_ne _ _ hq)
      refine lv_aload hx hb dX3_narrowView_139 (lv_at hl 4 rfl) ?_
      refine lv_iload hx hb dX3_narrowView_141 (lv_at hl 2 rfl) ?_
      refine q_put C0 iX1 tyX1 tyX1_ok nmX1 hP hD hS (CP_v hC hb_r1).1 hvF rfl 2 (by decide) flX3_185 rfl rfl rfl rfl (Nat.le_of_ble_eq_true rfl) dX3_narrowView_143 (fun H locs hP hD hS => ?_)
      obtain ⟨F65, eF65⟩ : ∃ z, z = va_up F64 (gva G xv) (.inr (3, [.ref ((grh G (zvw σ xv))), .int (iI (zvl σ xv)), .int (iI ((turn (zod σ (zvw σ xv)) xhigh)))])) := ⟨_, rfl⟩
      have hP : va_P D vwCl (va_pl L F65) H := by rw [eF65]; exact hP
      have hD : va_D (AL L s.heap.size) (va_pl L F65) := by rw [eF65]; exact hD
      have hvF : F65 (gva G xv) = (.inr (3, [.ref ((grh G (zvw σ xv))), .int (iI (zvl σ xv)), .int (iI ((turn (zod σ (zvw σ xv)) xhigh)))])) := by rw [eF65]; exact va_up_self _ _ _
      have hO : OE O F F65 := by rw [eF65]; exact hO.tr (OE1 ((CP_O hC).2.2.2.2.2.1 _ hb_r1.1 hb_r1.2))
      have hC : CP y L F65 O G (sVw (sVw σ xv (zvw σ xv) (zvl σ xv) (zvh σ xv)) xv (zvw σ xv) (zvl σ xv) (turn (zod σ (zvw σ xv)) xhigh)) := by rw [eF65]; exact CP_vw hC hb_r1 (va_up_self _ _ _) (fun q hq => va_up_ne _ _ hq)
      refine lv_aload hx hb dX3_narrowView_146 (lv_at hl 4 rfl) ?_
      refine q_get C0 iX1 hP (CP_v hC hb_r1).1 hvF rfl 0 (by decide) flX3_178 rfl rfl dX3_narrowView_148 ?_
      refine lv_aload hx hb dX3_narrowView_151 (lv_at hl 4 rfl) ?_
      refine q_get C0 iX1 hP (CP_v hC hb_r1).1 hvF rfl 1 (by decide) flX3_182 rfl rfl dX3_narrowView_153 ?_
      refine lv_aload hx hb dX3_narrowView_156 (lv_at hl 4 rfl) ?_
      refine q_get C0 iX1 hP (CP_v hC hb_r1).1 hvF rfl 2 (by decide) flX3_185 rfl rfl dX3_narrowView_158 ?_
      refine q_vS C0 lX3_188 (c_X0_countOfPart l D y L F65 (grh G (zvw σ xv)) (grw G (zvw σ xv)) (zod σ (zvw σ xv)) ((zst σ (zvw σ xv)).1) ((zst σ (zvw σ xv)).2.1) ((zst σ (zvw σ xv)).2.2) (zvl σ xv) (turn (zod σ (zvw σ xv)) xhigh) (CP_r hC (hW.2.2.1 xv)) (by omega) (by omega)) ⟨rfl, rfl⟩ rfl hP (CP_r hC (hW.2.2.1 xv)).1 (CP_r hC (hW.2.2.1 xv)).2.1 rfl rfl rfl hl rfl (Nat.le_of_ble_eq_true rfl) dX3_narrowView_161 ⟨Nat.le_of_ble_eq_true rfl, Nat.le_of_ble_eq_true rfl⟩ (fun r66 e_r66 => ?_)
      subst e_r66
      refine W.widen (k := 8) (n := 60) (Nat.le_of_ble_eq_true rfl) (Nat.le_of_ble_eq_true rfl) ?_
      exact vx_ret (q_retMi C0 hret rfl hlk dX3_narrowView_164 hP hD hS (⟨by omega, by omega, (by unfold kR_narrowView; rw [if_neg (by (unfold nRef; (repeat' split) <;> omega)), show nLo σ xv xkind xlow = zvl σ xv by (unfold nLo; (repeat' split) <;> first | rfl | omega), show nHi σ xv xkind xhigh = (turn (zod σ (zvw σ xv)) xhigh) by (unfold nHi; (repeat' split) <;> first | rfl | omega)]), O, G, CP_eq hC (by rw [sVw2]; unfold kS_narrowView; rw [if_neg (by (unfold nRef; (repeat' split) <;> omega)), show nLo σ xv xkind xlow = zvl σ xv by (unfold nLo; (repeat' split) <;> first | rfl | omega), show nHi σ xv xkind xhigh = (turn (zod σ (zvw σ xv)) xhigh) by (unfold nHi; (repeat' split) <;> first | rfl | omega)]), rfl, Ext0 hO⟩))
    · refine q_iconst hx hb dX3_narrowView_98 ?_
      refine lv_goto (tgt := 103) hx hb dX3_narrowView_99 (by decide) ?_
      refine lv_istore (lv' := [(9, .int (iI 1)), (8, .int (iI 0)), (7, .int (iI ((turn (zod σ (zvw σ xv)) xhigh)))), (6, .int (iI (zvl σ xv))), (5, .ref ((gva G xv))), (0, .ref ((gbg G))), (1, .int (iI xv)), (2, .int (iI xkind)), (3, .int (iI xlow)), (4, .int (iI xhigh))]) hx hb dX3_narrowView_103 hl (by decide) rfl (fun ls hl => ?_)
      refine lv_iload hx hb dX3_narrowView_105 (lv_at hl 1 rfl) ?_
      refine q_if_ne hx hb dX3_narrowView_107 (tgt := 127) (by decide) (by omega) (fun c67 => absurd c67 (by omega)) (fun c67 => ?_)
      refine lv_iload hx hb dX3_narrowView_110 (lv_at hl 0 rfl) ?_
      refine q_if_ne hx hb dX3_narrowView_112 (tgt := 127) (by decide) (by omega) (fun c68 => ?_) (fun c68 => absurd c68 (by omega))
      refine lv_aload_n hx hb dX3_narrowView_127 rfl (lv_at hl 5 rfl) ?_
      refine q_vMi C0 lX3_63 (c_X3_refuse l D y L F _ O G σ hC) ⟨rfl, rfl⟩ rfl hP hD hS hA hC.1.1 hC.1.2 rfl rfl rfl hl rfl (Nat.le_of_ble_eq_true rfl) dX3_narrowView_128 ⟨Nat.le_of_ble_eq_true rfl, Nat.le_of_ble_eq_true rfl⟩ (fun r69 H locs L70 F70 hP hD hS hz70 hp70 => ?_)
      obtain ⟨eL, hC, er, hO1⟩ := hp70
      subst eL
      subst er
      have hO := hO.tr hO1
      refine W.widen (k := 8) (n := 60) (Nat.le_of_ble_eq_true rfl) (Nat.le_of_ble_eq_true rfl) ?_
      exact vx_ret (q_retMi C0 hret rfl hlk dX3_narrowView_131 hP hD hS (⟨by omega, by omega, (by unfold kR_narrowView; rw [if_pos (by unfold nRef; (repeat' split) <;> first | rfl | omega)]), O, G, CP_eq hC (by unfold kS_narrowView; rw [if_pos (by unfold nRef; (repeat' split) <;> first | rfl | omega)]), rfl, Ext0 hO⟩))
