set_option maxHeartbeats 3000000 in
set_option maxRecDepth 100000 in
theorem c_X3_openView (l : Launch) (hfl : l.stackTraces = false) (D : va_G) (y : Nat → ClassId) (L : List Nat) (F : Nat → va_E) (sz : Nat) (O : Nat → Prop) (G : CG) (σ : CS) (xv : Int) (xb : Int) (xkind : Int) (xlow : Int) (xhigh : Int) (xends : Int) (hC : CP y L F O G σ) (hW : CW σ) (h_xv : -2147483648 ≤ xv ∧ xv ≤ 2147483647) (h_xb : -2147483648 ≤ xb ∧ xb ≤ 2147483647) (h_xkind : -2147483648 ≤ xkind ∧ xkind ≤ 2147483647) (h_xlow : -2147483648 ≤ xlow ∧ xlow ≤ 2147483647) (h_xhigh : -2147483648 ≤ xhigh ∧ xhigh ≤ 2147483647) (h_xends : -2147483648 ≤ xends ∧ xends ≤ 2147483647) : vx_Met l yX3_openView (.code yX3_openView cX3_openView 15 (some .int) :: Tt) ({ frames := 8, cells := 8, slots := 60, locals := 125 }) (PcX D y L F sz [.ref ((gbg G)), .int (iI xv), .int (iI xb), .int (iI xkind), .int (iI xlow), .int (iI xhigh), .int (iI xends)]) (cMi D (AL L sz) (fun r L1 F1 => ((0 ≤ xv ∧ xv ≤ 1) ∧ (0 ≤ xb ∧ xb ≤ 3)) ∧ ((0 ≤ xkind ∧ xkind ≤ 2) ∧ (0 ≤ xlow ∧ xlow ≤ 99) ∧ (0 ≤ xhigh ∧ xhigh ≤ 99) ∧ (0 ≤ xends ∧ xends ≤ 3)) ∧ r = kR_openView σ xv xb xkind xlow xhigh xends ∧ ∃ O1 G1, CP y L1 F1 O1 G1 (kS_openView σ xv xb xkind xlow xhigh xends) ∧ gbg G1 = gbg G ∧ Ext O O1 L L1 F F1)) (XC (pX ((0 ≤ xv ∧ xv ≤ 1) ∧ (0 ≤ xb ∧ xb ≤ 3)) ((0 ≤ xkind ∧ xkind ≤ 2) ∧ (0 ≤ xlow ∧ xlow ≤ 99) ∧ (0 ≤ xhigh ∧ xhigh ≤ 99) ∧ (0 ≤ xends ∧ xends ≤ 3)))) 8 60 (AL L sz) := by
  have ab1 := andI_b xends 1
  have ab2 := andI_b xends 2
  have hO : OE O F F := fun _ _ => rfl
  have hw4 := hW.2.2.2.2.2.1
  have hw5 := hW.2.2.2.2.2.2.1
  have hw6 := hW.2.2.2.2.2.2.2.2.2.2
  refine q_ofX (lv := [(0, .ref ((gbg G))), (1, .int (iI xv)), (2, .int (iI xb)), (3, .int (iI xkind)), (4, .int (iI xlow)), (5, .int (iI xhigh)), (6, .int (iI xends))]) (by decide) (Nat.le_of_ble_eq_true rfl) rfl (fun p e s m below meth c C0 hret hlk hout hsz hA hP hD hS hX ls hl => ?_)
  subst hsz
  have hx := C0.1.1
  have hb := C0.1.2.1
  have hts := C0.1.2.2.2.2
  refine lv_aload_n hx hb dX3_openView_0 rfl (lv_at hl 0 rfl) ?_
  refine lv_iload_n hx hb dX3_openView_1 rfl (lv_at hl 1 rfl) ?_
  refine q_vXa C0 lX3_171 (c_X3_viewAt l hfl D y L F _ O G σ xv hC (by omega)) ⟨rfl, rfl⟩ rfl hP hD hX hout hlk hC.1.1 hC.1.2 rfl rfl rfl hl rfl (Nat.le_of_ble_eq_true rfl) dX3_openView_2 ⟨Nat.le_of_ble_eq_true rfl, Nat.le_of_ble_eq_true rfl⟩ ⟨Nat.le_of_ble_eq_true rfl, Nat.le_of_ble_eq_true rfl⟩ (fun E h => Or.inl ⟨h.1, fun q => h.2 (by omega)⟩) (fun r1 e_r1 => ?_)
  refine W.widen (k := 1) (n := 6) (Nat.le_of_ble_eq_true rfl) (Nat.le_of_ble_eq_true rfl) ?_
  obtain ⟨hb_r1, e_r1⟩ := e_r1
  subst e_r1
  have hv_r1 := hW.2.2.2.2.1 xv
  refine lv_astore (lv' := [(7, .ref ((gva G xv))), (0, .ref ((gbg G))), (1, .int (iI xv)), (2, .int (iI xb)), (3, .int (iI xkind)), (4, .int (iI xlow)), (5, .int (iI xhigh)), (6, .int (iI xends))]) hx hb dX3_openView_5 hl (by decide) rfl (fun ls hl => ?_)
  refine lv_aload_n hx hb dX3_openView_7 rfl (lv_at hl 1 rfl) ?_
  refine lv_iload_n hx hb dX3_openView_8 rfl (lv_at hl 3 rfl) ?_
  refine q_vXa C0 lX3_37 (c_X3_bookAt l hfl D y L F _ O G σ xb hC (by omega)) ⟨rfl, rfl⟩ rfl hP hD hX hout hlk hC.1.1 hC.1.2 rfl rfl rfl hl rfl (Nat.le_of_ble_eq_true rfl) dX3_openView_9 ⟨Nat.le_of_ble_eq_true rfl, Nat.le_of_ble_eq_true rfl⟩ ⟨Nat.le_of_ble_eq_true rfl, Nat.le_of_ble_eq_true rfl⟩ (fun E h => Or.inl ⟨h.1, fun q => h.2 (by omega)⟩) (fun r2 e_r2 => ?_)
  refine W.widen (k := 2) (n := 12) (Nat.le_of_ble_eq_true rfl) (Nat.le_of_ble_eq_true rfl) ?_
  obtain ⟨hb_r2, e_r2⟩ := e_r2
  subst e_r2
  refine lv_astore (lv' := [(8, .ref ((grh G (zbk σ xb)))), (7, .ref ((gva G xv))), (0, .ref ((gbg G))), (1, .int (iI xv)), (2, .int (iI xb)), (3, .int (iI xkind)), (4, .int (iI xlow)), (5, .int (iI xhigh)), (6, .int (iI xends))]) hx hb dX3_openView_12 hl (by decide) rfl (fun ls hl => ?_)
  refine lv_iload_n hx hb dX3_openView_14 rfl (lv_at hl 5 rfl) ?_
  refine lv_iload hx hb dX3_openView_15 (lv_at hl 6 rfl) ?_
  refine lv_iload hx hb dX3_openView_17 (lv_at hl 7 rfl) ?_
  refine q_sXv C0 lX3_175 (c_X3_checkKindAndBounds l hfl D y L F _ xkind xlow xhigh (by omega) (by omega) (by omega)) ⟨rfl, rfl⟩ rfl hP hD hX hout hlk rfl hl rfl (Nat.le_of_ble_eq_true rfl) dX3_openView_19 ⟨Nat.le_of_ble_eq_true rfl, Nat.le_of_ble_eq_true rfl⟩ ⟨Nat.le_of_ble_eq_true rfl, Nat.le_of_ble_eq_true rfl⟩ (fun E h => Or.inr ⟨h.1, by first | trivial | omega, fun q => h.2 (by omega)⟩) (fun _ e_r3 => ?_)
  refine W.widen (k := 5) (n := 30) (Nat.le_of_ble_eq_true rfl) (Nat.le_of_ble_eq_true rfl) ?_
  refine lv_iload hx hb dX3_openView_22 (lv_at hl 8 rfl) ?_
  refine q_iconst hx hb dX3_openView_24 ?_
  refine q_sXv C0 lX3_41 (c_X3_checkUpTo l hfl D y L F _ xends 3 (by omega) (by omega)) ⟨rfl, rfl⟩ rfl hP hD hX hout hlk rfl hl rfl (Nat.le_of_ble_eq_true rfl) dX3_openView_25 ⟨Nat.le_of_ble_eq_true rfl, Nat.le_of_ble_eq_true rfl⟩ ⟨Nat.le_of_ble_eq_true rfl, Nat.le_of_ble_eq_true rfl⟩ (fun E h => Or.inr ⟨h.1, by first | trivial | omega, fun q => h.2 (by omega)⟩) (fun _ e_r4 => ?_)
  refine W.widen (k := 6) (n := 36) (Nat.le_of_ble_eq_true rfl) (Nat.le_of_ble_eq_true rfl) ?_
  refine lv_aload hx hb dX3_openView_28 (lv_at hl 0 rfl) ?_
  refine lv_iload hx hb dX3_openView_30 (lv_at hl 6 rfl) ?_
  refine q_vS C0 lX3_70 (c_X0_rankOf l D y L F (grh G (zbk σ xb)) (grw G (zbk σ xb)) (zod σ (zbk σ xb)) ((zst σ (zbk σ xb)).1) ((zst σ (zbk σ xb)).2.1) ((zst σ (zbk σ xb)).2.2) xlow (CP_r hC (hW.1 xb)) (by omega)) ⟨rfl, rfl⟩ rfl hP (CP_r hC (hW.1 xb)).1 (CP_r hC (hW.1 xb)).2.1 rfl rfl rfl hl rfl (Nat.le_of_ble_eq_true rfl) dX3_openView_32 ⟨Nat.le_of_ble_eq_true rfl, Nat.le_of_ble_eq_true rfl⟩ (fun r5 e_r5 => ?_)
  subst e_r5
  have b_6 := @turn_b (zod σ (zbk σ xb)) xlow (by omega)
  refine lv_istore (lv' := [(9, .int (iI ((turn (zod σ (zbk σ xb)) xlow)))), (8, .ref ((grh G (zbk σ xb)))), (7, .ref ((gva G xv))), (0, .ref ((gbg G))), (1, .int (iI xv)), (2, .int (iI xb)), (3, .int (iI xkind)), (4, .int (iI xlow)), (5, .int (iI xhigh)), (6, .int (iI xends))]) hx hb dX3_openView_35 hl (by decide) rfl (fun ls hl => ?_)
  refine lv_aload hx hb dX3_openView_37 (lv_at hl 1 rfl) ?_
  refine lv_iload hx hb dX3_openView_39 (lv_at hl 8 rfl) ?_
  refine q_vS C0 lX3_70 (c_X0_rankOf l D y L F (grh G (zbk σ xb)) (grw G (zbk σ xb)) (zod σ (zbk σ xb)) ((zst σ (zbk σ xb)).1) ((zst σ (zbk σ xb)).2.1) ((zst σ (zbk σ xb)).2.2) xhigh (CP_r hC (hW.1 xb)) (by omega)) ⟨rfl, rfl⟩ rfl hP (CP_r hC (hW.1 xb)).1 (CP_r hC (hW.1 xb)).2.1 rfl rfl rfl hl rfl (Nat.le_of_ble_eq_true rfl) dX3_openView_41 ⟨Nat.le_of_ble_eq_true rfl, Nat.le_of_ble_eq_true rfl⟩ (fun r7 e_r7 => ?_)
  subst e_r7
  have b_8 := @turn_b (zod σ (zbk σ xb)) xhigh (by omega)
  refine lv_istore (lv' := [(10, .int (iI ((turn (zod σ (zbk σ xb)) xhigh)))), (9, .int (iI ((turn (zod σ (zbk σ xb)) xlow)))), (8, .ref ((grh G (zbk σ xb)))), (7, .ref ((gva G xv))), (0, .ref ((gbg G))), (1, .int (iI xv)), (2, .int (iI xb)), (3, .int (iI xkind)), (4, .int (iI xlow)), (5, .int (iI xhigh)), (6, .int (iI xends))]) hx hb dX3_openView_44 hl (by decide) rfl (fun ls hl => ?_)
  refine lv_iload_n hx hb dX3_openView_46 rfl (lv_at hl 7 rfl) ?_
  refine q_iconst hx hb dX3_openView_47 ?_
  refine q_icmp_ne hx hb dX3_openView_48 (tgt := 63) (by decide) (by omega) (by omega) (fun c9 => ?_) (fun c9 => ?_)
  · refine lv_iload hx hb dX3_openView_63 (lv_at hl 10 rfl) ?_
    refine q_iconst hx hb dX3_openView_65 ?_
    refine q_iand hx hb dX3_openView_66 ?_
    refine q_if_eq hx hb dX3_openView_67 (tgt := 74) (by decide) (by omega) (fun c10 => ?_) (fun c10 => ?_)
    · refine q_iconst hx hb dX3_openView_74 ?_
      refine lv_istore (lv' := [(11, .int (iI 0)), (10, .int (iI ((turn (zod σ (zbk σ xb)) xhigh)))), (9, .int (iI ((turn (zod σ (zbk σ xb)) xlow)))), (8, .ref ((grh G (zbk σ xb)))), (7, .ref ((gva G xv))), (0, .ref ((gbg G))), (1, .int (iI xv)), (2, .int (iI xb)), (3, .int (iI xkind)), (4, .int (iI xlow)), (5, .int (iI xhigh)), (6, .int (iI xends))]) hx hb dX3_openView_75 hl (by decide) rfl (fun ls hl => ?_)
      refine lv_iload hx hb dX3_openView_77 (lv_at hl 11 rfl) ?_
      refine q_iconst hx hb dX3_openView_79 ?_
      refine q_iand hx hb dX3_openView_80 ?_
      refine q_if_eq hx hb dX3_openView_81 (tgt := 88) (by decide) (by omega) (fun c11 => ?_) (fun c11 => ?_)
      · refine q_iconst hx hb dX3_openView_88 ?_
        refine lv_istore (lv' := [(12, .int (iI 0)), (11, .int (iI 0)), (10, .int (iI ((turn (zod σ (zbk σ xb)) xhigh)))), (9, .int (iI ((turn (zod σ (zbk σ xb)) xlow)))), (8, .ref ((grh G (zbk σ xb)))), (7, .ref ((gva G xv))), (0, .ref ((gbg G))), (1, .int (iI xv)), (2, .int (iI xb)), (3, .int (iI xkind)), (4, .int (iI xlow)), (5, .int (iI xhigh)), (6, .int (iI xends))]) hx hb dX3_openView_89 hl (by decide) rfl (fun ls hl => ?_)
        refine lv_iload hx hb dX3_openView_91 (lv_at hl 1 rfl) ?_
        refine q_if_eq hx hb dX3_openView_93 (tgt := 101) (by decide) (by omega) (fun c12 => ?_) (fun c12 => absurd c12 (by omega))
        refine lv_iload hx hb dX3_openView_101 (lv_at hl 3 rfl) ?_
        refine q_iconst hx hb dX3_openView_103 ?_
        refine q_iadd hx hb dX3_openView_104 ?_
        refine lv_istore (lv' := [(13, .int (iI (((turn (zod σ (zbk σ xb)) xlow) + 1)))), (12, .int (iI 0)), (11, .int (iI 0)), (10, .int (iI ((turn (zod σ (zbk σ xb)) xhigh)))), (9, .int (iI ((turn (zod σ (zbk σ xb)) xlow)))), (8, .ref ((grh G (zbk σ xb)))), (7, .ref ((gva G xv))), (0, .ref ((gbg G))), (1, .int (iI xv)), (2, .int (iI xb)), (3, .int (iI xkind)), (4, .int (iI xlow)), (5, .int (iI xhigh)), (6, .int (iI xends))]) hx hb dX3_openView_105 hl (by decide) rfl (fun ls hl => ?_)
        refine lv_iload hx hb dX3_openView_107 (lv_at hl 1 rfl) ?_
        refine q_if_eq hx hb dX3_openView_109 (tgt := 117) (by decide) (by omega) (fun c13 => ?_) (fun c13 => absurd c13 (by omega))
        refine lv_iload hx hb dX3_openView_117 (lv_at hl 3 rfl) ?_
        refine q_iconst hx hb dX3_openView_119 ?_
        refine q_isub hx hb dX3_openView_120 ?_
        refine lv_istore (lv' := [(14, .int (iI (((turn (zod σ (zbk σ xb)) xhigh) - 1)))), (13, .int (iI (((turn (zod σ (zbk σ xb)) xlow) + 1)))), (12, .int (iI 0)), (11, .int (iI 0)), (10, .int (iI ((turn (zod σ (zbk σ xb)) xhigh)))), (9, .int (iI ((turn (zod σ (zbk σ xb)) xlow)))), (8, .ref ((grh G (zbk σ xb)))), (7, .ref ((gva G xv))), (0, .ref ((gbg G))), (1, .int (iI xv)), (2, .int (iI xb)), (3, .int (iI xkind)), (4, .int (iI xlow)), (5, .int (iI xhigh)), (6, .int (iI xends))]) hx hb dX3_openView_121 hl (by decide) rfl (fun ls hl => ?_)
        refine lv_aload hx hb dX3_openView_123 (lv_at hl 7 rfl) ?_
        refine lv_aload hx hb dX3_openView_125 (lv_at hl 6 rfl) ?_
        refine q_put C0 iX1 tyX1 tyX1_ok nmX1 hP hD hS (CP_v hC hb_r1).1 (CP_v hC hb_r1).2 rfl 0 (by decide) flX3_178 rfl rfl rfl rfl (Nat.le_of_ble_eq_true rfl) dX3_openView_127 (fun H locs hP hD hS => ?_)
        obtain ⟨F14, eF14⟩ : ∃ z, z = va_up F (gva G xv) (.inr (3, [.ref ((grh G (zbk σ xb))), .int (iI (zvl σ xv)), .int (iI (zvh σ xv))])) := ⟨_, rfl⟩
        have hP : va_P D vwCl (va_pl L F14) H := by rw [eF14]; exact hP
        have hD : va_D (AL L s.heap.size) (va_pl L F14) := by rw [eF14]; exact hD
        have hvF : F14 (gva G xv) = (.inr (3, [.ref ((grh G (zbk σ xb))), .int (iI (zvl σ xv)), .int (iI (zvh σ xv))])) := by rw [eF14]; exact va_up_self _ _ _
        have hO : OE O F F14 := by rw [eF14]; exact hO.tr (OE1 ((CP_O hC).2.2.2.2.2.1 _ hb_r1.1 hb_r1.2))
        have hC : CP y L F14 O G (sVw σ xv (zbk σ xb) (zvl σ xv) (zvh σ xv)) := by rw [eF14]; exact CP_vw hC hb_r1 (va_up_self _ _ _) (fun q hq => va_up_ne _ _ hq)
        refine lv_aload hx hb dX3_openView_130 (lv_at hl 7 rfl) ?_
        refine lv_iload_n hx hb dX3_openView_132 rfl (lv_at hl 11 rfl) ?_
        refine q_if_ne hx hb dX3_openView_133 (tgt := 140) (by decide) (by omega) (fun c15 => ?_) (fun c15 => ?_)
        · refine lv_iload hx hb dX3_openView_140 (lv_at hl 1 rfl) ?_
          refine q_put C0 iX1 tyX1 tyX1_ok nmX1 hP hD hS (CP_v hC hb_r1).1 hvF rfl 1 (by decide) flX3_182 rfl rfl rfl rfl (Nat.le_of_ble_eq_true rfl) dX3_openView_142 (fun H locs hP hD hS => ?_)
          obtain ⟨F16, eF16⟩ : ∃ z, z = va_up F14 (gva G xv) (.inr (3, [.ref ((grh G (zbk σ xb))), .int (iI (((turn (zod σ (zbk σ xb)) xlow) + 1))), .int (iI (zvh σ xv))])) := ⟨_, rfl⟩
          have hP : va_P D vwCl (va_pl L F16) H := by rw [eF16]; exact hP
          have hD : va_D (AL L s.heap.size) (va_pl L F16) := by rw [eF16]; exact hD
          have hvF : F16 (gva G xv) = (.inr (3, [.ref ((grh G (zbk σ xb))), .int (iI (((turn (zod σ (zbk σ xb)) xlow) + 1))), .int (iI (zvh σ xv))])) := by rw [eF16]; exact va_up_self _ _ _
          have hO : OE O F F16 := by rw [eF16]; exact hO.tr (OE1 ((CP_O hC).2.2.2.2.2.1 _ hb_r1.1 hb_r1.2))
          have hC : CP y L F16 O G (sVw (sVw σ xv (zbk σ xb) (zvl σ xv) (zvh σ xv)) xv (zbk σ xb) ((turn (zod σ (zbk σ xb)) xlow) + 1) (zvh σ xv)) := by rw [eF16]; exact CP_vw hC hb_r1 (va_up_self _ _ _) (fun q hq => va_up_ne _ _ hq)
          refine lv_aload hx hb dX3_openView_145 (lv_at hl 7 rfl) ?_
          refine lv_iload_n hx hb dX3_openView_147 rfl (lv_at hl 11 rfl) ?_
          refine q_iconst hx hb dX3_openView_148 ?_
          refine q_icmp_ne hx hb dX3_openView_149 (tgt := 157) (by decide) (by omega) (by omega) (fun c17 => ?_) (fun c17 => ?_)
          · refine lv_iload hx hb dX3_openView_157 (lv_at hl 0 rfl) ?_
            refine q_put C0 iX1 tyX1 tyX1_ok nmX1 hP hD hS (CP_v hC hb_r1).1 hvF rfl 2 (by decide) flX3_185 rfl rfl rfl rfl (Nat.le_of_ble_eq_true rfl) dX3_openView_159 (fun H locs hP hD hS => ?_)
            obtain ⟨F18, eF18⟩ : ∃ z, z = va_up F16 (gva G xv) (.inr (3, [.ref ((grh G (zbk σ xb))), .int (iI (((turn (zod σ (zbk σ xb)) xlow) + 1))), .int (iI (((turn (zod σ (zbk σ xb)) xhigh) - 1)))])) := ⟨_, rfl⟩
            have hP : va_P D vwCl (va_pl L F18) H := by rw [eF18]; exact hP
            have hD : va_D (AL L s.heap.size) (va_pl L F18) := by rw [eF18]; exact hD
            have hvF : F18 (gva G xv) = (.inr (3, [.ref ((grh G (zbk σ xb))), .int (iI (((turn (zod σ (zbk σ xb)) xlow) + 1))), .int (iI (((turn (zod σ (zbk σ xb)) xhigh) - 1)))])) := by rw [eF18]; exact va_up_self _ _ _
            have hO : OE O F F18 := by rw [eF18]; exact hO.tr (OE1 ((CP_O hC).2.2.2.2.2.1 _ hb_r1.1 hb_r1.2))
            have hC : CP y L F18 O G (sVw (sVw (sVw σ xv (zbk σ xb) (zvl σ xv) (zvh σ xv)) xv (zbk σ xb) ((turn (zod σ (zbk σ xb)) xlow) + 1) (zvh σ xv)) xv (zbk σ xb) ((turn (zod σ (zbk σ xb)) xlow) + 1) ((turn (zod σ (zbk σ xb)) xhigh) - 1)) := by rw [eF18]; exact CP_vw hC hb_r1 (va_up_self _ _ _) (fun q hq => va_up_ne _ _ hq)
            refine lv_aload hx hb dX3_openView_162 (lv_at hl 6 rfl) ?_
            refine lv_aload hx hb dX3_openView_164 (lv_at hl 7 rfl) ?_
            refine q_get C0 iX1 hP (CP_v hC hb_r1).1 hvF rfl 1 (by decide) flX3_182 rfl rfl dX3_openView_166 ?_
            refine lv_aload hx hb dX3_openView_169 (lv_at hl 7 rfl) ?_
            refine q_get C0 iX1 hP (CP_v hC hb_r1).1 hvF rfl 2 (by decide) flX3_185 rfl rfl dX3_openView_171 ?_
            refine q_vS C0 lX3_188 (c_X0_countOfPart l D y L F18 (grh G (zbk σ xb)) (grw G (zbk σ xb)) (zod σ (zbk σ xb)) ((zst σ (zbk σ xb)).1) ((zst σ (zbk σ xb)).2.1) ((zst σ (zbk σ xb)).2.2) ((turn (zod σ (zbk σ xb)) xlow) + 1) ((turn (zod σ (zbk σ xb)) xhigh) - 1) (CP_r hC (hW.1 xb)) (by omega) (by omega)) ⟨rfl, rfl⟩ rfl hP (CP_r hC (hW.1 xb)).1 (CP_r hC (hW.1 xb)).2.1 rfl rfl rfl hl rfl (Nat.le_of_ble_eq_true rfl) dX3_openView_174 ⟨Nat.le_of_ble_eq_true rfl, Nat.le_of_ble_eq_true rfl⟩ (fun r19 e_r19 => ?_)
            subst e_r19
            refine W.widen (k := 8) (n := 60) (Nat.le_of_ble_eq_true rfl) (Nat.le_of_ble_eq_true rfl) ?_
            exact vx_ret (q_retMi C0 hret rfl hlk dX3_openView_177 hP hD hS (⟨by omega, by omega, (by unfold kR_openView; rw [if_neg (by omega), show oLo (zod σ (zbk σ xb)) xkind xlow xends = ((turn (zod σ (zbk σ xb)) xlow) + 1) by (unfold oLo; (repeat' split) <;> first | rfl | omega), show oHi (zod σ (zbk σ xb)) xkind xhigh xends = ((turn (zod σ (zbk σ xb)) xhigh) - 1) by (unfold oHi; (repeat' split) <;> first | rfl | omega)]), O, G, CP_eq hC (by rw [sVw2, sVw2]; unfold kS_openView; rw [if_neg (by omega), show oLo (zod σ (zbk σ xb)) xkind xlow xends = ((turn (zod σ (zbk σ xb)) xlow) + 1) by (unfold oLo; (repeat' split) <;> first | rfl | omega), show oHi (zod σ (zbk σ xb)) xkind xhigh xends = ((turn (zod σ (zbk σ xb)) xhigh) - 1) by (unfold oHi; (repeat' split) <;> first | rfl | omega)]), rfl, Ext0 hO⟩))
          · refine q_bipush hx hb dX3_openView_152 (by decide) ?_
            refine lv_goto (tgt := 159) hx hb dX3_openView_154 (by decide) ?_
            refine q_put C0 iX1 tyX1 tyX1_ok nmX1 hP hD hS (CP_v hC hb_r1).1 hvF rfl 2 (by decide) flX3_185 rfl rfl rfl rfl (Nat.le_of_ble_eq_true rfl) dX3_openView_159 (fun H locs hP hD hS => ?_)
            obtain ⟨F20, eF20⟩ : ∃ z, z = va_up F16 (gva G xv) (.inr (3, [.ref ((grh G (zbk σ xb))), .int (iI (((turn (zod σ (zbk σ xb)) xlow) + 1))), .int (iI 99)])) := ⟨_, rfl⟩
            have hP : va_P D vwCl (va_pl L F20) H := by rw [eF20]; exact hP
            have hD : va_D (AL L s.heap.size) (va_pl L F20) := by rw [eF20]; exact hD
            have hvF : F20 (gva G xv) = (.inr (3, [.ref ((grh G (zbk σ xb))), .int (iI (((turn (zod σ (zbk σ xb)) xlow) + 1))), .int (iI 99)])) := by rw [eF20]; exact va_up_self _ _ _
            have hO : OE O F F20 := by rw [eF20]; exact hO.tr (OE1 ((CP_O hC).2.2.2.2.2.1 _ hb_r1.1 hb_r1.2))
            have hC : CP y L F20 O G (sVw (sVw (sVw σ xv (zbk σ xb) (zvl σ xv) (zvh σ xv)) xv (zbk σ xb) ((turn (zod σ (zbk σ xb)) xlow) + 1) (zvh σ xv)) xv (zbk σ xb) ((turn (zod σ (zbk σ xb)) xlow) + 1) 99) := by rw [eF20]; exact CP_vw hC hb_r1 (va_up_self _ _ _) (fun q hq => va_up_ne _ _ hq)
            refine lv_aload hx hb dX3_openView_162 (lv_at hl 6 rfl) ?_
            refine lv_aload hx hb dX3_openView_164 (lv_at hl 7 rfl) ?_
            refine q_get C0 iX1 hP (CP_v hC hb_r1).1 hvF rfl 1 (by decide) flX3_182 rfl rfl dX3_openView_166 ?_
            refine lv_aload hx hb dX3_openView_169 (lv_at hl 7 rfl) ?_
            refine q_get C0 iX1 hP (CP_v hC hb_r1).1 hvF rfl 2 (by decide) flX3_185 rfl rfl dX3_openView_171 ?_
            refine q_vS C0 lX3_188 (c_X0_countOfPart l D y L F20 (grh G (zbk σ xb)) (grw G (zbk σ xb)) (zod σ (zbk σ xb)) ((zst σ (zbk σ xb)).1) ((zst σ (zbk σ xb)).2.1) ((zst σ (zbk σ xb)).2.2) ((turn (zod σ (zbk σ xb)) xlow) + 1) 99 (CP_r hC (hW.1 xb)) (by omega) (by omega)) ⟨rfl, rfl⟩ rfl hP (CP_r hC (hW.1 xb)).1 (CP_r hC (hW.1 xb)).2.1 rfl rfl rfl hl rfl (Nat.le_of_ble_eq_true rfl) dX3_openView_174 ⟨Nat.le_of_ble_eq_true rfl, Nat.le_of_ble_eq_true rfl⟩ (fun r21 e_r21 => ?_)
            subst e_r21
            refine W.widen (k := 8) (n := 60) (Nat.le_of_ble_eq_true rfl) (Nat.le_of_ble_eq_true rfl) ?_
            exact vx_ret (q_retMi C0 hret rfl hlk dX3_openView_177 hP hD hS (⟨by omega, by omega, (by unfold kR_openView; rw [if_neg (by omega), show oLo (zod σ (zbk σ xb)) xkind xlow xends = ((turn (zod σ (zbk σ xb)) xlow) + 1) by (unfold oLo; (repeat' split) <;> first | rfl | omega), show oHi (zod σ (zbk σ xb)) xkind xhigh xends = 99 by (unfold oHi; (repeat' split) <;> first | rfl | omega)]), O, G, CP_eq hC (by rw [sVw2, sVw2]; unfold kS_openView; rw [if_neg (by omega), show oLo (zod σ (zbk σ xb)) xkind xlow xends = ((turn (zod σ (zbk σ xb)) xlow) + 1) by (unfold oLo; (repeat' split) <;> first | rfl | omega), show oHi (zod σ (zbk σ xb)) xkind xhigh xends = 99 by (unfold oHi; (repeat' split) <;> first | rfl | omega)]), rfl, Ext0 hO⟩))
        · refine q_iconst hx hb dX3_openView_136 ?_
          refine lv_goto (tgt := 142) hx hb dX3_openView_137 (by decide) ?_
          refine q_put C0 iX1 tyX1 tyX1_ok nmX1 hP hD hS (CP_v hC hb_r1).1 hvF rfl 1 (by decide) flX3_182 rfl rfl rfl rfl (Nat.le_of_ble_eq_true rfl) dX3_openView_142 (fun H locs hP hD hS => ?_)
          obtain ⟨F22, eF22⟩ : ∃ z, z = va_up F14 (gva G xv) (.inr (3, [.ref ((grh G (zbk σ xb))), .int (iI 0), .int (iI (zvh σ xv))])) := ⟨_, rfl⟩
          have hP : va_P D vwCl (va_pl L F22) H := by rw [eF22]; exact hP
          have hD : va_D (AL L s.heap.size) (va_pl L F22) := by rw [eF22]; exact hD
          have hvF : F22 (gva G xv) = (.inr (3, [.ref ((grh G (zbk σ xb))), .int (iI 0), .int (iI (zvh σ xv))])) := by rw [eF22]; exact va_up_self _ _ _
          have hO : OE O F F22 := by rw [eF22]; exact hO.tr (OE1 ((CP_O hC).2.2.2.2.2.1 _ hb_r1.1 hb_r1.2))
          have hC : CP y L F22 O G (sVw (sVw σ xv (zbk σ xb) (zvl σ xv) (zvh σ xv)) xv (zbk σ xb) 0 (zvh σ xv)) := by rw [eF22]; exact CP_vw hC hb_r1 (va_up_self _ _ _) (fun q hq => va_up_ne _ _ hq)
          refine lv_aload hx hb dX3_openView_145 (lv_at hl 7 rfl) ?_
          refine lv_iload_n hx hb dX3_openView_147 rfl (lv_at hl 11 rfl) ?_
          refine q_iconst hx hb dX3_openView_148 ?_
          refine q_icmp_ne hx hb dX3_openView_149 (tgt := 157) (by decide) (by omega) (by omega) (fun c23 => ?_) (fun c23 => ?_)
          · refine lv_iload hx hb dX3_openView_157 (lv_at hl 0 rfl) ?_
            refine q_put C0 iX1 tyX1 tyX1_ok nmX1 hP hD hS (CP_v hC hb_r1).1 hvF rfl 2 (by decide) flX3_185 rfl rfl rfl rfl (Nat.le_of_ble_eq_true rfl) dX3_openView_159 (fun H locs hP hD hS => ?_)
            obtain ⟨F24, eF24⟩ : ∃ z, z = va_up F22 (gva G xv) (.inr (3, [.ref ((grh G (zbk σ xb))), .int (iI 0), .int (iI (((turn (zod σ (zbk σ xb)) xhigh) - 1)))])) := ⟨_, rfl⟩
            have hP : va_P D vwCl (va_pl L F24) H := by rw [eF24]; exact hP
            have hD : va_D (AL L s.heap.size) (va_pl L F24) := by rw [eF24]; exact hD
            have hvF : F24 (gva G xv) = (.inr (3, [.ref ((grh G (zbk σ xb))), .int (iI 0), .int (iI (((turn (zod σ (zbk σ xb)) xhigh) - 1)))])) := by rw [eF24]; exact va_up_self _ _ _
            have hO : OE O F F24 := by rw [eF24]; exact hO.tr (OE1 ((CP_O hC).2.2.2.2.2.1 _ hb_r1.1 hb_r1.2))
            have hC : CP y L F24 O G (sVw (sVw (sVw σ xv (zbk σ xb) (zvl σ xv) (zvh σ xv)) xv (zbk σ xb) 0 (zvh σ xv)) xv (zbk σ xb) 0 ((turn (zod σ (zbk σ xb)) xhigh) - 1)) := by rw [eF24]; exact CP_vw hC hb_r1 (va_up_self _ _ _) (fun q hq => va_up_ne _ _ hq)
            refine lv_aload hx hb dX3_openView_162 (lv_at hl 6 rfl) ?_
            refine lv_aload hx hb dX3_openView_164 (lv_at hl 7 rfl) ?_
            refine q_get C0 iX1 hP (CP_v hC hb_r1).1 hvF rfl 1 (by decide) flX3_182 rfl rfl dX3_openView_166 ?_
            refine lv_aload hx hb dX3_openView_169 (lv_at hl 7 rfl) ?_
            refine q_get C0 iX1 hP (CP_v hC hb_r1).1 hvF rfl 2 (by decide) flX3_185 rfl rfl dX3_openView_171 ?_
            refine q_vS C0 lX3_188 (c_X0_countOfPart l D y L F24 (grh G (zbk σ xb)) (grw G (zbk σ xb)) (zod σ (zbk σ xb)) ((zst σ (zbk σ xb)).1) ((zst σ (zbk σ xb)).2.1) ((zst σ (zbk σ xb)).2.2) 0 ((turn (zod σ (zbk σ xb)) xhigh) - 1) (CP_r hC (hW.1 xb)) (by omega) (by omega)) ⟨rfl, rfl⟩ rfl hP (CP_r hC (hW.1 xb)).1 (CP_r hC (hW.1 xb)).2.1 rfl rfl rfl hl rfl (Nat.le_of_ble_eq_true rfl) dX3_openView_174 ⟨Nat.le_of_ble_eq_true rfl, Nat.le_of_ble_eq_true rfl⟩ (fun r25 e_r25 => ?_)
            subst e_r25
            refine W.widen (k := 8) (n := 60) (Nat.le_of_ble_eq_true rfl) (Nat.le_of_ble_eq_true rfl) ?_
            exact vx_ret (q_retMi C0 hret rfl hlk dX3_openView_177 hP hD hS (⟨by omega, by omega, (by unfold kR_openView; rw [if_neg (by omega), show oLo (zod σ (zbk σ xb)) xkind xlow xends = 0 by (unfold oLo; (repeat' split) <;> first | rfl | omega), show oHi (zod σ (zbk σ xb)) xkind xhigh xends = ((turn (zod σ (zbk σ xb)) xhigh) - 1) by (unfold oHi; (repeat' split) <;> first | rfl | omega)]), O, G, CP_eq hC (by rw [sVw2, sVw2]; unfold kS_openView; rw [if_neg (by omega), show oLo (zod σ (zbk σ xb)) xkind xlow xends = 0 by (unfold oLo; (repeat' split) <;> first | rfl | omega), show oHi (zod σ (zbk σ xb)) xkind xhigh xends = ((turn (zod σ (zbk σ xb)) xhigh) - 1) by (unfold oHi; (repeat' split) <;> first | rfl | omega)]), rfl, Ext0 hO⟩))
          · refine q_bipush hx hb dX3_openView_152 (by decide) ?_
            refine lv_goto (tgt := 159) hx hb dX3_openView_154 (by decide) ?_
            refine q_put C0 iX1 tyX1 tyX1_ok nmX1 hP hD hS (CP_v hC hb_r1).1 hvF rfl 2 (by decide) flX3_185 rfl rfl rfl rfl (Nat.le_of_ble_eq_true rfl) dX3_openView_159 (fun H locs hP hD hS => ?_)
            obtain ⟨F26, eF26⟩ : ∃ z, z = va_up F22 (gva G xv) (.inr (3, [.ref ((grh G (zbk σ xb))), .int (iI 0), .int (iI 99)])) := ⟨_, rfl⟩
            have hP : va_P D vwCl (va_pl L F26) H := by rw [eF26]; exact hP
            have hD : va_D (AL L s.heap.size) (va_pl L F26) := by rw [eF26]; exact hD
            have hvF : F26 (gva G xv) = (.inr (3, [.ref ((grh G (zbk σ xb))), .int (iI 0), .int (iI 99)])) := by rw [eF26]; exact va_up_self _ _ _
            have hO : OE O F F26 := by rw [eF26]; exact hO.tr (OE1 ((CP_O hC).2.2.2.2.2.1 _ hb_r1.1 hb_r1.2))
            have hC : CP y L F26 O G (sVw (sVw (sVw σ xv (zbk σ xb) (zvl σ xv) (zvh σ xv)) xv (zbk σ xb) 0 (zvh σ xv)) xv (zbk σ xb) 0 99) := by rw [eF26]; exact CP_vw hC hb_r1 (va_up_self _ _ _) (fun q hq => va_up_ne _ _ hq)
            refine lv_aload hx hb dX3_openView_162 (lv_at hl 6 rfl) ?_
            refine lv_aload hx hb dX3_openView_164 (lv_at hl 7 rfl) ?_
            refine q_get C0 iX1 hP (CP_v hC hb_r1).1 hvF rfl 1 (by decide) flX3_182 rfl rfl dX3_openView_166 ?_
            refine lv_aload hx hb dX3_openView_169 (lv_at hl 7 rfl) ?_
            refine q_get C0 iX1 hP (CP_v hC hb_r1).1 hvF rfl 2 (by decide) flX3_185 rfl rfl dX3_openView_171 ?_
            refine q_vS C0 lX3_188 (c_X0_countOfPart l D y L F26 (grh G (zbk σ xb)) (grw G (zbk σ xb)) (zod σ (zbk σ xb)) ((zst σ (zbk σ xb)).1) ((zst σ (zbk σ xb)).2.1) ((zst σ (zbk σ xb)).2.2) 0 99 (CP_r hC (hW.1 xb)) (by omega) (by omega)) ⟨rfl, rfl⟩ rfl hP (CP_r hC (hW.1 xb)).1 (CP_r hC (hW.1 xb)).2.1 rfl rfl rfl hl rfl (Nat.le_of_ble_eq_true rfl) dX3_openView_174 ⟨Nat.le_of_ble_eq_true rfl, Nat.le_of_ble_eq_true rfl⟩ (fun r27 e_r27 => ?_)
            subst e_r27
            refine W.widen (k := 8) (n := 60) (Nat.le_of_ble_eq_true rfl) (Nat.le_of_ble_eq_true rfl) ?_
            exact vx_ret (q_retMi C0 hret rfl hlk dX3_openView_177 hP hD hS (⟨by omega, by omega, (by unfold kR_openView; rw [if_neg (by omega), show oLo (zod σ (zbk σ xb)) xkind xlow xends = 0 by (unfold oLo; (repeat' split) <;> first | rfl | omega), show oHi (zod σ (zbk σ xb)) xkind xhigh xends = 99 by (unfold oHi; (repeat' split) <;> first | rfl | omega)]), O, G, CP_eq hC (by rw [sVw2, sVw2]; unfold kS_openView; rw [if_neg (by omega), show oLo (zod σ (zbk σ xb)) xkind xlow xends = 0 by (unfold oLo; (repeat' split) <;> first | rfl | omega), show oHi (zod σ (zbk σ xb)) xkind xhigh xends = 99 by (unfold oHi; (repeat' split) <;> first | rfl | omega)]), rfl, Ext0 hO⟩))
      · refine q_iconst hx hb dX3_openView_84 ?_
        refine lv_goto (tgt := 89) hx hb dX3_openView_85 (by decide) ?_
        refine lv_istore (lv' := [(12, .int (iI 1)), (11, .int (iI 0)), (10, .int (iI ((turn (zod σ (zbk σ xb)) xhigh)))), (9, .int (iI ((turn (zod σ (zbk σ xb)) xlow)))), (8, .ref ((grh G (zbk σ xb)))), (7, .ref ((gva G xv))), (0, .ref ((gbg G))), (1, .int (iI xv)), (2, .int (iI xb)), (3, .int (iI xkind)), (4, .int (iI xlow)), (5, .int (iI xhigh)), (6, .int (iI xends))]) hx hb dX3_openView_89 hl (by decide) rfl (fun ls hl => ?_)
        refine lv_iload hx hb dX3_openView_91 (lv_at hl 1 rfl) ?_
        refine q_if_eq hx hb dX3_openView_93 (tgt := 101) (by decide) (by omega) (fun c28 => ?_) (fun c28 => absurd c28 (by omega))
        refine lv_iload hx hb dX3_openView_101 (lv_at hl 3 rfl) ?_
        refine q_iconst hx hb dX3_openView_103 ?_
        refine q_iadd hx hb dX3_openView_104 ?_
        refine lv_istore (lv' := [(13, .int (iI (((turn (zod σ (zbk σ xb)) xlow) + 1)))), (12, .int (iI 1)), (11, .int (iI 0)), (10, .int (iI ((turn (zod σ (zbk σ xb)) xhigh)))), (9, .int (iI ((turn (zod σ (zbk σ xb)) xlow)))), (8, .ref ((grh G (zbk σ xb)))), (7, .ref ((gva G xv))), (0, .ref ((gbg G))), (1, .int (iI xv)), (2, .int (iI xb)), (3, .int (iI xkind)), (4, .int (iI xlow)), (5, .int (iI xhigh)), (6, .int (iI xends))]) hx hb dX3_openView_105 hl (by decide) rfl (fun ls hl => ?_)
        refine lv_iload hx hb dX3_openView_107 (lv_at hl 1 rfl) ?_
        refine q_if_eq hx hb dX3_openView_109 (tgt := 117) (by decide) (by omega) (fun c29 => absurd c29 (by omega)) (fun c29 => ?_)
        refine lv_iload hx hb dX3_openView_112 (lv_at hl 3 rfl) ?_
        refine lv_goto (tgt := 121) hx hb dX3_openView_114 (by decide) ?_
        refine lv_istore (lv' := [(14, .int (iI ((turn (zod σ (zbk σ xb)) xhigh)))), (13, .int (iI (((turn (zod σ (zbk σ xb)) xlow) + 1)))), (12, .int (iI 1)), (11, .int (iI 0)), (10, .int (iI ((turn (zod σ (zbk σ xb)) xhigh)))), (9, .int (iI ((turn (zod σ (zbk σ xb)) xlow)))), (8, .ref ((grh G (zbk σ xb)))), (7, .ref ((gva G xv))), (0, .ref ((gbg G))), (1, .int (iI xv)), (2, .int (iI xb)), (3, .int (iI xkind)), (4, .int (iI xlow)), (5, .int (iI xhigh)), (6, .int (iI xends))]) hx hb dX3_openView_121 hl (by decide) rfl (fun ls hl => ?_)
        refine lv_aload hx hb dX3_openView_123 (lv_at hl 7 rfl) ?_
        refine lv_aload hx hb dX3_openView_125 (lv_at hl 6 rfl) ?_
        refine q_put C0 iX1 tyX1 tyX1_ok nmX1 hP hD hS (CP_v hC hb_r1).1 (CP_v hC hb_r1).2 rfl 0 (by decide) flX3_178 rfl rfl rfl rfl (Nat.le_of_ble_eq_true rfl) dX3_openView_127 (fun H locs hP hD hS => ?_)
        obtain ⟨F30, eF30⟩ : ∃ z, z = va_up F (gva G xv) (.inr (3, [.ref ((grh G (zbk σ xb))), .int (iI (zvl σ xv)), .int (iI (zvh σ xv))])) := ⟨_, rfl⟩
        have hP : va_P D vwCl (va_pl L F30) H := by rw [eF30]; exact hP
        have hD : va_D (AL L s.heap.size) (va_pl L F30) := by rw [eF30]; exact hD
        have hvF : F30 (gva G xv) = (.inr (3, [.ref ((grh G (zbk σ xb))), .int (iI (zvl σ xv)), .int (iI (zvh σ xv))])) := by rw [eF30]; exact va_up_self _ _ _
        have hO : OE O F F30 := by rw [eF30]; exact hO.tr (OE1 ((CP_O hC).2.2.2.2.2.1 _ hb_r1.1 hb_r1.2))
        have hC : CP y L F30 O G (sVw σ xv (zbk σ xb) (zvl σ xv) (zvh σ xv)) := by rw [eF30]; exact CP_vw hC hb_r1 (va_up_self _ _ _) (fun q hq => va_up_ne _ _ hq)
        refine lv_aload hx hb dX3_openView_130 (lv_at hl 7 rfl) ?_
        refine lv_iload_n hx hb dX3_openView_132 rfl (lv_at hl 11 rfl) ?_
        refine q_if_ne hx hb dX3_openView_133 (tgt := 140) (by decide) (by omega) (fun c31 => ?_) (fun c31 => ?_)
        · refine lv_iload hx hb dX3_openView_140 (lv_at hl 1 rfl) ?_
          refine q_put C0 iX1 tyX1 tyX1_ok nmX1 hP hD hS (CP_v hC hb_r1).1 hvF rfl 1 (by decide) flX3_182 rfl rfl rfl rfl (Nat.le_of_ble_eq_true rfl) dX3_openView_142 (fun H locs hP hD hS => ?_)
          obtain ⟨F32, eF32⟩ : ∃ z, z = va_up F30 (gva G xv) (.inr (3, [.ref ((grh G (zbk σ xb))), .int (iI (((turn (zod σ (zbk σ xb)) xlow) + 1))), .int (iI (zvh σ xv))])) := ⟨_, rfl⟩
          have hP : va_P D vwCl (va_pl L F32) H := by rw [eF32]; exact hP
          have hD : va_D (AL L s.heap.size) (va_pl L F32) := by rw [eF32]; exact hD
          have hvF : F32 (gva G xv) = (.inr (3, [.ref ((grh G (zbk σ xb))), .int (iI (((turn (zod σ (zbk σ xb)) xlow) + 1))), .int (iI (zvh σ xv))])) := by rw [eF32]; exact va_up_self _ _ _
          have hO : OE O F F32 := by rw [eF32]; exact hO.tr (OE1 ((CP_O hC).2.2.2.2.2.1 _ hb_r1.1 hb_r1.2))
          have hC : CP y L F32 O G (sVw (sVw σ xv (zbk σ xb) (zvl σ xv) (zvh σ xv)) xv (zbk σ xb) ((turn (zod σ (zbk σ xb)) xlow) + 1) (zvh σ xv)) := by rw [eF32]; exact CP_vw hC hb_r1 (va_up_self _ _ _) (fun q hq => va_up_ne _ _ hq)
          refine lv_aload hx hb dX3_openView_145 (lv_at hl 7 rfl) ?_
          refine lv_iload_n hx hb dX3_openView_147 rfl (lv_at hl 11 rfl) ?_
          refine q_iconst hx hb dX3_openView_148 ?_
          refine q_icmp_ne hx hb dX3_openView_149 (tgt := 157) (by decide) (by omega) (by omega) (fun c33 => ?_) (fun c33 => ?_)
          · refine lv_iload hx hb dX3_openView_157 (lv_at hl 0 rfl) ?_
            refine q_put C0 iX1 tyX1 tyX1_ok nmX1 hP hD hS (CP_v hC hb_r1).1 hvF rfl 2 (by decide) flX3_185 rfl rfl rfl rfl (Nat.le_of_ble_eq_true rfl) dX3_openView_159 (fun H locs hP hD hS => ?_)
            obtain ⟨F34, eF34⟩ : ∃ z, z = va_up F32 (gva G xv) (.inr (3, [.ref ((grh G (zbk σ xb))), .int (iI (((turn (zod σ (zbk σ xb)) xlow) + 1))), .int (iI ((turn (zod σ (zbk σ xb)) xhigh)))])) := ⟨_, rfl⟩
            have hP : va_P D vwCl (va_pl L F34) H := by rw [eF34]; exact hP
            have hD : va_D (AL L s.heap.size) (va_pl L F34) := by rw [eF34]; exact hD
            have hvF : F34 (gva G xv) = (.inr (3, [.ref ((grh G (zbk σ xb))), .int (iI (((turn (zod σ (zbk σ xb)) xlow) + 1))), .int (iI ((turn (zod σ (zbk σ xb)) xhigh)))])) := by rw [eF34]; exact va_up_self _ _ _
            have hO : OE O F F34 := by rw [eF34]; exact hO.tr (OE1 ((CP_O hC).2.2.2.2.2.1 _ hb_r1.1 hb_r1.2))
            have hC : CP y L F34 O G (sVw (sVw (sVw σ xv (zbk σ xb) (zvl σ xv) (zvh σ xv)) xv (zbk σ xb) ((turn (zod σ (zbk σ xb)) xlow) + 1) (zvh σ xv)) xv (zbk σ xb) ((turn (zod σ (zbk σ xb)) xlow) + 1) (turn (zod σ (zbk σ xb)) xhigh)) := by rw [eF34]; exact CP_vw hC hb_r1 (va_up_self _ _ _) (fun q hq => va_up_ne _ _ hq)
            refine lv_aload hx hb dX3_openView_162 (lv_at hl 6 rfl) ?_
            refine lv_aload hx hb dX3_openView_164 (lv_at hl 7 rfl) ?_
            refine q_get C0 iX1 hP (CP_v hC hb_r1).1 hvF rfl 1 (by decide) flX3_182 rfl rfl dX3_openView_166 ?_
            refine lv_aload hx hb dX3_openView_169 (lv_at hl 7 rfl) ?_
            refine q_get C0 iX1 hP (CP_v hC hb_r1).1 hvF rfl 2 (by decide) flX3_185 rfl rfl dX3_openView_171 ?_
            refine q_vS C0 lX3_188 (c_X0_countOfPart l D y L F34 (grh G (zbk σ xb)) (grw G (zbk σ xb)) (zod σ (zbk σ xb)) ((zst σ (zbk σ xb)).1) ((zst σ (zbk σ xb)).2.1) ((zst σ (zbk σ xb)).2.2) ((turn (zod σ (zbk σ xb)) xlow) + 1) (turn (zod σ (zbk σ xb)) xhigh) (CP_r hC (hW.1 xb)) (by omega) (by omega)) ⟨rfl, rfl⟩ rfl hP (CP_r hC (hW.1 xb)).1 (CP_r hC (hW.1 xb)).2.1 rfl rfl rfl hl rfl (Nat.le_of_ble_eq_true rfl) dX3_openView_174 ⟨Nat.le_of_ble_eq_true rfl, Nat.le_of_ble_eq_true rfl⟩ (fun r35 e_r35 => ?_)
            subst e_r35
            refine W.widen (k := 8) (n := 60) (Nat.le_of_ble_eq_true rfl) (Nat.le_of_ble_eq_true rfl) ?_
            exact vx_ret (q_retMi C0 hret rfl hlk dX3_openView_177 hP hD hS (⟨by omega, by omega, (by unfold kR_openView; rw [if_neg (by omega), show oLo (zod σ (zbk σ xb)) xkind xlow xends = ((turn (zod σ (zbk σ xb)) xlow) + 1) by (unfold oLo; (repeat' split) <;> first | rfl | omega), show oHi (zod σ (zbk σ xb)) xkind xhigh xends = (turn (zod σ (zbk σ xb)) xhigh) by (unfold oHi; (repeat' split) <;> first | rfl | omega)]), O, G, CP_eq hC (by rw [sVw2, sVw2]; unfold kS_openView; rw [if_neg (by omega), show oLo (zod σ (zbk σ xb)) xkind xlow xends = ((turn (zod σ (zbk σ xb)) xlow) + 1) by (unfold oLo; (repeat' split) <;> first | rfl | omega), show oHi (zod σ (zbk σ xb)) xkind xhigh xends = (turn (zod σ (zbk σ xb)) xhigh) by (unfold oHi; (repeat' split) <;> first | rfl | omega)]), rfl, Ext0 hO⟩))
          · refine q_bipush hx hb dX3_openView_152 (by decide) ?_
            refine lv_goto (tgt := 159) hx hb dX3_openView_154 (by decide) ?_
            refine q_put C0 iX1 tyX1 tyX1_ok nmX1 hP hD hS (CP_v hC hb_r1).1 hvF rfl 2 (by decide) flX3_185 rfl rfl rfl rfl (Nat.le_of_ble_eq_true rfl) dX3_openView_159 (fun H locs hP hD hS => ?_)
            obtain ⟨F36, eF36⟩ : ∃ z, z = va_up F32 (gva G xv) (.inr (3, [.ref ((grh G (zbk σ xb))), .int (iI (((turn (zod σ (zbk σ xb)) xlow) + 1))), .int (iI 99)])) := ⟨_, rfl⟩
            have hP : va_P D vwCl (va_pl L F36) H := by rw [eF36]; exact hP
            have hD : va_D (AL L s.heap.size) (va_pl L F36) := by rw [eF36]; exact hD
            have hvF : F36 (gva G xv) = (.inr (3, [.ref ((grh G (zbk σ xb))), .int (iI (((turn (zod σ (zbk σ xb)) xlow) + 1))), .int (iI 99)])) := by rw [eF36]; exact va_up_self _ _ _
            have hO : OE O F F36 := by rw [eF36]; exact hO.tr (OE1 ((CP_O hC).2.2.2.2.2.1 _ hb_r1.1 hb_r1.2))
            have hC : CP y L F36 O G (sVw (sVw (sVw σ xv (zbk σ xb) (zvl σ xv) (zvh σ xv)) xv (zbk σ xb) ((turn (zod σ (zbk σ xb)) xlow) + 1) (zvh σ xv)) xv (zbk σ xb) ((turn (zod σ (zbk σ xb)) xlow) + 1) 99) := by rw [eF36]; exact CP_vw hC hb_r1 (va_up_self _ _ _) (fun q hq => va_up_ne _ _ hq)
            refine lv_aload hx hb dX3_openView_162 (lv_at hl 6 rfl) ?_
            refine lv_aload hx hb dX3_openView_164 (lv_at hl 7 rfl) ?_
            refine q_get C0 iX1 hP (CP_v hC hb_r1).1 hvF rfl 1 (by decide) flX3_182 rfl rfl dX3_openView_166 ?_
            refine lv_aload hx hb dX3_openView_169 (lv_at hl 7 rfl) ?_
            refine q_get C0 iX1 hP (CP_v hC hb_r1).1 hvF rfl 2 (by decide) flX3_185 rfl rfl dX3_openView_171 ?_
            refine q_vS C0 lX3_188 (c_X0_countOfPart l D y L F36 (grh G (zbk σ xb)) (grw G (zbk σ xb)) (zod σ (zbk σ xb)) ((zst σ (zbk σ xb)).1) ((zst σ (zbk σ xb)).2.1) ((zst σ (zbk σ xb)).2.2) ((turn (zod σ (zbk σ xb)) xlow) + 1) 99 (CP_r hC (hW.1 xb)) (by omega) (by omega)) ⟨rfl, rfl⟩ rfl hP (CP_r hC (hW.1 xb)).1 (CP_r hC (hW.1 xb)).2.1 rfl rfl rfl hl rfl (Nat.le_of_ble_eq_true rfl) dX3_openView_174 ⟨Nat.le_of_ble_eq_true rfl, Nat.le_of_ble_eq_true rfl⟩ (fun r37 e_r37 => ?_)
            subst e_r37
            refine W.widen (k := 8) (n := 60) (Nat.le_of_ble_eq_true rfl) (Nat.le_of_ble_eq_true rfl) ?_
            exact vx_ret (q_retMi C0 hret rfl hlk dX3_openView_177 hP hD hS (⟨by omega, by omega, (by unfold kR_openView; rw [if_neg (by omega), show oLo (zod σ (zbk σ xb)) xkind xlow xends = ((turn (zod σ (zbk σ xb)) xlow) + 1) by (unfold oLo; (repeat' split) <;> first | rfl | omega), show oHi (zod σ (zbk σ xb)) xkind xhigh xends = 99 by (unfold oHi; (repeat' split) <;> first | rfl | omega)]), O, G, CP_eq hC (by rw [sVw2, sVw2]; unfold kS_openView; rw [if_neg (by omega), show oLo (zod σ (zbk σ xb)) xkind xlow xends = ((turn (zod σ (zbk σ xb)) xlow) + 1) by (unfold oLo; (repeat' split) <;> first | rfl | omega), show oHi (zod σ (zbk σ xb)) xkind xhigh xends = 99 by (unfold oHi; (repeat' split) <;> first | rfl | omega)]), rfl, Ext0 hO⟩))
        · refine q_iconst hx hb dX3_openView_136 ?_
          refine lv_goto (tgt := 142) hx hb dX3_openView_137 (by decide) ?_
          refine q_put C0 iX1 tyX1 tyX1_ok nmX1 hP hD hS (CP_v hC hb_r1).1 hvF rfl 1 (by decide) flX3_182 rfl rfl rfl rfl (Nat.le_of_ble_eq_true rfl) dX3_openView_142 (fun H locs hP hD hS => ?_)
          obtain ⟨F38, eF38⟩ : ∃ z, z = va_up F30 (gva G xv) (.inr (3, [.ref ((grh G (zbk σ xb))), .int (iI 0), .int (iI (zvh σ xv))])) := ⟨_, rfl⟩
          have hP : va_P D vwCl (va_pl L F38) H := by rw [eF38]; exact hP
          have hD : va_D (AL L s.heap.size) (va_pl L F38) := by rw [eF38]; exact hD
          have hvF : F38 (gva G xv) = (.inr (3, [.ref ((grh G (zbk σ xb))), .int (iI 0), .int (iI (zvh σ xv))])) := by rw [eF38]; exact va_up_self _ _ _
          have hO : OE O F F38 := by rw [eF38]; exact hO.tr (OE1 ((CP_O hC).2.2.2.2.2.1 _ hb_r1.1 hb_r1.2))
          have hC : CP y L F38 O G (sVw (sVw σ xv (zbk σ xb) (zvl σ xv) (zvh σ xv)) xv (zbk σ xb) 0 (zvh σ xv)) := by rw [eF38]; exact CP_vw hC hb_r1 (va_up_self _ _ _) (fun q hq => va_up_ne _ _ hq)
          refine lv_aload hx hb dX3_openView_145 (lv_at hl 7 rfl) ?_
          refine lv_iload_n hx hb dX3_openView_147 rfl (lv_at hl 11 rfl) ?_
          refine q_iconst hx hb dX3_openView_148 ?_
          refine q_icmp_ne hx hb dX3_openView_149 (tgt := 157) (by decide) (by omega) (by omega) (fun c39 => ?_) (fun c39 => ?_)
          · refine lv_iload hx hb dX3_openView_157 (lv_at hl 0 rfl) ?_
            refine q_put C0 iX1 tyX1 tyX1_ok nmX1 hP hD hS (CP_v hC hb_r1).1 hvF rfl 2 (by decide) flX3_185 rfl rfl rfl rfl (Nat.le_of_ble_eq_true rfl) dX3_openView_159 (fun H locs hP hD hS => ?_)
            obtain ⟨F40, eF40⟩ : ∃ z, z = va_up F38 (gva G xv) (.inr (3, [.ref ((grh G (zbk σ xb))), .int (iI 0), .int (iI ((turn (zod σ (zbk σ xb)) xhigh)))])) := ⟨_, rfl⟩
            have hP : va_P D vwCl (va_pl L F40) H := by rw [eF40]; exact hP
            have hD : va_D (AL L s.heap.size) (va_pl L F40) := by rw [eF40]; exact hD
            have hvF : F40 (gva G xv) = (.inr (3, [.ref ((grh G (zbk σ xb))), .int (iI 0), .int (iI ((turn (zod σ (zbk σ xb)) xhigh)))])) := by rw [eF40]; exact va_up_self _ _ _
            have hO : OE O F F40 := by rw [eF40]; exact hO.tr (OE1 ((CP_O hC).2.2.2.2.2.1 _ hb_r1.1 hb_r1.2))
            have hC : CP y L F40 O G (sVw (sVw (sVw σ xv (zbk σ xb) (zvl σ xv) (zvh σ xv)) xv (zbk σ xb) 0 (zvh σ xv)) xv (zbk σ xb) 0 (turn (zod σ (zbk σ xb)) xhigh)) := by rw [eF40]; exact CP_vw hC hb_r1 (va_up_self _ _ _) (fun q hq => va_up_ne _ _ hq)
            refine lv_aload hx hb dX3_openView_162 (lv_at hl 6 rfl) ?_
            refine lv_aload hx hb dX3_openView_164 (lv_at hl 7 rfl) ?_
            refine q_get C0 iX1 hP (CP_v hC hb_r1).1 hvF rfl 1 (by decide) flX3_182 rfl rfl dX3_openView_166 ?_
            refine lv_aload hx hb dX3_openView_169 (lv_at hl 7 rfl) ?_
            refine q_get C0 iX1 hP (CP_v hC hb_r1).1 hvF rfl 2 (by decide) flX3_185 rfl rfl dX3_openView_171 ?_
            refine q_vS C0 lX3_188 (c_X0_countOfPart l D y L F40 (grh G (zbk σ xb)) (grw G (zbk σ xb)) (zod σ (zbk σ xb)) ((zst σ (zbk σ xb)).1) ((zst σ (zbk σ xb)).2.1) ((zst σ (zbk σ xb)).2.2) 0 (turn (zod σ (zbk σ xb)) xhigh) (CP_r hC (hW.1 xb)) (by omega) (by omega)) ⟨rfl, rfl⟩ rfl hP (CP_r hC (hW.1 xb)).1 (CP_r hC (hW.1 xb)).2.1 rfl rfl rfl hl rfl (Nat.le_of_ble_eq_true rfl) dX3_openView_174 ⟨Nat.le_of_ble_eq_true rfl, Nat.le_of_ble_eq_true rfl⟩ (fun r41 e_r41 => ?_)
            subst e_r41
            refine W.widen (k := 8) (n := 60) (Nat.le_of_ble_eq_true rfl) (Nat.le_of_ble_eq_true rfl) ?_
            exact vx_ret (q_retMi C0 hret rfl hlk dX3_openView_177 hP hD hS (⟨by omega, by omega, (by unfold kR_openView; rw [if_neg (by omega), show oLo (zod σ (zbk σ xb)) xkind xlow xends = 0 by (unfold oLo; (repeat' split) <;> first | rfl | omega), show oHi (zod σ (zbk σ xb)) xkind xhigh xends = (turn (zod σ (zbk σ xb)) xhigh) by (unfold oHi; (repeat' split) <;> first | rfl | omega)]), O, G, CP_eq hC (by rw [sVw2, sVw2]; unfold kS_openView; rw [if_neg (by omega), show oLo (zod σ (zbk σ xb)) xkind xlow xends = 0 by (unfold oLo; (repeat' split) <;> first | rfl | omega), show oHi (zod σ (zbk σ xb)) xkind xhigh xends = (turn (zod σ (zbk σ xb)) xhigh) by (unfold oHi; (repeat' split) <;> first | rfl | omega)]), rfl, Ext0 hO⟩))
          · refine q_bipush hx hb dX3_openView_152 (by decide) ?_
            refine lv_goto (tgt := 159) hx hb dX3_openView_154 (by decide) ?_
            refine q_put C0 iX1 tyX1 tyX1_ok nmX1 hP hD hS (CP_v hC hb_r1).1 hvF rfl 2 (by decide) flX3_185 rfl rfl rfl rfl (Nat.le_of_ble_eq_true rfl) dX3_openView_159 (fun H locs hP hD hS => ?_)
            obtain ⟨F42, eF42⟩ : ∃ z, z = va_up F38 (gva G xv) (.inr (3, [.ref ((grh G (zbk σ xb))), .int (iI 0), .int (iI 99)])) := ⟨_, rfl⟩
            have hP : va_P D vwCl (va_pl L F42) H := by rw [eF42]; exact hP
            have hD : va_D (AL L s.heap.size) (va_pl L F42) := by rw [eF42]; exact hD
            have hvF : F42 (gva G xv) = (.inr (3, [.ref ((grh G (zbk σ xb))), .int (iI 0), .int (iI 99)])) := by rw [eF42]; exact va_up_self _ _ _
            have hO : OE O F F42 := by rw [eF42]; exact hO.tr (OE1 ((CP_O hC).2.2.2.2.2.1 _ hb_r1.1 hb_r1.2))
            have hC : CP y L F42 O G (sVw (sVw (sVw σ xv (zbk σ xb) (zvl σ xv) (zvh σ xv)) xv (zbk σ xb) 0 (zvh σ xv)) xv (zbk σ xb) 0 99) := by rw [eF42]; exact CP_vw hC hb_r1 (va_up_self _ _ _) (fun q hq => va_up_ne _ _ hq)
            refine lv_aload hx hb dX3_openView_162 (lv_at hl 6 rfl) ?_
            refine lv_aload hx hb dX3_openView_164 (lv_at hl 7 rfl) ?_
            refine q_get C0 iX1 hP (CP_v hC hb_r1).1 hvF rfl 1 (by decide) flX3_182 rfl rfl dX3_openView_166 ?_
            refine lv_aload hx hb dX3_openView_169 (lv_at hl 7 rfl) ?_
            refine q_get C0 iX1 hP (CP_v hC hb_r1).1 hvF rfl 2 (by decide) flX3_185 rfl rfl dX3_openView_171 ?_
            refine q_vS C0 lX3_188 (c_X0_countOfPart l D y L F42 (grh G (zbk σ xb)) (grw G (zbk σ xb)) (zod σ (zbk σ xb)) ((zst σ (zbk σ xb)).1) ((zst σ (zbk σ xb)).2.1) ((zst σ (zbk σ xb)).2.2) 0 99 (CP_r hC (hW.1 xb)) (by omega) (by omega)) ⟨rfl, rfl⟩ rfl hP (CP_r hC (hW.1 xb)).1 (CP_r hC (hW.1 xb)).2.1 rfl rfl rfl hl rfl (Nat.le_of_ble_eq_true rfl) dX3_openView_174 ⟨Nat.le_of_ble_eq_true rfl, Nat.le_of_ble_eq_true rfl⟩ (fun r43 e_r43 => ?_)
            subst e_r43
            refine W.widen (k := 8) (n := 60) (Nat.le_of_ble_eq_true rfl) (Nat.le_of_ble_eq_true rfl) ?_
            exact vx_ret (q_retMi C0 hret rfl hlk dX3_openView_177 hP hD hS (⟨by omega, by omega, (by unfold kR_openView; rw [if_neg (by omega), show oLo (zod σ (zbk σ xb)) xkind xlow xends = 0 by (unfold oLo; (repeat' split) <;> first | rfl | omega), show oHi (zod σ (zbk σ xb)) xkind xhigh xends = 99 by (unfold oHi; (repeat' split) <;> first | rfl | omega)]), O, G, CP_eq hC (by rw [sVw2, sVw2]; unfold kS_openView; rw [if_neg (by omega), show oLo (zod σ (zbk σ xb)) xkind xlow xends = 0 by (unfold oLo; (repeat' split) <;> first | rfl | omega), show oHi (zod σ (zbk σ xb)) xkind xhigh xends = 99 by (unfold oHi; (repeat' split) <;> first | rfl | omega)]), rfl, Ext0 hO⟩))
    · refine q_iconst hx hb dX3_openView_70 ?_
      refine lv_goto (tgt := 75) hx hb dX3_openView_71 (by decide) ?_
      refine lv_istore (lv' := [(11, .int (iI 1)), (10, .int (iI ((turn (zod σ (zbk σ xb)) xhigh)))), (9, .int (iI ((turn (zod σ (zbk σ xb)) xlow)))), (8, .ref ((grh G (zbk σ xb)))), (7, .ref ((gva G xv))), (0, .ref ((gbg G))), (1, .int (iI xv)), (2, .int (iI xb)), (3, .int (iI xkind)), (4, .int (iI xlow)), (5, .int (iI xhigh)), (6, .int (iI xends))]) hx hb dX3_openView_75 hl (by decide) rfl (fun ls hl => ?_)
      refine lv_iload hx hb dX3_openView_77 (lv_at hl 11 rfl) ?_
      refine q_iconst hx hb dX3_openView_79 ?_
      refine q_iand hx hb dX3_openView_80 ?_
      refine q_if_eq hx hb dX3_openView_81 (tgt := 88) (by decide) (by omega) (fun c44 => ?_) (fun c44 => ?_)
      · refine q_iconst hx hb dX3_openView_88 ?_
        refine lv_istore (lv' := [(12, .int (iI 0)), (11, .int (iI 1)), (10, .int (iI ((turn (zod σ (zbk σ xb)) xhigh)))), (9, .int (iI ((turn (zod σ (zbk σ xb)) xlow)))), (8, .ref ((grh G (zbk σ xb)))), (7, .ref ((gva G xv))), (0, .ref ((gbg G))), (1, .int (iI xv)), (2, .int (iI xb)), (3, .int (iI xkind)), (4, .int (iI xlow)), (5, .int (iI xhigh)), (6, .int (iI xends))]) hx hb dX3_openView_89 hl (by decide) rfl (fun ls hl => ?_)
        refine lv_iload hx hb dX3_openView_91 (lv_at hl 1 rfl) ?_
        refine q_if_eq hx hb dX3_openView_93 (tgt := 101) (by decide) (by omega) (fun c45 => absurd c45 (by omega)) (fun c45 => ?_)
        refine lv_iload hx hb dX3_openView_96 (lv_at hl 3 rfl) ?_
        refine lv_goto (tgt := 105) hx hb dX3_openView_98 (by decide) ?_
        refine lv_istore (lv' := [(13, .int (iI ((turn (zod σ (zbk σ xb)) xlow)))), (12, .int (iI 0)), (11, .int (iI 1)), (10, .int (iI ((turn (zod σ (zbk σ xb)) xhigh)))), (9, .int (iI ((turn (zod σ (zbk σ xb)) xlow)))), (8, .ref ((grh G (zbk σ xb)))), (7, .ref ((gva G xv))), (0, .ref ((gbg G))), (1, .int (iI xv)), (2, .int (iI xb)), (3, .int (iI xkind)), (4, .int (iI xlow)), (5, .int (iI xhigh)), (6, .int (iI xends))]) hx hb dX3_openView_105 hl (by decide) rfl (fun ls hl => ?_)
        refine lv_iload hx hb dX3_openView_107 (lv_at hl 1 rfl) ?_
        refine q_if_eq hx hb dX3_openView_109 (tgt := 117) (by decide) (by omega) (fun c46 => ?_) (fun c46 => absurd c46 (by omega))
        refine lv_iload hx hb dX3_openView_117 (lv_at hl 3 rfl) ?_
        refine q_iconst hx hb dX3_openView_119 ?_
        refine q_isub hx hb dX3_openView_120 ?_
        refine lv_istore (lv' := [(14, .int (iI (((turn (zod σ (zbk σ xb)) xhigh) - 1)))), (13, .int (iI ((turn (zod σ (zbk σ xb)) xlow)))), (12, .int (iI 0)), (11, .int (iI 1)), (10, .int (iI ((turn (zod σ (zbk σ xb)) xhigh)))), (9, .int (iI ((turn (zod σ (zbk σ xb)) xlow)))), (8, .ref ((grh G (zbk σ xb)))), (7, .ref ((gva G xv))), (0, .ref ((gbg G))), (1, .int (iI xv)), (2, .int (iI xb)), (3, .int (iI xkind)), (4, .int (iI xlow)), (5, .int (iI xhigh)), (6, .int (iI xends))]) hx hb dX3_openView_121 hl (by decide) rfl (fun ls hl => ?_)
        refine lv_aload hx hb dX3_openView_123 (lv_at hl 7 rfl) ?_
        refine lv_aload hx hb dX3_openView_125 (lv_at hl 6 rfl) ?_
        refine q_put C0 iX1 tyX1 tyX1_ok nmX1 hP hD hS (CP_v hC hb_r1).1 (CP_v hC hb_r1).2 rfl 0 (by decide) flX3_178 rfl rfl rfl rfl (Nat.le_of_ble_eq_true rfl) dX3_openView_127 (fun H locs hP hD hS => ?_)
        obtain ⟨F47, eF47⟩ : ∃ z, z = va_up F (gva G xv) (.inr (3, [.ref ((grh G (zbk σ xb))), .int (iI (zvl σ xv)), .int (iI (zvh σ xv))])) := ⟨_, rfl⟩
        have hP : va_P D vwCl (va_pl L F47) H := by rw [eF47]; exact hP
        have hD : va_D (AL L s.heap.size) (va_pl L F47) := by rw [eF47]; exact hD
        have hvF : F47 (gva G xv) = (.inr (3, [.ref ((grh G (zbk σ xb))), .int (iI (zvl σ xv)), .int (iI (zvh σ xv))])) := by rw [eF47]; exact va_up_self _ _ _
        have hO : OE O F F47 := by rw [eF47]; exact hO.tr (OE1 ((CP_O hC).2.2.2.2.2.1 _ hb_r1.1 hb_r1.2))
        have hC : CP y L F47 O G (sVw σ xv (zbk σ xb) (zvl σ xv) (zvh σ xv)) := by rw [eF47]; exact CP_vw hC hb_r1 (va_up_self _ _ _) (fun q hq => va_up_ne _ _ hq)
        refine lv_aload hx hb dX3_openView_130 (lv_at hl 7 rfl) ?_
        refine lv_iload_n hx hb dX3_openView_132 rfl (lv_at hl 11 rfl) ?_
        refine q_if_ne hx hb dX3_openView_133 (tgt := 140) (by decide) (by omega) (fun c48 => ?_) (fun c48 => ?_)
        · refine lv_iload hx hb dX3_openView_140 (lv_at hl 1 rfl) ?_
          refine q_put C0 iX1 tyX1 tyX1_ok nmX1 hP hD hS (CP_v hC hb_r1).1 hvF rfl 1 (by decide) flX3_182 rfl rfl rfl rfl (Nat.le_of_ble_eq_true rfl) dX3_openView_142 (fun H locs hP hD hS => ?_)
          obtain ⟨F49, eF49⟩ : ∃ z, z = va_up F47 (gva G xv) (.inr (3, [.ref ((grh G (zbk σ xb))), .int (iI ((turn (zod σ (zbk σ xb)) xlow))), .int (iI (zvh σ xv))])) := ⟨_, rfl⟩
          have hP : va_P D vwCl (va_pl L F49) H := by rw [eF49]; exact hP
          have hD : va_D (AL L s.heap.size) (va_pl L F49) := by rw [eF49]; exact hD
          have hvF : F49 (gva G xv) = (.inr (3, [.ref ((grh G (zbk σ xb))), .int (iI ((turn (zod σ (zbk σ xb)) xlow))), .int (iI (zvh σ xv))])) := by rw [eF49]; exact va_up_self _ _ _
          have hO : OE O F F49 := by rw [eF49]; exact hO.tr (OE1 ((CP_O hC).2.2.2.2.2.1 _ hb_r1.1 hb_r1.2))
          have hC : CP y L F49 O G (sVw (sVw σ xv (zbk σ xb) (zvl σ xv) (zvh σ xv)) xv (zbk σ xb) (turn (zod σ (zbk σ xb)) xlow) (zvh σ xv)) := by rw [eF49]; exact CP_vw hC hb_r1 (va_up_self _ _ _) (fun q hq => va_up_ne _ _ hq)
          refine lv_aload hx hb dX3_openView_145 (lv_at hl 7 rfl) ?_
          refine lv_iload_n hx hb dX3_openView_147 rfl (lv_at hl 11 rfl) ?_
          refine q_iconst hx hb dX3_openView_148 ?_
          refine q_icmp_ne hx hb dX3_openView_149 (tgt := 157) (by decide) (by omega) (by omega) (fun c50 => ?_) (fun c50 => ?_)
          · refine lv_iload hx hb dX3_openView_157 (lv_at hl 0 rfl) ?_
            refine q_put C0 iX1 tyX1 tyX1_ok nmX1 hP hD hS (CP_v hC hb_r1).1 hvF rfl 2 (by decide) flX3_185 rfl rfl rfl rfl (Nat.le_of_ble_eq_true rfl) dX3_openView_159 (fun H locs hP hD hS => ?_)
            obtain ⟨F51, eF51⟩ : ∃ z, z = va_up F49 (gva G xv) (.inr (3, [.ref ((grh G (zbk σ xb))), .int (iI ((turn (zod σ (zbk σ xb)) xlow))), .int (iI (((turn (zod σ (zbk σ xb)) xhigh) - 1)))])) := ⟨_, rfl⟩
            have hP : va_P D vwCl (va_pl L F51) H := by rw [eF51]; exact hP
            have hD : va_D (AL L s.heap.size) (va_pl L F51) := by rw [eF51]; exact hD
            have hvF : F51 (gva G xv) = (.inr (3, [.ref ((grh G (zbk σ xb))), .int (iI ((turn (zod σ (zbk σ xb)) xlow))), .int (iI (((turn (zod σ (zbk σ xb)) xhigh) - 1)))])) := by rw [eF51]; exact va_up_self _ _ _
            have hO : OE O F F51 := by rw [eF51]; exact hO.tr (OE1 ((CP_O hC).2.2.2.2.2.1 _ hb_r1.1 hb_r1.2))
            have hC : CP y L F51 O G (sVw (sVw (sVw σ xv (zbk σ xb) (zvl σ xv) (zvh σ xv)) xv (zbk σ xb) (turn (zod σ (zbk σ xb)) xlow) (zvh σ xv)) xv (zbk σ xb) (turn (zod σ (zbk σ xb)) xlow) ((turn (zod σ (zbk σ xb)) xhigh) - 1)) := by rw [eF51]; exact CP_vw hC hb_r1 (va_up_self _ _ _) (fun q hq => va_up_ne _ _ hq)
            refine lv_aload hx hb dX3_openView_162 (lv_at hl 6 rfl) ?_
            refine lv_aload hx hb dX3_openView_164 (lv_at hl 7 rfl) ?_
            refine q_get C0 iX1 hP (CP_v hC hb_r1).1 hvF rfl 1 (by decide) flX3_182 rfl rfl dX3_openView_166 ?_
            refine lv_aload hx hb dX3_openView_169 (lv_at hl 7 rfl) ?_
            refine q_get C0 iX1 hP (CP_v hC hb_r1).1 hvF rfl 2 (by decide) flX3_185 rfl rfl dX3_openView_171 ?_
            refine q_vS C0 lX3_188 (c_X0_countOfPart l D y L F51 (grh G (zbk σ xb)) (grw G (zbk σ xb)) (zod σ (zbk σ xb)) ((zst σ (zbk σ xb)).1) ((zst σ (zbk σ xb)).2.1) ((zst σ (zbk σ xb)).2.2) (turn (zod σ (zbk σ xb)) xlow) ((turn (zod σ (zbk σ xb)) xhigh) - 1) (CP_r hC (hW.1 xb)) (by omega) (by omega)) ⟨rfl, rfl⟩ rfl hP (CP_r hC (hW.1 xb)).1 (CP_r hC (hW.1 xb)).2.1 rfl rfl rfl hl rfl (Nat.le_of_ble_eq_true rfl) dX3_openView_174 ⟨Nat.le_of_ble_eq_true rfl, Nat.le_of_ble_eq_true rfl⟩ (fun r52 e_r52 => ?_)
            subst e_r52
            refine W.widen (k := 8) (n := 60) (Nat.le_of_ble_eq_true rfl) (Nat.le_of_ble_eq_true rfl) ?_
            exact vx_ret (q_retMi C0 hret rfl hlk dX3_openView_177 hP hD hS (⟨by omega, by omega, (by unfold kR_openView; rw [if_neg (by omega), show oLo (zod σ (zbk σ xb)) xkind xlow xends = (turn (zod σ (zbk σ xb)) xlow) by (unfold oLo; (repeat' split) <;> first | rfl | omega), show oHi (zod σ (zbk σ xb)) xkind xhigh xends = ((turn (zod σ (zbk σ xb)) xhigh) - 1) by (unfold oHi; (repeat' split) <;> first | rfl | omega)]), O, G, CP_eq hC (by rw [sVw2, sVw2]; unfold kS_openView; rw [if_neg (by omega), show oLo (zod σ (zbk σ xb)) xkind xlow xends = (turn (zod σ (zbk σ xb)) xlow) by (unfold oLo; (repeat' split) <;> first | rfl | omega), show oHi (zod σ (zbk σ xb)) xkind xhigh xends = ((turn (zod σ (zbk σ xb)) xhigh) - 1) by (unfold oHi; (repeat' split) <;> first | rfl | omega)]), rfl, Ext0 hO⟩))
          · refine q_bipush hx hb dX3_openView_152 (by decide) ?_
            refine lv_goto (tgt := 159) hx hb dX3_openView_154 (by decide) ?_
            refine q_put C0 iX1 tyX1 tyX1_ok nmX1 hP hD hS (CP_v hC hb_r1).1 hvF rfl 2 (by decide) flX3_185 rfl rfl rfl rfl (Nat.le_of_ble_eq_true rfl) dX3_openView_159 (fun H locs hP hD hS => ?_)
            obtain ⟨F53, eF53⟩ : ∃ z, z = va_up F49 (gva G xv) (.inr (3, [.ref ((grh G (zbk σ xb))), .int (iI ((turn (zod σ (zbk σ xb)) xlow))), .int (iI 99)])) := ⟨_, rfl⟩
            have hP : va_P D vwCl (va_pl L F53) H := by rw [eF53]; exact hP
            have hD : va_D (AL L s.heap.size) (va_pl L F53) := by rw [eF53]; exact hD
            have hvF : F53 (gva G xv) = (.inr (3, [.ref ((grh G (zbk σ xb))), .int (iI ((turn (zod σ (zbk σ xb)) xlow))), .int (iI 99)])) := by rw [eF53]; exact va_up_self _ _ _
            have hO : OE O F F53 := by rw [eF53]; exact hO.tr (OE1 ((CP_O hC).2.2.2.2.2.1 _ hb_r1.1 hb_r1.2))
            have hC : CP y L F53 O G (sVw (sVw (sVw σ xv (zbk σ xb) (zvl σ xv) (zvh σ xv)) xv (zbk σ xb) (turn (zod σ (zbk σ xb)) xlow) (zvh σ xv)) xv (zbk σ xb) (turn (zod σ (zbk σ xb)) xlow) 99) := by rw [eF53]; exact CP_vw hC hb_r1 (va_up_self _ _ _) (fun q hq => va_up_ne _ _ hq)
            refine lv_aload hx hb dX3_openView_162 (lv_at hl 6 rfl) ?_
            refine lv_aload hx hb dX3_openView_164 (lv_at hl 7 rfl) ?_
            refine q_get C0 iX1 hP (CP_v hC hb_r1).1 hvF rfl 1 (by decide) flX3_182 rfl rfl dX3_openView_166 ?_
            refine lv_aload hx hb dX3_openView_169 (lv_at hl 7 rfl) ?_
            refine q_get C0 iX1 hP (CP_v hC hb_r1).1 hvF rfl 2 (by decide) flX3_185 rfl rfl dX3_openView_171 ?_
            refine q_vS C0 lX3_188 (c_X0_countOfPart l D y L F53 (grh G (zbk σ xb)) (grw G (zbk σ xb)) (zod σ (zbk σ xb)) ((zst σ (zbk σ xb)).1) ((zst σ (zbk σ xb)).2.1) ((zst σ (zbk σ xb)).2.2) (turn (zod σ (zbk σ xb)) xlow) 99 (CP_r hC (hW.1 xb)) (by omega) (by omega)) ⟨rfl, rfl⟩ rfl hP (CP_r hC (hW.1 xb)).1 (CP_r hC (hW.1 xb)).2.1 rfl rfl rfl hl rfl (Nat.le_of_ble_eq_true rfl) dX3_openView_174 ⟨Nat.le_of_ble_eq_true rfl, Nat.le_of_ble_eq_true rfl⟩ (fun r54 e_r54 => ?_)
            subst e_r54
            refine W.widen (k := 8) (n := 60) (Nat.le_of_ble_eq_true rfl) (Nat.le_of_ble_eq_true rfl) ?_
            exact vx_ret (q_retMi C0 hret rfl hlk dX3_openView_177 hP hD hS (⟨by omega, by omega, (by unfold kR_openView; rw [if_neg (by omega), show oLo (zod σ (zbk σ xb)) xkind xlow xends = (turn (zod σ (zbk σ xb)) xlow) by (unfold oLo; (repeat' split) <;> first | rfl | omega), show oHi (zod σ (zbk σ xb)) xkind xhigh xends = 99 by (unfold oHi; (repeat' split) <;> first | rfl | omega)]), O, G, CP_eq hC (by rw [sVw2, sVw2]; unfold kS_openView; rw [if_neg (by omega), show oLo (zod σ (zbk σ xb)) xkind xlow xends = (turn (zod σ (zbk σ xb)) xlow) by (unfold oLo; (repeat' split) <;> first | rfl | omega), show oHi (zod σ (zbk σ xb)) xkind xhigh xends = 99 by (unfold oHi; (repeat' split) <;> first | rfl | omega)]), rfl, Ext0 hO⟩))
        · refine q_iconst hx hb dX3_openView_136 ?_
          refine lv_goto (tgt := 142) hx hb dX3_openView_137 (by decide) ?_
          refine q_put C0 iX1 tyX1 tyX1_ok nmX1 hP hD hS (CP_v hC hb_r1).1 hvF rfl 1 (by decide) flX3_182 rfl rfl rfl rfl (Nat.le_of_ble_eq_true rfl) dX3_openView_142 (fun H locs hP hD hS => ?_)
          obtain ⟨F55, eF55⟩ : ∃ z, z = va_up F47 (gva G xv) (.inr (3, [.ref ((grh G (zbk σ xb))), .int (iI 0), .int (iI (zvh σ xv))])) := ⟨_, rfl⟩
          have hP : va_P D vwCl (va_pl L F55) H := by rw [eF55]; exact hP
          have hD : va_D (AL L s.heap.size) (va_pl L F55) := by rw [eF55]; exact hD
          have hvF : F55 (gva G xv) = (.inr (3, [.ref ((grh G (zbk σ xb))), .int (iI 0), .int (iI (zvh σ xv))])) := by rw [eF55]; exact va_up_self _ _ _
          have hO : OE O F F55 := by rw [eF55]; exact hO.tr (OE1 ((CP_O hC).2.2.2.2.2.1 _ hb_r1.1 hb_r1.2))
          have hC : CP y L F55 O G (sVw (sVw σ xv (zbk σ xb) (zvl σ xv) (zvh σ xv)) xv (zbk σ xb) 0 (zvh σ xv)) := by rw [eF55]; exact CP_vw hC hb_r1 (va_up_self _ _ _) (fun q hq => va_up_ne _ _ hq)
          refine lv_aload hx hb dX3_openView_145 (lv_at hl 7 rfl) ?_
          refine lv_iload_n hx hb dX3_openView_147 rfl (lv_at hl 11 rfl) ?_
          refine q_iconst hx hb dX3_openView_148 ?_
          refine q_icmp_ne hx hb dX3_openView_149 (tgt := 157) (by decide) (by omega) (by omega) (fun c56 => ?_) (fun c56 => ?_)
          · refine lv_iload hx hb dX3_openView_157 (lv_at hl 0 rfl) ?_
            refine q_put C0 iX1 tyX1 tyX1_ok nmX1 hP hD hS (CP_v hC hb_r1).1 hvF rfl 2 (by decide) flX3_185 rfl rfl rfl rfl (Nat.le_of_ble_eq_true rfl) dX3_openView_159 (fun H locs hP hD hS => ?_)
            obtain ⟨F57, eF57⟩ : ∃ z, z = va_up F55 (gva G xv) (.inr (3, [.ref ((grh G (zbk σ xb))), .int (iI 0), .int (iI (((turn (zod σ (zbk σ xb)) xhigh) - 1)))])) := ⟨_, rfl⟩
            have hP : va_P D vwCl (va_pl L F57) H := by rw [eF57]; exact hP
            have hD : va_D (AL L s.heap.size) (va_pl L F57) := by rw [eF57]; exact hD
            have hvF : F57 (gva G xv) = (.inr (3, [.ref ((grh G (zbk σ xb))), .int (iI 0), .int (iI (((turn (zod σ (zbk σ xb)) xhigh) - 1)))])) := by rw [eF57]; exact va_up_self _ _ _
            have hO : OE O F F57 := by rw [eF57]; exact hO.tr (OE1 ((CP_O hC).2.2.2.2.2.1 _ hb_r1.1 hb_r1.2))
            have hC : CP y L F57 O G (sVw (sVw (sVw σ xv (zbk σ xb) (zvl σ xv) (zvh σ xv)) xv (zbk σ xb) 0 (zvh σ xv)) xv (zbk σ xb) 0 ((turn (zod σ (zbk σ xb)) xhigh) - 1)) := by rw [eF57]; exact CP_vw hC hb_r1 (va_up_self _ _ _) (fun q hq => va_up_ne _ _ hq)
            refine lv_aload hx hb dX3_openView_162 (lv_at hl 6 rfl) ?_
            refine lv_aload hx hb dX3_openView_164 (lv_at hl 7 rfl) ?_
            refine q_get C0 iX1 hP (CP_v hC hb_r1).1 hvF rfl 1 (by decide) flX3_182 rfl rfl dX3_openView_166 ?_
            refine lv_aload hx hb dX3_openView_169 (lv_at hl 7 rfl) ?_
            refine q_get C0 iX1 hP (CP_v hC hb_r1).1 hvF rfl 2 (by decide) flX3_185 rfl rfl dX3_openView_171 ?_
            refine q_vS C0 lX3_188 (c_X0_countOfPart l D y L F57 (grh G (zbk σ xb)) (grw G (zbk σ xb)) (zod σ (zbk σ xb)) ((zst σ (zbk σ xb)).1) ((zst σ (zbk σ xb)).2.1) ((zst σ (zbk σ xb)).2.2) 0 ((turn (zod σ (zbk σ xb)) xhigh) - 1) (CP_r hC (hW.1 xb)) (by omega) (by omega)) ⟨rfl, rfl⟩ rfl hP (CP_r hC (hW.1 xb)).1 (CP_r hC (hW.1 xb)).2.1 rfl rfl rfl hl rfl (Nat.le_of_ble_eq_true rfl) dX3_openView_174 ⟨Nat.le_of_ble_eq_true rfl, Nat.le_of_ble_eq_true rfl⟩ (fun r58 e_r58 => ?_)
            subst e_r58
            refine W.widen (k := 8) (n := 60) (Nat.le_of_ble_eq_true rfl) (Nat.le_of_ble_eq_true rfl) ?_
            exact vx_ret (q_retMi C0 hret rfl hlk dX3_openView_177 hP hD hS (⟨by omega, by omega, (by unfold kR_openView; rw [if_neg (by omega), show oLo (zod σ (zbk σ xb)) xkind xlow xends = 0 by (unfold oLo; (repeat' split) <;> first | rfl | omega), show oHi (zod σ (zbk σ xb)) xkind xhigh xends = ((turn (zod σ (zbk σ xb)) xhigh) - 1) by (unfold oHi; (repeat' split) <;> first | rfl | omega)]), O, G, CP_eq hC (by rw [sVw2, sVw2]; unfold kS_openView; rw [if_neg (by omega), show oLo (zod σ (zbk σ xb)) xkind xlow xends = 0 by (unfold oLo; (repeat' split) <;> first | rfl | omega), show oHi (zod σ (zbk σ xb)) xkind xhigh xends = ((turn (zod σ (zbk σ xb)) xhigh) - 1) by (unfold oHi; (repeat' split) <;> first | rfl | omega)]), rfl, Ext0 hO⟩))
          · refine q_bipush hx hb dX3_openView_152 (by decide) ?_
            refine lv_goto (tgt := 159) hx hb dX3_openView_154 (by decide) ?_
            refine q_put C0 iX1 tyX1 tyX1_ok nmX1 hP hD hS (CP_v hC hb_r1).1 hvF rfl 2 (by decide) flX3_185 rfl rfl rfl rfl (Nat.le_of_ble_eq_true rfl) dX3_openView_159 (fun H locs hP hD hS => ?_)
            obtain ⟨F59, eF59⟩ : ∃ z, z = va_up F55 (gva G xv) (.inr (3, [.ref ((grh G (zbk σ xb))), .int (iI 0), .int (iI 99)])) := ⟨_, rfl⟩
            have hP : va_P D vwCl (va_pl L F59) H := by rw [eF59]; exact hP
            have hD : va_D (AL L s.heap.size) (va_pl L F59) := by rw [eF59]; exact hD
            have hvF : F59 (gva G xv) = (.inr (3, [.ref ((grh G (zbk σ xb))), .int (iI 0), .int (iI 99)])) := by rw [eF59]; exact va_up_self _ _ _
            have hO : OE O F F59 := by rw [eF59]; exact hO.tr (OE1 ((CP_O hC).2.2.2.2.2.1 _ hb_r1.1 hb_r1.2))
            have hC : CP y L F59 O G (sVw (sVw (sVw σ xv (zbk σ xb) (zvl σ xv) (zvh σ xv)) xv (zbk σ xb) 0 (zvh σ xv)) xv (zbk σ xb) 0 99) := by rw [eF59]; exact CP_vw hC hb_r1 (va_up_self _ _ _) (fun q hq => va_up_ne _ _ hq)
            refine lv_aload hx hb dX3_openView_162 (lv_at hl 6 rfl) ?_
            refine lv_aload hx hb dX3_openView_164 (lv_at hl 7 rfl) ?_
            refine q_get C0 iX1 hP (CP_v hC hb_r1).1 hvF rfl 1 (by decide) flX3_182 rfl rfl dX3_openView_166 ?_
            refine lv_aload hx hb dX3_openView_169 (lv_at hl 7 rfl) ?_
            refine q_get C0 iX1 hP (CP_v hC hb_r1).1 hvF rfl 2 (by decide) flX3_185 rfl rfl dX3_openView_171 ?_
            refine q_vS C0 lX3_188 (c_X0_countOfPart l D y L F59 (grh G (zbk σ xb)) (grw G (zbk σ xb)) (zod σ (zbk σ xb)) ((zst σ (zbk σ xb)).1) ((zst σ (zbk σ xb)).2.1) ((zst σ (zbk σ xb)).2.2) 0 99 (CP_r hC (hW.1 xb)) (by omega) (by omega)) ⟨rfl, rfl⟩ rfl hP (CP_r hC (hW.1 xb)).1 (CP_r hC (hW.1 xb)).2.1 rfl rfl rfl hl rfl (Nat.le_of_ble_eq_true rfl) dX3_openView_174 ⟨Nat.le_of_ble_eq_true rfl, Nat.le_of_ble_eq_true rfl⟩ (fun r60 e_r60 => ?_)
            subst e_r60
            refine W.widen (k := 8) (n := 60) (Nat.le_of_ble_eq_true rfl) (Nat.le_of_ble_eq_true rfl) ?_
            exact vx_ret (q_retMi C0 hret rfl hlk dX3_openView_177 hP hD hS (⟨by omega, by omega, (by unfold kR_openView; rw [if_neg (by omega), show oLo (zod σ (zbk σ xb)) xkind xlow xends = 0 by (unfold oLo; (repeat' split) <;> first | rfl | omega), show oHi (zod σ (zbk σ xb)) xkind xhigh xends = 99 by (unfold oHi; (repeat' split) <;> first | rfl | omega)]), O, G, CP_eq hC (by rw [sVw2, sVw2]; unfold kS_openView; rw [if_neg (by omega), show oLo (zod σ (zbk σ xb)) xkind xlow xends = 0 by (unfold oLo; (repeat' split) <;> first | rfl | omega), show oHi (zod σ (zbk σ xb)) xkind xhigh xends = 99 by (unfold oHi; (repeat' split) <;> first | rfl | omega)]), rfl, Ext0 hO⟩))
      · refine q_iconst hx hb dX3_openView_84 ?_
        refine lv_goto (tgt := 89) hx hb dX3_openView_85 (by decide) ?_
        refine lv_istore (lv' := [(12, .int (iI 1)), (11, .int (iI 1)), (10, .int (iI ((turn (zod σ (zbk σ xb)) xhigh)))), (9, .int (iI ((turn (zod σ (zbk σ xb)) xlow)))), (8, .ref ((grh G (zbk σ xb)))), (7, .ref ((gva G xv))), (0, .ref ((gbg G))), (1, .int (iI xv)), (2, .int (iI xb)), (3, .int (iI xkind)), (4, .int (iI xlow)), (5, .int (iI xhigh)), (6, .int (iI xends))]) hx hb dX3_openView_89 hl (by decide) rfl (fun ls hl => ?_)
        refine lv_iload hx hb dX3_openView_91 (lv_at hl 1 rfl) ?_
        refine q_if_eq hx hb dX3_openView_93 (tgt := 101) (by decide) (by omega) (fun c61 => absurd c61 (by omega)) (fun c61 => ?_)
        refine lv_iload hx hb dX3_openView_96 (lv_at hl 3 rfl) ?_
        refine lv_goto (tgt := 105) hx hb dX3_openView_98 (by decide) ?_
        refine lv_istore (lv' := [(13, .int (iI ((turn (zod σ (zbk σ xb)) xlow)))), (12, .int (iI 1)), (11, .int (iI 1)), (10, .int (iI ((turn (zod σ (zbk σ xb)) xhigh)))), (9, .int (iI ((turn (zod σ (zbk σ xb)) xlow)))), (8, .ref ((grh G (zbk σ xb)))), (7, .ref ((gva G xv))), (0, .ref ((gbg G))), (1, .int (iI xv)), (2, .int (iI xb)), (3, .int (iI xkind)), (4, .int (iI xlow)), (5, .int (iI xhigh)), (6, .int (iI xends))]) hx hb dX3_openView_105 hl (by decide) rfl (fun ls hl => ?_)
        refine lv_iload hx hb dX3_openView_107 (lv_at hl 1 rfl) ?_
        refine q_if_eq hx hb dX3_openView_109 (tgt := 117) (by decide) (by omega) (fun c62 => absurd c62 (by omega)) (fun c62 => ?_)
        refine lv_iload hx hb dX3_openView_112 (lv_at hl 3 rfl) ?_
        refine lv_goto (tgt := 121) hx hb dX3_openView_114 (by decide) ?_
        refine lv_istore (lv' := [(14, .int (iI ((turn (zod σ (zbk σ xb)) xhigh)))), (13, .int (iI ((turn (zod σ (zbk σ xb)) xlow)))), (12, .int (iI 1)), (11, .int (iI 1)), (10, .int (iI ((turn (zod σ (zbk σ xb)) xhigh)))), (9, .int (iI ((turn (zod σ (zbk σ xb)) xlow)))), (8, .ref ((grh G (zbk σ xb)))), (7, .ref ((gva G xv))), (0, .ref ((gbg G))), (1, .int (iI xv)), (2, .int (iI xb)), (3, .int (iI xkind)), (4, .int (iI xlow)), (5, .int (iI xhigh)), (6, .int (iI xends))]) hx hb dX3_openView_121 hl (by decide) rfl (fun ls hl => ?_)
        refine lv_aload hx hb dX3_openView_123 (lv_at hl 7 rfl) ?_
        refine lv_aload hx hb dX3_openView_125 (lv_at hl 6 rfl) ?_
        refine q_put C0 iX1 tyX1 tyX1_ok nmX1 hP hD hS (CP_v hC hb_r1).1 (CP_v hC hb_r1).2 rfl 0 (by decide) flX3_178 rfl rfl rfl rfl (Nat.le_of_ble_eq_true rfl) dX3_openView_127 (fun H locs hP hD hS => ?_)
        obtain ⟨F63, eF63⟩ : ∃ z, z = va_up F (gva G xv) (.inr (3, [.ref ((grh G (zbk σ xb))), .int (iI (zvl σ xv)), .int (iI (zvh σ xv))])) := ⟨_, rfl⟩
        have hP : va_P D vwCl (va_pl L F63) H := by rw [eF63]; exact hP
        have hD : va_D (AL L s.heap.size) (va_pl L F63) := by rw [eF63]; exact hD
        have hvF : F63 (gva G xv) = (.inr (3, [.ref ((grh G (zbk σ xb))), .int (iI (zvl σ xv)), .int (iI (zvh σ xv))])) := by rw [eF63]; exact va_up_self _ _ _
        have hO : OE O F F63 := by rw [eF63]; exact hO.tr (OE1 ((CP_O hC).2.2.2.2.2.1 _ hb_r1.1 hb_r1.2))
        have hC : CP y L F63 O G (sVw σ xv (zbk σ xb) (zvl σ xv) (zvh σ xv)) := by rw [eF63]; exact CP_vw hC hb_r1 (va_up_self _ _ _) (fun q hq => va_up_ne _ _ hq)
        refine lv_aload hx hb dX3_openView_130 (lv_at hl 7 rfl) ?_
        refine lv_iload_n hx hb dX3_openView_132 rfl (lv_at hl 11 rfl) ?_
        refine q_if_ne hx hb dX3_openView_133 (tgt := 140) (by decide) (by omega) (fun c64 => ?_) (fun c64 => ?_)
        · refine lv_iload hx hb dX3_openView_140 (lv_at hl 1 rfl) ?_
          refine q_put C0 iX1 tyX1 tyX1_ok nmX1 hP hD hS (CP_v hC hb_r1).1 hvF rfl 1 (by decide) flX3_182 rfl rfl rfl rfl (Nat.le_of_ble_eq_true rfl) dX3_openView_142 (fun H locs hP hD hS => ?_)
          obtain ⟨F65, eF65⟩ : ∃ z, z = va_up F63 (gva G xv) (.inr (3, [.ref ((grh G (zbk σ xb))), .int (iI ((turn (zod σ (zbk σ xb)) xlow))), .int (iI (zvh σ xv))])) := ⟨_, rfl⟩
          have hP : va_P D vwCl (va_pl L F65) H := by rw [eF65]; exact hP
          have hD : va_D (AL L s.heap.size) (va_pl L F65) := by rw [eF65]; exact hD
          have hvF : F65 (gva G xv) = (.inr (3, [.ref ((grh G (zbk σ xb))), .int (iI ((turn (zod σ (zbk σ xb)) xlow))), .int (iI (zvh σ xv))])) := by rw [eF65]; exact va_up_self _ _ _
          have hO : OE O F F65 := by rw [eF65]; exact hO.tr (OE1 ((CP_O hC).2.2.2.2.2.1 _ hb_r1.1 hb_r1.2))
          have hC : CP y L F65 O G (sVw (sVw σ xv (zbk σ xb) (zvl σ xv) (zvh σ xv)) xv (zbk σ xb) (turn (zod σ (zbk σ xb)) xlow) (zvh σ xv)) := by rw [eF65]; exact CP_vw hC hb_r1 (va_up_self _ _ _) (fun q hq => va_up_ne _ _ hq)
          refine lv_aload hx hb dX3_openView_145 (lv_at hl 7 rfl) ?_
          refine lv_iload_n hx hb dX3_openView_147 rfl (lv_at hl 11 rfl) ?_
          refine q_iconst hx hb dX3_openView_148 ?_
          refine q_icmp_ne hx hb dX3_openView_149 (tgt := 157) (by decide) (by omega) (by omega) (fun c66 => ?_) (fun c66 => ?_)
          · refine lv_iload hx hb dX3_openView_157 (lv_at hl 0 rfl) ?_
            refine q_put C0 iX1 tyX1 tyX1_ok nmX1 hP hD hS (CP_v hC hb_r1).1 hvF rfl 2 (by decide) flX3_185 rfl rfl rfl rfl (Nat.le_of_ble_eq_true rfl) dX3_openView_159 (fun H locs hP hD hS => ?_)
            obtain ⟨F67, eF67⟩ : ∃ z, z = va_up F65 (gva G xv) (.inr (3, [.ref ((grh G (zbk σ xb))), .int (iI ((turn (zod σ (zbk σ xb)) xlow))), .int (iI ((turn (zod σ (zbk σ xb)) xhigh)))])) := ⟨_, rfl⟩
            have hP : va_P D vwCl (va_pl L F67) H := by rw [eF67]; exact hP
            have hD : va_D (AL L s.heap.size) (va_pl L F67) := by rw [eF67]; exact hD
            have hvF : F67 (gva G xv) = (.inr (3, [.ref ((grh G (zbk σ xb))), .int (iI ((turn (zod σ (zbk σ xb)) xlow))), .int (iI ((turn (zod σ (zbk σ xb)) xhigh)))])) := by rw [eF67]; exact va_up_self _ _ _
            have hO : OE O F F67 := by rw [eF67]; exact hO.tr (OE1 ((CP_O hC).2.2.2.2.2.1 _ hb_r1.1 hb_r1.2))
            have hC : CP y L F67 O G (sVw (sVw (sVw σ xv (zbk σ xb) (zvl σ xv) (zvh σ xv)) xv (zbk σ xb) (turn (zod σ (zbk σ xb)) xlow) (zvh σ xv)) xv (zbk σ xb) (turn (zod σ (zbk σ xb)) xlow) (turn (zod σ (zbk σ xb)) xhigh)) := by rw [eF67]; exact CP_vw hC hb_r1 (va_up_self _ _ _) (fun q hq => va_up_ne _ _ hq)
            refine lv_aload hx hb dX3_openView_162 (lv_at hl 6 rfl) ?_
            refine lv_aload hx hb dX3_openView_164 (lv_at hl 7 rfl) ?_
            refine q_get C0 iX1 hP (CP_v hC hb_r1).1 hvF rfl 1 (by decide) flX3_182 rfl rfl dX3_openView_166 ?_
            refine lv_aload hx hb dX3_openView_169 (lv_at hl 7 rfl) ?_
            refine q_get C0 iX1 hP (CP_v hC hb_r1).1 hvF rfl 2 (by decide) flX3_185 rfl rfl dX3_openView_171 ?_
            refine q_vS C0 lX3_188 (c_X0_countOfPart l D y L F67 (grh G (zbk σ xb)) (grw G (zbk σ xb)) (zod σ (zbk σ xb)) ((zst σ (zbk σ xb)).1) ((zst σ (zbk σ xb)).2.1) ((zst σ (zbk σ xb)).2.2) (turn (zod σ (zbk σ xb)) xlow) (turn (zod σ (zbk σ xb)) xhigh) (CP_r hC (hW.1 xb)) (by omega) (by omega)) ⟨rfl, rfl⟩ rfl hP (CP_r hC (hW.1 xb)).1 (CP_r hC (hW.1 xb)).2.1 rfl rfl rfl hl rfl (Nat.le_of_ble_eq_true rfl) dX3_openView_174 ⟨Nat.le_of_ble_eq_true rfl, Nat.le_of_ble_eq_true rfl⟩ (fun r68 e_r68 => ?_)
            subst e_r68
            refine W.widen (k := 8) (n := 60) (Nat.le_of_ble_eq_true rfl) (Nat.le_of_ble_eq_true rfl) ?_
            exact vx_ret (q_retMi C0 hret rfl hlk dX3_openView_177 hP hD hS (⟨by omega, by omega, (by unfold kR_openView; rw [if_neg (by omega), show oLo (zod σ (zbk σ xb)) xkind xlow xends = (turn (zod σ (zbk σ xb)) xlow) by (unfold oLo; (repeat' split) <;> first | rfl | omega), show oHi (zod σ (zbk σ xb)) xkind xhigh xends = (turn (zod σ (zbk σ xb)) xhigh) by (unfold oHi; (repeat' split) <;> first | rfl | omega)]), O, G, CP_eq hC (by rw [sVw2, sVw2]; unfold kS_openView; rw [if_neg (by omega), show oLo (zod σ (zbk σ xb)) xkind xlow xends = (turn (zod σ (zbk σ xb)) xlow) by (unfold oLo; (repeat' split) <;> first | rfl | omega), show oHi (zod σ (zbk σ xb)) xkind xhigh xends = (turn (zod σ (zbk σ xb)) xhigh) by (unfold oHi; (repeat' split) <;> first | rfl | omega)]), rfl, Ext0 hO⟩))
          · refine q_bipush hx hb dX3_openView_152 (by decide) ?_
            refine lv_goto (tgt := 159) hx hb dX3_openView_154 (by decide) ?_
            refine q_put C0 iX1 tyX1 tyX1_ok nmX1 hP hD hS (CP_v hC hb_r1).1 hvF rfl 2 (by decide) flX3_185 rfl rfl rfl rfl (Nat.le_of_ble_eq_true rfl) dX3_openView_159 (fun H locs hP hD hS => ?_)
            obtain ⟨F69, eF69⟩ : ∃ z, z = va_up F65 (gva G xv) (.inr (3, [.ref ((grh G (zbk σ xb))), .int (iI ((turn (zod σ (zbk σ xb)) xlow))), .int (iI 99)])) := ⟨_, rfl⟩
            have hP : va_P D vwCl (va_pl L F69) H := by rw [eF69]; exact hP
            have hD : va_D (AL L s.heap.size) (va_pl L F69) := by rw [eF69]; exact hD
            have hvF : F69 (gva G xv) = (.inr (3, [.ref ((grh G (zbk σ xb))), .int (iI ((turn (zod σ (zbk σ xb)) xlow))), .int (iI 99)])) := by rw [eF69]; exact va_up_self _ _ _
            have hO : OE O F F69 := by rw [eF69]; exact hO.tr (OE1 ((CP_O hC).2.2.2.2.2.1 _ hb_r1.1 hb_r1.2))
            have hC : CP y L F69 O G (sVw (sVw (sVw σ xv (zbk σ xb) (zvl σ xv) (zvh σ xv)) xv (zbk σ xb) (turn (zod σ (zbk σ xb)) xlow) (zvh σ xv)) xv (zbk σ xb) (turn (zod σ (zbk σ xb)) xlow) 99) := by rw [eF69]; exact CP_vw hC hb_r1 (va_up_self _ _ _) (fun q hq => va_up_ne _ _ hq)
            refine lv_aload hx hb dX3_openView_162 (lv_at hl 6 rfl) ?_
            refine lv_aload hx hb dX3_openView_164 (lv_at hl 7 rfl) ?_
            refine q_get C0 iX1 hP (CP_v hC hb_r1).1 hvF rfl 1 (by decide) flX3_182 rfl rfl dX3_openView_166 ?_
            refine lv_aload hx hb dX3_openView_169 (lv_at hl 7 rfl) ?_
            refine q_get C0 iX1 hP (CP_v hC hb_r1).1 hvF rfl 2 (by decide) flX3_185 rfl rfl dX3_openView_171 ?_
            refine q_vS C0 lX3_188 (c_X0_countOfPart l D y L F69 (grh G (zbk σ xb)) (grw G (zbk σ xb)) (zod σ (zbk σ xb)) ((zst σ (zbk σ xb)).1) ((zst σ (zbk σ xb)).2.1) ((zst σ (zbk σ xb)).2.2) (turn (zod σ (zbk σ xb)) xlow) 99 (CP_r hC (hW.1 xb)) (by omega) (by omega)) ⟨rfl, rfl⟩ rfl hP (CP_r hC (hW.1 xb)).1 (CP_r hC (hW.1 xb)).2.1 rfl rfl rfl hl rfl (Nat.le_of_ble_eq_true rfl) dX3_openView_174 ⟨Nat.le_of_ble_eq_true rfl, Nat.le_of_ble_eq_true rfl⟩ (fun r70 e_r70 => ?_)
            subst e_r70
            refine W.widen (k := 8) (n := 60) (Nat.le_of_ble_eq_true rfl) (Nat.le_of_ble_eq_true rfl) ?_
            exact vx_ret (q_retMi C0 hret rfl hlk dX3_openView_177 hP hD hS (⟨by omega, by omega, (by unfold kR_openView; rw [if_neg (by omega), show oLo (zod σ (zbk σ xb)) xkind xlow xends = (turn (zod σ (zbk σ xb)) xlow) by (unfold oLo; (repeat' split) <;> first | rfl | omega), show oHi (zod σ (zbk σ xb)) xkind xhigh xends = 99 by (unfold oHi; (repeat' split) <;> first | rfl | omega)]), O, G, CP_eq hC (by rw [sVw2, sVw2]; unfold kS_openView; rw [if_neg (by omega), show oLo (zod σ (zbk σ xb)) xkind xlow xends = (turn (zod σ (zbk σ xb)) xlow) by (unfold oLo; (repeat' split) <;> first | rfl | omega), show oHi (zod σ (zbk σ xb)) xkind xhigh xends = 99 by (unfold oHi; (repeat' split) <;> first | rfl | omega)]), rfl, Ext0 hO⟩))
        · refine q_iconst hx hb dX3_openView_136 ?_
          refine lv_goto (tgt := 142) hx hb dX3_openView_137 (by decide) ?_
          refine q_put C0 iX1 tyX1 tyX1_ok nmX1 hP hD hS (CP_v hC hb_r1).1 hvF rfl 1 (by decide) flX3_182 rfl rfl rfl rfl (Nat.le_of_ble_eq_true rfl) dX3_openView_142 (fun H locs hP hD hS => ?_)
          obtain ⟨F71, eF71⟩ : ∃ z, z = va_up F63 (gva G xv) (.inr (3, [.ref ((grh G (zbk σ xb))), .int (iI 0), .int (iI (zvh σ xv))])) := ⟨_, rfl⟩
          have hP : va_P D vwCl (va_pl L F71) H := by rw [eF71]; exact hP
          have hD : va_D (AL L s.heap.size) (va_pl L F71) := by rw [eF71]; exact hD
          have hvF : F71 (gva G xv) = (.inr (3, [.ref ((grh G (zbk σ xb))), .int (iI 0), .int (iI (zvh σ xv))])) := by rw [eF71]; exact va_up_self _ _ _
          have hO : OE O F F71 := by rw [eF71]; exact hO.tr (OE1 ((CP_O hC).2.2.2.2.2.1 _ hb_r1.1 hb_r1.2))
          have hC : CP y L F71 O G (sVw (sVw σ xv (zbk σ xb) (zvl σ xv) (zvh σ xv)) xv (zbk σ xb) 0 (zvh σ xv)) := by rw [eF71]; exact CP_vw hC hb_r1 (va_up_self _ _ _) (fun q hq => va_up_ne _ _ hq)
          refine lv_aload hx hb dX3_openView_145 (lv_at hl 7 rfl) ?_
          refine lv_iload_n hx hb dX3_openView_147 rfl (lv_at hl 11 rfl) ?_
          refine q_iconst hx hb dX3_openView_148 ?_
          refine q_icmp_ne hx hb dX3_openView_149 (tgt := 157) (by decide) (by omega) (by omega) (fun c72 => ?_) (fun c72 => ?_)
          · refine lv_iload hx hb dX3_openView_157 (lv_at hl 0 rfl) ?_
            refine q_put C0 iX1 tyX1 tyX1_ok nmX1 hP hD hS (CP_v hC hb_r1).1 hvF rfl 2 (by decide) flX3_185 rfl rfl rfl rfl (Nat.le_of_ble_eq_true rfl) dX3_openView_159 (fun H locs hP hD hS => ?_)
            obtain ⟨F73, eF73⟩ : ∃ z, z = va_up F71 (gva G xv) (.inr (3, [.ref ((grh G (zbk σ xb))), .int (iI 0), .int (iI ((turn (zod σ (zbk σ xb)) xhigh)))])) := ⟨_, rfl⟩
            have hP : va_P D vwCl (va_pl L F73) H := by rw [eF73]; exact hP
            have hD : va_D (AL L s.heap.size) (va_pl L F73) := by rw [eF73]; exact hD
            have hvF : F73 (gva G xv) = (.inr (3, [.ref ((grh G (zbk σ xb))), .int (iI 0), .int (iI ((turn (zod σ (zbk σ xb)) xhigh)))])) := by rw [eF73]; exact va_up_self _ _ _
            have hO : OE O F F73 := by rw [eF73]; exact hO.tr (OE1 ((CP_O hC).2.2.2.2.2.1 _ hb_r1.1 hb_r1.2))
            have hC : CP y L F73 O G (sVw (sVw (sVw σ xv (zbk σ xb) (zvl σ xv) (zvh σ xv)) xv (zbk σ xb) 0 (zvh σ xv)) xv (zbk σ xb) 0 (turn (zod σ (zbk σ xb)) xhigh)) := by rw [eF73]; exact CP_vw hC hb_r1 (va_up_self _ _ _) (fun q hq => va_up_ne _ _ hq)
            refine lv_aload hx hb dX3_openView_162 (lv_at hl 6 rfl) ?_
            refine lv_aload hx hb dX3_openView_164 (lv_at hl 7 rfl) ?_
            refine q_get C0 iX1 hP (CP_v hC hb_r1).1 hvF rfl 1 (by decide) flX3_182 rfl rfl dX3_openView_166 ?_
            refine lv_aload hx hb dX3_openView_169 (lv_at hl 7 rfl) ?_
            refine q_get C0 iX1 hP (CP_v hC hb_r1).1 hvF rfl 2 (by decide) flX3_185 rfl rfl dX3_openView_171 ?_
            refine q_vS C0 lX3_188 (c_X0_countOfPart l D y L F73 (grh G (zbk σ xb)) (grw G (zbk σ xb)) (zod σ (zbk σ xb)) ((zst σ (zbk σ xb)).1) ((zst σ (zbk σ xb)).2.1) ((zst σ (zbk σ xb)).2.2) 0 (turn (zod σ (zbk σ xb)) xhigh) (CP_r hC (hW.1 xb)) (by omega) (by omega)) ⟨rfl, rfl⟩ rfl hP (CP_r hC (hW.1 xb)).1 (CP_r hC (hW.1 xb)).2.1 rfl rfl rfl hl rfl (Nat.le_of_ble_eq_true rfl) dX3_openView_174 ⟨Nat.le_of_ble_eq_true rfl, Nat.le_of_ble_eq_true rfl⟩ (fun r74 e_r74 => ?_)
            subst e_r74
            refine W.widen (k := 8) (n := 60) (Nat.le_of_ble_eq_true rfl) (Nat.le_of_ble_eq_true rfl) ?_
            exact vx_ret (q_retMi C0 hret rfl hlk dX3_openView_177 hP hD hS (⟨by omega, by omega, (by unfold kR_openView; rw [if_neg (by omega), show oLo (zod σ (zbk σ xb)) xkind xlow xends = 0 by (unfold oLo; (repeat' split) <;> first | rfl | omega), show oHi (zod σ (zbk σ xb)) xkind xhigh xends = (turn (zod σ (zbk σ xb)) xhigh) by (unfold oHi; (repeat' split) <;> first | rfl | omega)]), O, G, CP_eq hC (by rw [sVw2, sVw2]; unfold kS_openView; rw [if_neg (by omega), show oLo (zod σ (zbk σ xb)) xkind xlow xends = 0 by (unfold oLo; (repeat' split) <;> first | rfl | omega), show oHi (zod σ (zbk σ xb)) xkind xhigh xends = (turn (zod σ (zbk σ xb)) xhigh) by (unfold oHi; (repeat' split) <;> first | rfl | omega)]), rfl, Ext0 hO⟩))
          · refine q_bipush hx hb dX3_openView_152 (by decide) ?_
            refine lv_goto (tgt := 159) hx hb dX3_openView_154 (by decide) ?_
            refine q_put C0 iX1 tyX1 tyX1_ok nmX1 hP hD hS (CP_v hC hb_r1).1 hvF rfl 2 (by decide) flX3_185 rfl rfl rfl rfl (Nat.le_of_ble_eq_true rfl) dX3_openView_159 (fun H locs hP hD hS => ?_)
            obtain ⟨F75, eF75⟩ : ∃ z, z = va_up F71 (gva G xv) (.inr (3, [.ref ((grh G (zbk σ xb))), .int (iI 0), .int (iI 99)])) := ⟨_, rfl⟩
            have hP : va_P D vwCl (va_pl L F75) H := by rw [eF75]; exact hP
            have hD : va_D (AL L s.heap.size) (va_pl L F75) := by rw [eF75]; exact hD
            have hvF : F75 (gva G xv) = (.inr (3, [.ref ((grh G (zbk σ xb))), .int (iI 0), .int (iI 99)])) := by rw [eF75]; exact va_up_self _ _ _
            have hO : OE O F F75 := by rw [eF75]; exact hO.tr (OE1 ((CP_O hC).2.2.2.2.2.1 _ hb_r1.1 hb_r1.2))
            have hC : CP y L F75 O G (sVw (sVw (sVw σ xv (zbk σ xb) (zvl σ xv) (zvh σ xv)) xv (zbk σ xb) 0 (zvh σ xv)) xv (zbk σ xb) 0 99) := by rw [eF75]; exact CP_vw hC hb_r1 (va_up_self _ _ _) (fun q hq => va_up_ne _ _ hq)
            refine lv_aload hx hb dX3_openView_162 (lv_at hl 6 rfl) ?_
            refine lv_aload hx hb dX3_openView_164 (lv_at hl 7 rfl) ?_
            refine q_get C0 iX1 hP (CP_v hC hb_r1).1 hvF rfl 1 (by decide) flX3_182 rfl rfl dX3_openView_166 ?_
            refine lv_aload hx hb dX3_openView_169 (lv_at hl 7 rfl) ?_
            refine q_get C0 iX1 hP (CP_v hC hb_r1).1 hvF rfl 2 (by decide) flX3_185 rfl rfl dX3_openView_171 ?_
            refine q_vS C0 lX3_188 (c_X0_countOfPart l D y L F75 (grh G (zbk σ xb)) (grw G (zbk σ xb)) (zod σ (zbk σ xb)) ((zst σ (zbk σ xb)).1) ((zst σ (zbk σ xb)).2.1) ((zst σ (zbk σ xb)).2.2) 0 99 (CP_r hC (hW.1 xb)) (by omega) (by omega)) ⟨rfl, rfl⟩ rfl hP (CP_r hC (hW.1 xb)).1 (CP_r hC (hW.1 xb)).2.1 rfl rfl rfl hl rfl (Nat.le_of_ble_eq_true rfl) dX3_openView_174 ⟨Nat.le_of_ble_eq_true rfl, Nat.le_of_ble_eq_true rfl⟩ (fun r76 e_r76 => ?_)
            subst e_r76
            refine W.widen (k := 8) (n := 60) (Nat.le_of_ble_eq_true rfl) (Nat.le_of_ble_eq_true rfl) ?_
            exact vx_ret (q_retMi C0 hret rfl hlk dX3_openView_177 hP hD hS (⟨by omega, by omega, (by unfold kR_openView; rw [if_neg (by omega), show oLo (zod σ (zbk σ xb)) xkind xlow xends = 0 by (unfold oLo; (repeat' split) <;> first | rfl | omega), show oHi (zod σ (zbk σ xb)) xkind xhigh xends = 99 by (unfold oHi; (repeat' split) <;> first | rfl | omega)]), O, G, CP_eq hC (by rw [sVw2, sVw2]; unfold kS_openView; rw [if_neg (by omega), show oLo (zod σ (zbk σ xb)) xkind xlow xends = 0 by (unfold oLo; (repeat' split) <;> first | rfl | omega), show oHi (zod σ (zbk σ xb)) xkind xhigh xends = 99 by (unfold oHi; (repeat' split) <;> first | rfl | omega)]), rfl, Ext0 hO⟩))
  · refine lv_iload hx hb dX3_openView_51 (lv_at hl 1 rfl) ?_
    refine lv_iload hx hb dX3_openView_53 (lv_at hl 0 rfl) ?_
    refine q_icmp_le hx hb dX3_openView_55 (tgt := 63) (by decide) (by omega) (by omega) (fun c77 => ?_) (fun c77 => ?_)
    · refine lv_iload hx hb dX3_openView_63 (lv_at hl 10 rfl) ?_
      refine q_iconst hx hb dX3_openView_65 ?_
      refine q_iand hx hb dX3_openView_66 ?_
      refine q_if_eq hx hb dX3_openView_67 (tgt := 74) (by decide) (by omega) (fun c78 => ?_) (fun c78 => ?_)
      · refine q_iconst hx hb dX3_openView_74 ?_
        refine lv_istore (lv' := [(11, .int (iI 0)), (10, .int (iI ((turn (zod σ (zbk σ xb)) xhigh)))), (9, .int (iI ((turn (zod σ (zbk σ xb)) xlow)))), (8, .ref ((grh G (zbk σ xb)))), (7, .ref ((gva G xv))), (0, .ref ((gbg G))), (1, .int (iI xv)), (2, .int (iI xb)), (3, .int (iI xkind)), (4, .int (iI xlow)), (5, .int (iI xhigh)), (6, .int (iI xends))]) hx hb dX3_openView_75 hl (by decide) rfl (fun ls hl => ?_)
        refine lv_iload hx hb dX3_openView_77 (lv_at hl 11 rfl) ?_
        refine q_iconst hx hb dX3_openView_79 ?_
        refine q_iand hx hb dX3_openView_80 ?_
        refine q_if_eq hx hb dX3_openView_81 (tgt := 88) (by decide) (by omega) (fun c79 => ?_) (fun c79 => ?_)
        · refine q_iconst hx hb dX3_openView_88 ?_
          refine lv_istore (lv' := [(12, .int (iI 0)), (11, .int (iI 0)), (10, .int (iI ((turn (zod σ (zbk σ xb)) xhigh)))), (9, .int (iI ((turn (zod σ (zbk σ xb)) xlow)))), (8, .ref ((grh G (zbk σ xb)))), (7, .ref ((gva G xv))), (0, .ref ((gbg G))), (1, .int (iI xv)), (2, .int (iI xb)), (3, .int (iI xkind)), (4, .int (iI xlow)), (5, .int (iI xhigh)), (6, .int (iI xends))]) hx hb dX3_openView_89 hl (by decide) rfl (fun ls hl => ?_)
          refine lv_iload hx hb dX3_openView_91 (lv_at hl 1 rfl) ?_
          refine q_if_eq hx hb dX3_openView_93 (tgt := 101) (by decide) (by omega) (fun c80 => ?_) (fun c80 => absurd c80 (by omega))
          refine lv_iload hx hb dX3_openView_101 (lv_at hl 3 rfl) ?_
          refine q_iconst hx hb dX3_openView_103 ?_
          refine q_iadd hx hb dX3_openView_104 ?_
          refine lv_istore (lv' := [(13, .int (iI (((turn (zod σ (zbk σ xb)) xlow) + 1)))), (12, .int (iI 0)), (11, .int (iI 0)), (10, .int (iI ((turn (zod σ (zbk σ xb)) xhigh)))), (9, .int (iI ((turn (zod σ (zbk σ xb)) xlow)))), (8, .ref ((grh G (zbk σ xb)))), (7, .ref ((gva G xv))), (0, .ref ((gbg G))), (1, .int (iI xv)), (2, .int (iI xb)), (3, .int (iI xkind)), (4, .int (iI xlow)), (5, .int (iI xhigh)), (6, .int (iI xends))]) hx hb dX3_openView_105 hl (by decide) rfl (fun ls hl => ?_)
          refine lv_iload hx hb dX3_openView_107 (lv_at hl 1 rfl) ?_
          refine q_if_eq hx hb dX3_openView_109 (tgt := 117) (by decide) (by omega) (fun c81 => ?_) (fun c81 => absurd c81 (by omega))
          refine lv_iload hx hb dX3_openView_117 (lv_at hl 3 rfl) ?_
          refine q_iconst hx hb dX3_openView_119 ?_
          refine q_isub hx hb dX3_openView_120 ?_
          refine lv_istore (lv' := [(14, .int (iI (((turn (zod σ (zbk σ xb)) xhigh) - 1)))), (13, .int (iI (((turn (zod σ (zbk σ xb)) xlow) + 1)))), (12, .int (iI 0)), (11, .int (iI 0)), (10, .int (iI ((turn (zod σ (zbk σ xb)) xhigh)))), (9, .int (iI ((turn (zod σ (zbk σ xb)) xlow)))), (8, .ref ((grh G (zbk σ xb)))), (7, .ref ((gva G xv))), (0, .ref ((gbg G))), (1, .int (iI xv)), (2, .int (iI xb)), (3, .int (iI xkind)), (4, .int (iI xlow)), (5, .int (iI xhigh)), (6, .int (iI xends))]) hx hb dX3_openView_121 hl (by decide) rfl (fun ls hl => ?_)
          refine lv_aload hx hb dX3_openView_123 (lv_at hl 7 rfl) ?_
          refine lv_aload hx hb dX3_openView_125 (lv_at hl 6 rfl) ?_
          refine q_put C0 iX1 tyX1 tyX1_ok nmX1 hP hD hS (CP_v hC hb_r1).1 (CP_v hC hb_r1).2 rfl 0 (by decide) flX3_178 rfl rfl rfl rfl (Nat.le_of_ble_eq_true rfl) dX3_openView_127 (fun H locs hP hD hS => ?_)
          obtain ⟨F82, eF82⟩ : ∃ z, z = va_up F (gva G xv) (.inr (3, [.ref ((grh G (zbk σ xb))), .int (iI (zvl σ xv)), .int (iI (zvh σ xv))])) := ⟨_, rfl⟩
          have hP : va_P D vwCl (va_pl L F82) H := by rw [eF82]; exact hP
          have hD : va_D (AL L s.heap.size) (va_pl L F82) := by rw [eF82]; exact hD
          have hvF : F82 (gva G xv) = (.inr (3, [.ref ((grh G (zbk σ xb))), .int (iI (zvl σ xv)), .int (iI (zvh σ xv))])) := by rw [eF82]; exact va_up_self _ _ _
          have hO : OE O F F82 := by rw [eF82]; exact hO.tr (OE1 ((CP_O hC).2.2.2.2.2.1 _ hb_r1.1 hb_r1.2))
          have hC : CP y L F82 O G (sVw σ xv (zbk σ xb) (zvl σ xv) (zvh σ xv)) := by rw [eF82]; exact CP_vw hC hb_r1 (va_up_self _ _ _) (fun q hq => va_up_ne _ _ hq)
          refine lv_aload hx hb dX3_openView_130 (lv_at hl 7 rfl) ?_
          refine lv_iload_n hx hb dX3_openView_132 rfl (lv_at hl 11 rfl) ?_
          refine q_if_ne hx hb dX3_openView_133 (tgt := 140) (by decide) (by omega) (fun c83 => ?_) (fun c83 => ?_)
          · refine lv_iload hx hb dX3_openView_140 (lv_at hl 1 rfl) ?_
            refine q_put C0 iX1 tyX1 tyX1_ok nmX1 hP hD hS (CP_v hC hb_r1).1 hvF rfl 1 (by decide) flX3_182 rfl rfl rfl rfl (Nat.le_of_ble_eq_true rfl) dX3_openView_142 (fun H locs hP hD hS => ?_)
            obtain ⟨F84, eF84⟩ : ∃ z, z = va_up F82 (gva G xv) (.inr (3, [.ref ((grh G (zbk σ xb))), .int (iI (((turn (zod σ (zbk σ xb)) xlow) + 1))), .int (iI (zvh σ xv))])) := ⟨_, rfl⟩
            have hP : va_P D vwCl (va_pl L F84) H := by rw [eF84]; exact hP
            have hD : va_D (AL L s.heap.size) (va_pl L F84) := by rw [eF84]; exact hD
            have hvF : F84 (gva G xv) = (.inr (3, [.ref ((grh G (zbk σ xb))), .int (iI (((turn (zod σ (zbk σ xb)) xlow) + 1))), .int (iI (zvh σ xv))])) := by rw [eF84]; exact va_up_self _ _ _
            have hO : OE O F F84 := by rw [eF84]; exact hO.tr (OE1 ((CP_O hC).2.2.2.2.2.1 _ hb_r1.1 hb_r1.2))
            have hC : CP y L F84 O G (sVw (sVw σ xv (zbk σ xb) (zvl σ xv) (zvh σ xv)) xv (zbk σ xb) ((turn (zod σ (zbk σ xb)) xlow) + 1) (zvh σ xv)) := by rw [eF84]; exact CP_vw hC hb_r1 (va_up_self _ _ _) (fun q hq => va_up_ne _ _ hq)
            refine lv_aload hx hb dX3_openView_145 (lv_at hl 7 rfl) ?_
            refine lv_iload_n hx hb dX3_openView_147 rfl (lv_at hl 11 rfl) ?_
            refine q_iconst hx hb dX3_openView_148 ?_
            refine q_icmp_ne hx hb dX3_openView_149 (tgt := 157) (by decide) (by omega) (by omega) (fun c85 => ?_) (fun c85 => ?_)
            · refine lv_iload hx hb dX3_openView_157 (lv_at hl 0 rfl) ?_
              refine q_put C0 iX1 tyX1 tyX1_ok nmX1 hP hD hS (CP_v hC hb_r1).1 hvF rfl 2 (by decide) flX3_185 rfl rfl rfl rfl (Nat.le_of_ble_eq_true rfl) dX3_openView_159 (fun H locs hP hD hS => ?_)
              obtain ⟨F86, eF86⟩ : ∃ z, z = va_up F84 (gva G xv) (.inr (3, [.ref ((grh G (zbk σ xb))), .int (iI (((turn (zod σ (zbk σ xb)) xlow) + 1))), .int (iI (((turn (zod σ (zbk σ xb)) xhigh) - 1)))])) := ⟨_, rfl⟩
              have hP : va_P D vwCl (va_pl L F86) H := by rw [eF86]; exact hP
              have hD : va_D (AL L s.heap.size) (va_pl L F86) := by rw [eF86]; exact hD
              have hvF : F86 (gva G xv) = (.inr (3, [.ref ((grh G (zbk σ xb))), .int (iI (((turn (zod σ (zbk σ xb)) xlow) + 1))), .int (iI (((turn (zod σ (zbk σ xb)) xhigh) - 1)))])) := by rw [eF86]; exact va_up_self _ _ _
              have hO : OE O F F86 := by rw [eF86]; exact hO.tr (OE1 ((CP_O hC).2.2.2.2.2.1 _ hb_r1.1 hb_r1.2))
              have hC : CP y L F86 O G (sVw (sVw (sVw σ xv (zbk σ xb) (zvl σ xv) (zvh σ xv)) xv (zbk σ xb) ((turn (zod σ (zbk σ xb)) xlow) + 1) (zvh σ xv)) xv (zbk σ xb) ((turn (zod σ (zbk σ xb)) xlow) + 1) ((turn (zod σ (zbk σ xb)) xhigh) - 1)) := by rw [eF86]; exact CP_vw hC hb_r1 (va_up_self _ _ _) (fun q hq => va_up_ne _ _ hq)
              refine lv_aload hx hb dX3_openView_162 (lv_at hl 6 rfl) ?_
              refine lv_aload hx hb dX3_openView_164 (lv_at hl 7 rfl) ?_
              refine q_get C0 iX1 hP (CP_v hC hb_r1).1 hvF rfl 1 (by decide) flX3_182 rfl rfl dX3_openView_166 ?_
              refine lv_aload hx hb dX3_openView_169 (lv_at hl 7 rfl) ?_
              refine q_get C0 iX1 hP (CP_v hC hb_r1).1 hvF rfl 2 (by decide) flX3_185 rfl rfl dX3_openView_171 ?_
              refine q_vS C0 lX3_188 (c_X0_countOfPart l D y L F86 (grh G (zbk σ xb)) (grw G (zbk σ xb)) (zod σ (zbk σ xb)) ((zst σ (zbk σ xb)).1) ((zst σ (zbk σ xb)).2.1) ((zst σ (zbk σ xb)).2.2) ((turn (zod σ (zbk σ xb)) xlow) + 1) ((turn (zod σ (zbk σ xb)) xhigh) - 1) (CP_r hC (hW.1 xb)) (by omega) (by omega)) ⟨rfl, rfl⟩ rfl hP (CP_r hC (hW.1 xb)).1 (CP_r hC (hW.1 xb)).2.1 rfl rfl rfl hl rfl (Nat.le_of_ble_eq_true rfl) dX3_openView_174 ⟨Nat.le_of_ble_eq_true rfl, Nat.le_of_ble_eq_true rfl⟩ (fun r87 e_r87 => ?_)
              subst e_r87
              refine W.widen (k := 8) (n := 60) (Nat.le_of_ble_eq_true rfl) (Nat.le_of_ble_eq_true rfl) ?_
              exact vx_ret (q_retMi C0 hret rfl hlk dX3_openView_177 hP hD hS (⟨by omega, by omega, (by unfold kR_openView; rw [if_neg (by omega), show oLo (zod σ (zbk σ xb)) xkind xlow xends = ((turn (zod σ (zbk σ xb)) xlow) + 1) by (unfold oLo; (repeat' split) <;> first | rfl | omega), show oHi (zod σ (zbk σ xb)) xkind xhigh xends = ((turn (zod σ (zbk σ xb)) xhigh) - 1) by (unfold oHi; (repeat' split) <;> first | rfl | omega)]), O, G, CP_eq hC (by rw [sVw2, sVw2]; unfold kS_openView; rw [if_neg (by omega), show oLo (zod σ (zbk σ xb)) xkind xlow xends = ((turn (zod σ (zbk σ xb)) xlow) + 1) by (unfold oLo; (repeat' split) <;> first | rfl | omega), show oHi (zod σ (zbk σ xb)) xkind xhigh xends = ((turn (zod σ (zbk σ xb)) xhigh) - 1) by (unfold oHi; (repeat' split) <;> first | rfl | omega)]), rfl, Ext0 hO⟩))
            · refine q_bipush hx hb dX3_openView_152 (by decide) ?_
              refine lv_goto (tgt := 159) hx hb dX3_openView_154 (by decide) ?_
              refine q_put C0 iX1 tyX1 tyX1_ok nmX1 hP hD hS (CP_v hC hb_r1).1 hvF rfl 2 (by decide) flX3_185 rfl rfl rfl rfl (Nat.le_of_ble_eq_true rfl) dX3_openView_159 (fun H locs hP hD hS => ?_)
              obtain ⟨F88, eF88⟩ : ∃ z, z = va_up F84 (gva G xv) (.inr (3, [.ref ((grh G (zbk σ xb))), .int (iI (((turn (zod σ (zbk σ xb)) xlow) + 1))), .int (iI 99)])) := ⟨_, rfl⟩
              have hP : va_P D vwCl (va_pl L F88) H := by rw [eF88]; exact hP
              have hD : va_D (AL L s.heap.size) (va_pl L F88) := by rw [eF88]; exact hD
              have hvF : F88 (gva G xv) = (.inr (3, [.ref ((grh G (zbk σ xb))), .int (iI (((turn (zod σ (zbk σ xb)) xlow) + 1))), .int (iI 99)])) := by rw [eF88]; exact va_up_self _ _ _
              have hO : OE O F F88 := by rw [eF88]; exact hO.tr (OE1 ((CP_O hC).2.2.2.2.2.1 _ hb_r1.1 hb_r1.2))
              have hC : CP y L F88 O G (sVw (sVw (sVw σ xv (zbk σ xb) (zvl σ xv) (zvh σ xv)) xv (zbk σ xb) ((turn (zod σ (zbk σ xb)) xlow) + 1) (zvh σ xv)) xv (zbk σ xb) ((turn (zod σ (zbk σ xb)) xlow) + 1) 99) := by rw [eF88]; exact CP_vw hC hb_r1 (va_up_self _ _ _) (fun q hq => va_up_ne _ _ hq)
              refine lv_aload hx hb dX3_openView_162 (lv_at hl 6 rfl) ?_
              refine lv_aload hx hb dX3_openView_164 (lv_at hl 7 rfl) ?_
              refine q_get C0 iX1 hP (CP_v hC hb_r1).1 hvF rfl 1 (by decide) flX3_182 rfl rfl dX3_openView_166 ?_
              refine lv_aload hx hb dX3_openView_169 (lv_at hl 7 rfl) ?_
              refine q_get C0 iX1 hP (CP_v hC hb_r1).1 hvF rfl 2 (by decide) flX3_185 rfl rfl dX3_openView_171 ?_
              refine q_vS C0 lX3_188 (c_X0_countOfPart l D y L F88 (grh G (zbk σ xb)) (grw G (zbk σ xb)) (zod σ (zbk σ xb)) ((zst σ (zbk σ xb)).1) ((zst σ (zbk σ xb)).2.1) ((zst σ (zbk σ xb)).2.2) ((turn (zod σ (zbk σ xb)) xlow) + 1) 99 (CP_r hC (hW.1 xb)) (by omega) (by omega)) ⟨rfl, rfl⟩ rfl hP (CP_r hC (hW.1 xb)).1 (CP_r hC (hW.1 xb)).2.1 rfl rfl rfl hl rfl (Nat.le_of_ble_eq_true rfl) dX3_openView_174 ⟨Nat.le_of_ble_eq_true rfl, Nat.le_of_ble_eq_true rfl⟩ (fun r89 e_r89 => ?_)
              subst e_r89
              refine W.widen (k := 8) (n := 60) (Nat.le_of_ble_eq_true rfl) (Nat.le_of_ble_eq_true rfl) ?_
              exact vx_ret (q_retMi C0 hret rfl hlk dX3_openView_177 hP hD hS (⟨by omega, by omega, (by unfold kR_openView; rw [if_neg (by omega), show oLo (zod σ (zbk σ xb)) xkind xlow xends = ((turn (zod σ (zbk σ xb)) xlow) + 1) by (unfold oLo; (repeat' split) <;> first | rfl | omega), show oHi (zod σ (zbk σ xb)) xkind xhigh xends = 99 by (unfold oHi; (repeat' split) <;> first | rfl | omega)]), O, G, CP_eq hC (by rw [sVw2, sVw2]; unfold kS_openView; rw [if_neg (by omega), show oLo (zod σ (zbk σ xb)) xkind xlow xends = ((turn (zod σ (zbk σ xb)) xlow) + 1) by (unfold oLo; (repeat' split) <;> first | rfl | omega), show oHi (zod σ (zbk σ xb)) xkind xhigh xends = 99 by (unfold oHi; (repeat' split) <;> first | rfl | omega)]), rfl, Ext0 hO⟩))
          · refine q_iconst hx hb dX3_openView_136 ?_
            refine lv_goto (tgt := 142) hx hb dX3_openView_137 (by decide) ?_
            refine q_put C0 iX1 tyX1 tyX1_ok nmX1 hP hD hS (CP_v hC hb_r1).1 hvF rfl 1 (by decide) flX3_182 rfl rfl rfl rfl (Nat.le_of_ble_eq_true rfl) dX3_openView_142 (fun H locs hP hD hS => ?_)
            obtain ⟨F90, eF90⟩ : ∃ z, z = va_up F82 (gva G xv) (.inr (3, [.ref ((grh G (zbk σ xb))), .int (iI 0), .int (iI (zvh σ xv))])) := ⟨_, rfl⟩
            have hP : va_P D vwCl (va_pl L F90) H := by rw [eF90]; exact hP
            have hD : va_D (AL L s.heap.size) (va_pl L F90) := by rw [eF90]; exact hD
            have hvF : F90 (gva G xv) = (.inr (3, [.ref ((grh G (zbk σ xb))), .int (iI 0), .int (iI (zvh σ xv))])) := by rw [eF90]; exact va_up_self _ _ _
            have hO : OE O F F90 := by rw [eF90]; exact hO.tr (OE1 ((CP_O hC).2.2.2.2.2.1 _ hb_r1.1 hb_r1.2))
            have hC : CP y L F90 O G (sVw (sVw σ xv (zbk σ xb) (zvl σ xv) (zvh σ xv)) xv (zbk σ xb) 0 (zvh σ xv)) := by rw [eF90]; exact CP_vw hC hb_r1 (va_up_self _ _ _) (fun q hq => va_up_ne _ _ hq)
            refine lv_aload hx hb dX3_openView_145 (lv_at hl 7 rfl) ?_
            refine lv_iload_n hx hb dX3_openView_147 rfl (lv_at hl 11 rfl) ?_
            refine q_iconst hx hb dX3_openView_148 ?_
            refine q_icmp_ne hx hb dX3_openView_149 (tgt := 157) (by decide) (by omega) (by omega) (fun c91 => ?_) (fun c91 => ?_)
            · refine lv_iload hx hb dX3_openView_157 (lv_at hl 0 rfl) ?_
              refine q_put C0 iX1 tyX1 tyX1_ok nmX1 hP hD hS (CP_v hC hb_r1).1 hvF rfl 2 (by decide) flX3_185 rfl rfl rfl rfl (Nat.le_of_ble_eq_true rfl) dX3_openView_159 (fun H locs hP hD hS => ?_)
              obtain ⟨F92, eF92⟩ : ∃ z, z = va_up F90 (gva G xv) (.inr (3, [.ref ((grh G (zbk σ xb))), .int (iI 0), .int (iI (((turn (zod σ (zbk σ xb)) xhigh) - 1)))])) := ⟨_, rfl⟩
              have hP : va_P D vwCl (va_pl L F92) H := by rw [eF92]; exact hP
              have hD : va_D (AL L s.heap.size) (va_pl L F92) := by rw [eF92]; exact hD
              have hvF : F92 (gva G xv) = (.inr (3, [.ref ((grh G (zbk σ xb))), .int (iI 0), .int (iI (((turn (zod σ (zbk σ xb)) xhigh) - 1)))])) := by rw [eF92]; exact va_up_self _ _ _
              have hO : OE O F F92 := by rw [eF92]; exact hO.tr (OE1 ((CP_O hC).2.2.2.2.2.1 _ hb_r1.1 hb_r1.2))
              have hC : CP y L F92 O G (sVw (sVw (sVw σ xv (zbk σ xb) (zvl σ xv) (zvh σ xv)) xv (zbk σ xb) 0 (zvh σ xv)) xv (zbk σ xb) 0 ((turn (zod σ (zbk σ xb)) xhigh) - 1)) := by rw [eF92]; exact CP_vw hC hb_r1 (va_up_self _ _ _) (fun q hq => va_up_ne _ _ hq)
              refine lv_aload hx hb dX3_openView_162 (lv_at hl 6 rfl) ?_
              refine lv_aload hx hb dX3_openView_164 (lv_at hl 7 rfl) ?_
              refine q_get C0 iX1 hP (CP_v hC hb_r1).1 hvF rfl 1 (by decide) flX3_182 rfl rfl dX3_openView_166 ?_
              refine lv_aload hx hb dX3_openView_169 (lv_at hl 7 rfl) ?_
              refine q_get C0 iX1 hP (CP_v hC hb_r1).1 hvF rfl 2 (by decide) flX3_185 rfl rfl dX3_openView_171 ?_
              refine q_vS C0 lX3_188 (c_X0_countOfPart l D y L F92 (grh G (zbk σ xb)) (grw G (zbk σ xb)) (zod σ (zbk σ xb)) ((zst σ (zbk σ xb)).1) ((zst σ (zbk σ xb)).2.1) ((zst σ (zbk σ xb)).2.2) 0 ((turn (zod σ (zbk σ xb)) xhigh) - 1) (CP_r hC (hW.1 xb)) (by omega) (by omega)) ⟨rfl, rfl⟩ rfl hP (CP_r hC (hW.1 xb)).1 (CP_r hC (hW.1 xb)).2.1 rfl rfl rfl hl rfl (Nat.le_of_ble_eq_true rfl) dX3_openView_174 ⟨Nat.le_of_ble_eq_true rfl, Nat.le_of_ble_eq_true rfl⟩ (fun r93 e_r93 => ?_)
              subst e_r93
              refine W.widen (k := 8) (n := 60) (Nat.le_of_ble_eq_true rfl) (Nat.le_of_ble_eq_true rfl) ?_
              exact vx_ret (q_retMi C0 hret rfl hlk dX3_openView_177 hP hD hS (⟨by omega, by omega, (by unfold kR_openView; rw [if_neg (by omega), show oLo (zod σ (zbk σ xb)) xkind xlow xends = 0 by (unfold oLo; (repeat' split) <;> first | rfl | omega), show oHi (zod σ (zbk σ xb)) xkind xhigh xends = ((turn (zod σ (zbk σ xb)) xhigh) - 1) by (unfold oHi; (repeat' split) <;> first | rfl | omega)]), O, G, CP_eq hC (by rw [sVw2, sVw2]; unfold kS_openView; rw [if_neg (by omega), show oLo (zod σ (zbk σ xb)) xkind xlow xends = 0 by (unfold oLo; (repeat' split) <;> first | rfl | omega), show oHi (zod σ (zbk σ xb)) xkind xhigh xends = ((turn (zod σ (zbk σ xb)) xhigh) - 1) by (unfold oHi; (repeat' split) <;> first | rfl | omega)]), rfl, Ext0 hO⟩))
            · refine q_bipush hx hb dX3_openView_152 (by decide) ?_
              refine lv_goto (tgt := 159) hx hb dX3_openView_154 (by decide) ?_
              refine q_put C0 iX1 tyX1 tyX1_ok nmX1 hP hD hS (CP_v hC hb_r1).1 hvF rfl 2 (by decide) flX3_185 rfl rfl rfl rfl (Nat.le_of_ble_eq_true rfl) dX3_openView_159 (fun H locs hP hD hS => ?_)
              obtain ⟨F94, eF94⟩ : ∃ z, z = va_up F90 (gva G xv) (.inr (3, [.ref ((grh G (zbk σ xb))), .int (iI 0), .int (iI 99)])) := ⟨_, rfl⟩
              have hP : va_P D vwCl (va_pl L F94) H := by rw [eF94]; exact hP
              have hD : va_D (AL L s.heap.size) (va_pl L F94) := by rw [eF94]; exact hD
              have hvF : F94 (gva G xv) = (.inr (3, [.ref ((grh G (zbk σ xb))), .int (iI 0), .int (iI 99)])) := by rw [eF94]; exact va_up_self _ _ _
              have hO : OE O F F94 := by rw [eF94]; exact hO.tr (OE1 ((CP_O hC).2.2.2.2.2.1 _ hb_r1.1 hb_r1.2))
              have hC : CP y L F94 O G (sVw (sVw (sVw σ xv (zbk σ xb) (zvl σ xv) (zvh σ xv)) xv (zbk σ xb) 0 (zvh σ xv)) xv (zbk σ xb) 0 99) := by rw [eF94]; exact CP_vw hC hb_r1 (va_up_self _ _ _) (fun q hq => va_up_ne _ _ hq)
              refine lv_aload hx hb dX3_openView_162 (lv_at hl 6 rfl) ?_
              refine lv_aload hx hb dX3_openView_164 (lv_at hl 7 rfl) ?_
              refine q_get C0 iX1 hP (CP_v hC hb_r1).1 hvF rfl 1 (by decide) flX3_182 rfl rfl dX3_openView_166 ?_
              refine lv_aload hx hb dX3_openView_169 (lv_at hl 7 rfl) ?_
              refine q_get C0 iX1 hP (CP_v hC hb_r1).1 hvF rfl 2 (by decide) flX3_185 rfl rfl dX3_openView_171 ?_
              refine q_vS C0 lX3_188 (c_X0_countOfPart l D y L F94 (grh G (zbk σ xb)) (grw G (zbk σ xb)) (zod σ (zbk σ xb)) ((zst σ (zbk σ xb)).1) ((zst σ (zbk σ xb)).2.1) ((zst σ (zbk σ xb)).2.2) 0 99 (CP_r hC (hW.1 xb)) (by omega) (by omega)) ⟨rfl, rfl⟩ rfl hP (CP_r hC (hW.1 xb)).1 (CP_r hC (hW.1 xb)).2.1 rfl rfl rfl hl rfl (Nat.le_of_ble_eq_true rfl) dX3_openView_174 ⟨Nat.le_of_ble_eq_true rfl, Nat.le_of_ble_eq_true rfl⟩ (fun r95 e_r95 => ?_)
              subst e_r95
              refine W.widen (k := 8) (n := 60) (Nat.le_of_ble_eq_true rfl) (Nat.le_of_ble_eq_true rfl) ?_
              exact vx_ret (q_retMi C0 hret rfl hlk dX3_openView_177 hP hD hS (⟨by omega, by omega, (by unfold kR_openView; rw [if_neg (by omega), show oLo (zod σ (zbk σ xb)) xkind xlow xends = 0 by (unfold oLo; (repeat' split) <;> first | rfl | omega), show oHi (zod σ (zbk σ xb)) xkind xhigh xends = 99 by (unfold oHi; (repeat' split) <;> first | rfl | omega)]), O, G, CP_eq hC (by rw [sVw2, sVw2]; unfold kS_openView; rw [if_neg (by omega), show oLo (zod σ (zbk σ xb)) xkind xlow xends = 0 by (unfold oLo; (repeat' split) <;> first | rfl | omega), show oHi (zod σ (zbk σ xb)) xkind xhigh xends = 99 by (unfold oHi; (repeat' split) <;> first | rfl | omega)]), rfl, Ext0 hO⟩))
        · refine q_iconst hx hb dX3_openView_84 ?_
          refine lv_goto (tgt := 89) hx hb dX3_openView_85 (by decide) ?_
          refine lv_istore (lv' := [(12, .int (iI 1)), (11, .int (iI 0)), (10, .int (iI ((turn (zod σ (zbk σ xb)) xhigh)))), (9, .int (iI ((turn (zod σ (zbk σ xb)) xlow)))), (8, .ref ((grh G (zbk σ xb)))), (7, .ref ((gva G xv))), (0, .ref ((gbg G))), (1, .int (iI xv)), (2, .int (iI xb)), (3, .int (iI xkind)), (4, .int (iI xlow)), (5, .int (iI xhigh)), (6, .int (iI xends))]) hx hb dX3_openView_89 hl (by decide) rfl (fun ls hl => ?_)
          refine lv_iload hx hb dX3_openView_91 (lv_at hl 1 rfl) ?_
          refine q_if_eq hx hb dX3_openView_93 (tgt := 101) (by decide) (by omega) (fun c96 => ?_) (fun c96 => absurd c96 (by omega))
          refine lv_iload hx hb dX3_openView_101 (lv_at hl 3 rfl) ?_
          refine q_iconst hx hb dX3_openView_103 ?_
          refine q_iadd hx hb dX3_openView_104 ?_
          refine lv_istore (lv' := [(13, .int (iI (((turn (zod σ (zbk σ xb)) xlow) + 1)))), (12, .int (iI 1)), (11, .int (iI 0)), (10, .int (iI ((turn (zod σ (zbk σ xb)) xhigh)))), (9, .int (iI ((turn (zod σ (zbk σ xb)) xlow)))), (8, .ref ((grh G (zbk σ xb)))), (7, .ref ((gva G xv))), (0, .ref ((gbg G))), (1, .int (iI xv)), (2, .int (iI xb)), (3, .int (iI xkind)), (4, .int (iI xlow)), (5, .int (iI xhigh)), (6, .int (iI xends))]) hx hb dX3_openView_105 hl (by decide) rfl (fun ls hl => ?_)
          refine lv_iload hx hb dX3_openView_107 (lv_at hl 1 rfl) ?_
          refine q_if_eq hx hb dX3_openView_109 (tgt := 117) (by decide) (by omega) (fun c97 => absurd c97 (by omega)) (fun c97 => ?_)
          refine lv_iload hx hb dX3_openView_112 (lv_at hl 3 rfl) ?_
          refine lv_goto (tgt := 121) hx hb dX3_openView_114 (by decide) ?_
          refine lv_istore (lv' := [(14, .int (iI ((turn (zod σ (zbk σ xb)) xhigh)))), (13, .int (iI (((turn (zod σ (zbk σ xb)) xlow) + 1)))), (12, .int (iI 1)), (11, .int (iI 0)), (10, .int (iI ((turn (zod σ (zbk σ xb)) xhigh)))), (9, .int (iI ((turn (zod σ (zbk σ xb)) xlow)))), (8, .ref ((grh G (zbk σ xb)))), (7, .ref ((gva G xv))), (0, .ref ((gbg G))), (1, .int (iI xv)), (2, .int (iI xb)), (3, .int (iI xkind)), (4, .int (iI xlow)), (5, .int (iI xhigh)), (6, .int (iI xends))]) hx hb dX3_openView_121 hl (by decide) rfl (fun ls hl => ?_)
          refine lv_aload hx hb dX3_openView_123 (lv_at hl 7 rfl) ?_
          refine lv_aload hx hb dX3_openView_125 (lv_at hl 6 rfl) ?_
          refine q_put C0 iX1 tyX1 tyX1_ok nmX1 hP hD hS (CP_v hC hb_r1).1 (CP_v hC hb_r1).2 rfl 0 (by decide) flX3_178 rfl rfl rfl rfl (Nat.le_of_ble_eq_true rfl) dX3_openView_127 (fun H locs hP hD hS => ?_)
          obtain ⟨F98, eF98⟩ : ∃ z, z = va_up F (gva G xv) (.inr (3, [.ref ((grh G (zbk σ xb))), .int (iI (zvl σ xv)), .int (iI (zvh σ xv))])) := ⟨_, rfl⟩
          have hP : va_P D vwCl (va_pl L F98) H := by rw [eF98]; exact hP
          have hD : va_D (AL L s.heap.size) (va_pl L F98) := by rw [eF98]; exact hD
          have hvF : F98 (gva G xv) = (.inr (3, [.ref ((grh G (zbk σ xb))), .int (iI (zvl σ xv)), .int (iI (zvh σ xv))])) := by rw [eF98]; exact va_up_self _ _ _
          have hO : OE O F F98 := by rw [eF98]; exact hO.tr (OE1 ((CP_O hC).2.2.2.2.2.1 _ hb_r1.1 hb_r1.2))
          have hC : CP y L F98 O G (sVw σ xv (zbk σ xb) (zvl σ xv) (zvh σ xv)) := by rw [eF98]; exact CP_vw hC hb_r1 (va_up_self _ _ _) (fun q hq => va_up_ne _ _ hq)
          refine lv_aload hx hb dX3_openView_130 (lv_at hl 7 rfl) ?_
          refine lv_iload_n hx hb dX3_openView_132 rfl (lv_at hl 11 rfl) ?_
          refine q_if_ne hx hb dX3_openView_133 (tgt := 140) (by decide) (by omega) (fun c99 => ?_) (fun c99 => ?_)
          · refine lv_iload hx hb dX3_openView_140 (lv_at hl 1 rfl) ?_
            refine q_put C0 iX1 tyX1 tyX1_ok nmX1 hP hD hS (CP_v hC hb_r1).1 hvF rfl 1 (by decide) flX3_182 rfl rfl rfl rfl (Nat.le_of_ble_eq_true rfl) dX3_openView_142 (fun H locs hP hD hS => ?_)
            obtain ⟨F100, eF100⟩ : ∃ z, z = va_up F98 (gva G xv) (.inr (3, [.ref ((grh G (zbk σ xb))), .int (iI (((turn (zod σ (zbk σ xb)) xlow) + 1))), .int (iI (zvh σ xv))])) := ⟨_, rfl⟩
            have hP : va_P D vwCl (va_pl L F100) H := by rw [eF100]; exact hP
            have hD : va_D (AL L s.heap.size) (va_pl L F100) := by rw [eF100]; exact hD
            have hvF : F100 (gva G xv) = (.inr (3, [.ref ((grh G (zbk σ xb))), .int (iI (((turn (zod σ (zbk σ xb)) xlow) + 1))), .int (iI (zvh σ xv))])) := by rw [eF100]; exact va_up_self _ _ _
            have hO : OE O F F100 := by rw [eF100]; exact hO.tr (OE1 ((CP_O hC).2.2.2.2.2.1 _ hb_r1.1 hb_r1.2))
            have hC : CP y L F100 O G (sVw (sVw σ xv (zbk σ xb) (zvl σ xv) (zvh σ xv)) xv (zbk σ xb) ((turn (zod σ (zbk σ xb)) xlow) + 1) (zvh σ xv)) := by rw [eF100]; exact CP_vw hC hb_r1 (va_up_self _ _ _) (fun q hq => va_up_ne _ _ hq)
            refine lv_aload hx hb dX3_openView_145 (lv_at hl 7 rfl) ?_
            refine lv_iload_n hx hb dX3_openView_147 rfl (lv_at hl 11 rfl) ?_
            refine q_iconst hx hb dX3_openView_148 ?_
            refine q_icmp_ne hx hb dX3_openView_149 (tgt := 157) (by decide) (by omega) (by omega) (fun c101 => ?_) (fun c101 => ?_)
            · refine lv_iload hx hb dX3_openView_157 (lv_at hl 0 rfl) ?_
              refine q_put C0 iX1 tyX1 tyX1_ok nmX1 hP hD hS (CP_v hC hb_r1).1 hvF rfl 2 (by decide) flX3_185 rfl rfl rfl rfl (Nat.le_of_ble_eq_true rfl) dX3_openView_159 (fun H locs hP hD hS => ?_)
              obtain ⟨F102, eF102⟩ : ∃ z, z = va_up F100 (gva G xv) (.inr (3, [.ref ((grh G (zbk σ xb))), .int (iI (((turn (zod σ (zbk σ xb)) xlow) + 1))), .int (iI ((turn (zod σ (zbk σ xb)) xhigh)))])) := ⟨_, rfl⟩
              have hP : va_P D vwCl (va_pl L F102) H := by rw [eF102]; exact hP
              have hD : va_D (AL L s.heap.size) (va_pl L F102) := by rw [eF102]; exact hD
              have hvF : F102 (gva G xv) = (.inr (3, [.ref ((grh G (zbk σ xb))), .int (iI (((turn (zod σ (zbk σ xb)) xlow) + 1))), .int (iI ((turn (zod σ (zbk σ xb)) xhigh)))])) := by rw [eF102]; exact va_up_self _ _ _
              have hO : OE O F F102 := by rw [eF102]; exact hO.tr (OE1 ((CP_O hC).2.2.2.2.2.1 _ hb_r1.1 hb_r1.2))
              have hC : CP y L F102 O G (sVw (sVw (sVw σ xv (zbk σ xb) (zvl σ xv) (zvh σ xv)) xv (zbk σ xb) ((turn (zod σ (zbk σ xb)) xlow) + 1) (zvh σ xv)) xv (zbk σ xb) ((turn (zod σ (zbk σ xb)) xlow) + 1) (turn (zod σ (zbk σ xb)) xhigh)) := by rw [eF102]; exact CP_vw hC hb_r1 (va_up_self _ _ _) (fun q hq => va_up_ne _ _ hq)
              refine lv_aload hx hb dX3_openView_162 (lv_at hl 6 rfl) ?_
              refine lv_aload hx hb dX3_openView_164 (lv_at hl 7 rfl) ?_
              refine q_get C0 iX1 hP (CP_v hC hb_r1).1 hvF rfl 1 (by decide) flX3_182 rfl rfl dX3_openView_166 ?_
              refine lv_aload hx hb dX3_openView_169 (lv_at hl 7 rfl) ?_
              refine q_get C0 iX1 hP (CP_v hC hb_r1).1 hvF rfl 2 (by decide) flX3_185 rfl rfl dX3_openView_171 ?_
              refine q_vS C0 lX3_188 (c_X0_countOfPart l D y L F102 (grh G (zbk σ xb)) (grw G (zbk σ xb)) (zod σ (zbk σ xb)) ((zst σ (zbk σ xb)).1) ((zst σ (zbk σ xb)).2.1) ((zst σ (zbk σ xb)).2.2) ((turn (zod σ (zbk σ xb)) xlow) + 1) (turn (zod σ (zbk σ xb)) xhigh) (CP_r hC (hW.1 xb)) (by omega) (by omega)) ⟨rfl, rfl⟩ rfl hP (CP_r hC (hW.1 xb)).1 (CP_r hC (hW.1 xb)).2.1 rfl rfl rfl hl rfl (Nat.le_of_ble_eq_true rfl) dX3_openView_174 ⟨Nat.le_of_ble_eq_true rfl, Nat.le_of_ble_eq_true rfl⟩ (fun r103 e_r103 => ?_)
              subst e_r103
              refine W.widen (k := 8) (n := 60) (Nat.le_of_ble_eq_true rfl) (Nat.le_of_ble_eq_true rfl) ?_
              exact vx_ret (q_retMi C0 hret rfl hlk dX3_openView_177 hP hD hS (⟨by omega, by omega, (by unfold kR_openView; rw [if_neg (by omega), show oLo (zod σ (zbk σ xb)) xkind xlow xends = ((turn (zod σ (zbk σ xb)) xlow) + 1) by (unfold oLo; (repeat' split) <;> first | rfl | omega), show oHi (zod σ (zbk σ xb)) xkind xhigh xends = (turn (zod σ (zbk σ xb)) xhigh) by (unfold oHi; (repeat' split) <;> first | rfl | omega)]), O, G, CP_eq hC (by rw [sVw2, sVw2]; unfold kS_openView; rw [if_neg (by omega), show oLo (zod σ (zbk σ xb)) xkind xlow xends = ((turn (zod σ (zbk σ xb)) xlow) + 1) by (unfold oLo; (repeat' split) <;> first | rfl | omega), show oHi (zod σ (zbk σ xb)) xkind xhigh xends = (turn (zod σ (zbk σ xb)) xhigh) by (unfold oHi; (repeat' split) <;> first | rfl | omega)]), rfl, Ext0 hO⟩))
            · refine q_bipush hx hb dX3_openView_152 (by decide) ?_
              refine lv_goto (tgt := 159) hx hb dX3_openView_154 (by decide) ?_
              refine q_put C0 iX1 tyX1 tyX1_ok nmX1 hP hD hS (CP_v hC hb_r1).1 hvF rfl 2 (by decide) flX3_185 rfl rfl rfl rfl (Nat.le_of_ble_eq_true rfl) dX3_openView_159 (fun H locs hP hD hS => ?_)
              obtain ⟨F104, eF104⟩ : ∃ z, z = va_up F100 (gva G xv) (.inr (3, [.ref ((grh G (zbk σ xb))), .int (iI (((turn (zod σ (zbk σ xb)) xlow) + 1))), .int (iI 99)])) := ⟨_, rfl⟩
              have hP : va_P D vwCl (va_pl L F104) H := by rw [eF104]; exact hP
              have hD : va_D (AL L s.heap.size) (va_pl L F104) := by rw [eF104]; exact hD
              have hvF : F104 (gva G xv) = (.inr (3, [.ref ((grh G (zbk σ xb))), .int (iI (((turn (zod σ (zbk σ xb)) xlow) + 1))), .int (iI 99)])) := by rw [eF104]; exact va_up_self _ _ _
              have hO : OE O F F104 := by rw [eF104]; exact hO.tr (OE1 ((CP_O hC).2.2.2.2.2.1 _ hb_r1.1 hb_r1.2))
              have hC : CP y L F104 O G (sVw (sVw (sVw σ xv (zbk σ xb) (zvl σ xv) (zvh σ xv)) xv (zbk σ xb) ((turn (zod σ (zbk σ xb)) xlow) + 1) (zvh σ xv)) xv (zbk σ xb) ((turn (zod σ (zbk σ xb)) xlow) + 1) 99) := by rw [eF104]; exact CP_vw hC hb_r1 (va_up_self _ _ _) (fun q hq => va_up_ne _ _ hq)
              refine lv_aload hx hb dX3_openView_162 (lv_at hl 6 rfl) ?_
              refine lv_aload hx hb dX3_openView_164 (lv_at hl 7 rfl) ?_
              refine q_get C0 iX1 hP (CP_v hC hb_r1).1 hvF rfl 1 (by decide) flX3_182 rfl rfl dX3_openView_166 ?_
              refine lv_aload hx hb dX3_openView_169 (lv_at hl 7 rfl) ?_
              refine q_get C0 iX1 hP (CP_v hC hb_r1).1 hvF rfl 2 (by decide) flX3_185 rfl rfl dX3_openView_171 ?_
              refine q_vS C0 lX3_188 (c_X0_countOfPart l D y L F104 (grh G (zbk σ xb)) (grw G (zbk σ xb)) (zod σ (zbk σ xb)) ((zst σ (zbk σ xb)).1) ((zst σ (zbk σ xb)).2.1) ((zst σ (zbk σ xb)).2.2) ((turn (zod σ (zbk σ xb)) xlow) + 1) 99 (CP_r hC (hW.1 xb)) (by omega) (by omega)) ⟨rfl, rfl⟩ rfl hP (CP_r hC (hW.1 xb)).1 (CP_r hC (hW.1 xb)).2.1 rfl rfl rfl hl rfl (Nat.le_of_ble_eq_true rfl) dX3_openView_174 ⟨Nat.le_of_ble_eq_true rfl, Nat.le_of_ble_eq_true rfl⟩ (fun r105 e_r105 => ?_)
              subst e_r105
              refine W.widen (k := 8) (n := 60) (Nat.le_of_ble_eq_true rfl) (Nat.le_of_ble_eq_true rfl) ?_
              exact vx_ret (q_retMi C0 hret rfl hlk dX3_openView_177 hP hD hS (⟨by omega, by omega, (by unfold kR_openView; rw [if_neg (by omega), show oLo (zod σ (zbk σ xb)) xkind xlow xends = ((turn (zod σ (zbk σ xb)) xlow) + 1) by (unfold oLo; (repeat' split) <;> first | rfl | omega), show oHi (zod σ (zbk σ xb)) xkind xhigh xends = 99 by (unfold oHi; (repeat' split) <;> first | rfl | omega)]), O, G, CP_eq hC (by rw [sVw2, sVw2]; unfold kS_openView; rw [if_neg (by omega), show oLo (zod σ (zbk σ xb)) xkind xlow xends = ((turn (zod σ (zbk σ xb)) xlow) + 1) by (unfold oLo; (repeat' split) <;> first | rfl | omega), show oHi (zod σ (zbk σ xb)) xkind xhigh xends = 99 by (unfold oHi; (repeat' split) <;> first | rfl | omega)]), rfl, Ext0 hO⟩))
          · refine q_iconst hx hb dX3_openView_136 ?_
            refine lv_goto (tgt := 142) hx hb dX3_openView_137 (by decide) ?_
            refine q_put C0 iX1 tyX1 tyX1_ok nmX1 hP hD hS (CP_v hC hb_r1).1 hvF rfl 1 (by decide) flX3_182 rfl rfl rfl rfl (Nat.le_of_ble_eq_true rfl) dX3_openView_142 (fun H locs hP hD hS => ?_)
            obtain ⟨F106, eF106⟩ : ∃ z, z = va_up F98 (gva G xv) (.inr (3, [.ref ((grh G (zbk σ xb))), .int (iI 0), .int (iI (zvh σ xv))])) := ⟨_, rfl⟩
            have hP : va_P D vwCl (va_pl L F106) H := by rw [eF106]; exact hP
            have hD : va_D (AL L s.heap.size) (va_pl L F106) := by rw [eF106]; exact hD
            have hvF : F106 (gva G xv) = (.inr (3, [.ref ((grh G (zbk σ xb))), .int (iI 0), .int (iI (zvh σ xv))])) := by rw [eF106]; exact va_up_self _ _ _
            have hO : OE O F F106 := by rw [eF106]; exact hO.tr (OE1 ((CP_O hC).2.2.2.2.2.1 _ hb_r1.1 hb_r1.2))
            have hC : CP y L F106 O G (sVw (sVw σ xv (zbk σ xb) (zvl σ xv) (zvh σ xv)) xv (zbk σ xb) 0 (zvh σ xv)) := by rw [eF106]; exact CP_vw hC hb_r1 (va_up_self _ _ _) (fun q hq => va_up_ne _ _ hq)
            refine lv_aload hx hb dX3_openView_145 (lv_at hl 7 rfl) ?_
            refine lv_iload_n hx hb dX3_openView_147 rfl (lv_at hl 11 rfl) ?_
            refine q_iconst hx hb dX3_openView_148 ?_
            refine q_icmp_ne hx hb dX3_openView_149 (tgt := 157) (by decide) (by omega) (by omega) (fun c107 => ?_) (fun c107 => ?_)
            · refine lv_iload hx hb dX3_openView_157 (lv_at hl 0 rfl) ?_
              refine q_put C0 iX1 tyX1 tyX1_ok nmX1 hP hD hS (CP_v hC hb_r1).1 hvF rfl 2 (by decide) flX3_185 rfl rfl rfl rfl (Nat.le_of_ble_eq_true rfl) dX3_openView_159 (fun H locs hP hD hS => ?_)
              obtain ⟨F108, eF108⟩ : ∃ z, z = va_up F106 (gva G xv) (.inr (3, [.ref ((grh G (zbk σ xb))), .int (iI 0), .int (iI ((turn (zod σ (zbk σ xb)) xhigh)))])) := ⟨_, rfl⟩
              have hP : va_P D vwCl (va_pl L F108) H := by rw [eF108]; exact hP
              have hD : va_D (AL L s.heap.size) (va_pl L F108) := by rw [eF108]; exact hD
              have hvF : F108 (gva G xv) = (.inr (3, [.ref ((grh G (zbk σ xb))), .int (iI 0), .int (iI ((turn (zod σ (zbk σ xb)) xhigh)))])) := by rw [eF108]; exact va_up_self _ _ _
              have hO : OE O F F108 := by rw [eF108]; exact hO.tr (OE1 ((CP_O hC).2.2.2.2.2.1 _ hb_r1.1 hb_r1.2))
              have hC : CP y L F108 O G (sVw (sVw (sVw σ xv (zbk σ xb) (zvl σ xv) (zvh σ xv)) xv (zbk σ xb) 0 (zvh σ xv)) xv (zbk σ xb) 0 (turn (zod σ (zbk σ xb)) xhigh)) := by rw [eF108]; exact CP_vw hC hb_r1 (va_up_self _ _ _) (fun q hq => va_up_ne _ _ hq)
              refine lv_aload hx hb dX3_openView_162 (lv_at hl 6 rfl) ?_
              refine lv_aload hx hb dX3_openView_164 (lv_at hl 7 rfl) ?_
              refine q_get C0 iX1 hP (CP_v hC hb_r1).1 hvF rfl 1 (by decide) flX3_182 rfl rfl dX3_openView_166 ?_
              refine lv_aload hx hb dX3_openView_169 (lv_at hl 7 rfl) ?_
              refine q_get C0 iX1 hP (CP_v hC hb_r1).1 hvF rfl 2 (by decide) flX3_185 rfl rfl dX3_openView_171 ?_
              refine q_vS C0 lX3_188 (c_X0_countOfPart l D y L F108 (grh G (zbk σ xb)) (grw G (zbk σ xb)) (zod σ (zbk σ xb)) ((zst σ (zbk σ xb)).1) ((zst σ (zbk σ xb)).2.1) ((zst σ (zbk σ xb)).2.2) 0 (turn (zod σ (zbk σ xb)) xhigh) (CP_r hC (hW.1 xb)) (by omega) (by omega)) ⟨rfl, rfl⟩ rfl hP (CP_r hC (hW.1 xb)).1 (CP_r hC (hW.1 xb)).2.1 rfl rfl rfl hl rfl (Nat.le_of_ble_eq_true rfl) dX3_openView_174 ⟨Nat.le_of_ble_eq_true rfl, Nat.le_of_ble_eq_true rfl⟩ (fun r109 e_r109 => ?_)
              subst e_r109
              refine W.widen (k := 8) (n := 60) (Nat.le_of_ble_eq_true rfl) (Nat.le_of_ble_eq_true rfl) ?_
              exact vx_ret (q_retMi C0 hret rfl hlk dX3_openView_177 hP hD hS (⟨by omega, by omega, (by unfold kR_openView; rw [if_neg (by omega), show oLo (zod σ (zbk σ xb)) xkind xlow xends = 0 by (unfold oLo; (repeat' split) <;> first | rfl | omega), show oHi (zod σ (zbk σ xb)) xkind xhigh xends = (turn (zod σ (zbk σ xb)) xhigh) by (unfold oHi; (repeat' split) <;> first | rfl | omega)]), O, G, CP_eq hC (by rw [sVw2, sVw2]; unfold kS_openView; rw [if_neg (by omega), show oLo (zod σ (zbk σ xb)) xkind xlow xends = 0 by (unfold oLo; (repeat' split) <;> first | rfl | omega), show oHi (zod σ (zbk σ xb)) xkind xhigh xends = (turn (zod σ (zbk σ xb)) xhigh) by (unfold oHi; (repeat' split) <;> first | rfl | omega)]), rfl, Ext0 hO⟩))
            · refine q_bipush hx hb dX3_openView_152 (by decide) ?_
              refine lv_goto (tgt := 159) hx hb dX3_openView_154 (by decide) ?_
              refine q_put C0 iX1 tyX1 tyX1_ok nmX1 hP hD hS (CP_v hC hb_r1).1 hvF rfl 2 (by decide) flX3_185 rfl rfl rfl rfl (Nat.le_of_ble_eq_true rfl) dX3_openView_159 (fun H locs hP hD hS => ?_)
              obtain ⟨F110, eF110⟩ : ∃ z, z = va_up F106 (gva G xv) (.inr (3, [.ref ((grh G (zbk σ xb))), .int (iI 0), .int (iI 99)])) := ⟨_, rfl⟩
              have hP : va_P D vwCl (va_pl L F110) H := by rw [eF110]; exact hP
              have hD : va_D (AL L s.heap.size) (va_pl L F110) := by rw [eF110]; exact hD
              have hvF : F110 (gva G xv) = (.inr (3, [.ref ((grh G (zbk σ xb))), .int (iI 0), .int (iI 99)])) := by rw [eF110]; exact va_up_self _ _ _
              have hO : OE O F F110 := by rw [eF110]; exact hO.tr (OE1 ((CP_O hC).2.2.2.2.2.1 _ hb_r1.1 hb_r1.2))
              have hC : CP y L F110 O G (sVw (sVw (sVw σ xv (zbk σ xb) (zvl σ xv) (zvh σ xv)) xv (zbk σ xb) 0 (zvh σ xv)) xv (zbk σ xb) 0 99) := by rw [eF110]; exact CP_vw hC hb_r1 (va_up_self _ _ _) (fun q hq => va_up_ne _ _ hq)
              refine lv_aload hx hb dX3_openView_162 (lv_at hl 6 rfl) ?_
              refine lv_aload hx hb dX3_openView_164 (lv_at hl 7 rfl) ?_
              refine q_get C0 iX1 hP (CP_v hC hb_r1).1 hvF rfl 1 (by decide) flX3_182 rfl rfl dX3_openView_166 ?_
              refine lv_aload hx hb dX3_openView_169 (lv_at hl 7 rfl) ?_
              refine q_get C0 iX1 hP (CP_v hC hb_r1).1 hvF rfl 2 (by decide) flX3_185 rfl rfl dX3_openView_171 ?_
              refine q_vS C0 lX3_188 (c_X0_countOfPart l D y L F110 (grh G (zbk σ xb)) (grw G (zbk σ xb)) (zod σ (zbk σ xb)) ((zst σ (zbk σ xb)).1) ((zst σ (zbk σ xb)).2.1) ((zst σ (zbk σ xb)).2.2) 0 99 (CP_r hC (hW.1 xb)) (by omega) (by omega)) ⟨rfl, rfl⟩ rfl hP (CP_r hC (hW.1 xb)).1 (CP_r hC (hW.1 xb)).2.1 rfl rfl rfl hl rfl (Nat.le_of_ble_eq_true rfl) dX3_openView_174 ⟨Nat.le_of_ble_eq_true rfl, Nat.le_of_ble_eq_true rfl⟩ (fun r111 e_r111 => ?_)
              subst e_r111
              refine W.widen (k := 8) (n := 60) (Nat.le_of_ble_eq_true rfl) (Nat.le_of_ble_eq_true rfl) ?_
              exact vx_ret (q_retMi C0 hret rfl hlk dX3_openView_177 hP hD hS (⟨by omega, by omega, (by unfold kR_openView; rw [if_neg (by omega), show oLo (zod σ (zbk σ xb)) xkind xlow xends = 0 by (unfold oLo; (repeat' split) <;> first | rfl | omega), show oHi (zod σ (zbk σ xb)) xkind xhigh xends = 99 by (unfold oHi; (repeat' split) <;> first | rfl | omega)]), O, G, CP_eq hC (by rw [sVw2, sVw2]; unfold kS_openView; rw [if_neg (by omega), show oLo (zod σ (zbk σ xb)) xkind xlow xends = 0 by (unfold oLo; (repeat' split) <;> first | rfl | omega), show oHi (zod σ (zbk σ xb)) xkind xhigh xends = 99 by (unfold oHi; (repeat' split) <;> first | rfl | omega)]), rfl, Ext0 hO⟩))
      · refine q_iconst hx hb dX3_openView_70 ?_
        refine lv_goto (tgt := 75) hx hb dX3_openView_71 (by decide) ?_
        refine lv_istore (lv' := [(11, .int (iI 1)), (10, .int (iI ((turn (zod σ (zbk σ xb)) xhigh)))), (9, .int (iI ((turn (zod σ (zbk σ xb)) xlow)))), (8, .ref ((grh G (zbk σ xb)))), (7, .ref ((gva G xv))), (0, .ref ((gbg G))), (1, .int (iI xv)), (2, .int (iI xb)), (3, .int (iI xkind)), (4, .int (iI xlow)), (5, .int (iI xhigh)), (6, .int (iI xends))]) hx hb dX3_openView_75 hl (by decide) rfl (fun ls hl => ?_)
        refine lv_iload hx hb dX3_openView_77 (lv_at hl 11 rfl) ?_
        refine q_iconst hx hb dX3_openView_79 ?_
        refine q_iand hx hb dX3_openView_80 ?_
        refine q_if_eq hx hb dX3_openView_81 (tgt := 88) (by decide) (by omega) (fun c112 => ?_) (fun c112 => ?_)
        · refine q_iconst hx hb dX3_openView_88 ?_
          refine lv_istore (lv' := [(12, .int (iI 0)), (11, .int (iI 1)), (10, .int (iI ((turn (zod σ (zbk σ xb)) xhigh)))), (9, .int (iI ((turn (zod σ (zbk σ xb)) xlow)))), (8, .ref ((grh G (zbk σ xb)))), (7, .ref ((gva G xv))), (0, .ref ((gbg G))), (1, .int (iI xv)), (2, .int (iI xb)), (3, .int (iI xkind)), (4, .int (iI xlow)), (5, .int (iI xhigh)), (6, .int (iI xends))]) hx hb dX3_openView_89 hl (by decide) rfl (fun ls hl => ?_)
          refine lv_iload hx hb dX3_openView_91 (lv_at hl 1 rfl) ?_
          refine q_if_eq hx hb dX3_openView_93 (tgt := 101) (by decide) (by omega) (fun c113 => absurd c113 (by omega)) (fun c113 => ?_)
          refine lv_iload hx hb dX3_openView_96 (lv_at hl 3 rfl) ?_
          refine lv_goto (tgt := 105) hx hb dX3_openView_98 (by decide) ?_
          refine lv_istore (lv' := [(13, .int (iI ((turn (zod σ (zbk σ xb)) xlow)))), (12, .int (iI 0)), (11, .int (iI 1)), (10, .int (iI ((turn (zod σ (zbk σ xb)) xhigh)))), (9, .int (iI ((turn (zod σ (zbk σ xb)) xlow)))), (8, .ref ((grh G (zbk σ xb)))), (7, .ref ((gva G xv))), (0, .ref ((gbg G))), (1, .int (iI xv)), (2, .int (iI xb)), (3, .int (iI xkind)), (4, .int (iI xlow)), (5, .int (iI xhigh)), (6, .int (iI xends))]) hx hb dX3_openView_105 hl (by decide) rfl (fun ls hl => ?_)
          refine lv_iload hx hb dX3_openView_107 (lv_at hl 1 rfl) ?_
          refine q_if_eq hx hb dX3_openView_109 (tgt := 117) (by decide) (by omega) (fun c114 => ?_) (fun c114 => absurd c114 (by omega))
          refine lv_iload hx hb dX3_openView_117 (lv_at hl 3 rfl) ?_
          refine q_iconst hx hb dX3_openView_119 ?_
          refine q_isub hx hb dX3_openView_120 ?_
          refine lv_istore (lv' := [(14, .int (iI (((turn (zod σ (zbk σ xb)) xhigh) - 1)))), (13, .int (iI ((turn (zod σ (zbk σ xb)) xlow)))), (12, .int (iI 0)), (11, .int (iI 1)), (10, .int (iI ((turn (zod σ (zbk σ xb)) xhigh)))), (9, .int (iI ((turn (zod σ (zbk σ xb)) xlow)))), (8, .ref ((grh G (zbk σ xb)))), (7, .ref ((gva G xv))), (0, .ref ((gbg G))), (1, .int (iI xv)), (2, .int (iI xb)), (3, .int (iI xkind)), (4, .int (iI xlow)), (5, .int (iI xhigh)), (6, .int (iI xends))]) hx hb dX3_openView_121 hl (by decide) rfl (fun ls hl => ?_)
          refine lv_aload hx hb dX3_openView_123 (lv_at hl 7 rfl) ?_
          refine lv_aload hx hb dX3_openView_125 (lv_at hl 6 rfl) ?_
          refine q_put C0 iX1 tyX1 tyX1_ok nmX1 hP hD hS (CP_v hC hb_r1).1 (CP_v hC hb_r1).2 rfl 0 (by decide) flX3_178 rfl rfl rfl rfl (Nat.le_of_ble_eq_true rfl) dX3_openView_127 (fun H locs hP hD hS => ?_)
          obtain ⟨F115, eF115⟩ : ∃ z, z = va_up F (gva G xv) (.inr (3, [.ref ((grh G (zbk σ xb))), .int (iI (zvl σ xv)), .int (iI (zvh σ xv))])) := ⟨_, rfl⟩
          have hP : va_P D vwCl (va_pl L F115) H := by rw [eF115]; exact hP
          have hD : va_D (AL L s.heap.size) (va_pl L F115) := by rw [eF115]; exact hD
          have hvF : F115 (gva G xv) = (.inr (3, [.ref ((grh G (zbk σ xb))), .int (iI (zvl σ xv)), .int (iI (zvh σ xv))])) := by rw [eF115]; exact va_up_self _ _ _
          have hO : OE O F F115 := by rw [eF115]; exact hO.tr (OE1 ((CP_O hC).2.2.2.2.2.1 _ hb_r1.1 hb_r1.2))
          have hC : CP y L F115 O G (sVw σ xv (zbk σ xb) (zvl σ xv) (zvh σ xv)) := by rw [eF115]; exact CP_vw hC hb_r1 (va_up_self _ _ _) (fun q hq => va_up_ne _ _ hq)
          refine lv_aload hx hb dX3_openView_130 (lv_at hl 7 rfl) ?_
          refine lv_iload_n hx hb dX3_openView_132 rfl (lv_at hl 11 rfl) ?_
          refine q_if_ne hx hb dX3_openView_133 (tgt := 140) (by decide) (by omega) (fun c116 => ?_) (fun c116 => ?_)
          · refine lv_iload hx hb dX3_openView_140 (lv_at hl 1 rfl) ?_
            refine q_put C0 iX1 tyX1 tyX1_ok nmX1 hP hD hS (CP_v hC hb_r1).1 hvF rfl 1 (by decide) flX3_182 rfl rfl rfl rfl (Nat.le_of_ble_eq_true rfl) dX3_openView_142 (fun H locs hP hD hS => ?_)
            obtain ⟨F117, eF117⟩ : ∃ z, z = va_up F115 (gva G xv) (.inr (3, [.ref ((grh G (zbk σ xb))), .int (iI ((turn (zod σ (zbk σ xb)) xlow))), .int (iI (zvh σ xv))])) := ⟨_, rfl⟩
            have hP : va_P D vwCl (va_pl L F117) H := by rw [eF117]; exact hP
            have hD : va_D (AL L s.heap.size) (va_pl L F117) := by rw [eF117]; exact hD
            have hvF : F117 (gva G xv) = (.inr (3, [.ref ((grh G (zbk σ xb))), .int (iI ((turn (zod σ (zbk σ xb)) xlow))), .int (iI (zvh σ xv))])) := by rw [eF117]; exact va_up_self _ _ _
            have hO : OE O F F117 := by rw [eF117]; exact hO.tr (OE1 ((CP_O hC).2.2.2.2.2.1 _ hb_r1.1 hb_r1.2))
            have hC : CP y L F117 O G (sVw (sVw σ xv (zbk σ xb) (zvl σ xv) (zvh σ xv)) xv (zbk σ xb) (turn (zod σ (zbk σ xb)) xlow) (zvh σ xv)) := by rw [eF117]; exact CP_vw hC hb_r1 (va_up_self _ _ _) (fun q hq => va_up_ne _ _ hq)
            refine lv_aload hx hb dX3_openView_145 (lv_at hl 7 rfl) ?_
            refine lv_iload_n hx hb dX3_openView_147 rfl (lv_at hl 11 rfl) ?_
            refine q_iconst hx hb dX3_openView_148 ?_
            refine q_icmp_ne hx hb dX3_openView_149 (tgt := 157) (by decide) (by omega) (by omega) (fun c118 => ?_) (fun c118 => ?_)
            · refine lv_iload hx hb dX3_openView_157 (lv_at hl 0 rfl) ?_
              refine q_put C0 iX1 tyX1 tyX1_ok nmX1 hP hD hS (CP_v hC hb_r1).1 hvF rfl 2 (by decide) flX3_185 rfl rfl rfl rfl (Nat.le_of_ble_eq_true rfl) dX3_openView_159 (fun H locs hP hD hS => ?_)
              obtain ⟨F119, eF119⟩ : ∃ z, z = va_up F117 (gva G xv) (.inr (3, [.ref ((grh G (zbk σ xb))), .int (iI ((turn (zod σ (zbk σ xb)) xlow))), .int (iI (((turn (zod σ (zbk σ xb)) xhigh) - 1)))])) := ⟨_, rfl⟩
              have hP : va_P D vwCl (va_pl L F119) H := by rw [eF119]; exact hP
              have hD : va_D (AL L s.heap.size) (va_pl L F119) := by rw [eF119]; exact hD
              have hvF : F119 (gva G xv) = (.inr (3, [.ref ((grh G (zbk σ xb))), .int (iI ((turn (zod σ (zbk σ xb)) xlow))), .int (iI (((turn (zod σ (zbk σ xb)) xhigh) - 1)))])) := by rw [eF119]; exact va_up_self _ _ _
              have hO : OE O F F119 := by rw [eF119]; exact hO.tr (OE1 ((CP_O hC).2.2.2.2.2.1 _ hb_r1.1 hb_r1.2))
              have hC : CP y L F119 O G (sVw (sVw (sVw σ xv (zbk σ xb) (zvl σ xv) (zvh σ xv)) xv (zbk σ xb) (turn (zod σ (zbk σ xb)) xlow) (zvh σ xv)) xv (zbk σ xb) (turn (zod σ (zbk σ xb)) xlow) ((turn (zod σ (zbk σ xb)) xhigh) - 1)) := by rw [eF119]; exact CP_vw hC hb_r1 (va_up_self _ _ _) (fun q hq => va_up_ne _ _ hq)
              refine lv_aload hx hb dX3_openView_162 (lv_at hl 6 rfl) ?_
              refine lv_aload hx hb dX3_openView_164 (lv_at hl 7 rfl) ?_
              refine q_get C0 iX1 hP (CP_v hC hb_r1).1 hvF rfl 1 (by decide) flX3_182 rfl rfl dX3_openView_166 ?_
              refine lv_aload hx hb dX3_openView_169 (lv_at hl 7 rfl) ?_
              refine q_get C0 iX1 hP (CP_v hC hb_r1).1 hvF rfl 2 (by decide) flX3_185 rfl rfl dX3_openView_171 ?_
              refine q_vS C0 lX3_188 (c_X0_countOfPart l D y L F119 (grh G (zbk σ xb)) (grw G (zbk σ xb)) (zod σ (zbk σ xb)) ((zst σ (zbk σ xb)).1) ((zst σ (zbk σ xb)).2.1) ((zst σ (zbk σ xb)).2.2) (turn (zod σ (zbk σ xb)) xlow) ((turn (zod σ (zbk σ xb)) xhigh) - 1) (CP_r hC (hW.1 xb)) (by omega) (by omega)) ⟨rfl, rfl⟩ rfl hP (CP_r hC (hW.1 xb)).1 (CP_r hC (hW.1 xb)).2.1 rfl rfl rfl hl rfl (Nat.le_of_ble_eq_true rfl) dX3_openView_174 ⟨Nat.le_of_ble_eq_true rfl, Nat.le_of_ble_eq_true rfl⟩ (fun r120 e_r120 => ?_)
              subst e_r120
              refine W.widen (k := 8) (n := 60) (Nat.le_of_ble_eq_true rfl) (Nat.le_of_ble_eq_true rfl) ?_
              exact vx_ret (q_retMi C0 hret rfl hlk dX3_openView_177 hP hD hS (⟨by omega, by omega, (by unfold kR_openView; rw [if_neg (by omega), show oLo (zod σ (zbk σ xb)) xkind xlow xends = (turn (zod σ (zbk σ xb)) xlow) by (unfold oLo; (repeat' split) <;> first | rfl | omega), show oHi (zod σ (zbk σ xb)) xkind xhigh xends = ((turn (zod σ (zbk σ xb)) xhigh) - 1) by (unfold oHi; (repeat' split) <;> first | rfl | omega)]), O, G, CP_eq hC (by rw [sVw2, sVw2]; unfold kS_openView; rw [if_neg (by omega), show oLo (zod σ (zbk σ xb)) xkind xlow xends = (turn (zod σ (zbk σ xb)) xlow) by (unfold oLo; (repeat' split) <;> first | rfl | omega), show oHi (zod σ (zbk σ xb)) xkind xhigh xends = ((turn (zod σ (zbk σ xb)) xhigh) - 1) by (unfold oHi; (repeat' split) <;> first | rfl | omega)]), rfl, Ext0 hO⟩))
            · refine q_bipush hx hb dX3_openView_152 (by decide) ?_
              refine lv_goto (tgt := 159) hx hb dX3_openView_154 (by decide) ?_
              refine q_put C0 iX1 tyX1 tyX1_ok nmX1 hP hD hS (CP_v hC hb_r1).1 hvF rfl 2 (by decide) flX3_185 rfl rfl rfl rfl (Nat.le_of_ble_eq_true rfl) dX3_openView_159 (fun H locs hP hD hS => ?_)
              obtain ⟨F121, eF121⟩ : ∃ z, z = va_up F117 (gva G xv) (.inr (3, [.ref ((grh G (zbk σ xb))), .int (iI ((turn (zod σ (zbk σ xb)) xlow))), .int (iI 99)])) := ⟨_, rfl⟩
              have hP : va_P D vwCl (va_pl L F121) H := by rw [eF121]; exact hP
              have hD : va_D (AL L s.heap.size) (va_pl L F121) := by rw [eF121]; exact hD
              have hvF : F121 (gva G xv) = (.inr (3, [.ref ((grh G (zbk σ xb))), .int (iI ((turn (zod σ (zbk σ xb)) xlow))), .int (iI 99)])) := by rw [eF121]; exact va_up_self _ _ _
              have hO : OE O F F121 := by rw [eF121]; exact hO.tr (OE1 ((CP_O hC).2.2.2.2.2.1 _ hb_r1.1 hb_r1.2))
              have hC : CP y L F121 O G (sVw (sVw (sVw σ xv (zbk σ xb) (zvl σ xv) (zvh σ xv)) xv (zbk σ xb) (turn (zod σ (zbk σ xb)) xlow) (zvh σ xv)) xv (zbk σ xb) (turn (zod σ (zbk σ xb)) xlow) 99) := by rw [eF121]; exact CP_vw hC hb_r1 (va_up_self _ _ _) (fun q hq => va_up_ne _ _ hq)
              refine lv_aload hx hb dX3_openView_162 (lv_at hl 6 rfl) ?_
              refine lv_aload hx hb dX3_openView_164 (lv_at hl 7 rfl) ?_
              refine q_get C0 iX1 hP (CP_v hC hb_r1).1 hvF rfl 1 (by decide) flX3_182 rfl rfl dX3_openView_166 ?_
              refine lv_aload hx hb dX3_openView_169 (lv_at hl 7 rfl) ?_
              refine q_get C0 iX1 hP (CP_v hC hb_r1).1 hvF rfl 2 (by decide) flX3_185 rfl rfl dX3_openView_171 ?_
              refine q_vS C0 lX3_188 (c_X0_countOfPart l D y L F121 (grh G (zbk σ xb)) (grw G (zbk σ xb)) (zod σ (zbk σ xb)) ((zst σ (zbk σ xb)).1) ((zst σ (zbk σ xb)).2.1) ((zst σ (zbk σ xb)).2.2) (turn (zod σ (zbk σ xb)) xlow) 99 (CP_r hC (hW.1 xb)) (by omega) (by omega)) ⟨rfl, rfl⟩ rfl hP (CP_r hC (hW.1 xb)).1 (CP_r hC (hW.1 xb)).2.1 rfl rfl rfl hl rfl (Nat.le_of_ble_eq_true rfl) dX3_openView_174 ⟨Nat.le_of_ble_eq_true rfl, Nat.le_of_ble_eq_true rfl⟩ (fun r122 e_r122 => ?_)
              subst e_r122
              refine W.widen (k := 8) (n := 60) (Nat.le_of_ble_eq_true rfl) (Nat.le_of_ble_eq_true rfl) ?_
              exact vx_ret (q_retMi C0 hret rfl hlk dX3_openView_177 hP hD hS (⟨by omega, by omega, (by unfold kR_openView; rw [if_neg (by omega), show oLo (zod σ (zbk σ xb)) xkind xlow xends = (turn (zod σ (zbk σ xb)) xlow) by (unfold oLo; (repeat' split) <;> first | rfl | omega), show oHi (zod σ (zbk σ xb)) xkind xhigh xends = 99 by (unfold oHi; (repeat' split) <;> first | rfl | omega)]), O, G, CP_eq hC (by rw [sVw2, sVw2]; unfold kS_openView; rw [if_neg (by omega), show oLo (zod σ (zbk σ xb)) xkind xlow xends = (turn (zod σ (zbk σ xb)) xlow) by (unfold oLo; (repeat' split) <;> first | rfl | omega), show oHi (zod σ (zbk σ xb)) xkind xhigh xends = 99 by (unfold oHi; (repeat' split) <;> first | rfl | omega)]), rfl, Ext0 hO⟩))
          · refine q_iconst hx hb dX3_openView_136 ?_
            refine lv_goto (tgt := 142) hx hb dX3_openView_137 (by decide) ?_
            refine q_put C0 iX1 tyX1 tyX1_ok nmX1 hP hD hS (CP_v hC hb_r1).1 hvF rfl 1 (by decide) flX3_182 rfl rfl rfl rfl (Nat.le_of_ble_eq_true rfl) dX3_openView_142 (fun H locs hP hD hS => ?_)
            obtain ⟨F123, eF123⟩ : ∃ z, z = va_up F115 (gva G xv) (.inr (3, [.ref ((grh G (zbk σ xb))), .int (iI 0), .int (iI (zvh σ xv))])) := ⟨_, rfl⟩
            have hP : va_P D vwCl (va_pl L F123) H := by rw [eF123]; exact hP
            have hD : va_D (AL L s.heap.size) (va_pl L F123) := by rw [eF123]; exact hD
            have hvF : F123 (gva G xv) = (.inr (3, [.ref ((grh G (zbk σ xb))), .int (iI 0), .int (iI (zvh σ xv))])) := by rw [eF123]; exact va_up_self _ _ _
            have hO : OE O F F123 := by rw [eF123]; exact hO.tr (OE1 ((CP_O hC).2.2.2.2.2.1 _ hb_r1.1 hb_r1.2))
            have hC : CP y L F123 O G (sVw (sVw σ xv (zbk σ xb) (zvl σ xv) (zvh σ xv)) xv (zbk σ xb) 0 (zvh σ xv)) := by rw [eF123]; exact CP_vw hC hb_r1 (va_up_self _ _ _) (fun q hq => va_up_ne _ _ hq)
            refine lv_aload hx hb dX3_openView_145 (lv_at hl 7 rfl) ?_
            refine lv_iload_n hx hb dX3_openView_147 rfl (lv_at hl 11 rfl) ?_
            refine q_iconst hx hb dX3_openView_148 ?_
            refine q_icmp_ne hx hb dX3_openView_149 (tgt := 157) (by decide) (by omega) (by omega) (fun c124 => ?_) (fun c124 => ?_)
            · refine lv_iload hx hb dX3_openView_157 (lv_at hl 0 rfl) ?_
              refine q_put C0 iX1 tyX1 tyX1_ok nmX1 hP hD hS (CP_v hC hb_r1).1 hvF rfl 2 (by decide) flX3_185 rfl rfl rfl rfl (Nat.le_of_ble_eq_true rfl) dX3_openView_159 (fun H locs hP hD hS => ?_)
              obtain ⟨F125, eF125⟩ : ∃ z, z = va_up F123 (gva G xv) (.inr (3, [.ref ((grh G (zbk σ xb))), .int (iI 0), .int (iI (((turn (zod σ (zbk σ xb)) xhigh) - 1)))])) := ⟨_, rfl⟩
              have hP : va_P D vwCl (va_pl L F125) H := by rw [eF125]; exact hP
              have hD : va_D (AL L s.heap.size) (va_pl L F125) := by rw [eF125]; exact hD
              have hvF : F125 (gva G xv) = (.inr (3, [.ref ((grh G (zbk σ xb))), .int (iI 0), .int (iI (((turn (zod σ (zbk σ xb)) xhigh) - 1)))])) := by rw [eF125]; exact va_up_self _ _ _
              have hO : OE O F F125 := by rw [eF125]; exact hO.tr (OE1 ((CP_O hC).2.2.2.2.2.1 _ hb_r1.1 hb_r1.2))
              have hC : CP y L F125 O G (sVw (sVw (sVw σ xv (zbk σ xb) (zvl σ xv) (zvh σ xv)) xv (zbk σ xb) 0 (zvh σ xv)) xv (zbk σ xb) 0 ((turn (zod σ (zbk σ xb)) xhigh) - 1)) := by rw [eF125]; exact CP_vw hC hb_r1 (va_up_self _ _ _) (fun q hq => va_up_ne _ _ hq)
              refine lv_aload hx hb dX3_openView_162 (lv_at hl 6 rfl) ?_
              refine lv_aload hx hb dX3_openView_164 (lv_at hl 7 rfl) ?_
              refine q_get C0 iX1 hP (CP_v hC hb_r1).1 hvF rfl 1 (by decide) flX3_182 rfl rfl dX3_openView_166 ?_
              refine lv_aload hx hb dX3_openView_169 (lv_at hl 7 rfl) ?_
              refine q_get C0 iX1 hP (CP_v hC hb_r1).1 hvF rfl 2 (by decide) flX3_185 rfl rfl dX3_openView_171 ?_
              refine q_vS C0 lX3_188 (c_X0_countOfPart l D y L F125 (grh G (zbk σ xb)) (grw G (zbk σ xb)) (zod σ (zbk σ xb)) ((zst σ (zbk σ xb)).1) ((zst σ (zbk σ xb)).2.1) ((zst σ (zbk σ xb)).2.2) 0 ((turn (zod σ (zbk σ xb)) xhigh) - 1) (CP_r hC (hW.1 xb)) (by omega) (by omega)) ⟨rfl, rfl⟩ rfl hP (CP_r hC (hW.1 xb)).1 (CP_r hC (hW.1 xb)).2.1 rfl rfl rfl hl rfl (Nat.le_of_ble_eq_true rfl) dX3_openView_174 ⟨Nat.le_of_ble_eq_true rfl, Nat.le_of_ble_eq_true rfl⟩ (fun r126 e_r126 => ?_)
              subst e_r126
              refine W.widen (k := 8) (n := 60) (Nat.le_of_ble_eq_true rfl) (Nat.le_of_ble_eq_true rfl) ?_
              exact vx_ret (q_retMi C0 hret rfl hlk dX3_openView_177 hP hD hS (⟨by omega, by omega, (by unfold kR_openView; rw [if_neg (by omega), show oLo (zod σ (zbk σ xb)) xkind xlow xends = 0 by (unfold oLo; (repeat' split) <;> first | rfl | omega), show oHi (zod σ (zbk σ xb)) xkind xhigh xends = ((turn (zod σ (zbk σ xb)) xhigh) - 1) by (unfold oHi; (repeat' split) <;> first | rfl | omega)]), O, G, CP_eq hC (by rw [sVw2, sVw2]; unfold kS_openView; rw [if_neg (by omega), show oLo (zod σ (zbk σ xb)) xkind xlow xends = 0 by (unfold oLo; (repeat' split) <;> first | rfl | omega), show oHi (zod σ (zbk σ xb)) xkind xhigh xends = ((turn (zod σ (zbk σ xb)) xhigh) - 1) by (unfold oHi; (repeat' split) <;> first | rfl | omega)]), rfl, Ext0 hO⟩))
            · refine q_bipush hx hb dX3_openView_152 (by decide) ?_
              refine lv_goto (tgt := 159) hx hb dX3_openView_154 (by decide) ?_
              refine q_put C0 iX1 tyX1 tyX1_ok nmX1 hP hD hS (CP_v hC hb_r1).1 hvF rfl 2 (by decide) flX3_185 rfl rfl rfl rfl (Nat.le_of_ble_eq_true rfl) dX3_openView_159 (fun H locs hP hD hS => ?_)
              obtain ⟨F127, eF127⟩ : ∃ z, z = va_up F123 (gva G xv) (.inr (3, [.ref ((grh G (zbk σ xb))), .int (iI 0), .int (iI 99)])) := ⟨_, rfl⟩
              have hP : va_P D vwCl (va_pl L F127) H := by rw [eF127]; exact hP
              have hD : va_D (AL L s.heap.size) (va_pl L F127) := by rw [eF127]; exact hD
              have hvF : F127 (gva G xv) = (.inr (3, [.ref ((grh G (zbk σ xb))), .int (iI 0), .int (iI 99)])) := by rw [eF127]; exact va_up_self _ _ _
              have hO : OE O F F127 := by rw [eF127]; exact hO.tr (OE1 ((CP_O hC).2.2.2.2.2.1 _ hb_r1.1 hb_r1.2))
              have hC : CP y L F127 O G (sVw (sVw (sVw σ xv (zbk σ xb) (zvl σ xv) (zvh σ xv)) xv (zbk σ xb) 0 (zvh σ xv)) xv (zbk σ xb) 0 99) := by rw [eF127]; exact CP_vw hC hb_r1 (va_up_self _ _ _) (fun q hq => va_up_ne _ _ hq)
              refine lv_aload hx hb dX3_openView_162 (lv_at hl 6 rfl) ?_
              refine lv_aload hx hb dX3_openView_164 (lv_at hl 7 rfl) ?_
              refine q_get C0 iX1 hP (CP_v hC hb_r1).1 hvF rfl 1 (by decide) flX3_182 rfl rfl dX3_openView_166 ?_
              refine lv_aload hx hb dX3_openView_169 (lv_at hl 7 rfl) ?_
              refine q_get C0 iX1 hP (CP_v hC hb_r1).1 hvF rfl 2 (by decide) flX3_185 rfl rfl dX3_openView_171 ?_
              refine q_vS C0 lX3_188 (c_X0_countOfPart l D y L F127 (grh G (zbk σ xb)) (grw G (zbk σ xb)) (zod σ (zbk σ xb)) ((zst σ (zbk σ xb)).1) ((zst σ (zbk σ xb)).2.1) ((zst σ (zbk σ xb)).2.2) 0 99 (CP_r hC (hW.1 xb)) (by omega) (by omega)) ⟨rfl, rfl⟩ rfl hP (CP_r hC (hW.1 xb)).1 (CP_r hC (hW.1 xb)).2.1 rfl rfl rfl hl rfl (Nat.le_of_ble_eq_true rfl) dX3_openView_174 ⟨Nat.le_of_ble_eq_true rfl, Nat.le_of_ble_eq_true rfl⟩ (fun r128 e_r128 => ?_)
              subst e_r128
              refine W.widen (k := 8) (n := 60) (Nat.le_of_ble_eq_true rfl) (Nat.le_of_ble_eq_true rfl) ?_
              exact vx_ret (q_retMi C0 hret rfl hlk dX3_openView_177 hP hD hS (⟨by omega, by omega, (by unfold kR_openView; rw [if_neg (by omega), show oLo (zod σ (zbk σ xb)) xkind xlow xends = 0 by (unfold oLo; (repeat' split) <;> first | rfl | omega), show oHi (zod σ (zbk σ xb)) xkind xhigh xends = 99 by (unfold oHi; (repeat' split) <;> first | rfl | omega)]), O, G, CP_eq hC (by rw [sVw2, sVw2]; unfold kS_openView; rw [if_neg (by omega), show oLo (zod σ (zbk σ xb)) xkind xlow xends = 0 by (unfold oLo; (repeat' split) <;> first | rfl | omega), show oHi (zod σ (zbk σ xb)) xkind xhigh xends = 99 by (unfold oHi; (repeat' split) <;> first | rfl | omega)]), rfl, Ext0 hO⟩))
        · refine q_iconst hx hb dX3_openView_84 ?_
          refine lv_goto (tgt := 89) hx hb dX3_openView_85 (by decide) ?_
          refine lv_istore (lv' := [(12, .int (iI 1)), (11, .int (iI 1)), (10, .int (iI ((turn (zod σ (zbk σ xb)) xhigh)))), (9, .int (iI ((turn (zod σ (zbk σ xb)) xlow)))), (8, .ref ((grh G (zbk σ xb)))), (7, .ref ((gva G xv))), (0, .ref ((gbg G))), (1, .int (iI xv)), (2, .int (iI xb)), (3, .int (iI xkind)), (4, .int (iI xlow)), (5, .int (iI xhigh)), (6, .int (iI xends))]) hx hb dX3_openView_89 hl (by decide) rfl (fun ls hl => ?_)
          refine lv_iload hx hb dX3_openView_91 (lv_at hl 1 rfl) ?_
          refine q_if_eq hx hb dX3_openView_93 (tgt := 101) (by decide) (by omega) (fun c129 => absurd c129 (by omega)) (fun c129 => ?_)
          refine lv_iload hx hb dX3_openView_96 (lv_at hl 3 rfl) ?_
          refine lv_goto (tgt := 105) hx hb dX3_openView_98 (by decide) ?_
          refine lv_istore (lv' := [(13, .int (iI ((turn (zod σ (zbk σ xb)) xlow)))), (12, .int (iI 1)), (11, .int (iI 1)), (10, .int (iI ((turn (zod σ (zbk σ xb)) xhigh)))), (9, .int (iI ((turn (zod σ (zbk σ xb)) xlow)))), (8, .ref ((grh G (zbk σ xb)))), (7, .ref ((gva G xv))), (0, .ref ((gbg G))), (1, .int (iI xv)), (2, .int (iI xb)), (3, .int (iI xkind)), (4, .int (iI xlow)), (5, .int (iI xhigh)), (6, .int (iI xends))]) hx hb dX3_openView_105 hl (by decide) rfl (fun ls hl => ?_)
          refine lv_iload hx hb dX3_openView_107 (lv_at hl 1 rfl) ?_
          refine q_if_eq hx hb dX3_openView_109 (tgt := 117) (by decide) (by omega) (fun c130 => absurd c130 (by omega)) (fun c130 => ?_)
          refine lv_iload hx hb dX3_openView_112 (lv_at hl 3 rfl) ?_
          refine lv_goto (tgt := 121) hx hb dX3_openView_114 (by decide) ?_
          refine lv_istore (lv' := [(14, .int (iI ((turn (zod σ (zbk σ xb)) xhigh)))), (13, .int (iI ((turn (zod σ (zbk σ xb)) xlow)))), (12, .int (iI 1)), (11, .int (iI 1)), (10, .int (iI ((turn (zod σ (zbk σ xb)) xhigh)))), (9, .int (iI ((turn (zod σ (zbk σ xb)) xlow)))), (8, .ref ((grh G (zbk σ xb)))), (7, .ref ((gva G xv))), (0, .ref ((gbg G))), (1, .int (iI xv)), (2, .int (iI xb)), (3, .int (iI xkind)), (4, .int (iI xlow)), (5, .int (iI xhigh)), (6, .int (iI xends))]) hx hb dX3_openView_121 hl (by decide) rfl (fun ls hl => ?_)
          refine lv_aload hx hb dX3_openView_123 (lv_at hl 7 rfl) ?_
          refine lv_aload hx hb dX3_openView_125 (lv_at hl 6 rfl) ?_
          refine q_put C0 iX1 tyX1 tyX1_ok nmX1 hP hD hS (CP_v hC hb_r1).1 (CP_v hC hb_r1).2 rfl 0 (by decide) flX3_178 rfl rfl rfl rfl (Nat.le_of_ble_eq_true rfl) dX3_openView_127 (fun H locs hP hD hS => ?_)
          obtain ⟨F131, eF131⟩ : ∃ z, z = va_up F (gva G xv) (.inr (3, [.ref ((grh G (zbk σ xb))), .int (iI (zvl σ xv)), .int (iI (zvh σ xv))])) := ⟨_, rfl⟩
          have hP : va_P D vwCl (va_pl L F131) H := by rw [eF131]; exact hP
          have hD : va_D (AL L s.heap.size) (va_pl L F131) := by rw [eF131]; exact hD
          have hvF : F131 (gva G xv) = (.inr (3, [.ref ((grh G (zbk σ xb))), .int (iI (zvl σ xv)), .int (iI (zvh σ xv))])) := by rw [eF131]; exact va_up_self _ _ _
          have hO : OE O F F131 := by rw [eF131]; exact hO.tr (OE1 ((CP_O hC).2.2.2.2.2.1 _ hb_r1.1 hb_r1.2))
          have hC : CP y L F131 O G (sVw σ xv (zbk σ xb) (zvl σ xv) (zvh σ xv)) := by rw [eF131]; exact CP_vw hC hb_r1 (va_up_self _ _ _) (fun q hq => va_up_ne _ _ hq)
          refine lv_aload hx hb dX3_openView_130 (lv_at hl 7 rfl) ?_
          refine lv_iload_n hx hb dX3_openView_132 rfl (lv_at hl 11 rfl) ?_
          refine q_if_ne hx hb dX3_openView_133 (tgt := 140) (by decide) (by omega) (fun c132 => ?_) (fun c132 => ?_)
          · refine lv_iload hx hb dX3_openView_140 (lv_at hl 1 rfl) ?_
            refine q_put C0 iX1 tyX1 tyX1_ok nmX1 hP hD hS (CP_v hC hb_r1).1 hvF rfl 1 (by decide) flX3_182 rfl rfl rfl rfl (Nat.le_of_ble_eq_true rfl) dX3_openView_142 (fun H locs hP hD hS => ?_)
            obtain ⟨F133, eF133⟩ : ∃ z, z = va_up F131 (gva G xv) (.inr (3, [.ref ((grh G (zbk σ xb))), .int (iI ((turn (zod σ (zbk σ xb)) xlow))), .int (iI (zvh σ xv))])) := ⟨_, rfl⟩
            have hP : va_P D vwCl (va_pl L F133) H := by rw [eF133]; exact hP
            have hD : va_D (AL L s.heap.size) (va_pl L F133) := by rw [eF133]; exact hD
            have hvF : F133 (gva G xv) = (.inr (3, [.ref ((grh G (zbk σ xb))), .int (iI ((turn (zod σ (zbk σ xb)) xlow))), .int (iI (zvh σ xv))])) := by rw [eF133]; exact va_up_self _ _ _
            have hO : OE O F F133 := by rw [eF133]; exact hO.tr (OE1 ((CP_O hC).2.2.2.2.2.1 _ hb_r1.1 hb_r1.2))
            have hC : CP y L F133 O G (sVw (sVw σ xv (zbk σ xb) (zvl σ xv) (zvh σ xv)) xv (zbk σ xb) (turn (zod σ (zbk σ xb)) xlow) (zvh σ xv)) := by rw [eF133]; exact CP_vw hC hb_r1 (va_up_self _ _ _) (fun q hq => va_up_ne _ _ hq)
            refine lv_aload hx hb dX3_openView_145 (lv_at hl 7 rfl) ?_
            refine lv_iload_n hx hb dX3_openView_147 rfl (lv_at hl 11 rfl) ?_
            refine q_iconst hx hb dX3_openView_148 ?_
            refine q_icmp_ne hx hb dX3_openView_149 (tgt := 157) (by decide) (by omega) (by omega) (fun c134 => ?_) (fun c134 => ?_)
            · refine lv_iload hx hb dX3_openView_157 (lv_at hl 0 rfl) ?_
              refine q_put C0 iX1 tyX1 tyX1_ok nmX1 hP hD hS (CP_v hC hb_r1).1 hvF rfl 2 (by decide) flX3_185 rfl rfl rfl rfl (Nat.le_of_ble_eq_true rfl) dX3_openView_159 (fun H locs hP hD hS => ?_)
              obtain ⟨F135, eF135⟩ : ∃ z, z = va_up F133 (gva G xv) (.inr (3, [.ref ((grh G (zbk σ xb))), .int (iI ((turn (zod σ (zbk σ xb)) xlow))), .int (iI ((turn (zod σ (zbk σ xb)) xhigh)))])) := ⟨_, rfl⟩
              have hP : va_P D vwCl (va_pl L F135) H := by rw [eF135]; exact hP
              have hD : va_D (AL L s.heap.size) (va_pl L F135) := by rw [eF135]; exact hD
              have hvF : F135 (gva G xv) = (.inr (3, [.ref ((grh G (zbk σ xb))), .int (iI ((turn (zod σ (zbk σ xb)) xlow))), .int (iI ((turn (zod σ (zbk σ xb)) xhigh)))])) := by rw [eF135]; exact va_up_self _ _ _
              have hO : OE O F F135 := by rw [eF135]; exact hO.tr (OE1 ((CP_O hC).2.2.2.2.2.1 _ hb_r1.1 hb_r1.2))
              have hC : CP y L F135 O G (sVw (sVw (sVw σ xv (zbk σ xb) (zvl σ xv) (zvh σ xv)) xv (zbk σ xb) (turn (zod σ (zbk σ xb)) xlow) (zvh σ xv)) xv (zbk σ xb) (turn (zod σ (zbk σ xb)) xlow) (turn (zod σ (zbk σ xb)) xhigh)) := by rw [eF135]; exact CP_vw hC hb_r1 (va_up_self _ _ _) (fun q hq => va_up_ne _ _ hq)
              refine lv_aload hx hb dX3_openView_162 (lv_at hl 6 rfl) ?_
              refine lv_aload hx hb dX3_openView_164 (lv_at hl 7 rfl) ?_
              refine q_get C0 iX1 hP (CP_v hC hb_r1).1 hvF rfl 1 (by decide) flX3_182 rfl rfl dX3_openView_166 ?_
              refine lv_aload hx hb dX3_openView_169 (lv_at hl 7 rfl) ?_
              refine q_get C0 iX1 hP (CP_v hC hb_r1).1 hvF rfl 2 (by decide) flX3_185 rfl rfl dX3_openView_171 ?_
              refine q_vS C0 lX3_188 (c_X0_countOfPart l D y L F135 (grh G (zbk σ xb)) (grw G (zbk σ xb)) (zod σ (zbk σ xb)) ((zst σ (zbk σ xb)).1) ((zst σ (zbk σ xb)).2.1) ((zst σ (zbk σ xb)).2.2) (turn (zod σ (zbk σ xb)) xlow) (turn (zod σ (zbk σ xb)) xhigh) (CP_r hC (hW.1 xb)) (by omega) (by omega)) ⟨rfl, rfl⟩ rfl hP (CP_r hC (hW.1 xb)).1 (CP_r hC (hW.1 xb)).2.1 rfl rfl rfl hl rfl (Nat.le_of_ble_eq_true rfl) dX3_openView_174 ⟨Nat.le_of_ble_eq_true rfl, Nat.le_of_ble_eq_true rfl⟩ (fun r136 e_r136 => ?_)
              subst e_r136
              refine W.widen (k := 8) (n := 60) (Nat.le_of_ble_eq_true rfl) (Nat.le_of_ble_eq_true rfl) ?_
              exact vx_ret (q_retMi C0 hret rfl hlk dX3_openView_177 hP hD hS (⟨by omega, by omega, (by unfold kR_openView; rw [if_neg (by omega), show oLo (zod σ (zbk σ xb)) xkind xlow xends = (turn (zod σ (zbk σ xb)) xlow) by (unfold oLo; (repeat' split) <;> first | rfl | omega), show oHi (zod σ (zbk σ xb)) xkind xhigh xends = (turn (zod σ (zbk σ xb)) xhigh) by (unfold oHi; (repeat' split) <;> first | rfl | omega)]), O, G, CP_eq hC (by rw [sVw2, sVw2]; unfold kS_openView; rw [if_neg (by omega), show oLo (zod σ (zbk σ xb)) xkind xlow xends = (turn (zod σ (zbk σ xb)) xlow) by (unfold oLo; (repeat' split) <;> first | rfl | omega), show oHi (zod σ (zbk σ xb)) xkind xhigh xends = (turn (zod σ (zbk σ xb)) xhigh) by (unfold oHi; (repeat' split) <;> first | rfl | omega)]), rfl, Ext0 hO⟩))
            · refine q_bipush hx hb dX3_openView_152 (by decide) ?_
              refine lv_goto (tgt := 159) hx hb dX3_openView_154 (by decide) ?_
              refine q_put C0 iX1 tyX1 tyX1_ok nmX1 hP hD hS (CP_v hC hb_r1).1 hvF rfl 2 (by decide) flX3_185 rfl rfl rfl rfl (Nat.le_of_ble_eq_true rfl) dX3_openView_159 (fun H locs hP hD hS => ?_)
              obtain ⟨F137, eF137⟩ : ∃ z, z = va_up F133 (gva G xv) (.inr (3, [.ref ((grh G (zbk σ xb))), .int (iI ((turn (zod σ (zbk σ xb)) xlow))), .int (iI 99)])) := ⟨_, rfl⟩
              have hP : va_P D vwCl (va_pl L F137) H := by rw [eF137]; exact hP
              have hD : va_D (AL L s.heap.size) (va_pl L F137) := by rw [eF137]; exact hD
              have hvF : F137 (gva G xv) = (.inr (3, [.ref ((grh G (zbk σ xb))), .int (iI ((turn (zod σ (zbk σ xb)) xlow))), .int (iI 99)])) := by rw [eF137]; exact va_up_self _ _ _
              have hO : OE O F F137 := by rw [eF137]; exact hO.tr (OE1 ((CP_O hC).2.2.2.2.2.1 _ hb_r1.1 hb_r1.2))
              have hC : CP y L F137 O G (sVw (sVw (sVw σ xv (zbk σ xb) (zvl σ xv) (zvh σ xv)) xv (zbk σ xb) (turn (zod σ (zbk σ xb)) xlow) (zvh σ xv)) xv (zbk σ xb) (turn (zod σ (zbk σ xb)) xlow) 99) := by rw [eF137]; exact CP_vw hC hb_r1 (va_up_self _ _ _) (fun q hq => va_up_ne _ _ hq)
              refine lv_aload hx hb dX3_openView_162 (lv_at hl 6 rfl) ?_
              refine lv_aload hx hb dX3_openView_164 (lv_at hl 7 rfl) ?_
              refine q_get C0 iX1 hP (CP_v hC hb_r1).1 hvF rfl 1 (by decide) flX3_182 rfl rfl dX3_openView_166 ?_
              refine lv_aload hx hb dX3_openView_169 (lv_at hl 7 rfl) ?_
              refine q_get C0 iX1 hP (CP_v hC hb_r1).1 hvF rfl 2 (by decide) flX3_185 rfl rfl dX3_openView_171 ?_
              refine q_vS C0 lX3_188 (c_X0_countOfPart l D y L F137 (grh G (zbk σ xb)) (grw G (zbk σ xb)) (zod σ (zbk σ xb)) ((zst σ (zbk σ xb)).1) ((zst σ (zbk σ xb)).2.1) ((zst σ (zbk σ xb)).2.2) (turn (zod σ (zbk σ xb)) xlow) 99 (CP_r hC (hW.1 xb)) (by omega) (by omega)) ⟨rfl, rfl⟩ rfl hP (CP_r hC (hW.1 xb)).1 (CP_r hC (hW.1 xb)).2.1 rfl rfl rfl hl rfl (Nat.le_of_ble_eq_true rfl) dX3_openView_174 ⟨Nat.le_of_ble_eq_true rfl, Nat.le_of_ble_eq_true rfl⟩ (fun r138 e_r138 => ?_)
              subst e_r138
              refine W.widen (k := 8) (n := 60) (Nat.le_of_ble_eq_true rfl) (Nat.le_of_ble_eq_true rfl) ?_
              exact vx_ret (q_retMi C0 hret rfl hlk dX3_openView_177 hP hD hS (⟨by omega, by omega, (by unfold kR_openView; rw [if_neg (by omega), show oLo (zod σ (zbk σ xb)) xkind xlow xends = (turn (zod σ (zbk σ xb)) xlow) by (unfold oLo; (repeat' split) <;> first | rfl | omega), show oHi (zod σ (zbk σ xb)) xkind xhigh xends = 99 by (unfold oHi; (repeat' split) <;> first | rfl | omega)]), O, G, CP_eq hC (by rw [sVw2, sVw2]; unfold kS_openView; rw [if_neg (by omega), show oLo (zod σ (zbk σ xb)) xkind xlow xends = (turn (zod σ (zbk σ xb)) xlow) by (unfold oLo; (repeat' split) <;> first | rfl | omega), show oHi (zod σ (zbk σ xb)) xkind xhigh xends = 99 by (unfold oHi; (repeat' split) <;> first | rfl | omega)]), rfl, Ext0 hO⟩))
          · refine q_iconst hx hb dX3_openView_136 ?_
            refine lv_goto (tgt := 142) hx hb dX3_openView_137 (by decide) ?_
            refine q_put C0 iX1 tyX1 tyX1_ok nmX1 hP hD hS (CP_v hC hb_r1).1 hvF rfl 1 (by decide) flX3_182 rfl rfl rfl rfl (Nat.le_of_ble_eq_true rfl) dX3_openView_142 (fun H locs hP hD hS => ?_)
            obtain ⟨F139, eF139⟩ : ∃ z, z = va_up F131 (gva G xv) (.inr (3, [.ref ((grh G (zbk σ xb))), .int (iI 0), .int (iI (zvh σ xv))])) := ⟨_, rfl⟩
            have hP : va_P D vwCl (va_pl L F139) H := by rw [eF139]; exact hP
            have hD : va_D (AL L s.heap.size) (va_pl L F139) := by rw [eF139]; exact hD
            have hvF : F139 (gva G xv) = (.inr (3, [.ref ((grh G (zbk σ xb))), .int (iI 0), .int (iI (zvh σ xv))])) := by rw [eF139]; exact va_up_self _ _ _
            have hO : OE O F F139 := by rw [eF139]; exact hO.tr (OE1 ((CP_O hC).2.2.2.2.2.1 _ hb_r1.1 hb_r1.2))
            have hC : CP y L F139 O G (sVw (sVw σ xv (zbk σ xb) (zvl σ xv) (zvh σ xv)) xv (zbk σ xb) 0 (zvh σ xv)) := by rw [eF139]; exact CP_vw hC hb_r1 (va_up_self _ _ _) (fun q hq => va_up_ne _ _ hq)
            refine lv_aload hx hb dX3_openView_145 (lv_at hl 7 rfl) ?_
            refine lv_iload_n hx hb dX3_openView_147 rfl (lv_at hl 11 rfl) ?_
            refine q_iconst hx hb dX3_openView_148 ?_
            refine q_icmp_ne hx hb dX3_openView_149 (tgt := 157) (by decide) (by omega) (by omega) (fun c140 => ?_) (fun c140 => ?_)
            · refine lv_iload hx hb dX3_openView_157 (lv_at hl 0 rfl) ?_
              refine q_put C0 iX1 tyX1 tyX1_ok nmX1 hP hD hS (CP_v hC hb_r1).1 hvF rfl 2 (by decide) flX3_185 rfl rfl rfl rfl (Nat.le_of_ble_eq_true rfl) dX3_openView_159 (fun H locs hP hD hS => ?_)
              obtain ⟨F141, eF141⟩ : ∃ z, z = va_up F139 (gva G xv) (.inr (3, [.ref ((grh G (zbk σ xb))), .int (iI 0), .int (iI ((turn (zod σ (zbk σ xb)) xhigh)))])) := ⟨_, rfl⟩
              have hP : va_P D vwCl (va_pl L F141) H := by rw [eF141]; exact hP
              have hD : va_D (AL L s.heap.size) (va_pl L F141) := by rw [eF141]; exact hD
              have hvF : F141 (gva G xv) = (.inr (3, [.ref ((grh G (zbk σ xb))), .int (iI 0), .int (iI ((turn (zod σ (zbk σ xb)) xhigh)))])) := by rw [eF141]; exact va_up_self _ _ _
              have hO : OE O F F141 := by rw [eF141]; exact hO.tr (OE1 ((CP_O hC).2.2.2.2.2.1 _ hb_r1.1 hb_r1.2))
              have hC : CP y L F141 O G (sVw (sVw (sVw σ xv (zbk σ xb) (zvl σ xv) (zvh σ xv)) xv (zbk σ xb) 0 (zvh σ xv)) xv (zbk σ xb) 0 (turn (zod σ (zbk σ xb)) xhigh)) := by rw [eF141]; exact CP_vw hC hb_r1 (va_up_self _ _ _) (fun q hq => va_up_ne _ _ hq)
              refine lv_aload hx hb dX3_openView_162 (lv_at hl 6 rfl) ?_
              refine lv_aload hx hb dX3_openView_164 (lv_at hl 7 rfl) ?_
              refine q_get C0 iX1 hP (CP_v hC hb_r1).1 hvF rfl 1 (by decide) flX3_182 rfl rfl dX3_openView_166 ?_
              refine lv_aload hx hb dX3_openView_169 (lv_at hl 7 rfl) ?_
              refine q_get C0 iX1 hP (CP_v hC hb_r1).1 hvF rfl 2 (by decide) flX3_185 rfl rfl dX3_openView_171 ?_
              refine q_vS C0 lX3_188 (c_X0_countOfPart l D y L F141 (grh G (zbk σ xb)) (grw G (zbk σ xb)) (zod σ (zbk σ xb)) ((zst σ (zbk σ xb)).1) ((zst σ (zbk σ xb)).2.1) ((zst σ (zbk σ xb)).2.2) 0 (turn (zod σ (zbk σ xb)) xhigh) (CP_r hC (hW.1 xb)) (by omega) (by omega)) ⟨rfl, rfl⟩ rfl hP (CP_r hC (hW.1 xb)).1 (CP_r hC (hW.1 xb)).2.1 rfl rfl rfl hl rfl (Nat.le_of_ble_eq_true rfl) dX3_openView_174 ⟨Nat.le_of_ble_eq_true rfl, Nat.le_of_ble_eq_true rfl⟩ (fun r142 e_r142 => ?_)
              subst e_r142
              refine W.widen (k := 8) (n := 60) (Nat.le_of_ble_eq_true rfl) (Nat.le_of_ble_eq_true rfl) ?_
              exact vx_ret (q_retMi C0 hret rfl hlk dX3_openView_177 hP hD hS (⟨by omega, by omega, (by unfold kR_openView; rw [if_neg (by omega), show oLo (zod σ (zbk σ xb)) xkind xlow xends = 0 by (unfold oLo; (repeat' split) <;> first | rfl | omega), show oHi (zod σ (zbk σ xb)) xkind xhigh xends = (turn (zod σ (zbk σ xb)) xhigh) by (unfold oHi; (repeat' split) <;> first | rfl | omega)]), O, G, CP_eq hC (by rw [sVw2, sVw2]; unfold kS_openView; rw [if_neg (by omega), show oLo (zod σ (zbk σ xb)) xkind xlow xends = 0 by (unfold oLo; (repeat' split) <;> first | rfl | omega), show oHi (zod σ (zbk σ xb)) xkind xhigh xends = (turn (zod σ (zbk σ xb)) xhigh) by (unfold oHi; (repeat' split) <;> first | rfl | omega)]), rfl, Ext0 hO⟩))
            · refine q_bipush hx hb dX3_openView_152 (by decide) ?_
              refine lv_goto (tgt := 159) hx hb dX3_openView_154 (by decide) ?_
              refine q_put C0 iX1 tyX1 tyX1_ok nmX1 hP hD hS (CP_v hC hb_r1).1 hvF rfl 2 (by decide) flX3_185 rfl rfl rfl rfl (Nat.le_of_ble_eq_true rfl) dX3_openView_159 (fun H locs hP hD hS => ?_)
              obtain ⟨F143, eF143⟩ : ∃ z, z = va_up F139 (gva G xv) (.inr (3, [.ref ((grh G (zbk σ xb))), .int (iI 0), .int (iI 99)])) := ⟨_, rfl⟩
              have hP : va_P D vwCl (va_pl L F143) H := by rw [eF143]; exact hP
              have hD : va_D (AL L s.heap.size) (va_pl L F143) := by rw [eF143]; exact hD
              have hvF : F143 (gva G xv) = (.inr (3, [.ref ((grh G (zbk σ xb))), .int (iI 0), .int (iI 99)])) := by rw [eF143]; exact va_up_self _ _ _
              have hO : OE O F F143 := by rw [eF143]; exact hO.tr (OE1 ((CP_O hC).2.2.2.2.2.1 _ hb_r1.1 hb_r1.2))
              have hC : CP y L F143 O G (sVw (sVw (sVw σ xv (zbk σ xb) (zvl σ xv) (zvh σ xv)) xv (zbk σ xb) 0 (zvh σ xv)) xv (zbk σ xb) 0 99) := by rw [eF143]; exact CP_vw hC hb_r1 (va_up_self _ _ _) (fun q hq => va_up_ne _ _ hq)
              refine lv_aload hx hb dX3_openView_162 (lv_at hl 6 rfl) ?_
              refine lv_aload hx hb dX3_openView_164 (lv_at hl 7 rfl) ?_
              refine q_get C0 iX1 hP (CP_v hC hb_r1).1 hvF rfl 1 (by decide) flX3_182 rfl rfl dX3_openView_166 ?_
              refine lv_aload hx hb dX3_openView_169 (lv_at hl 7 rfl) ?_
              refine q_get C0 iX1 hP (CP_v hC hb_r1).1 hvF rfl 2 (by decide) flX3_185 rfl rfl dX3_openView_171 ?_
              refine q_vS C0 lX3_188 (c_X0_countOfPart l D y L F143 (grh G (zbk σ xb)) (grw G (zbk σ xb)) (zod σ (zbk σ xb)) ((zst σ (zbk σ xb)).1) ((zst σ (zbk σ xb)).2.1) ((zst σ (zbk σ xb)).2.2) 0 99 (CP_r hC (hW.1 xb)) (by omega) (by omega)) ⟨rfl, rfl⟩ rfl hP (CP_r hC (hW.1 xb)).1 (CP_r hC (hW.1 xb)).2.1 rfl rfl rfl hl rfl (Nat.le_of_ble_eq_true rfl) dX3_openView_174 ⟨Nat.le_of_ble_eq_true rfl, Nat.le_of_ble_eq_true rfl⟩ (fun r144 e_r144 => ?_)
              subst e_r144
              refine W.widen (k := 8) (n := 60) (Nat.le_of_ble_eq_true rfl) (Nat.le_of_ble_eq_true rfl) ?_
              exact vx_ret (q_retMi C0 hret rfl hlk dX3_openView_177 hP hD hS (⟨by omega, by omega, (by unfold kR_openView; rw [if_neg (by omega), show oLo (zod σ (zbk σ xb)) xkind xlow xends = 0 by (unfold oLo; (repeat' split) <;> first | rfl | omega), show oHi (zod σ (zbk σ xb)) xkind xhigh xends = 99 by (unfold oHi; (repeat' split) <;> first | rfl | omega)]), O, G, CP_eq hC (by rw [sVw2, sVw2]; unfold kS_openView; rw [if_neg (by omega), show oLo (zod σ (zbk σ xb)) xkind xlow xends = 0 by (unfold oLo; (repeat' split) <;> first | rfl | omega), show oHi (zod σ (zbk σ xb)) xkind xhigh xends = 99 by (unfold oHi; (repeat' split) <;> first | rfl | omega)]), rfl, Ext0 hO⟩))
    · refine lv_aload_n hx hb dX3_openView_58 rfl (lv_at hl 4 rfl) ?_
      refine q_vMi C0 lX3_63 (c_X3_refuse l D y L F _ O G σ hC) ⟨rfl, rfl⟩ rfl hP hD hS hA hC.1.1 hC.1.2 rfl rfl rfl hl rfl (Nat.le_of_ble_eq_true rfl) dX3_openView_59 ⟨Nat.le_of_ble_eq_true rfl, Nat.le_of_ble_eq_true rfl⟩ (fun r145 H locs L146 F146 hP hD hS hz146 hp146 => ?_)
      obtain ⟨eL, hC, er, hO1⟩ := hp146
      subst eL
      subst er
      have hO := hO.tr hO1
      refine W.widen (k := 8) (n := 60) (Nat.le_of_ble_eq_true rfl) (Nat.le_of_ble_eq_true rfl) ?_
      exact vx_ret (q_retMi C0 hret rfl hlk dX3_openView_62 hP hD hS (⟨by omega, by omega, (by unfold kR_openView; rw [if_pos (by omega)]), O, G, CP_eq hC (by unfold kS_openView; rw [if_pos (by omega)]), rfl, Ext0 hO⟩))
set_option maxHeartbeats 3000000 in
set_option maxRecDepth 100000 in
theorem c_X3_narrowView (l : Launch) (hfl : l.stackTraces = false) (D : va_G) (y : Nat → ClassId) (L : List Nat) (F : Nat → va_E) (sz : Nat) (O : Nat → Prop) (G : CG) (σ : CS) (xv : Int) (xkind : Int) (xlow : Int) (xhigh : Int) (hC : CP y L F O G σ) (hW : CW σ) (h_xv : -2147483648 ≤ xv ∧ xv ≤ 2147483647) (h_xkind : -2147483648 ≤ xkind ∧ xkind ≤ 2147483647) (h_xlow : -2147483648 ≤ xlow ∧ xlow ≤ 2147483647) (h_xhigh : -2147483648 ≤ xhigh ∧ xhigh ≤ 2147483647) : vx_Met l yX3_narrowView (.code yX3_narrowView cX3_narrowView 10 (some .int) :: Tt) ({ frames := 8, cells := 8, slots := 60, locals := 125 }) (PcX D y L F sz [.ref ((gbg G)), .int (iI xv), .int (iI xkind), .int (iI xlow), .int (iI xhigh)]) (cMi D (AL L sz) (fun r L1 F1 => ((0 ≤ xv ∧ xv ≤ 1)) ∧ ((0 ≤ xkind ∧ xkind ≤ 2) ∧ (0 ≤ xlow ∧ xlow ≤ 99) ∧ (0 ≤ xhigh ∧ xhigh ≤ 99)) ∧ r = kR_narrowView σ xv xkind xlow xhigh ∧ ∃ O1 G1, CP y L1 F1 O1 G1 (kS_narrowView σ xv xkind xlow xhigh) ∧ gbg G1 = gbg G ∧ Ext O O1 L L1 F F1)) (XC (pX ((0 ≤ xv ∧ xv ≤ 1)) ((0 ≤ xkind ∧ xkind ≤ 2) ∧ (0 ≤ xlow ∧ xlow ≤ 99) ∧ (0 ≤ xhigh ∧ xhigh ≤ 99)))) 8 60 (AL L sz) := by
  have vb_ := hW.2.2.2.2.1 xv
  have hO : OE O F F := fun _ _ => rfl
  have hw4 := hW.2.2.2.2.2.1
  have hw5 := hW.2.2.2.2.2.2.1
  have hw6 := hW.2.2.2.2.2.2.2.2.2.2
  refine q_ofX (lv := [(0, .ref ((gbg G))), (1, .int (iI xv)), (2, .int (iI xkind)), (3, .int (iI xlow)), (4, .int (iI xhigh))]) (by decide) (Nat.le_of_ble_eq_true rfl) rfl (fun p e s m below meth c C0 hret hlk hout hsz hA hP hD hS hX ls hl => ?_)
  subst hsz
  have hx := C0.1.1
  have hb := C0.1.2.1
  have hts := C0.1.2.2.2.2
  refine lv_aload_n hx hb dX3_narrowView_0 rfl (lv_at hl 0 rfl) ?_
  refine lv_iload_n hx hb dX3_narrowView_1 rfl (lv_at hl 1 rfl) ?_
  refine q_vXa C0 lX3_171 (c_X3_viewAt l hfl D y L F _ O G σ xv hC (by omega)) ⟨rfl, rfl⟩ rfl hP hD hX hout hlk hC.1.1 hC.1.2 rfl rfl rfl hl rfl (Nat.le_of_ble_eq_true rfl) dX3_narrowView_2 ⟨Nat.le_of_ble_eq_true rfl, Nat.le_of_ble_eq_true rfl⟩ ⟨Nat.le_of_ble_eq_true rfl, Nat.le_of_ble_eq_true rfl⟩ (fun E h => Or.inl ⟨h.1, fun q => h.2 (by omega)⟩) (fun r1 e_r1 => ?_)
  refine W.widen (k := 1) (n := 6) (Nat.le_of_ble_eq_true rfl) (Nat.le_of_ble_eq_true rfl) ?_
  obtain ⟨hb_r1, e_r1⟩ := e_r1
  subst e_r1
  have hv_r1 := hW.2.2.2.2.1 xv
  refine lv_astore (lv' := [(5, .ref ((gva G xv))), (0, .ref ((gbg G))), (1, .int (iI xv)), (2, .int (iI xkind)), (3, .int (iI xlow)), (4, .int (iI xhigh))]) hx hb dX3_narrowView_5 hl (by decide) rfl (fun ls hl => ?_)
  refine lv_iload_n hx hb dX3_narrowView_7 rfl (lv_at hl 3 rfl) ?_
  refine lv_iload_n hx hb dX3_narrowView_8 rfl (lv_at hl 4 rfl) ?_
  refine lv_iload hx hb dX3_narrowView_9 (lv_at hl 5 rfl) ?_
  refine q_sXv C0 lX3_175 (c_X3_checkKindAndBounds l hfl D y L F _ xkind xlow xhigh (by omega) (by omega) (by omega)) ⟨rfl, rfl⟩ rfl hP hD hX hout hlk rfl hl rfl (Nat.le_of_ble_eq_true rfl) dX3_narrowView_11 ⟨Nat.le_of_ble_eq_true rfl, Nat.le_of_ble_eq_true rfl⟩ ⟨Nat.le_of_ble_eq_true rfl, Nat.le_of_ble_eq_true rfl⟩ (fun E h => Or.inr ⟨h.1, by first | trivial | omega, fun q => h.2 (by omega)⟩) (fun _ e_r2 => ?_)
  refine W.widen (k := 4) (n := 24) (Nat.le_of_ble_eq_true rfl) (Nat.le_of_ble_eq_true rfl) ?_
  refine lv_iload_n hx hb dX3_narrowView_14 rfl (lv_at hl 3 rfl) ?_
  refine q_if_ne hx hb dX3_narrowView_15 (tgt := 26) (by decide) (by omega) (fun c3 => ?_) (fun c3 => ?_)
  · refine lv_aload hx hb dX3_narrowView_26 (lv_at hl 0 rfl) ?_
    refine q_get C0 iX1 hP (CP_v hC hb_r1).1 (CP_v hC hb_r1).2 rfl 0 (by decide) flX3_178 rfl rfl dX3_narrowView_28 ?_
    refine lv_iload_n hx hb dX3_narrowView_31 rfl (lv_at hl 4 rfl) ?_
    refine q_vS C0 lX3_70 (c_X0_rankOf l D y L F (grh G (zvw σ xv)) (grw G (zvw σ xv)) (zod σ (zvw σ xv)) ((zst σ (zvw σ xv)).1) ((zst σ (zvw σ xv)).2.1) ((zst σ (zvw σ xv)).2.2) xlow (CP_r hC (hW.2.2.1 xv)) (by omega)) ⟨rfl, rfl⟩ rfl hP (CP_r hC (hW.2.2.1 xv)).1 (CP_r hC (hW.2.2.1 xv)).2.1 rfl rfl rfl hl rfl (Nat.le_of_ble_eq_true rfl) dX3_narrowView_32 ⟨Nat.le_of_ble_eq_true rfl, Nat.le_of_ble_eq_true rfl⟩ (fun r4 e_r4 => ?_)
    subst e_r4
    have b_5 := @turn_b (zod σ (zvw σ xv)) xlow (by omega)
    refine lv_istore (lv' := [(6, .int (iI ((turn (zod σ (zvw σ xv)) xlow)))), (5, .ref ((gva G xv))), (0, .ref ((gbg G))), (1, .int (iI xv)), (2, .int (iI xkind)), (3, .int (iI xlow)), (4, .int (iI xhigh))]) hx hb dX3_narrowView_35 hl (by decide) rfl (fun ls hl => ?_)
    refine lv_iload_n hx hb dX3_narrowView_37 rfl (lv_at hl 4 rfl) ?_
    refine q_iconst hx hb dX3_narrowView_38 ?_
    refine q_icmp_ne hx hb dX3_narrowView_39 (tgt := 50) (by decide) (by omega) (by omega) (fun c6 => ?_) (fun c6 => ?_)
    · refine lv_aload hx hb dX3_narrowView_50 (lv_at hl 1 rfl) ?_
      refine q_get C0 iX1 hP (CP_v hC hb_r1).1 (CP_v hC hb_r1).2 rfl 0 (by decide) flX3_178 rfl rfl dX3_narrowView_52 ?_
      refine lv_iload hx hb dX3_narrowView_55 (lv_at hl 6 rfl) ?_
      refine q_vS C0 lX3_70 (c_X0_rankOf l D y L F (grh G (zvw σ xv)) (grw G (zvw σ xv)) (zod σ (zvw σ xv)) ((zst σ (zvw σ xv)).1) ((zst σ (zvw σ xv)).2.1) ((zst σ (zvw σ xv)).2.2) xhigh (CP_r hC (hW.2.2.1 xv)) (by omega)) ⟨rfl, rfl⟩ rfl hP (CP_r hC (hW.2.2.1 xv)).1 (CP_r hC (hW.2.2.1 xv)).2.1 rfl rfl rfl hl rfl (Nat.le_of_ble_eq_true rfl) dX3_narrowView_57 ⟨Nat.le_of_ble_eq_true rfl, Nat.le_of_ble_eq_true rfl⟩ (fun r7 e_r7 => ?_)
      subst e_r7
      have b_8 := @turn_b (zod σ (zvw σ xv)) xhigh (by omega)
      refine lv_istore (lv' := [(7, .int (iI ((turn (zod σ (zvw σ xv)) xhigh)))), (6, .int (iI ((turn (zod σ (zvw σ xv)) xlow)))), (5, .ref ((gva G xv))), (0, .ref ((gbg G))), (1, .int (iI xv)), (2, .int (iI xkind)), (3, .int (iI xlow)), (4, .int (iI xhigh))]) hx hb dX3_narrowView_60 hl (by decide) rfl (fun ls hl => ?_)
      refine lv_iload_n hx hb dX3_narrowView_62 rfl (lv_at hl 5 rfl) ?_
      refine q_if_eq hx hb dX3_narrowView_63 (tgt := 80) (by decide) (by omega) (fun c9 => ?_) (fun c9 => ?_)
      · refine q_iconst hx hb dX3_narrowView_80 ?_
        refine lv_istore (lv' := [(8, .int (iI 0)), (7, .int (iI ((turn (zod σ (zvw σ xv)) xhigh)))), (6, .int (iI ((turn (zod σ (zvw σ xv)) xlow)))), (5, .ref ((gva G xv))), (0, .ref ((gbg G))), (1, .int (iI xv)), (2, .int (iI xkind)), (3, .int (iI xlow)), (4, .int (iI xhigh))]) hx hb dX3_narrowView_81 hl (by decide) rfl (fun ls hl => ?_)
        refine lv_iload_n hx hb dX3_narrowView_83 rfl (lv_at hl 6 rfl) ?_
        refine q_iconst hx hb dX3_narrowView_84 ?_
        refine q_icmp_eq hx hb dX3_narrowView_85 (tgt := 102) (by decide) (by omega) (by omega) (fun c10 => ?_) (fun c10 => ?_)
        · refine q_iconst hx hb dX3_narrowView_102 ?_
          refine lv_istore (lv' := [(9, .int (iI 0)), (8, .int (iI 0)), (7, .int (iI ((turn (zod σ (zvw σ xv)) xhigh)))), (6, .int (iI ((turn (zod σ (zvw σ xv)) xlow)))), (5, .ref ((gva G xv))), (0, .ref ((gbg G))), (1, .int (iI xv)), (2, .int (iI xkind)), (3, .int (iI xlow)), (4, .int (iI xhigh))]) hx hb dX3_narrowView_103 hl (by decide) rfl (fun ls hl => ?_)
          refine lv_iload hx hb dX3_narrowView_105 (lv_at hl 1 rfl) ?_
          refine q_if_ne hx hb dX3_narrowView_107 (tgt := 127) (by decide) (by omega) (fun c11 => absurd c11 (by omega)) (fun c11 => ?_)
          refine lv_iload hx hb dX3_narrowView_110 (lv_at hl 0 rfl) ?_
          refine q_if_ne hx hb dX3_narrowView_112 (tgt := 127) (by decide) (by omega) (fun c12 => absurd c12 (by omega)) (fun c12 => ?_)
          refine lv_iload_n hx hb dX3_narrowView_115 rfl (lv_at hl 7 rfl) ?_
          refine q_iconst hx hb dX3_narrowView_116 ?_
          refine q_icmp_ne hx hb dX3_narrowView_117 (tgt := 132) (by decide) (by omega) (by omega) (fun c13 => ?_) (fun c13 => ?_)
          · refine lv_aload hx hb dX3_narrowView_132 (lv_at hl 4 rfl) ?_
            refine lv_iload hx hb dX3_narrowView_134 (lv_at hl 3 rfl) ?_
            refine q_put C0 iX1 tyX1 tyX1_ok nmX1 hP hD hS (CP_v hC hb_r1).1 (CP_v hC hb_r1).2 rfl 1 (by decide) flX3_182 rfl rfl rfl rfl (Nat.le_of_ble_eq_true rfl) dX3_narrowView_136 (fun H locs hP hD hS => ?_)
            obtain ⟨F14, eF14⟩ : ∃ z, z = va_up F (gva G xv) (.inr (3, [.ref ((grh G (zvw σ xv))), .int (iI ((turn (zod σ (zvw σ xv)) xlow))), .int (iI (zvh σ xv))])) := ⟨_, rfl⟩
            have hP : va_P D vwCl (va_pl L F14) H := by rw [eF14]; exact hP
            have hD : va_D (AL L s.heap.size) (va_pl L F14) := by rw [eF14]; exact hD
            have hvF : F14 (gva G xv) = (.inr (3, [.ref ((grh G (zvw σ xv))), .int (iI ((turn (zod σ (zvw σ xv)) xlow))), .int (iI (zvh σ xv))])) := by rw [eF14]; exact va_up_self _ _ _
            have hO : OE O F F14 := by rw [eF14]; exact hO.tr (OE1 ((CP_O hC).2.2.2.2.2.1 _ hb_r1.1 hb_r1.2))
            have hC : CP y L F14 O G (sVw σ xv (zvw σ xv) (turn (zod σ (zvw σ xv)) xlow) (zvh σ xv)) := by rw [eF14]; exact CP_vw hC hb_r1 (va_up_self _ _ _) (fun q hq => va_up_ne _ _ hq)
            refine lv_aload hx hb dX3_narrowView_139 (lv_at hl 4 rfl) ?_
            refine lv_iload hx hb dX3_narrowView_141 (lv_at hl 2 rfl) ?_
            refine q_put C0 iX1 tyX1 tyX1_ok nmX1 hP hD hS (CP_v hC hb_r1).1 hvF rfl 2 (by decide) flX3_185 rfl rfl rfl rfl (Nat.le_of_ble_eq_true rfl) dX3_narrowView_143 (fun H locs hP hD hS => ?_)
            obtain ⟨F15, eF15⟩ : ∃ z, z = va_up F14 (gva G xv) (.inr (3, [.ref ((grh G (zvw σ xv))), .int (iI ((turn (zod σ (zvw σ xv)) xlow))), .int (iI ((turn (zod σ (zvw σ xv)) xhigh)))])) := ⟨_, rfl⟩
            have hP : va_P D vwCl (va_pl L F15) H := by rw [eF15]; exact hP
            have hD : va_D (AL L s.heap.size) (va_pl L F15) := by rw [eF15]; exact hD
            have hvF : F15 (gva G xv) = (.inr (3, [.ref ((grh G (zvw σ xv))), .int (iI ((turn (zod σ (zvw σ xv)) xlow))), .int (iI ((turn (zod σ (zvw σ xv)) xhigh)))])) := by rw [eF15]; exact va_up_self _ _ _
            have hO : OE O F F15 := by rw [eF15]; exact hO.tr (OE1 ((CP_O hC).2.2.2.2.2.1 _ hb_r1.1 hb_r1.2))
            have hC : CP y L F15 O G (sVw (sVw σ xv (zvw σ xv) (turn (zod σ (zvw σ xv)) xlow) (zvh σ xv)) xv (zvw σ xv) (turn (zod σ (zvw σ xv)) xlow) (turn (zod σ (zvw σ xv)) xhigh)) := by rw [eF15]; exact CP_vw hC hb_r1 (va_up_self _ _ _) (fun q hq => va_up_ne _ _ hq)
            refine lv_aload hx hb dX3_narrowView_146 (lv_at hl 4 rfl) ?_
            refine q_get C0 iX1 hP (CP_v hC hb_r1).1 hvF rfl 0 (by decide) flX3_178 rfl rfl dX3_narrowView_148 ?_
            refine lv_aload hx hb dX3_narrowView_151 (lv_at hl 4 rfl) ?_
            refine q_get C0 iX1 hP (CP_v hC hb_r1).1 hvF rfl 1 (by decide) flX3_182 rfl rfl dX3_narrowView_153 ?_
            refine lv_aload hx hb dX3_narrowView_156 (lv_at hl 4 rfl) ?_
            refine q_get C0 iX1 hP (CP_v hC hb_r1).1 hvF rfl 2 (by decide) flX3_185 rfl rfl dX3_narrowView_158 ?_
            refine q_vS C0 lX3_188 (c_X0_countOfPart l D y L F15 (grh G (zvw σ xv)) (grw G (zvw σ xv)) (zod σ (zvw σ xv)) ((zst σ (zvw σ xv)).1) ((zst σ (zvw σ xv)).2.1) ((zst σ (zvw σ xv)).2.2) (turn (zod σ (zvw σ xv)) xlow) (turn (zod σ (zvw σ xv)) xhigh) (CP_r hC (hW.2.2.1 xv)) (by omega) (by omega)) ⟨rfl, rfl⟩ rfl hP (CP_r hC (hW.2.2.1 xv)).1 (CP_r hC (hW.2.2.1 xv)).2.1 rfl rfl rfl hl rfl (Nat.le_of_ble_eq_true rfl) dX3_narrowView_161 ⟨Nat.le_of_ble_eq_true rfl, Nat.le_of_ble_eq_true rfl⟩ (fun r16 e_r16 => ?_)
            subst e_r16
            refine W.widen (k := 8) (n := 60) (Nat.le_of_ble_eq_true rfl) (Nat.le_of_ble_eq_true rfl) ?_
            exact vx_ret (q_retMi C0 hret rfl hlk dX3_narrowView_164 hP hD hS (⟨by omega, by omega, (by unfold kR_narrowView; rw [if_neg (by (unfold nRef; (repeat' split) <;> omega)), show nLo σ xv xkind xlow = (turn (zod σ (zvw σ xv)) xlow) by (unfold nLo; (repeat' split) <;> first | rfl | omega), show nHi σ xv xkind xhigh = (turn (zod σ (zvw σ xv)) xhigh) by (unfold nHi; (repeat' split) <;> first | rfl | omega)]), O, G, CP_eq hC (by rw [sVw2]; unfold kS_narrowView; rw [if_neg (by (unfold nRef; (repeat' split) <;> omega)), show nLo σ xv xkind xlow = (turn (zod σ (zvw σ xv)) xlow) by (unfold nLo; (repeat' split) <;> first | rfl | omega), show nHi σ xv xkind xhigh = (turn (zod σ (zvw σ xv)) xhigh) by (unfold nHi; (repeat' split) <;> first | rfl | omega)]), rfl, Ext0 hO⟩))
          · refine lv_iload hx hb dX3_narrowView_120 (lv_at hl 3 rfl) ?_
            refine lv_iload hx hb dX3_narrowView_122 (lv_at hl 2 rfl) ?_
            refine q_icmp_le hx hb dX3_narrowView_124 (tgt := 132) (by decide) (by omega) (by omega) (fun c17 => ?_) (fun c17 => ?_)
            · refine lv_aload hx hb dX3_narrowView_132 (lv_at hl 4 rfl) ?_
              refine lv_iload hx hb dX3_narrowView_134 (lv_at hl 3 rfl) ?_
              refine q_put C0 iX1 tyX1 tyX1_ok nmX1 hP hD hS (CP_v hC hb_r1).1 (CP_v hC hb_r1).2 rfl 1 (by decide) flX3_182 rfl rfl rfl rfl (Nat.le_of_ble_eq_true rfl) dX3_narrowView_136 (fun H locs hP hD hS => ?_)
              obtain ⟨F18, eF18⟩ : ∃ z, z = va_up F (gva G xv) (.inr (3, [.ref ((grh G (zvw σ xv))), .int (iI ((turn (zod σ (zvw σ xv)) xlow))), .int (iI (zvh σ xv))])) := ⟨_, rfl⟩
              have hP : va_P D vwCl (va_pl L F18) H := by rw [eF18]; exact hP
              have hD : va_D (AL L s.heap.size) (va_pl L F18) := by rw [eF18]; exact hD
              have hvF : F18 (gva G xv) = (.inr (3, [.ref ((grh G (zvw σ xv))), .int (iI ((turn (zod σ (zvw σ xv)) xlow))), .int (iI (zvh σ xv))])) := by rw [eF18]; exact va_up_self _ _ _
              have hO : OE O F F18 := by rw [eF18]; exact hO.tr (OE1 ((CP_O hC).2.2.2.2.2.1 _ hb_r1.1 hb_r1.2))
              have hC : CP y L F18 O G (sVw σ xv (zvw σ xv) (turn (zod σ (zvw σ xv)) xlow) (zvh σ xv)) := by rw [eF18]; exact CP_vw hC hb_r1 (va_up_self _ _ _) (fun q hq => va_up_ne _ _ hq)
              refine lv_aload hx hb dX3_narrowView_139 (lv_at hl 4 rfl) ?_
              refine lv_iload hx hb dX3_narrowView_141 (lv_at hl 2 rfl) ?_
              refine q_put C0 iX1 tyX1 tyX1_ok nmX1 hP hD hS (CP_v hC hb_r1).1 hvF rfl 2 (by decide) flX3_185 rfl rfl rfl rfl (Nat.le_of_ble_eq_true rfl) dX3_narrowView_143 (fun H locs hP hD hS => ?_)
              obtain ⟨F19, eF19⟩ : ∃ z, z = va_up F18 (gva G xv) (.inr (3, [.ref ((grh G (zvw σ xv))), .int (iI ((turn (zod σ (zvw σ xv)) xlow))), .int (iI ((turn (zod σ (zvw σ xv)) xhigh)))])) := ⟨_, rfl⟩
              have hP : va_P D vwCl (va_pl L F19) H := by rw [eF19]; exact hP
              have hD : va_D (AL L s.heap.size) (va_pl L F19) := by rw [eF19]; exact hD
              have hvF : F19 (gva G xv) = (.inr (3, [.ref ((grh G (zvw σ xv))), .int (iI ((turn (zod σ (zvw σ xv)) xlow))), .int (iI ((turn (zod σ (zvw σ xv)) xhigh)))])) := by rw [eF19]; exact va_up_self _ _ _
              have hO : OE O F F19 := by rw [eF19]; exact hO.tr (OE1 ((CP_O hC).2.2.2.2.2.1 _ hb_r1.1 hb_r1.2))
              have hC : CP y L F19 O G (sVw (sVw σ xv (zvw σ xv) (turn (zod σ (zvw σ xv)) xlow) (zvh σ xv)) xv (zvw σ xv) (turn (zod σ (zvw σ xv)) xlow) (turn (zod σ (zvw σ xv)) xhigh)) := by rw [eF19]; exact CP_vw hC hb_r1 (va_up_self _ _ _) (fun q hq => va_up_ne _ _ hq)
              refine lv_aload hx hb dX3_narrowView_146 (lv_at hl 4 rfl) ?_
              refine q_get C0 iX1 hP (CP_v hC hb_r1).1 hvF rfl 0 (by decide) flX3_178 rfl rfl dX3_narrowView_148 ?_
              refine lv_aload hx hb dX3_narrowView_151 (lv_at hl 4 rfl) ?_
              refine q_get C0 iX1 hP (CP_v hC hb_r1).1 hvF rfl 1 (by decide) flX3_182 rfl rfl dX3_narrowView_153 ?_
              refine lv_aload hx hb dX3_narrowView_156 (lv_at hl 4 rfl) ?_
              refine q_get C0 iX1 hP (CP_v hC hb_r1).1 hvF rfl 2 (by decide) flX3_185 rfl rfl dX3_narrowView_158 ?_
              refine q_vS C0 lX3_188 (c_X0_countOfPart l D y L F19 (grh G (zvw σ xv)) (grw G (zvw σ xv)) (zod σ (zvw σ xv)) ((zst σ (zvw σ xv)).1) ((zst σ (zvw σ xv)).2.1) ((zst σ (zvw σ xv)).2.2) (turn (zod σ (zvw σ xv)) xlow) (turn (zod σ (zvw σ xv)) xhigh) (CP_r hC (hW.2.2.1 xv)) (by omega) (by omega)) ⟨rfl, rfl⟩ rfl hP (CP_r hC (hW.2.2.1 xv)).1 (CP_r hC (hW.2.2.1 xv)).2.1 rfl rfl rfl hl rfl (Nat.le_of_ble_eq_true rfl) dX3_narrowView_161 ⟨Nat.le_of_ble_eq_true rfl, Nat.le_of_ble_eq_true rfl⟩ (fun r20 e_r20 => ?_)
              subst e_r20
              refine W.widen (k := 8) (n := 60) (Nat.le_of_ble_eq_true rfl) (Nat.le_of_ble_eq_true rfl) ?_
              exact vx_ret (q_retMi C0 hret rfl hlk dX3_narrowView_164 hP hD hS (⟨by omega, by omega, (by unfold kR_narrowView; rw [if_neg (by (unfold nRef; (repeat' split) <;> omega)), show nLo σ xv xkind xlow = (turn (zod σ (zvw σ xv)) xlow) by (unfold nLo; (repeat' split) <;> first | rfl | omega), show nHi σ xv xkind xhigh = (turn (zod σ (zvw σ xv)) xhigh) by (unfold nHi; (repeat' split) <;> first | rfl | omega)]), O, G, CP_eq hC (by rw [sVw2]; unfold kS_narrowView; rw [if_neg (by (unfold nRef; (repeat' split) <;> omega)), show nLo σ xv xkind xlow = (turn (zod σ (zvw σ xv)) xlow) by (unfold nLo; (repeat' split) <;> first | rfl | omega), show nHi σ xv xkind xhigh = (turn (zod σ (zvw σ xv)) xhigh) by (unfold nHi; (repeat' split) <;> first | rfl | omega)]), rfl, Ext0 hO⟩))
            · refine lv_aload_n hx hb dX3_narrowView_127 rfl (lv_at hl 5 rfl) ?_
              refine q_vMi C0 lX3_63 (c_X3_refuse l D y L F _ O G σ hC) ⟨rfl, rfl⟩ rfl hP hD hS hA hC.1.1 hC.1.2 rfl rfl rfl hl rfl (Nat.le_of_ble_eq_true rfl) dX3_narrowView_128 ⟨Nat.le_of_ble_eq_true rfl, Nat.le_of_ble_eq_true rfl⟩ (fun r21 H locs L22 F22 hP hD hS hz22 hp22 => ?_)
              obtain ⟨eL, hC, er, hO1⟩ := hp22
              subst eL
              subst er
              have hO := hO.tr hO1
              refine W.widen (k := 8) (n := 60) (Nat.le_of_ble_eq_true rfl) (Nat.le_of_ble_eq_true rfl) ?_
              exact vx_ret (q_retMi C0 hret rfl hlk dX3_narrowView_131 hP hD hS (⟨by omega, by omega, (by unfold kR_narrowView; rw [if_pos (by unfold nRef; (repeat' split) <;> first | rfl | omega)]), O, G, CP_eq hC (by unfold kS_narrowView; rw [if_pos (by unfold nRef; (repeat' split) <;> first | rfl | omega)]), rfl, Ext0 hO⟩))
        · refine lv_aload hx hb dX3_narrowView_88 (lv_at hl 3 rfl) ?_
          refine lv_iload hx hb dX3_narrowView_90 (lv_at hl 1 rfl) ?_
          refine q_vS C0 lX3_191 (c_X1_isWithin l D y L F (gva G xv) (grh G (zvw σ xv)) (zvl σ xv) (zvh σ xv) (turn (zod σ (zvw σ xv)) xhigh) (CP_v hC hb_r1).1 (CP_v hC hb_r1).2 (by omega) (by omega) (by omega)) ⟨rfl, rfl⟩ rfl hP (CP_v hC hb_r1).1 (CP_v hC hb_r1).2 rfl rfl rfl hl rfl (Nat.le_of_ble_eq_true rfl) dX3_narrowView_92 ⟨Nat.le_of_ble_eq_true rfl, Nat.le_of_ble_eq_true rfl⟩ (fun r23 e_r23 => ?_)
          subst e_r23
          refine q_if_ne hx hb dX3_narrowView_95 (tgt := 102) (by decide) (by omega) (fun c24 => ?_) (fun c24 => ?_)
          · refine q_iconst hx hb dX3_narrowView_102 ?_
            refine lv_istore (lv' := [(9, .int (iI 0)), (8, .int (iI 0)), (7, .int (iI ((turn (zod σ (zvw σ xv)) xhigh)))), (6, .int (iI ((turn (zod σ (zvw σ xv)) xlow)))), (5, .ref ((gva G xv))), (0, .ref ((gbg G))), (1, .int (iI xv)), (2, .int (iI xkind)), (3, .int (iI xlow)), (4, .int (iI xhigh))]) hx hb dX3_narrowView_103 hl (by decide) rfl (fun ls hl => ?_)
            refine lv_iload hx hb dX3_narrowView_105 (lv_at hl 1 rfl) ?_
            refine q_if_ne hx hb dX3_narrowView_107 (tgt := 127) (by decide) (by omega) (fun c25 => absurd c25 (by omega)) (fun c25 => ?_)
            refine lv_iload hx hb dX3_narrowView_110 (lv_at hl 0 rfl) ?_
            refine q_if_ne hx hb dX3_narrowView_112 (tgt := 127) (by decide) (by omega) (fun c26 => absurd c26 (by omega)) (fun c26 => ?_)
            refine lv_iload_n hx hb dX3_narrowView_115 rfl (lv_at hl 7 rfl) ?_
            refine q_iconst hx hb dX3_narrowView_116 ?_
            refine q_icmp_ne hx hb dX3_narrowView_117 (tgt := 132) (by decide) (by omega) (by omega) (fun c27 => ?_) (fun c27 => ?_)
            · refine lv_aload hx hb dX3_narrowView_132 (lv_at hl 4 rfl) ?_
              refine lv_iload hx hb dX3_narrowView_134 (lv_at hl 3 rfl) ?_
              refine q_put C0 iX1 tyX1 tyX1_ok nmX1 hP hD hS (CP_v hC hb_r1).1 (CP_v hC hb_r1).2 rfl 1 (by decide) flX3_182 rfl rfl rfl rfl (Nat.le_of_ble_eq_true rfl) dX3_narrowView_136 (fun H locs hP hD hS => ?_)
              obtain ⟨F28, eF28⟩ : ∃ z, z = va_up F (gva G xv) (.inr (3, [.ref ((grh G (zvw σ xv))), .int (iI ((turn (zod σ (zvw σ xv)) xlow))), .int (iI (zvh σ xv))])) := ⟨_, rfl⟩
              have hP : va_P D vwCl (va_pl L F28) H := by rw [eF28]; exact hP
              have hD : va_D (AL L s.heap.size) (va_pl L F28) := by rw [eF28]; exact hD
              have hvF : F28 (gva G xv) = (.inr (3, [.ref ((grh G (zvw σ xv))), .int (iI ((turn (zod σ (zvw σ xv)) xlow))), .int (iI (zvh σ xv))])) := by rw [eF28]; exact va_up_self _ _ _
              have hO : OE O F F28 := by rw [eF28]; exact hO.tr (OE1 ((CP_O hC).2.2.2.2.2.1 _ hb_r1.1 hb_r1.2))
              have hC : CP y L F28 O G (sVw σ xv (zvw σ xv) (turn (zod σ (zvw σ xv)) xlow) (zvh σ xv)) := by rw [eF28]; exact CP_vw hC hb_r1 (va_up_self _ _ _) (fun q hq => va_up_ne _ _ hq)
              refine lv_aload hx hb dX3_narrowView_139 (lv_at hl 4 rfl) ?_
              refine lv_iload hx hb dX3_narrowView_141 (lv_at hl 2 rfl) ?_
              refine q_put C0 iX1 tyX1 tyX1_ok nmX1 hP hD hS (CP_v hC hb_r1).1 hvF rfl 2 (by decide) flX3_185 rfl rfl rfl rfl (Nat.le_of_ble_eq_true rfl) dX3_narrowView_143 (fun H locs hP hD hS => ?_)
              obtain ⟨F29, eF29⟩ : ∃ z, z = va_up F28 (gva G xv) (.inr (3, [.ref ((grh G (zvw σ xv))), .int (iI ((turn (zod σ (zvw σ xv)) xlow))), .int (iI ((turn (zod σ (zvw σ xv)) xhigh)))])) := ⟨_, rfl⟩
              have hP : va_P D vwCl (va_pl L F29) H := by rw [eF29]; exact hP
              have hD : va_D (AL L s.heap.size) (va_pl L F29) := by rw [eF29]; exact hD
              have hvF : F29 (gva G xv) = (.inr (3, [.ref ((grh G (zvw σ xv))), .int (iI ((turn (zod σ (zvw σ xv)) xlow))), .int (iI ((turn (zod σ (zvw σ xv)) xhigh)))])) := by rw [eF29]; exact va_up_self _ _ _
              have hO : OE O F F29 := by rw [eF29]; exact hO.tr (OE1 ((CP_O hC).2.2.2.2.2.1 _ hb_r1.1 hb_r1.2))
              have hC : CP y L F29 O G (sVw (sVw σ xv (zvw σ xv) (turn (zod σ (zvw σ xv)) xlow) (zvh σ xv)) xv (zvw σ xv) (turn (zod σ (zvw σ xv)) xlow) (turn (zod σ (zvw σ xv)) xhigh)) := by rw [eF29]; exact CP_vw hC hb_r1 (va_up_self _ _ _) (fun q hq => va_up_ne _ _ hq)
              refine lv_aload hx hb dX3_narrowView_146 (lv_at hl 4 rfl) ?_
              refine q_get C0 iX1 hP (CP_v hC hb_r1).1 hvF rfl 0 (by decide) flX3_178 rfl rfl dX3_narrowView_148 ?_
              refine lv_aload hx hb dX3_narrowView_151 (lv_at hl 4 rfl) ?_
              refine q_get C0 iX1 hP (CP_v hC hb_r1).1 hvF rfl 1 (by decide) flX3_182 rfl rfl dX3_narrowView_153 ?_
              refine lv_aload hx hb dX3_narrowView_156 (lv_at hl 4 rfl) ?_
              refine q_get C0 iX1 hP (CP_v hC hb_r1).1 hvF rfl 2 (by decide) flX3_185 rfl rfl dX3_narrowView_158 ?_
              refine q_vS C0 lX3_188 (c_X0_countOfPart l D y L F29 (grh G (zvw σ xv)) (grw G (zvw σ xv)) (zod σ (zvw σ xv)) ((zst σ (zvw σ xv)).1) ((zst σ (zvw σ xv)).2.1) ((zst σ (zvw σ xv)).2.2) (turn (zod σ (zvw σ xv)) xlow) (turn (zod σ (zvw σ xv)) xhigh) (CP_r hC (hW.2.2.1 xv)) (by omega) (by omega)) ⟨rfl, rfl⟩ rfl hP (CP_r hC (hW.2.2.1 xv)).1 (CP_r hC (hW.2.2.1 xv)).2.1 rfl rfl rfl hl rfl (Nat.le_of_ble_eq_true rfl) dX3_narrowView_161 ⟨Nat.le_of_ble_eq_true rfl, Nat.le_of_ble_eq_true rfl⟩ (fun r30 e_r30 => ?_)
              subst e_r30
              refine W.widen (k := 8) (n := 60) (Nat.le_of_ble_eq_true rfl) (Nat.le_of_ble_eq_true rfl) ?_
              exact vx_ret (q_retMi C0 hret rfl hlk dX3_narrowView_164 hP hD hS (⟨by omega, by omega, (by unfold kR_narrowView; rw [if_neg (by (unfold nRef; (repeat' split) <;> omega)), show nLo σ xv xkind xlow = (turn (zod σ (zvw σ xv)) xlow) by (unfold nLo; (repeat' split) <;> first | rfl | omega), show nHi σ xv xkind xhigh = (turn (zod σ (zvw σ xv)) xhigh) by (unfold nHi; (repeat' split) <;> first | rfl | omega)]), O, G, CP_eq hC (by rw [sVw2]; unfold kS_narrowView; rw [if_neg (by (unfold nRef; (repeat' split) <;> omega)), show nLo σ xv xkind xlow = (turn (zod σ (zvw σ xv)) xlow) by (unfold nLo; (repeat' split) <;> first | rfl | omega), show nHi σ xv xkind xhigh = (turn (zod σ (zvw σ xv)) xhigh) by (unfold nHi; (repeat' split) <;> first | rfl | omega)]), rfl, Ext0 hO⟩))
            · refine lv_iload hx hb dX3_narrowView_120 (lv_at hl 3 rfl) ?_
              refine lv_iload hx hb dX3_narrowView_122 (lv_at hl 2 rfl) ?_
              refine q_icmp_le hx hb dX3_narrowView_124 (tgt := 132) (by decide) (by omega) (by omega) (fun c31 => ?_) (fun c31 => ?_)
              · refine lv_aload hx hb dX3_narrowView_132 (lv_at hl 4 rfl) ?_
                refine lv_iload hx hb dX3_narrowView_134 (lv_at hl 3 rfl) ?_
                refine q_put C0 iX1 tyX1 tyX1_ok nmX1 hP hD hS (CP_v hC hb_r1).1 (CP_v hC hb_r1).2 rfl 1 (by decide) flX3_182 rfl rfl rfl rfl (Nat.le_of_ble_eq_true rfl) dX3_narrowView_136 (fun H locs hP hD hS => ?_)
                obtain ⟨F32, eF32⟩ : ∃ z, z = va_up F (gva G xv) (.inr (3, [.ref ((grh G (zvw σ xv))), .int (iI ((turn (zod σ (zvw σ xv)) xlow))), .int (iI (zvh σ xv))])) := ⟨_, rfl⟩
                have hP : va_P D vwCl (va_pl L F32) H := by rw [eF32]; exact hP
                have hD : va_D (AL L s.heap.size) (va_pl L F32) := by rw [eF32]; exact hD
                have hvF : F32 (gva G xv) = (.inr (3, [.ref ((grh G (zvw σ xv))), .int (iI ((turn (zod σ (zvw σ xv)) xlow))), .int (iI (zvh σ xv))])) := by rw [eF32]; exact va_up_self _ _ _
                have hO : OE O F F32 := by rw [eF32]; exact hO.tr (OE1 ((CP_O hC).2.2.2.2.2.1 _ hb_r1.1 hb_r1.2))
                have hC : CP y L F32 O G (sVw σ xv (zvw σ xv) (turn (zod σ (zvw σ xv)) xlow) (zvh σ xv)) := by rw [eF32]; exact CP_vw hC hb_r1 (va_up_self _ _ _) (fun q hq => va_up_ne _ _ hq)
                refine lv_aload hx hb dX3_narrowView_139 (lv_at hl 4 rfl) ?_
                refine lv_iload hx hb dX3_narrowView_141 (lv_at hl 2 rfl) ?_
                refine q_put C0 iX1 tyX1 tyX1_ok nmX1 hP hD hS (CP_v hC hb_r1).1 hvF rfl 2 (by decide) flX3_185 rfl rfl rfl rfl (Nat.le_of_ble_eq_true rfl) dX3_narrowView_143 (fun H locs hP hD hS => ?_)
                obtain ⟨F33, eF33⟩ : ∃ z, z = va_up F32 (gva G xv) (.inr (3, [.ref ((grh G (zvw σ xv))), .int (iI ((turn (zod σ (zvw σ xv)) xlow))), .int (iI ((turn (zod σ (zvw σ xv)) xhigh)))])) := ⟨_, rfl⟩
                have hP : va_P D vwCl (va_pl L F33) H := by rw [eF33]; exact hP
                have hD : va_D (AL L s.heap.size) (va_pl L F33) := by rw [eF33]; exact hD
                have hvF : F33 (gva G xv) = (.inr (3, [.ref ((grh G (zvw σ xv))), .int (iI ((turn (zod σ (zvw σ xv)) xlow))), .int (iI ((turn (zod σ (zvw σ xv)) xhigh)))])) := by rw [eF33]; exact va_up_self _ _ _
                have hO : OE O F F33 := by rw [eF33]; exact hO.tr (OE1 ((CP_O hC).2.2.2.2.2.1 _ hb_r1.1 hb_r1.2))
                have hC : CP y L F33 O G (sVw (sVw σ xv (zvw σ xv) (turn (zod σ (zvw σ xv)) xlow) (zvh σ xv)) xv (zvw σ xv) (turn (zod σ (zvw σ xv)) xlow) (turn (zod σ (zvw σ xv)) xhigh)) := by rw [eF33]; exact CP_vw hC hb_r1 (va_up_self _ _ _) (fun q hq => va_up_ne _ _ hq)
                refine lv_aload hx hb dX3_narrowView_146 (lv_at hl 4 rfl) ?_
                refine q_get C0 iX1 hP (CP_v hC hb_r1).1 hvF rfl 0 (by decide) flX3_178 rfl rfl dX3_narrowView_148 ?_
                refine lv_aload hx hb dX3_narrowView_151 (lv_at hl 4 rfl) ?_
                refine q_get C0 iX1 hP (CP_v hC hb_r1).1 hvF rfl 1 (by decide) flX3_182 rfl rfl dX3_narrowView_153 ?_
                refine lv_aload hx hb dX3_narrowView_156 (lv_at hl 4 rfl) ?_
                refine q_get C0 iX1 hP (CP_v hC hb_r1).1 hvF rfl 2 (by decide) flX3_185 rfl rfl dX3_narrowView_158 ?_
                refine q_vS C0 lX3_188 (c_X0_countOfPart l D y L F33 (grh G (zvw σ xv)) (grw G (zvw σ xv)) (zod σ (zvw σ xv)) ((zst σ (zvw σ xv)).1) ((zst σ (zvw σ xv)).2.1) ((zst σ (zvw σ xv)).2.2) (turn (zod σ (zvw σ xv)) xlow) (turn (zod σ (zvw σ xv)) xhigh) (CP_r hC (hW.2.2.1 xv)) (by omega) (by omega)) ⟨rfl, rfl⟩ rfl hP (CP_r hC (hW.2.2.1 xv)).1 (CP_r hC (hW.2.2.1 xv)).2.1 rfl rfl rfl hl rfl (Nat.le_of_ble_eq_true rfl) dX3_narrowView_161 ⟨Nat.le_of_ble_eq_true rfl, Nat.le_of_ble_eq_true rfl⟩ (fun r34 e_r34 => ?_)
                subst e_r34
                refine W.widen (k := 8) (n := 60) (Nat.le_of_ble_eq_true rfl) (Nat.le_of_ble_eq_true rfl) ?_
                exact vx_ret (q_retMi C0 hret rfl hlk dX3_narrowView_164 hP hD hS (⟨by omega, by omega, (by unfold kR_narrowView; rw [if_neg (by (unfold nRef; (repeat' split) <;> omega)), show nLo σ xv xkind xlow = (turn (zod σ (zvw σ xv)) xlow) by (unfold nLo; (repeat' split) <;> first | rfl | omega), show nHi σ xv xkind xhigh = (turn (zod σ (zvw σ xv)) xhigh) by (unfold nHi; (repeat' split) <;> first | rfl | omega)]), O, G, CP_eq hC (by rw [sVw2]; unfold kS_narrowView; rw [if_neg (by (unfold nRef; (repeat' split) <;> omega)), show nLo σ xv xkind xlow = (turn (zod σ (zvw σ xv)) xlow) by (unfold nLo; (repeat' split) <;> first | rfl | omega), show nHi σ xv xkind xhigh = (turn (zod σ (zvw σ xv)) xhigh) by (unfold nHi; (repeat' split) <;> first | rfl | omega)]), rfl, Ext0 hO⟩))
              · refine lv_aload_n hx hb dX3_narrowView_127 rfl (lv_at hl 5 rfl) ?_
                refine q_vMi C0 lX3_63 (c_X3_refuse l D y L F _ O G σ hC) ⟨rfl, rfl⟩ rfl hP hD hS hA hC.1.1 hC.1.2 rfl rfl rfl hl rfl (Nat.le_of_ble_eq_true rfl) dX3_narrowView_128 ⟨Nat.le_of_ble_eq_true rfl, Nat.le_of_ble_eq_true rfl⟩ (fun r35 H locs L36 F36 hP hD hS hz36 hp36 => ?_)
                obtain ⟨eL, hC, er, hO1⟩ := hp36
                subst eL
                subst er
                have hO := hO.tr hO1
                refine W.widen (k := 8) (n := 60) (Nat.le_of_ble_eq_true rfl) (Nat.le_of_ble_eq_true rfl) ?_
                exact vx_ret (q_retMi C0 hret rfl hlk dX3_narrowView_131 hP hD hS (⟨by omega, by omega, (by unfold kR_narrowView; rw [if_pos (by unfold nRef; (repeat' split) <;> first | rfl | omega)]), O, G, CP_eq hC (by unfold kS_narrowView; rw [if_pos (by unfold nRef; (repeat' split) <;> first | rfl | omega)]), rfl, Ext0 hO⟩))
          · refine q_iconst hx hb dX3_narrowView_98 ?_
            refine lv_goto (tgt := 103) hx hb dX3_narrowView_99 (by decide) ?_
            refine lv_istore (lv' := [(9, .int (iI 1)), (8, .int (iI 0)), (7, .int (iI ((turn (zod σ (zvw σ xv)) xhigh)))), (6, .int (iI ((turn (zod σ (zvw σ xv)) xlow)))), (5, .ref ((gva G xv))), (0, .ref ((gbg G))), (1, .int (iI xv)), (2, .int (iI xkind)), (3, .int (iI xlow)), (4, .int (iI xhigh))]) hx hb dX3_narrowView_103 hl (by decide) rfl (fun ls hl => ?_)
            refine lv_iload hx hb dX3_narrowView_105 (lv_at hl 1 rfl) ?_
            refine q_if_ne hx hb dX3_narrowView_107 (tgt := 127) (by decide) (by omega) (fun c37 => absurd c37 (by omega)) (fun c37 => ?_)
            refine lv_iload hx hb dX3_narrowView_110 (lv_at hl 0 rfl) ?_
            refine q_if_ne hx hb dX3_narrowView_112 (tgt := 127) (by decide) (by omega) (fun c38 => ?_) (fun c38 => absurd c38 (by omega))
            refine lv_aload_n hx hb dX3_narrowView_127 rfl (lv_at hl 5 rfl) ?_
            refine q_vMi C0 lX3_63 (c_X3_refuse l D y L F _ O G σ hC) ⟨rfl, rfl⟩ rfl hP hD hS hA hC.1.1 hC.1.2 rfl rfl rfl hl rfl (Nat.le_of_ble_eq_true rfl) dX3_narrowView_128 ⟨Nat.le_of_ble_eq_true rfl, Nat.le_of_ble_eq_true rfl⟩ (fun r39 H locs L40 F40 hP hD hS hz40 hp40 => ?_)
            obtain ⟨eL, hC, er, hO1⟩ := hp40
            subst eL
            subst er
            have hO := hO.tr hO1
            refine W.widen (k := 8) (n := 60) (Nat.le_of_ble_eq_true rfl) (Nat.le_of_ble_eq_true rfl) ?_
            exact vx_ret (q_retMi C0 hret rfl hlk dX3_narrowView_131 hP hD hS (⟨by omega, by omega, (by unfold kR_narrowView; rw [if_pos (by unfold nRef; (repeat' split) <;> first | rfl | omega)]), O, G, CP_eq hC (by unfold kS_narrowView; rw [if_pos (by unfold nRef; (repeat' split) <;> first | rfl | omega)]), rfl, Ext0 hO⟩))
      · refine lv_aload hx hb dX3_narrowView_66 (lv_at hl 2 rfl) ?_
        refine lv_iload hx hb dX3_narrowView_68 (lv_at hl 1 rfl) ?_
        refine q_vS C0 lX3_191 (c_X1_isWithin l D y L F (gva G xv) (grh G (zvw σ xv)) (zvl σ xv) (zvh σ xv) (turn (zod σ (zvw σ xv)) xlow) (CP_v hC hb_r1).1 (CP_v hC hb_r1).2 (by omega) (by omega) (by omega)) ⟨rfl, rfl⟩ rfl hP (CP_v hC hb_r1).1 (CP_v hC hb_r1).2 rfl rfl rfl hl rfl (Nat.le_of_ble_eq_true rfl) dX3_narrowView_70 ⟨Nat.le_of_ble_eq_true rfl, Nat.le_of_ble_eq_true rfl⟩ (fun r41 e_r41 => ?_)
        subst e_r41
        refine q_if_ne hx hb dX3_narrowView_73 (tgt := 80) (by decide) (by omega) (fun c42 => ?_) (fun c42 => ?_)
        · refine q_iconst hx hb dX3_narrowView_80 ?_
          refine lv_istore (lv' := [(8, .int (iI 0)), (7, .int (iI ((turn (zod σ (zvw σ xv)) xhigh)))), (6, .int (iI ((turn (zod σ (zvw σ xv)) xlow)))), (5, .ref ((gva G xv))), (0, .ref ((gbg G))), (1, .int (iI xv)), (2, .int (iI xkind)), (3, .int (iI xlow)), (4, .int (iI xhigh))]) hx hb dX3_narrowView_81 hl (by decide) rfl (fun ls hl => ?_)
          refine lv_iload_n hx hb dX3_narrowView_83 rfl (lv_at hl 6 rfl) ?_
          refine q_iconst hx hb dX3_narrowView_84 ?_
          refine q_icmp_eq hx hb dX3_narrowView_85 (tgt := 102) (by decide) (by omega) (by omega) (fun c43 => ?_) (fun c43 => ?_)
          · refine q_iconst hx hb dX3_narrowView_102 ?_
            refine lv_istore (lv' := [(9, .int (iI 0)), (8, .int (iI 0)), (7, .int (iI ((turn (zod σ (zvw σ xv)) xhigh)))), (6, .int (iI ((turn (zod σ (zvw σ xv)) xlow)))), (5, .ref ((gva G xv))), (0, .ref ((gbg G))), (1, .int (iI xv)), (2, .int (iI xkind)), (3, .int (iI xlow)), (4, .int (iI xhigh))]) hx hb dX3_narrowView_103 hl (by decide) rfl (fun ls hl => ?_)
            refine lv_iload hx hb dX3_narrowView_105 (lv_at hl 1 rfl) ?_
            refine q_if_ne hx hb dX3_narrowView_107 (tgt := 127) (by decide) (by omega) (fun c44 => absurd c44 (by omega)) (fun c44 => ?_)
            refine lv_iload hx hb dX3_narrowView_110 (lv_at hl 0 rfl) ?_
            refine q_if_ne hx hb dX3_narrowView_112 (tgt := 127) (by decide) (by omega) (fun c45 => absurd c45 (by omega)) (fun c45 => ?_)
            refine lv_iload_n hx hb dX3_narrowView_115 rfl (lv_at hl 7 rfl) ?_
            refine q_iconst hx hb dX3_narrowView_116 ?_
            refine q_icmp_ne hx hb dX3_narrowView_117 (tgt := 132) (by decide) (by omega) (by omega) (fun c46 => ?_) (fun c46 => ?_)
            · refine lv_aload hx hb dX3_narrowView_132 (lv_at hl 4 rfl) ?_
              refine lv_iload hx hb dX3_narrowView_134 (lv_at hl 3 rfl) ?_
              refine q_put C0 iX1 tyX1 tyX1_ok nmX1 hP hD hS (CP_v hC hb_r1).1 (CP_v hC hb_r1).2 rfl 1 (by decide) flX3_182 rfl rfl rfl rfl (Nat.le_of_ble_eq_true rfl) dX3_narrowView_136 (fun H locs hP hD hS => ?_)
              obtain ⟨F47, eF47⟩ : ∃ z, z = va_up F (gva G xv) (.inr (3, [.ref ((grh G (zvw σ xv))), .int (iI ((turn (zod σ (zvw σ xv)) xlow))), .int (iI (zvh σ xv))])) := ⟨_, rfl⟩
              have hP : va_P D vwCl (va_pl L F47) H := by rw [eF47]; exact hP
              have hD : va_D (AL L s.heap.size) (va_pl L F47) := by rw [eF47]; exact hD
              have hvF : F47 (gva G xv) = (.inr (3, [.ref ((grh G (zvw σ xv))), .int (iI ((turn (zod σ (zvw σ xv)) xlow))), .int (iI (zvh σ xv))])) := by rw [eF47]; exact va_up_self _ _ _
              have hO : OE O F F47 := by rw [eF47]; exact hO.tr (OE1 ((CP_O hC).2.2.2.2.2.1 _ hb_r1.1 hb_r1.2))
              have hC : CP y L F47 O G (sVw σ xv (zvw σ xv) (turn (zod σ (zvw σ xv)) xlow) (zvh σ xv)) := by rw [eF47]; exact CP_vw hC hb_r1 (va_up_self _ _ _) (fun q hq => va_up_ne _ _ hq)
              refine lv_aload hx hb dX3_narrowView_139 (lv_at hl 4 rfl) ?_
              refine lv_iload hx hb dX3_narrowView_141 (lv_at hl 2 rfl) ?_
              refine q_put C0 iX1 tyX1 tyX1_ok nmX1 hP hD hS (CP_v hC hb_r1).1 hvF rfl 2 (by decide) flX3_185 rfl rfl rfl rfl (Nat.le_of_ble_eq_true rfl) dX3_narrowView_143 (fun H locs hP hD hS => ?_)
              obtain ⟨F48, eF48⟩ : ∃ z, z = va_up F47 (gva G xv) (.inr (3, [.ref ((grh G (zvw σ xv))), .int (iI ((turn (zod σ (zvw σ xv)) xlow))), .int (iI ((turn (zod σ (zvw σ xv)) xhigh)))])) := ⟨_, rfl⟩
              have hP : va_P D vwCl (va_pl L F48) H := by rw [eF48]; exact hP
              have hD : va_D (AL L s.heap.size) (va_pl L F48) := by rw [eF48]; exact hD
              have hvF : F48 (gva G xv) = (.inr (3, [.ref ((grh G (zvw σ xv))), .int (iI ((turn (zod σ (zvw σ xv)) xlow))), .int (iI ((turn (zod σ (zvw σ xv)) xhigh)))])) := by rw [eF48]; exact va_up_self _ _ _
              have hO : OE O F F48 := by rw [eF48]; exact hO.tr (OE1 ((CP_O hC).2.2.2.2.2.1 _ hb_r1.1 hb_r1.2))
              have hC : CP y L F48 O G (sVw (sVw σ xv (zvw σ xv) (turn (zod σ (zvw σ xv)) xlow) (zvh σ xv)) xv (zvw σ xv) (turn (zod σ (zvw σ xv)) xlow) (turn (zod σ (zvw σ xv)) xhigh)) := by rw [eF48]; exact CP_vw hC hb_r1 (va_up_self _ _ _) (fun q hq => va_up_ne _ _ hq)
              refine lv_aload hx hb dX3_narrowView_146 (lv_at hl 4 rfl) ?_
              refine q_get C0 iX1 hP (CP_v hC hb_r1).1 hvF rfl 0 (by decide) flX3_178 rfl rfl dX3_narrowView_148 ?_
              refine lv_aload hx hb dX3_narrowView_151 (lv_at hl 4 rfl) ?_
              refine q_get C0 iX1 hP (CP_v hC hb_r1).1 hvF rfl 1 (by decide) flX3_182 rfl rfl dX3_narrowView_153 ?_
              refine lv_aload hx hb dX3_narrowView_156 (lv_at hl 4 rfl) ?_
              refine q_get C0 iX1 hP (CP_v hC hb_r1).1 hvF rfl 2 (by decide) flX3_185 rfl rfl dX3_narrowView_158 ?_
              refine q_vS C0 lX3_188 (c_X0_countOfPart l D y L F48 (grh G (zvw σ xv)) (grw G (zvw σ xv)) (zod σ (zvw σ xv)) ((zst σ (zvw σ xv)).1) ((zst σ (zvw σ xv)).2.1) ((zst σ (zvw σ xv)).2.2) (turn (zod σ (zvw σ xv)) xlow) (turn (zod σ (zvw σ xv)) xhigh) (CP_r hC (hW.2.2.1 xv)) (by omega) (by omega)) ⟨rfl, rfl⟩ rfl hP (CP_r hC (hW.2.2.1 xv)).1 (CP_r hC (hW.2.2.1 xv)).2.1 rfl rfl rfl hl rfl (Nat.le_of_ble_eq_true rfl) dX3_narrowView_161 ⟨Nat.le_of_ble_eq_true rfl, Nat.le_of_ble_eq_true rfl⟩ (fun r49 e_r49 => ?_)
              subst e_r49
              refine W.widen (k := 8) (n := 60) (Nat.le_of_ble_eq_true rfl) (Nat.le_of_ble_eq_true rfl) ?_
              exact vx_ret (q_retMi C0 hret rfl hlk dX3_narrowView_164 hP hD hS (⟨by omega, by omega, (by unfold kR_narrowView; rw [if_neg (by (unfold nRef; (repeat' split) <;> omega)), show nLo σ xv xkind xlow = (turn (zod σ (zvw σ xv)) xlow) by (unfold nLo; (repeat' split) <;> first | rfl | omega), show nHi σ xv xkind xhigh = (turn (zod σ (zvw σ xv)) xhigh) by (unfold nHi; (repeat' split) <;> first | rfl | omega)]), O, G, CP_eq hC (by rw [sVw2]; unfold kS_narrowView; rw [if_neg (by (unfold nRef; (repeat' split) <;> omega)), show nLo σ xv xkind xlow = (turn (zod σ (zvw σ xv)) xlow) by (unfold nLo; (repeat' split) <;> first | rfl | omega), show nHi σ xv xkind xhigh = (turn (zod σ (zvw σ xv)) xhigh) by (unfold nHi; (repeat' split) <;> first | rfl | omega)]), rfl, Ext0 hO⟩))
            · refine lv_iload hx hb dX3_narrowView_120 (lv_at hl 3 rfl) ?_
              refine lv_iload hx hb dX3_narrowView_122 (lv_at hl 2 rfl) ?_
              refine q_icmp_le hx hb dX3_narrowView_124 (tgt := 132) (by decide) (by omega) (by omega) (fun c50 => ?_) (fun c50 => ?_)
              · refine lv_aload hx hb dX3_narrowView_132 (lv_at hl 4 rfl) ?_
                refine lv_iload hx hb dX3_narrowView_134 (lv_at hl 3 rfl) ?_
                refine q_put C0 iX1 tyX1 tyX1_ok nmX1 hP hD hS (CP_v hC hb_r1).1 (CP_v hC hb_r1).2 rfl 1 (by decide) flX3_182 rfl rfl rfl rfl (Nat.le_of_ble_eq_true rfl) dX3_narrowView_136 (fun H locs hP hD hS => ?_)
                obtain ⟨F51, eF51⟩ : ∃ z, z = va_up F (gva G xv) (.inr (3, [.ref ((grh G (zvw σ xv))), .int (iI ((turn (zod σ (zvw σ xv)) xlow))), .int (iI (zvh σ xv))])) := ⟨_, rfl⟩
                have hP : va_P D vwCl (va_pl L F51) H := by rw [eF51]; exact hP
                have hD : va_D (AL L s.heap.size) (va_pl L F51) := by rw [eF51]; exact hD
                have hvF : F51 (gva G xv) = (.inr (3, [.ref ((grh G (zvw σ xv))), .int (iI ((turn (zod σ (zvw σ xv)) xlow))), .int (iI (zvh σ xv))])) := by rw [eF51]; exact va_up_self _ _ _
                have hO : OE O F F51 := by rw [eF51]; exact hO.tr (OE1 ((CP_O hC).2.2.2.2.2.1 _ hb_r1.1 hb_r1.2))
                have hC : CP y L F51 O G (sVw σ xv (zvw σ xv) (turn (zod σ (zvw σ xv)) xlow) (zvh σ xv)) := by rw [eF51]; exact CP_vw hC hb_r1 (va_up_self _ _ _) (fun q hq => va_up_ne _ _ hq)
                refine lv_aload hx hb dX3_narrowView_139 (lv_at hl 4 rfl) ?_
                refine lv_iload hx hb dX3_narrowView_141 (lv_at hl 2 rfl) ?_
                refine q_put C0 iX1 tyX1 tyX1_ok nmX1 hP hD hS (CP_v hC hb_r1).1 hvF rfl 2 (by decide) flX3_185 rfl rfl rfl rfl (Nat.le_of_ble_eq_true rfl) dX3_narrowView_143 (fun H locs hP hD hS => ?_)
                obtain ⟨F52, eF52⟩ : ∃ z, z = va_up F51 (gva G xv) (.inr (3, [.ref ((grh G (zvw σ xv))), .int (iI ((turn (zod σ (zvw σ xv)) xlow))), .int (iI ((turn (zod σ (zvw σ xv)) xhigh)))])) := ⟨_, rfl⟩
                have hP : va_P D vwCl (va_pl L F52) H := by rw [eF52]; exact hP
                have hD : va_D (AL L s.heap.size) (va_pl L F52) := by rw [eF52]; exact hD
                have hvF : F52 (gva G xv) = (.inr (3, [.ref ((grh G (zvw σ xv))), .int (iI ((turn (zod σ (zvw σ xv)) xlow))), .int (iI ((turn (zod σ (zvw σ xv)) xhigh)))])) := by rw [eF52]; exact va_up_self _ _ _
                have hO : OE O F F52 := by rw [eF52]; exact hO.tr (OE1 ((CP_O hC).2.2.2.2.2.1 _ hb_r1.1 hb_r1.2))
                have hC : CP y L F52 O G (sVw (sVw σ xv (zvw σ xv) (turn (zod σ (zvw σ xv)) xlow) (zvh σ xv)) xv (zvw σ xv) (turn (zod σ (zvw σ xv)) xlow) (turn (zod σ (zvw σ xv)) xhigh)) := by rw [eF52]; exact CP_vw hC hb_r1 (va_up_self _ _ _) (fun q hq => va_up_ne _ _ hq)
                refine lv_aload hx hb dX3_narrowView_146 (lv_at hl 4 rfl) ?_
                refine q_get C0 iX1 hP (CP_v hC hb_r1).1 hvF rfl 0 (by decide) flX3_178 rfl rfl dX3_narrowView_148 ?_
                refine lv_aload hx hb dX3_narrowView_151 (lv_at hl 4 rfl) ?_
                refine q_get C0 iX1 hP (CP_v hC hb_r1).1 hvF rfl 1 (by decide) flX3_182 rfl rfl dX3_narrowView_153 ?_
                refine lv_aload hx hb dX3_narrowView_156 (lv_at hl 4 rfl) ?_
                refine q_get C0 iX1 hP (CP_v hC hb_r1).1 hvF rfl 2 (by decide) flX3_185 rfl rfl dX3_narrowView_158 ?_
                refine q_vS C0 lX3_188 (c_X0_countOfPart l D y L F52 (grh G (zvw σ xv)) (grw G (zvw σ xv)) (zod σ (zvw σ xv)) ((zst σ (zvw σ xv)).1) ((zst σ (zvw σ xv)).2.1) ((zst σ (zvw σ xv)).2.2) (turn (zod σ (zvw σ xv)) xlow) (turn (zod σ (zvw σ xv)) xhigh) (CP_r hC (hW.2.2.1 xv)) (by omega) (by omega)) ⟨rfl, rfl⟩ rfl hP (CP_r hC (hW.2.2.1 xv)).1 (CP_r hC (hW.2.2.1 xv)).2.1 rfl rfl rfl hl rfl (Nat.le_of_ble_eq_true rfl) dX3_narrowView_161 ⟨Nat.le_of_ble_eq_true rfl, Nat.le_of_ble_eq_true rfl⟩ (fun r53 e_r53 => ?_)
                subst e_r53
                refine W.widen (k := 8) (n := 60) (Nat.le_of_ble_eq_true rfl) (Nat.le_of_ble_eq_true rfl) ?_
                exact vx_ret (q_retMi C0 hret rfl hlk dX3_narrowView_164 hP hD hS (⟨by omega, by omega, (by unfold kR_narrowView; rw [if_neg (by (unfold nRef; (repeat' split) <;> omega)), show nLo σ xv xkind xlow = (turn (zod σ (zvw σ xv)) xlow) by (unfold nLo; (repeat' split) <;> first | rfl | omega), show nHi σ xv xkind xhigh = (turn (zod σ (zvw σ xv)) xhigh) by (unfold nHi; (repeat' split) <;> first | rfl | omega)]), O, G, CP_eq hC (by rw [sVw2]; unfold kS_narrowView; rw [if_neg (by (unfold nRef; (repeat' split) <;> omega)), show nLo σ xv xkind xlow = (turn (zod σ (zvw σ xv)) xlow) by (unfold nLo; (repeat' split) <;> first | rfl | omega), show nHi σ xv xkind xhigh = (turn (zod σ (zvw σ xv)) xhigh) by (unfold nHi; (repeat' split) <;> first | rfl | omega)]), rfl, Ext0 hO⟩))
              · refine lv_aload_n hx hb dX3_narrowView_127 rfl (lv_at hl 5 rfl) ?_
                refine q_vMi C0 lX3_63 (c_X3_refuse l D y L F _ O G σ hC) ⟨rfl, rfl⟩ rfl hP hD hS hA hC.1.1 hC.1.2 rfl rfl rfl hl rfl (Nat.le_of_ble_eq_true rfl) dX3_narrowView_128 ⟨Nat.le_of_ble_eq_true rfl, Nat.le_of_ble_eq_true rfl⟩ (fun r54 H locs L55 F55 hP hD hS hz55 hp55 => ?_)
                obtain ⟨eL, hC, er, hO1⟩ := hp55
                subst eL
                subst er
                have hO := hO.tr hO1
                refine W.widen (k := 8) (n := 60) (Nat.le_of_ble_eq_true rfl) (Nat.le_of_ble_eq_true rfl) ?_
                exact vx_ret (q_retMi C0 hret rfl hlk dX3_narrowView_131 hP hD hS (⟨by omega, by omega, (by unfold kR_narrowView; rw [if_pos (by unfold nRef; (repeat' split) <;> first | rfl | omega)]), O, G, CP_eq hC (by unfold kS_narrowView; rw [if_pos (by unfold nRef; (repeat' split) <;> first | rfl | omega)]), rfl, Ext0 hO⟩))
          · refine lv_aload hx hb dX3_narrowView_88 (lv_at hl 3 rfl) ?_
            refine lv_iload hx hb dX3_narrowView_90 (lv_at hl 1 rfl) ?_
            refine q_vS C0 lX3_191 (c_X1_isWithin l D y L F (gva G xv) (grh G (zvw σ xv)) (zvl σ xv) (zvh σ xv) (turn (zod σ (zvw σ xv)) xhigh) (CP_v hC hb_r1).1 (CP_v hC hb_r1).2 (by omega) (by omega) (by omega)) ⟨rfl, rfl⟩ rfl hP (CP_v hC hb_r1).1 (CP_v hC hb_r1).2 rfl rfl rfl hl rfl (Nat.le_of_ble_eq_true rfl) dX3_narrowView_92 ⟨Nat.le_of_ble_eq_true rfl, Nat.le_of_ble_eq_true rfl⟩ (fun r56 e_r56 => ?_)
            subst e_r56
            refine q_if_ne hx hb dX3_narrowView_95 (tgt := 102) (by decide) (by omega) (fun c57 => ?_) (fun c57 => ?_)
            · refine q_iconst hx hb dX3_narrowView_102 ?_
              refine lv_istore (lv' := [(9, .int (iI 0)), (8, .int (iI 0)), (7, .int (iI ((turn (zod σ (zvw σ xv)) xhigh)))), (6, .int (iI ((turn (zod σ (zvw σ xv)) xlow)))), (5, .ref ((gva G xv))), (0, .ref ((gbg G))), (1, .int (iI xv)), (2, .int (iI xkind)), (3, .int (iI xlow)), (4, .int (iI xhigh))]) hx hb dX3_narrowView_103 hl (by decide) rfl (fun ls hl => ?_)
              refine lv_iload hx hb dX3_narrowView_105 (lv_at hl 1 rfl) ?_
              refine q_if_ne hx hb dX3_narrowView_107 (tgt := 127) (by decide) (by omega) (fun c58 => absurd c58 (by omega)) (fun c58 => ?_)
              refine lv_iload hx hb dX3_narrowView_110 (lv_at hl 0 rfl) ?_
              refine q_if_ne hx hb dX3_narrowView_112 (tgt := 127) (by decide) (by omega) (fun c59 => absurd c59 (by omega)) (fun c59 => ?_)
              refine lv_iload_n hx hb dX3_narrowView_115 rfl (lv_at hl 7 rfl) ?_
              refine q_iconst hx hb dX3_narrowView_116 ?_
              refine q_icmp_ne hx hb dX3_narrowView_117 (tgt := 132) (by decide) (by omega) (by omega) (fun c60 => ?_) (fun c60 => ?_)
              · refine lv_aload hx hb dX3_narrowView_132 (lv_at hl 4 rfl) ?_
                refine lv_iload hx hb dX3_narrowView_134 (lv_at hl 3 rfl) ?_
                refine q_put C0 iX1 tyX1 tyX1_ok nmX1 hP hD hS (CP_v hC hb_r1).1 (CP_v hC hb_r1).2 rfl 1 (by decide) flX3_182 rfl rfl rfl rfl (Nat.le_of_ble_eq_true rfl) dX3_narrowView_136 (fun H locs hP hD hS => ?_)
                obtain ⟨F61, eF61⟩ : ∃ z, z = va_up F (gva G xv) (.inr (3, [.ref ((grh G (zvw σ xv))), .int (iI ((turn (zod σ (zvw σ xv)) xlow))), .int (iI (zvh σ xv))])) := ⟨_, rfl⟩
                have hP : va_P D vwCl (va_pl L F61) H := by rw [eF61]; exact hP
                have hD : va_D (AL L s.heap.size) (va_pl L F61) := by rw [eF61]; exact hD
                have hvF : F61 (gva G xv) = (.inr (3, [.ref ((grh G (zvw σ xv))), .int (iI ((turn (zod σ (zvw σ xv)) xlow))), .int (iI (zvh σ xv))])) := by rw [eF61]; exact va_up_self _ _ _
                have hO : OE O F F61 := by rw [eF61]; exact hO.tr (OE1 ((CP_O hC).2.2.2.2.2.1 _ hb_r1.1 hb_r1.2))
                have hC : CP y L F61 O G (sVw σ xv (zvw σ xv) (turn (zod σ (zvw σ xv)) xlow) (zvh σ xv)) := by rw [eF61]; exact CP_vw hC hb_r1 (va_up_self _ _ _) (fun q hq => va_up_ne _ _ hq)
                refine lv_aload hx hb dX3_narrowView_139 (lv_at hl 4 rfl) ?_
                refine lv_iload hx hb dX3_narrowView_141 (lv_at hl 2 rfl) ?_
                refine q_put C0 iX1 tyX1 tyX1_ok nmX1 hP hD hS (CP_v hC hb_r1).1 hvF rfl 2 (by decide) flX3_185 rfl rfl rfl rfl (Nat.le_of_ble_eq_true rfl) dX3_narrowView_143 (fun H locs hP hD hS => ?_)
                obtain ⟨F62, eF62⟩ : ∃ z, z = va_up F61 (gva G xv) (.inr (3, [.ref ((grh G (zvw σ xv))), .int (iI ((turn (zod σ (zvw σ xv)) xlow))), .int (iI ((turn (zod σ (zvw σ xv)) xhigh)))])) := ⟨_, rfl⟩
                have hP : va_P D vwCl (va_pl L F62) H := by rw [eF62]; exact hP
                have hD : va_D (AL L s.heap.size) (va_pl L F62) := by rw [eF62]; exact hD
                have hvF : F62 (gva G xv) = (.inr (3, [.ref ((grh G (zvw σ xv))), .int (iI ((turn (zod σ (zvw σ xv)) xlow))), .int (iI ((turn (zod σ (zvw σ xv)) xhigh)))])) := by rw [eF62]; exact va_up_self _ _ _
                have hO : OE O F F62 := by rw [eF62]; exact hO.tr (OE1 ((CP_O hC).2.2.2.2.2.1 _ hb_r1.1 hb_r1.2))
                have hC : CP y L F62 O G (sVw (sVw σ xv (zvw σ xv) (turn (zod σ (zvw σ xv)) xlow) (zvh σ xv)) xv (zvw σ xv) (turn (zod σ (zvw σ xv)) xlow) (turn (zod σ (zvw σ xv)) xhigh)) := by rw [eF62]; exact CP_vw hC hb_r1 (va_up_self _ _ _) (fun q hq => va_up_ne _ _ hq)
                refine lv_aload hx hb dX3_narrowView_146 (lv_at hl 4 rfl) ?_
                refine q_get C0 iX1 hP (CP_v hC hb_r1).1 hvF rfl 0 (by decide) flX3_178 rfl rfl dX3_narrowView_148 ?_
                refine lv_aload hx hb dX3_narrowView_151 (lv_at hl 4 rfl) ?_
                refine q_get C0 iX1 hP (CP_v hC hb_r1).1 hvF rfl 1 (by decide) flX3_182 rfl rfl dX3_narrowView_153 ?_
                refine lv_aload hx hb dX3_narrowView_156 (lv_at hl 4 rfl) ?_
                refine q_get C0 iX1 hP (CP_v hC hb_r1).1 hvF rfl 2 (by decide) flX3_185 rfl rfl dX3_narrowView_158 ?_
                refine q_vS C0 lX3_188 (c_X0_countOfPart l D y L F62 (grh G (zvw σ xv)) (grw G (zvw σ xv)) (zod σ (zvw σ xv)) ((zst σ (zvw σ xv)).1) ((zst σ (zvw σ xv)).2.1) ((zst σ (zvw σ xv)).2.2) (turn (zod σ (zvw σ xv)) xlow) (turn (zod σ (zvw σ xv)) xhigh) (CP_r hC (hW.2.2.1 xv)) (by omega) (by omega)) ⟨rfl, rfl⟩ rfl hP (CP_r hC (hW.2.2.1 xv)).1 (CP_r hC (hW.2.2.1 xv)).2.1 rfl rfl rfl hl rfl (Nat.le_of_ble_eq_true rfl) dX3_narrowView_161 ⟨Nat.le_of_ble_eq_true rfl, Nat.le_of_ble_eq_true rfl⟩ (fun r63 e_r63 => ?_)
                subst e_r63
                refine W.widen (k := 8) (n := 60) (Nat.le_of_ble_eq_true rfl) (Nat.le_of_ble_eq_true rfl) ?_
                exact vx_ret (q_retMi C0 hret rfl hlk dX3_narrowView_164 hP hD hS (⟨by omega, by omega, (by unfold kR_narrowView; rw [if_neg (by (unfold nRef; (repeat' split) <;> omega)), show nLo σ xv xkind xlow = (turn (zod σ (zvw σ xv)) xlow) by (unfold nLo; (repeat' split) <;> first | rfl | omega), show nHi σ xv xkind xhigh = (turn (zod σ (zvw σ xv)) xhigh) by (unfold nHi; (repeat' split) <;> first | rfl | omega)]), O, G, CP_eq hC (by rw [sVw2]; unfold kS_narrowView; rw [if_neg (by (unfold nRef; (repeat' split) <;> omega)), show nLo σ xv xkind xlow = (turn (zod σ (zvw σ xv)) xlow) by (unfold nLo; (repeat' split) <;> first | rfl | omega), show nHi σ xv xkind xhigh = (turn (zod σ (zvw σ xv)) xhigh) by (unfold nHi; (repeat' split) <;> first | rfl | omega)]), rfl, Ext0 hO⟩))
              · refine lv_iload hx hb dX3_narrowView_120 (lv_at hl 3 rfl) ?_
                refine lv_iload hx hb dX3_narrowView_122 (lv_at hl 2 rfl) ?_
                refine q_icmp_le hx hb dX3_narrowView_124 (tgt := 132) (by decide) (by omega) (by omega) (fun c64 => ?_) (fun c64 => ?_)
                · refine lv_aload hx hb dX3_narrowView_132 (lv_at hl 4 rfl) ?_
                  refine lv_iload hx hb dX3_narrowView_134 (lv_at hl 3 rfl) ?_
                  refine q_put C0 iX1 tyX1 tyX1_ok nmX1 hP hD hS (CP_v hC hb_r1).1 (CP_v hC hb_r1).2 rfl 1 (by decide) flX3_182 rfl rfl rfl rfl (Nat.le_of_ble_eq_true rfl) dX3_narrowView_136 (fun H locs hP hD hS => ?_)
                  obtain ⟨F65, eF65⟩ : ∃ z, z = va_up F (gva G xv) (.inr (3, [.ref ((grh G (zvw σ xv))), .int (iI ((turn (zod σ (zvw σ xv)) xlow))), .int (iI (zvh σ xv))])) := ⟨_, rfl⟩
                  have hP : va_P D vwCl (va_pl L F65) H := by rw [eF65]; exact hP
                  have hD : va_D (AL L s.heap.size) (va_pl L F65) := by rw [eF65]; exact hD
                  have hvF : F65 (gva G xv) = (.inr (3, [.ref ((grh G (zvw σ xv))), .int (iI ((turn (zod σ (zvw σ xv)) xlow))), .int (iI (zvh σ xv))])) := by rw [eF65]; exact va_up_self _ _ _
                  have hO : OE O F F65 := by rw [eF65]; exact hO.tr (OE1 ((CP_O hC).2.2.2.2.2.1 _ hb_r1.1 hb_r1.2))
                  have hC : CP y L F65 O G (sVw σ xv (zvw σ xv) (turn (zod σ (zvw σ xv)) xlow) (zvh σ xv)) := by rw [eF65]; exact CP_vw hC hb_r1 (va_up_self _ _ _) (fun q hq => va_up_ne _ _ hq)
                  refine lv_aload hx hb dX3_narrowView_139 (lv_at hl 4 rfl) ?_
                  refine lv_iload hx hb dX3_narrowView_141 (lv_at hl 2 rfl) ?_
                  refine q_put C0 iX1 tyX1 tyX1_ok nmX1 hP hD hS (CP_v hC hb_r1).1 hvF rfl 2 (by decide) flX3_185 rfl rfl rfl rfl (Nat.le_of_ble_eq_true rfl) dX3_narrowView_143 (fun H locs hP hD hS => ?_)
                  obtain ⟨F66, eF66⟩ : ∃ z, z = va_up F65 (gva G xv) (.inr (3, [.ref ((grh G (zvw σ xv))), .int (iI ((turn (zod σ (zvw σ xv)) xlow))), .int (iI ((turn (zod σ (zvw σ xv)) xhigh)))])) := ⟨_, rfl⟩
                  have hP : va_P D vwCl (va_pl L F66) H := by rw [eF66]; exact hP
                  have hD : va_D (AL L s.heap.size) (va_pl L F66) := by rw [eF66]; exact hD
                  have hvF : F66 (gva G xv) = (.inr (3, [.ref ((grh G (zvw σ xv))), .int (iI ((turn (zod σ (zvw σ xv)) xlow))), .int (iI ((turn (zod σ (zvw σ xv)) xhigh)))])) := by rw [eF66]; exact va_up_self _ _ _
                  have hO : OE O F F66 := by rw [eF66]; exact hO.tr (OE1 ((CP_O hC).2.2.2.2.2.1 _ hb_r1.1 hb_r1.2))
                  have hC : CP y L F66 O G (sVw (sVw σ xv (zvw σ xv) (turn (zod σ (zvw σ xv)) xlow) (zvh σ xv)) xv (zvw σ xv) (turn (zod σ (zvw σ xv)) xlow) (turn (zod σ (zvw σ xv)) xhigh)) := by rw [eF66]; exact CP_vw hC hb_r1 (va_up_self _ _ _) (fun q hq => va_up_ne _ _ hq)
                  refine lv_aload hx hb dX3_narrowView_146 (lv_at hl 4 rfl) ?_
                  refine q_get C0 iX1 hP (CP_v hC hb_r1).1 hvF rfl 0 (by decide) flX3_178 rfl rfl dX3_narrowView_148 ?_
                  refine lv_aload hx hb dX3_narrowView_151 (lv_at hl 4 rfl) ?_
                  refine q_get C0 iX1 hP (CP_v hC hb_r1).1 hvF rfl 1 (by decide) flX3_182 rfl rfl dX3_narrowView_153 ?_
                  refine lv_aload hx hb dX3_narrowView_156 (lv_at hl 4 rfl) ?_
                  refine q_get C0 iX1 hP (CP_v hC hb_r1).1 hvF rfl 2 (by decide) flX3_185 rfl rfl dX3_narrowView_158 ?_
                  refine q_vS C0 lX3_188 (c_X0_countOfPart l D y L F66 (grh G (zvw σ xv)) (grw G (zvw σ xv)) (zod σ (zvw σ xv)) ((zst σ (zvw σ xv)).1) ((zst σ (zvw σ xv)).2.1) ((zst σ (zvw σ xv)).2.2) (turn (zod σ (zvw σ xv)) xlow) (turn (zod σ (zvw σ xv)) xhigh) (CP_r hC (hW.2.2.1 xv)) (by omega) (by omega)) ⟨rfl, rfl⟩ rfl hP (CP_r hC (hW.2.2.1 xv)).1 (CP_r hC (hW.2.2.1 xv)).2.1 rfl rfl rfl hl rfl (Nat.le_of_ble_eq_true rfl) dX3_narrowView_161 ⟨Nat.le_of_ble_eq_true rfl, Nat.le_of_ble_eq_true rfl⟩ (fun r67 e_r67 => ?_)
                  subst e_r67
                  refine W.widen (k := 8) (n := 60) (Nat.le_of_ble_eq_true rfl) (Nat.le_of_ble_eq_true rfl) ?_
                  exact vx_ret (q_retMi C0 hret rfl hlk dX3_narrowView_164 hP hD hS (⟨by omega, by omega, (by unfold kR_narrowView; rw [if_neg (by (unfold nRef; (repeat' split) <;> omega)), show nLo σ xv xkind xlow = (turn (zod σ (zvw σ xv)) xlow) by (unfold nLo; (repeat' split) <;> first | rfl | omega), show nHi σ xv xkind xhigh = (turn (zod σ (zvw σ xv)) xhigh) by (unfold nHi; (repeat' split) <;> first | rfl | omega)]), O, G, CP_eq hC (by rw [sVw2]; unfold kS_narrowView; rw [if_neg (by (unfold nRef; (repeat' split) <;> omega)), show nLo σ xv xkind xlow = (turn (zod σ (zvw σ xv)) xlow) by (unfold nLo; (repeat' split) <;> first | rfl | omega), show nHi σ xv xkind xhigh = (turn (zod σ (zvw σ xv)) xhigh) by (unfold nHi; (repeat' split) <;> first | rfl | omega)]), rfl, Ext0 hO⟩))
                · refine lv_aload_n hx hb dX3_narrowView_127 rfl (lv_at hl 5 rfl) ?_
                  refine q_vMi C0 lX3_63 (c_X3_refuse l D y L F _ O G σ hC) ⟨rfl, rfl⟩ rfl hP hD hS hA hC.1.1 hC.1.2 rfl rfl rfl hl rfl (Nat.le_of_ble_eq_true rfl) dX3_narrowView_128 ⟨Nat.le_of_ble_eq_true rfl, Nat.le_of_ble_eq_true rfl⟩ (fun r68 H locs L69 F69 hP hD hS hz69 hp69 => ?_)
                  obtain ⟨eL, hC, er, hO1⟩ := hp69
                  subst eL
                  subst er
                  have hO := hO.tr hO1
                  refine W.widen (k := 8) (n := 60) (Nat.le_of_ble_eq_true rfl) (Nat.le_of_ble_eq_true rfl) ?_
                  exact vx_ret (q_retMi C0 hret rfl hlk dX3_narrowView_131 hP hD hS (⟨by omega, by omega, (by unfold kR_narrowView; rw [if_pos (by unfold nRef; (repeat' split) <;> first | rfl | omega)]), O, G, CP_eq hC (by unfold kS_narrowView; rw [if_pos (by unfold nRef; (repeat' split) <;> first | rfl | omega)]), rfl, Ext0 hO⟩))
            · refine q_iconst hx hb dX3_narrowView_98 ?_
              refine lv_goto (tgt := 103) hx hb dX3_narrowView_99 (by decide) ?_
              refine lv_istore (lv' := [(9, .int (iI 1)), (8, .int (iI 0)), (7, .int (iI ((turn (zod σ (zvw σ xv)) xhigh)))), (6, .int (iI ((turn (zod σ (zvw σ xv)) xlow)))), (5, .ref ((gva G xv))), (0, .ref ((gbg G))), (1, .int (iI xv)), (2, .int (iI xkind)), (3, .int (iI xlow)), (4, .int (iI xhigh))]) hx hb dX3_narrowView_103 hl (by decide) rfl (fun ls hl => ?_)
              refine lv_iload hx hb dX3_narrowView_105 (lv_at hl 1 rfl) ?_
              refine q_if_ne hx hb dX3_narrowView_107 (tgt := 127) (by decide) (by omega) (fun c70 => absurd c70 (by omega)) (fun c70 => ?_)
              refine lv_iload hx hb dX3_narrowView_110 (lv_at hl 0 rfl) ?_
              refine q_if_ne hx hb dX3_narrowView_112 (tgt := 127) (by decide) (by omega) (fun c71 => ?_) (fun c71 => absurd c71 (by omega))
              refine lv_aload_n hx hb dX3_narrowView_127 rfl (lv_at hl 5 rfl) ?_
              refine q_vMi C0 lX3_63 (c_X3_refuse l D y L F _ O G σ hC) ⟨rfl, rfl⟩ rfl hP hD hS hA hC.1.1 hC.1.2 rfl rfl rfl hl rfl (Nat.le_of_ble_eq_true rfl) dX3_narrowView_128 ⟨Nat.le_of_ble_eq_true rfl, Nat.le_of_ble_eq_true rfl⟩ (fun r72 H locs L73 F73 hP hD hS hz73 hp73 => ?_)
              obtain ⟨eL, hC, er, hO1⟩ := hp73
              subst eL
              subst er
              have hO := hO.tr hO1
              refine W.widen (k := 8) (n := 60) (Nat.le_of_ble_eq_true rfl) (Nat.le_of_ble_eq_true rfl) ?_
              exact vx_ret (q_retMi C0 hret rfl hlk dX3_narrowView_131 hP hD hS (⟨by omega, by omega, (by unfold kR_narrowView; rw [if_pos (by unfold nRef; (repeat' split) <;> first | rfl | omega)]), O, G, CP_eq hC (by unfold kS_narrowView; rw [if_pos (by unfold nRef; (repeat' split) <;> first | rfl | omega)]), rfl, Ext0 hO⟩))
        · refine q_iconst hx hb dX3_narrowView_76 ?_
          refine lv_goto (tgt := 81) hx hb dX3_narrowView_77 (by decide) ?_
          refine lv_istore (lv' := [(8, .int (iI 1)), (7, .int (iI ((turn (zod σ (zvw σ xv)) xhigh)))), (6, .int (iI ((turn (zod σ (zvw σ xv)) xlow)))), (5, .ref ((gva G xv))), (0, .ref ((gbg G))), (1, .int (iI xv)), (2, .int (iI xkind)), (3, .int (iI xlow)), (4, .int (iI xhigh))]) hx hb dX3_narrowView_81 hl (by decide) rfl (fun ls hl => ?_)
          refine lv_iload_n hx hb dX3_narrowView_83 rfl (lv_at hl 6 rfl) ?_
          refine q_iconst hx hb dX3_narrowView_84 ?_
          refine q_icmp_eq hx hb dX3_narrowView_85 (tgt := 102) (by decide) (by omega) (by omega) (fun c74 => ?_) (fun c74 => ?_)
          · refine q_iconst hx hb dX3_narrowView_102 ?_
            refine lv_istore (lv' := [(9, .int (iI 0)), (8, .int (iI 1)), (7, .int (iI ((turn (zod σ (zvw σ xv)) xhigh)))), (6, .int (iI ((turn (zod σ (zvw σ xv)) xlow)))), (5, .ref ((gva G xv))), (0, .ref ((gbg G))), (1, .int (iI xv)), (2, .int (iI xkind)), (3, .int (iI xlow)), (4, .int (iI xhigh))]) hx hb dX3_narrowView_103 hl (by decide) rfl (fun ls hl => ?_)
            refine lv_iload hx hb dX3_narrowView_105 (lv_at hl 1 rfl) ?_
            refine q_if_ne hx hb dX3_narrowView_107 (tgt := 127) (by decide) (by omega) (fun c75 => ?_) (fun c75 => absurd c75 (by omega))
            refine lv_aload_n hx hb dX3_narrowView_127 rfl (lv_at hl 5 rfl) ?_
            refine q_vMi C0 lX3_63 (c_X3_refuse l D y L F _ O G σ hC) ⟨rfl, rfl⟩ rfl hP hD hS hA hC.1.1 hC.1.2 rfl rfl rfl hl rfl (Nat.le_of_ble_eq_true rfl) dX3_narrowView_128 ⟨Nat.le_of_ble_eq_true rfl, Nat.le_of_ble_eq_true rfl⟩ (fun r76 H locs L77 F77 hP hD hS hz77 hp77 => ?_)
            obtain ⟨eL, hC, er, hO1⟩ := hp77
            subst eL
            subst er
            have hO := hO.tr hO1
            refine W.widen (k := 8) (n := 60) (Nat.le_of_ble_eq_true rfl) (Nat.le_of_ble_eq_true rfl) ?_
            exact vx_ret (q_retMi C0 hret rfl hlk dX3_narrowView_131 hP hD hS (⟨by omega, by omega, (by unfold kR_narrowView; rw [if_pos (by unfold nRef; (repeat' split) <;> first | rfl | omega)]), O, G, CP_eq hC (by unfold kS_narrowView; rw [if_pos (by unfold nRef; (repeat' split) <;> first | rfl | omega)]), rfl, Ext0 hO⟩))
          · refine lv_aload hx hb dX3_narrowView_88 (lv_at hl 3 rfl) ?_
            refine lv_iload hx hb dX3_narrowView_90 (lv_at hl 1 rfl) ?_
            refine q_vS C0 lX3_191 (c_X1_isWithin l D y L F (gva G xv) (grh G (zvw σ xv)) (zvl σ xv) (zvh σ xv) (turn (zod σ (zvw σ xv)) xhigh) (CP_v hC hb_r1).1 (CP_v hC hb_r1).2 (by omega) (by omega) (by omega)) ⟨rfl, rfl⟩ rfl hP (CP_v hC hb_r1).1 (CP_v hC hb_r1).2 rfl rfl rfl hl rfl (Nat.le_of_ble_eq_true rfl) dX3_narrowView_92 ⟨Nat.le_of_ble_eq_true rfl, Nat.le_of_ble_eq_true rfl⟩ (fun r78 e_r78 => ?_)
            subst e_r78
            refine q_if_ne hx hb dX3_narrowView_95 (tgt := 102) (by decide) (by omega) (fun c79 => ?_) (fun c79 => ?_)
            · refine q_iconst hx hb dX3_narrowView_102 ?_
              refine lv_istore (lv' := [(9, .int (iI 0)), (8, .int (iI 1)), (7, .int (iI ((turn (zod σ (zvw σ xv)) xhigh)))), (6, .int (iI ((turn (zod σ (zvw σ xv)) xlow)))), (5, .ref ((gva G xv))), (0, .ref ((gbg G))), (1, .int (iI xv)), (2, .int (iI xkind)), (3, .int (iI xlow)), (4, .int (iI xhigh))]) hx hb dX3_narrowView_103 hl (by decide) rfl (fun ls hl => ?_)
              refine lv_iload hx hb dX3_narrowView_105 (lv_at hl 1 rfl) ?_
              refine q_if_ne hx hb dX3_narrowView_107 (tgt := 127) (by decide) (by omega) (fun c80 => ?_) (fun c80 => absurd c80 (by omega))
              refine lv_aload_n hx hb dX3_narrowView_127 rfl (lv_at hl 5 rfl) ?_
              refine q_vMi C0 lX3_63 (c_X3_refuse l D y L F _ O G σ hC) ⟨rfl, rfl⟩ rfl hP hD hS hA hC.1.1 hC.1.2 rfl rfl rfl hl rfl (Nat.le_of_ble_eq_true rfl) dX3_narrowView_128 ⟨Nat.le_of_ble_eq_true rfl, Nat.le_of_ble_eq_true rfl⟩ (fun r81 H locs L82 F82 hP hD hS hz82 hp82 => ?_)
              obtain ⟨eL, hC, er, hO1⟩ := hp82
              subst eL
              subst er
              have hO := hO.tr hO1
              refine W.widen (k := 8) (n := 60) (Nat.le_of_ble_eq_true rfl) (Nat.le_of_ble_eq_true rfl) ?_
              exact vx_ret (q_retMi C0 hret rfl hlk dX3_narrowView_131 hP hD hS (⟨by omega, by omega, (by unfold kR_narrowView; rw [if_pos (by unfold nRef; (repeat' split) <;> first | rfl | omega)]), O, G, CP_eq hC (by unfold kS_narrowView; rw [if_pos (by unfold nRef; (repeat' split) <;> first | rfl | omega)]), rfl, Ext0 hO⟩))
            · refine q_iconst hx hb dX3_narrowView_98 ?_
              refine lv_goto (tgt := 103) hx hb dX3_narrowView_99 (by decide) ?_
              refine lv_istore (lv' := [(9, .int (iI 1)), (8, .int (iI 1)), (7, .int (iI ((turn (zod σ (zvw σ xv)) xhigh)))), (6, .int (iI ((turn (zod σ (zvw σ xv)) xlow)))), (5, .ref ((gva G xv))), (0, .ref ((gbg G))), (1, .int (iI xv)), (2, .int (iI xkind)), (3, .int (iI xlow)), (4, .int (iI xhigh))]) hx hb dX3_narrowView_103 hl (by decide) rfl (fun ls hl => ?_)
              refine lv_iload hx hb dX3_narrowView_105 (lv_at hl 1 rfl) ?_
              refine q_if_ne hx hb dX3_narrowView_107 (tgt := 127) (by decide) (by omega) (fun c83 => ?_) (fun c83 => absurd c83 (by omega))
              refine lv_aload_n hx hb dX3_narrowView_127 rfl (lv_at hl 5 rfl) ?_
              refine q_vMi C0 lX3_63 (c_X3_refuse l D y L F _ O G σ hC) ⟨rfl, rfl⟩ rfl hP hD hS hA hC.1.1 hC.1.2 rfl rfl rfl hl rfl (Nat.le_of_ble_eq_true rfl) dX3_narrowView_128 ⟨Nat.le_of_ble_eq_true rfl, Nat.le_of_ble_eq_true rfl⟩ (fun r84 H locs L85 F85 hP hD hS hz85 hp85 => ?_)
              obtain ⟨eL, hC, er, hO1⟩ := hp85
              subst eL
              subst er
              have hO := hO.tr hO1
              refine W.widen (k := 8) (n := 60) (Nat.le_of_ble_eq_true rfl) (Nat.le_of_ble_eq_true rfl) ?_
              exact vx_ret (q_retMi C0 hret rfl hlk dX3_narrowView_131 hP hD hS (⟨by omega, by omega, (by unfold kR_narrowView; rw [if_pos (by unfold nRef; (repeat' split) <;> first | rfl | omega)]), O, G, CP_eq hC (by unfold kS_narrowView; rw [if_pos (by unfold nRef; (repeat' split) <;> first | rfl | omega)]), rfl, Ext0 hO⟩))
    · refine lv_aload hx hb dX3_narrowView_42 (lv_at hl 1 rfl) ?_
      refine q_get C0 iX1 hP (CP_v hC hb_r1).1 (CP_v hC hb_r1).2 rfl 2 (by decide) flX3_185 rfl rfl dX3_narrowView_44 ?_
      refine lv_goto (tgt := 60) hx hb dX3_narrowView_47 (by decide) ?_
      refine lv_istore (lv' := [(7, .int (iI (zvh σ xv))), (6, .int (iI ((turn (zod σ (zvw σ xv)) xlow)))), (5, .ref ((gva G xv))), (0, .ref ((gbg G))), (1, .int (iI xv)), (2, .int (iI xkind)), (3, .int (iI xlow)), (4, .int (iI xhigh))]) hx hb dX3_narrowView_60 hl (by decide) rfl (fun ls hl => ?_)
      refine lv_iload_n hx hb dX3_narrowView_62 rfl (lv_at hl 5 rfl) ?_
      refine q_if_eq hx hb dX3_narrowView_63 (tgt := 80) (by decide) (by omega) (fun c86 => ?_) (fun c86 => ?_)
      · refine q_iconst hx hb dX3_narrowView_80 ?_
        refine lv_istore (lv' := [(8, .int (iI 0)), (7, .int (iI (zvh σ xv))), (6, .int (iI ((turn (zod σ (zvw σ xv)) xlow)))), (5, .ref ((gva G xv))), (0, .ref ((gbg G))), (1, .int (iI xv)), (2, .int (iI xkind)), (3, .int (iI xlow)), (4, .int (iI xhigh))]) hx hb dX3_narrowView_81 hl (by decide) rfl (fun ls hl => ?_)
        refine lv_iload_n hx hb dX3_narrowView_83 rfl (lv_at hl 6 rfl) ?_
        refine q_iconst hx hb dX3_narrowView_84 ?_
        refine q_icmp_eq hx hb dX3_narrowView_85 (tgt := 102) (by decide) (by omega) (by omega) (fun c87 => ?_) (fun c87 => ?_)
        · refine q_iconst hx hb dX3_narrowView_102 ?_
          refine lv_istore (lv' := [(9, .int (iI 0)), (8, .int (iI 0)), (7, .int (iI (zvh σ xv))), (6, .int (iI ((turn (zod σ (zvw σ xv)) xlow)))), (5, .ref ((gva G xv))), (0, .ref ((gbg G))), (1, .int (iI xv)), (2, .int (iI xkind)), (3, .int (iI xlow)), (4, .int (iI xhigh))]) hx hb dX3_narrowView_103 hl (by decide) rfl (fun ls hl => ?_)
          refine lv_iload hx hb dX3_narrowView_105 (lv_at hl 1 rfl) ?_
          refine q_if_ne hx hb dX3_narrowView_107 (tgt := 127) (by decide) (by omega) (fun c88 => absurd c88 (by omega)) (fun c88 => ?_)
          refine lv_iload hx hb dX3_narrowView_110 (lv_at hl 0 rfl) ?_
          refine q_if_ne hx hb dX3_narrowView_112 (tgt := 127) (by decide) (by omega) (fun c89 => absurd c89 (by omega)) (fun c89 => ?_)
          refine lv_iload_n hx hb dX3_narrowView_115 rfl (lv_at hl 7 rfl) ?_
          refine q_iconst hx hb dX3_narrowView_116 ?_
          refine q_icmp_ne hx hb dX3_narrowView_117 (tgt := 132) (by decide) (by omega) (by omega) (fun c90 => ?_) (fun c90 => ?_)
          · refine lv_aload hx hb dX3_narrowView_132 (lv_at hl 4 rfl) ?_
            refine lv_iload hx hb dX3_narrowView_134 (lv_at hl 3 rfl) ?_
            refine q_put C0 iX1 tyX1 tyX1_ok nmX1 hP hD hS (CP_v hC hb_r1).1 (CP_v hC hb_r1).2 rfl 1 (by decide) flX3_182 rfl rfl rfl rfl (Nat.le_of_ble_eq_true rfl) dX3_narrowView_136 (fun H locs hP hD hS => ?_)
            obtain ⟨F91, eF91⟩ : ∃ z, z = va_up F (gva G xv) (.inr (3, [.ref ((grh G (zvw σ xv))), .int (iI ((turn (zod σ (zvw σ xv)) xlow))), .int (iI (zvh σ xv))])) := ⟨_, rfl⟩
            have hP : va_P D vwCl (va_pl L F91) H := by rw [eF91]; exact hP
            have hD : va_D (AL L s.heap.size) (va_pl L F91) := by rw [eF91]; exact hD
            have hvF : F91 (gva G xv) = (.inr (3, [.ref ((grh G (zvw σ xv))), .int (iI ((turn (zod σ (zvw σ xv)) xlow))), .int (iI (zvh σ xv))])) := by rw [eF91]; exact va_up_self _ _ _
            have hO : OE O F F91 := by rw [eF91]; exact hO.tr (OE1 ((CP_O hC).2.2.2.2.2.1 _ hb_r1.1 hb_r1.2))
            have hC : CP y L F91 O G (sVw σ xv (zvw σ xv) (turn (zod σ (zvw σ xv)) xlow) (zvh σ xv)) := by rw [eF91]; exact CP_vw hC hb_r1 (va_up_self _ _ _) (fun q hq => va_up_ne _ _ hq)
            refine lv_aload hx hb dX3_narrowView_139 (lv_at hl 4 rfl) ?_
            refine lv_iload hx hb dX3_narrowView_141 (lv_at hl 2 rfl) ?_
            refine q_put C0 iX1 tyX1 tyX1_ok nmX1 hP hD hS (CP_v hC hb_r1).1 hvF rfl 2 (by decide) flX3_185 rfl rfl rfl rfl (Nat.le_of_ble_eq_true rfl) dX3_narrowView_143 (fun H locs hP hD hS => ?_)
            obtain ⟨F92, eF92⟩ : ∃ z, z = va_up F91 (gva G xv) (.inr (3, [.ref ((grh G (zvw σ xv))), .int (iI ((turn (zod σ (zvw σ xv)) xlow))), .int (iI (zvh σ xv))])) := ⟨_, rfl⟩
            have hP : va_P D vwCl (va_pl L F92) H := by rw [eF92]; exact hP
            have hD : va_D (AL L s.heap.size) (va_pl L F92) := by rw [eF92]; exact hD
            have hvF : F92 (gva G xv) = (.inr (3, [.ref ((grh G (zvw σ xv))), .int (iI ((turn (zod σ (zvw σ xv)) xlow))), .int (iI (zvh σ xv))])) := by rw [eF92]; exact va_up_self _ _ _
            have hO : OE O F F92 := by rw [eF92]; exact hO.tr (OE1 ((CP_O hC).2.2.2.2.2.1 _ hb_r1.1 hb_r1.2))
            have hC : CP y L F92 O G (sVw (sVw σ xv (zvw σ xv) (turn (zod σ (zvw σ xv)) xlow) (zvh σ xv)) xv (zvw σ xv) (turn (zod σ (zvw σ xv)) xlow) (zvh σ xv)) := by rw [eF92]; exact CP_vw hC hb_r1 (va_up_self _ _ _) (fun q hq => va_up_ne _ _ hq)
            refine lv_aload hx hb dX3_narrowView_146 (lv_at hl 4 rfl) ?_
            refine q_get C0 iX1 hP (CP_v hC hb_r1).1 hvF rfl 0 (by decide) flX3_178 rfl rfl dX3_narrowView_148 ?_
            refine lv_aload hx hb dX3_narrowView_151 (lv_at hl 4 rfl) ?_
            refine q_get C0 iX1 hP (CP_v hC hb_r1).1 hvF rfl 1 (by decide) flX3_182 rfl rfl dX3_narrowView_153 ?_
            refine lv_aload hx hb dX3_narrowView_156 (lv_at hl 4 rfl) ?_
            refine q_get C0 iX1 hP (CP_v hC hb_r1).1 hvF rfl 2 (by decide) flX3_185 rfl rfl dX3_narrowView_158 ?_
            refine q_vS C0 lX3_188 (c_X0_countOfPart l D y L F92 (grh G (zvw σ xv)) (grw G (zvw σ xv)) (zod σ (zvw σ xv)) ((zst σ (zvw σ xv)).1) ((zst σ (zvw σ xv)).2.1) ((zst σ (zvw σ xv)).2.2) (turn (zod σ (zvw σ xv)) xlow) (zvh σ xv) (CP_r hC (hW.2.2.1 xv)) (by omega) (by omega)) ⟨rfl, rfl⟩ rfl hP (CP_r hC (hW.2.2.1 xv)).1 (CP_r hC (hW.2.2.1 xv)).2.1 rfl rfl rfl hl rfl (Nat.le_of_ble_eq_true rfl) dX3_narrowView_161 ⟨Nat.le_of_ble_eq_true rfl, Nat.le_of_ble_eq_true rfl⟩ (fun r93 e_r93 => ?_)
            subst e_r93
            refine W.widen (k := 8) (n := 60) (Nat.le_of_ble_eq_true rfl) (Nat.le_of_ble_eq_true rfl) ?_
            exact vx_ret (q_retMi C0 hret rfl hlk dX3_narrowView_164 hP hD hS (⟨by omega, by omega, (by unfold kR_narrowView; rw [if_neg (by (unfold nRef; (repeat' split) <;> omega)), show nLo σ xv xkind xlow = (turn (zod σ (zvw σ xv)) xlow) by (unfold nLo; (repeat' split) <;> first | rfl | omega), show nHi σ xv xkind xhigh = zvh σ xv by (unfold nHi; (repeat' split) <;> first | rfl | omega)]), O, G, CP_eq hC (by rw [sVw2]; unfold kS_narrowView; rw [if_neg (by (unfold nRef; (repeat' split) <;> omega)), show nLo σ xv xkind xlow = (turn (zod σ (zvw σ xv)) xlow) by (unfold nLo; (repeat' split) <;> first | rfl | omega), show nHi σ xv xkind xhigh = zvh σ xv by (unfold nHi; (repeat' split) <;> first | rfl | omega)]), rfl, Ext0 hO⟩))
          · refine lv_iload hx hb dX3_narrowView_120 (lv_at hl 3 rfl) ?_
            refine lv_iload hx hb dX3_narrowView_122 (lv_at hl 2 rfl) ?_
            refine q_icmp_le hx hb dX3_narrowView_124 (tgt := 132) (by decide) (by omega) (by omega) (fun c94 => ?_) (fun c94 => ?_)
            · refine lv_aload hx hb dX3_narrowView_132 (lv_at hl 4 rfl) ?_
              refine lv_iload hx hb dX3_narrowView_134 (lv_at hl 3 rfl) ?_
              refine q_put C0 iX1 tyX1 tyX1_ok nmX1 hP hD hS (CP_v hC hb_r1).1 (CP_v hC hb_r1).2 rfl 1 (by decide) flX3_182 rfl rfl rfl rfl (Nat.le_of_ble_eq_true rfl) dX3_narrowView_136 (fun H locs hP hD hS => ?_)
              obtain ⟨F95, eF95⟩ : ∃ z, z = va_up F (gva G xv) (.inr (3, [.ref ((grh G (zvw σ xv))), .int (iI ((turn (zod σ (zvw σ xv)) xlow))), .int (iI (zvh σ xv))])) := ⟨_, rfl⟩
              have hP : va_P D vwCl (va_pl L F95) H := by rw [eF95]; exact hP
              have hD : va_D (AL L s.heap.size) (va_pl L F95) := by rw [eF95]; exact hD
              have hvF : F95 (gva G xv) = (.inr (3, [.ref ((grh G (zvw σ xv))), .int (iI ((turn (zod σ (zvw σ xv)) xlow))), .int (iI (zvh σ xv))])) := by rw [eF95]; exact va_up_self _ _ _
              have hO : OE O F F95 := by rw [eF95]; exact hO.tr (OE1 ((CP_O hC).2.2.2.2.2.1 _ hb_r1.1 hb_r1.2))
              have hC : CP y L F95 O G (sVw σ xv (zvw σ xv) (turn (zod σ (zvw σ xv)) xlow) (zvh σ xv)) := by rw [eF95]; exact CP_vw hC hb_r1 (va_up_self _ _ _) (fun q hq => va_up_ne _ _ hq)
              refine lv_aload hx hb dX3_narrowView_139 (lv_at hl 4 rfl) ?_
              refine lv_iload hx hb dX3_narrowView_141 (lv_at hl 2 rfl) ?_
              refine q_put C0 iX1 tyX1 tyX1_ok nmX1 hP hD hS (CP_v hC hb_r1).1 hvF rfl 2 (by decide) flX3_185 rfl rfl rfl rfl (Nat.le_of_ble_eq_true rfl) dX3_narrowView_143 (fun H locs hP hD hS => ?_)
              obtain ⟨F96, eF96⟩ : ∃ z, z = va_up F95 (gva G xv) (.inr (3, [.ref ((grh G (zvw σ xv))), .int (iI ((turn (zod σ (zvw σ xv)) xlow))), .int (iI (zvh σ xv))])) := ⟨_, rfl⟩
              have hP : va_P D vwCl (va_pl L F96) H := by rw [eF96]; exact hP
              have hD : va_D (AL L s.heap.size) (va_pl L F96) := by rw [eF96]; exact hD
              have hvF : F96 (gva G xv) = (.inr (3, [.ref ((grh G (zvw σ xv))), .int (iI ((turn (zod σ (zvw σ xv)) xlow))), .int (iI (zvh σ xv))])) := by rw [eF96]; exact va_up_self _ _ _
              have hO : OE O F F96 := by rw [eF96]; exact hO.tr (OE1 ((CP_O hC).2.2.2.2.2.1 _ hb_r1.1 hb_r1.2))
              have hC : CP y L F96 O G (sVw (sVw σ xv (zvw σ xv) (turn (zod σ (zvw σ xv)) xlow) (zvh σ xv)) xv (zvw σ xv) (turn (zod σ (zvw σ xv)) xlow) (zvh σ xv)) := by rw [eF96]; exact CP_vw hC hb_r1 (va_up_self _ _ _) (fun q hq => va_up_ne _ _ hq)
              refine lv_aload hx hb dX3_narrowView_146 (lv_at hl 4 rfl) ?_
              refine q_get C0 iX1 hP (CP_v hC hb_r1).1 hvF rfl 0 (by decide) flX3_178 rfl rfl dX3_narrowView_148 ?_
              refine lv_aload hx hb dX3_narrowView_151 (lv_at hl 4 rfl) ?_
              refine q_get C0 iX1 hP (CP_v hC hb_r1).1 hvF rfl 1 (by decide) flX3_182 rfl rfl dX3_narrowView_153 ?_
              refine lv_aload hx hb dX3_narrowView_156 (lv_at hl 4 rfl) ?_
              refine q_get C0 iX1 hP (CP_v hC hb_r1).1 hvF rfl 2 (by decide) flX3_185 rfl rfl dX3_narrowView_158 ?_
              refine q_vS C0 lX3_188 (c_X0_countOfPart l D y L F96 (grh G (zvw σ xv)) (grw G (zvw σ xv)) (zod σ (zvw σ xv)) ((zst σ (zvw σ xv)).1) ((zst σ (zvw σ xv)).2.1) ((zst σ (zvw σ xv)).2.2) (turn (zod σ (zvw σ xv)) xlow) (zvh σ xv) (CP_r hC (hW.2.2.1 xv)) (by omega) (by omega)) ⟨rfl, rfl⟩ rfl hP (CP_r hC (hW.2.2.1 xv)).1 (CP_r hC (hW.2.2.1 xv)).2.1 rfl rfl rfl hl rfl (Nat.le_of_ble_eq_true rfl) dX3_narrowView_161 ⟨Nat.le_of_ble_eq_true rfl, Nat.le_of_ble_eq_true rfl⟩ (fun r97 e_r97 => ?_)
              subst e_r97
              refine W.widen (k := 8) (n := 60) (Nat.le_of_ble_eq_true rfl) (Nat.le_of_ble_eq_true rfl) ?_
              exact vx_ret (q_retMi C0 hret rfl hlk dX3_narrowView_164 hP hD hS (⟨by omega, by omega, (by unfold kR_narrowView; rw [if_neg (by (unfold nRef; (repeat' split) <;> omega)), show nLo σ xv xkind xlow = (turn (zod σ (zvw σ xv)) xlow) by (unfold nLo; (repeat' split) <;> first | rfl | omega), show nHi σ xv xkind xhigh = zvh σ xv by (unfold nHi; (repeat' split) <;> first | rfl | omega)]), O, G, CP_eq hC (by rw [sVw2]; unfold kS_narrowView; rw [if_neg (by (unfold nRef; (repeat' split) <;> omega)), show nLo σ xv xkind xlow = (turn (zod σ (zvw σ xv)) xlow) by (unfold nLo; (repeat' split) <;> first | rfl | omega), show nHi σ xv xkind xhigh = zvh σ xv by (unfold nHi; (repeat' split) <;> first | rfl | omega)]), rfl, Ext0 hO⟩))
            · refine lv_aload_n hx hb dX3_narrowView_127 rfl (lv_at hl 5 rfl) ?_
              refine q_vMi C0 lX3_63 (c_X3_refuse l D y L F _ O G σ hC) ⟨rfl, rfl⟩ rfl hP hD hS hA hC.1.1 hC.1.2 rfl rfl rfl hl rfl (Nat.le_of_ble_eq_true rfl) dX3_narrowView_128 ⟨Nat.le_of_ble_eq_true rfl, Nat.le_of_ble_eq_true rfl⟩ (fun r98 H locs L99 F99 hP hD hS hz99 hp99 => ?_)
              obtain ⟨eL, hC, er, hO1⟩ := hp99
              subst eL
              subst er
              have hO := hO.tr hO1
              refine W.widen (k := 8) (n := 60) (Nat.le_of_ble_eq_true rfl) (Nat.le_of_ble_eq_true rfl) ?_
              exact vx_ret (q_retMi C0 hret rfl hlk dX3_narrowView_131 hP hD hS (⟨by omega, by omega, (by unfold kR_narrowView; rw [if_pos (by unfold nRef; (repeat' split) <;> first | rfl | omega)]), O, G, CP_eq hC (by unfold kS_narrowView; rw [if_pos (by unfold nRef; (repeat' split) <;> first | rfl | omega)]), rfl, Ext0 hO⟩))
        · refine lv_aload hx hb dX3_narrowView_88 (lv_at hl 3 rfl) ?_
          refine lv_iload hx hb dX3_narrowView_90 (lv_at hl 1 rfl) ?_
          refine q_vS C0 lX3_191 (c_X1_isWithin l D y L F (gva G xv) (grh G (zvw σ xv)) (zvl σ xv) (zvh σ xv) (zvh σ xv) (CP_v hC hb_r1).1 (CP_v hC hb_r1).2 (by omega) (by omega) (by omega)) ⟨rfl, rfl⟩ rfl hP (CP_v hC hb_r1).1 (CP_v hC hb_r1).2 rfl rfl rfl hl rfl (Nat.le_of_ble_eq_true rfl) dX3_narrowView_92 ⟨Nat.le_of_ble_eq_true rfl, Nat.le_of_ble_eq_true rfl⟩ (fun r100 e_r100 => ?_)
          subst e_r100
          refine q_if_ne hx hb dX3_narrowView_95 (tgt := 102) (by decide) (by omega) (fun c101 => ?_) (fun c101 => ?_)
          · refine q_iconst hx hb dX3_narrowView_102 ?_
            refine lv_istore (lv' := [(9, .int (iI 0)), (8, .int (iI 0)), (7, .int (iI (zvh σ xv))), (6, .int (iI ((turn (zod σ (zvw σ xv)) xlow)))), (5, .ref ((gva G xv))), (0, .ref ((gbg G))), (1, .int (iI xv)), (2, .int (iI xkind)), (3, .int (iI xlow)), (4, .int (iI xhigh))]) hx hb dX3_narrowView_103 hl (by decide) rfl (fun ls hl => ?_)
            refine lv_iload hx hb dX3_narrowView_105 (lv_at hl 1 rfl) ?_
            refine q_if_ne hx hb dX3_narrowView_107 (tgt := 127) (by decide) (by omega) (fun c102 => absurd c102 (by omega)) (fun c102 => ?_)
            refine lv_iload hx hb dX3_narrowView_110 (lv_at hl 0 rfl) ?_
            refine q_if_ne hx hb dX3_narrowView_112 (tgt := 127) (by decide) (by omega) (fun c103 => absurd c103 (by omega)) (fun c103 => ?_)
            refine lv_iload_n hx hb dX3_narrowView_115 rfl (lv_at hl 7 rfl) ?_
            refine q_iconst hx hb dX3_narrowView_116 ?_
            refine q_icmp_ne hx hb dX3_narrowView_117 (tgt := 132) (by decide) (by omega) (by omega) (fun c104 => ?_) (fun c104 => ?_)
            · refine lv_aload hx hb dX3_narrowView_132 (lv_at hl 4 rfl) ?_
              refine lv_iload hx hb dX3_narrowView_134 (lv_at hl 3 rfl) ?_
              refine q_put C0 iX1 tyX1 tyX1_ok nmX1 hP hD hS (CP_v hC hb_r1).1 (CP_v hC hb_r1).2 rfl 1 (by decide) flX3_182 rfl rfl rfl rfl (Nat.le_of_ble_eq_true rfl) dX3_narrowView_136 (fun H locs hP hD hS => ?_)
              obtain ⟨F105, eF105⟩ : ∃ z, z = va_up F (gva G xv) (.inr (3, [.ref ((grh G (zvw σ xv))), .int (iI ((turn (zod σ (zvw σ xv)) xlow))), .int (iI (zvh σ xv))])) := ⟨_, rfl⟩
              have hP : va_P D vwCl (va_pl L F105) H := by rw [eF105]; exact hP
              have hD : va_D (AL L s.heap.size) (va_pl L F105) := by rw [eF105]; exact hD
              have hvF : F105 (gva G xv) = (.inr (3, [.ref ((grh G (zvw σ xv))), .int (iI ((turn (zod σ (zvw σ xv)) xlow))), .int (iI (zvh σ xv))])) := by rw [eF105]; exact va_up_self _ _ _
              have hO : OE O F F105 := by rw [eF105]; exact hO.tr (OE1 ((CP_O hC).2.2.2.2.2.1 _ hb_r1.1 hb_r1.2))
              have hC : CP y L F105 O G (sVw σ xv (zvw σ xv) (turn (zod σ (zvw σ xv)) xlow) (zvh σ xv)) := by rw [eF105]; exact CP_vw hC hb_r1 (va_up_self _ _ _) (fun q hq => va_up_ne _ _ hq)
              refine lv_aload hx hb dX3_narrowView_139 (lv_at hl 4 rfl) ?_
              refine lv_iload hx hb dX3_narrowView_141 (lv_at hl 2 rfl) ?_
              refine q_put C0 iX1 tyX1 tyX1_ok nmX1 hP hD hS (CP_v hC hb_r1).1 hvF rfl 2 (by decide) flX3_185 rfl rfl rfl rfl (Nat.le_of_ble_eq_true rfl) dX3_narrowView_143 (fun H locs hP hD hS => ?_)
              obtain ⟨F106, eF106⟩ : ∃ z, z = va_up F105 (gva G xv) (.inr (3, [.ref ((grh G (zvw σ xv))), .int (iI ((turn (zod σ (zvw σ xv)) xlow))), .int (iI (zvh σ xv))])) := ⟨_, rfl⟩
              have hP : va_P D vwCl (va_pl L F106) H := by rw [eF106]; exact hP
              have hD : va_D (AL L s.heap.size) (va_pl L F106) := by rw [eF106]; exact hD
              have hvF : F106 (gva G xv) = (.inr (3, [.ref ((grh G (zvw σ xv))), .int (iI ((turn (zod σ (zvw σ xv)) xlow))), .int (iI (zvh σ xv))])) := by rw [eF106]; exact va_up_self _ _ _
              have hO : OE O F F106 := by rw [eF106]; exact hO.tr (OE1 ((CP_O hC).2.2.2.2.2.1 _ hb_r1.1 hb_r1.2))
              have hC : CP y L F106 O G (sVw (sVw σ xv (zvw σ xv) (turn (zod σ (zvw σ xv)) xlow) (zvh σ xv)) xv (zvw σ xv) (turn (zod σ (zvw σ xv)) xlow) (zvh σ xv)) := by rw [eF106]; exact CP_vw hC hb_r1 (va_up_self _ _ _) (fun q hq => va_up_ne _ _ hq)
              refine lv_aload hx hb dX3_narrowView_146 (lv_at hl 4 rfl) ?_
              refine q_get C0 iX1 hP (CP_v hC hb_r1).1 hvF rfl 0 (by decide) flX3_178 rfl rfl dX3_narrowView_148 ?_
              refine lv_aload hx hb dX3_narrowView_151 (lv_at hl 4 rfl) ?_
              refine q_get C0 iX1 hP (CP_v hC hb_r1).1 hvF rfl 1 (by decide) flX3_182 rfl rfl dX3_narrowView_153 ?_
              refine lv_aload hx hb dX3_narrowView_156 (lv_at hl 4 rfl) ?_
              refine q_get C0 iX1 hP (CP_v hC hb_r1).1 hvF rfl 2 (by decide) flX3_185 rfl rfl dX3_narrowView_158 ?_
              refine q_vS C0 lX3_188 (c_X0_countOfPart l D y L F106 (grh G (zvw σ xv)) (grw G (zvw σ xv)) (zod σ (zvw σ xv)) ((zst σ (zvw σ xv)).1) ((zst σ (zvw σ xv)).2.1) ((zst σ (zvw σ xv)).2.2) (turn (zod σ (zvw σ xv)) xlow) (zvh σ xv) (CP_r hC (hW.2.2.1 xv)) (by omega) (by omega)) ⟨rfl, rfl⟩ rfl hP (CP_r hC (hW.2.2.1 xv)).1 (CP_r hC (hW.2.2.1 xv)).2.1 rfl rfl rfl hl rfl (Nat.le_of_ble_eq_true rfl) dX3_narrowView_161 ⟨Nat.le_of_ble_eq_true rfl, Nat.le_of_ble_eq_true rfl⟩ (fun r107 e_r107 => ?_)
              subst e_r107
              refine W.widen (k := 8) (n := 60) (Nat.le_of_ble_eq_true rfl) (Nat.le_of_ble_eq_true rfl) ?_
              exact vx_ret (q_retMi C0 hret rfl hlk dX3_narrowView_164 hP hD hS (⟨by omega, by omega, (by unfold kR_narrowView; rw [if_neg (by (unfold nRef; (repeat' split) <;> omega)), show nLo σ xv xkind xlow = (turn (zod σ (zvw σ xv)) xlow) by (unfold nLo; (repeat' split) <;> first | rfl | omega), show nHi σ xv xkind xhigh = zvh σ xv by (unfold nHi; (repeat' split) <;> first | rfl | omega)]), O, G, CP_eq hC (by rw [sVw2]; unfold kS_narrowView; rw [if_neg (by (unfold nRef; (repeat' split) <;> omega)), show nLo σ xv xkind xlow = (turn (zod σ (zvw σ xv)) xlow) by (unfold nLo; (repeat' split) <;> first | rfl | omega), show nHi σ xv xkind xhigh = zvh σ xv by (unfold nHi; (repeat' split) <;> first | rfl | omega)]), rfl, Ext0 hO⟩))
            · refine lv_iload hx hb dX3_narrowView_120 (lv_at hl 3 rfl) ?_
              refine lv_iload hx hb dX3_narrowView_122 (lv_at hl 2 rfl) ?_
              refine q_icmp_le hx hb dX3_narrowView_124 (tgt := 132) (by decide) (by omega) (by omega) (fun c108 => ?_) (fun c108 => ?_)
              · refine lv_aload hx hb dX3_narrowView_132 (lv_at hl 4 rfl) ?_
                refine lv_iload hx hb dX3_narrowView_134 (lv_at hl 3 rfl) ?_
                refine q_put C0 iX1 tyX1 tyX1_ok nmX1 hP hD hS (CP_v hC hb_r1).1 (CP_v hC hb_r1).2 rfl 1 (by decide) flX3_182 rfl rfl rfl rfl (Nat.le_of_ble_eq_true rfl) dX3_narrowView_136 (fun H locs hP hD hS => ?_)
                obtain ⟨F109, eF109⟩ : ∃ z, z = va_up F (gva G xv) (.inr (3, [.ref ((grh G (zvw σ xv))), .int (iI ((turn (zod σ (zvw σ xv)) xlow))), .int (iI (zvh σ xv))])) := ⟨_, rfl⟩
                have hP : va_P D vwCl (va_pl L F109) H := by rw [eF109]; exact hP
                have hD : va_D (AL L s.heap.size) (va_pl L F109) := by rw [eF109]; exact hD
                have hvF : F109 (gva G xv) = (.inr (3, [.ref ((grh G (zvw σ xv))), .int (iI ((turn (zod σ (zvw σ xv)) xlow))), .int (iI (zvh σ xv))])) := by rw [eF109]; exact va_up_self _ _ _
                have hO : OE O F F109 := by rw [eF109]; exact hO.tr (OE1 ((CP_O hC).2.2.2.2.2.1 _ hb_r1.1 hb_r1.2))
                have hC : CP y L F109 O G (sVw σ xv (zvw σ xv) (turn (zod σ (zvw σ xv)) xlow) (zvh σ xv)) := by rw [eF109]; exact CP_vw hC hb_r1 (va_up_self _ _ _) (fun q hq => va_up_ne _ _ hq)
                refine lv_aload hx hb dX3_narrowView_139 (lv_at hl 4 rfl) ?_
                refine lv_iload hx hb dX3_narrowView_141 (lv_at hl 2 rfl) ?_
                refine q_put C0 iX1 tyX1 tyX1_ok nmX1 hP hD hS (CP_v hC hb_r1).1 hvF rfl 2 (by decide) flX3_185 rfl rfl rfl rfl (Nat.le_of_ble_eq_true rfl) dX3_narrowView_143 (fun H locs hP hD hS => ?_)
                obtain ⟨F110, eF110⟩ : ∃ z, z = va_up F109 (gva G xv) (.inr (3, [.ref ((grh G (zvw σ xv))), .int (iI ((turn (zod σ (zvw σ xv)) xlow))), .int (iI (zvh σ xv))])) := ⟨_, rfl⟩
                have hP : va_P D vwCl (va_pl L F110) H := by rw [eF110]; exact hP
                have hD : va_D (AL L s.heap.size) (va_pl L F110) := by rw [eF110]; exact hD
                have hvF : F110 (gva G xv) = (.inr (3, [.ref ((grh G (zvw σ xv))), .int (iI ((turn (zod σ (zvw σ xv)) xlow))), .int (iI (zvh σ xv))])) := by rw [eF110]; exact va_up_self _ _ _
                have hO : OE O F F110 := by rw [eF110]; exact hO.tr (OE1 ((CP_O hC).2.2.2.2.2.1 _ hb_r1.1 hb_r1.2))
                have hC : CP y L F110 O G (sVw (sVw σ xv (zvw σ xv) (turn (zod σ (zvw σ xv)) xlow) (zvh σ xv)) xv (zvw σ xv) (turn (zod σ (zvw σ xv)) xlow) (zvh σ xv)) := by rw [eF110]; exact CP_vw hC hb_r1 (va_up_self _ _ _) (fun q hq => va_up_ne _ _ hq)
                refine lv_aload hx hb dX3_narrowView_146 (lv_at hl 4 rfl) ?_
                refine q_get C0 iX1 hP (CP_v hC hb_r1).1 hvF rfl 0 (by decide) flX3_178 rfl rfl dX3_narrowView_148 ?_
                refine lv_aload hx hb dX3_narrowView_151 (lv_at hl 4 rfl) ?_
                refine q_get C0 iX1 hP (CP_v hC hb_r1).1 hvF rfl 1 (by decide) flX3_182 rfl rfl dX3_narrowView_153 ?_
                refine lv_aload hx hb dX3_narrowView_156 (lv_at hl 4 rfl) ?_
                refine q_get C0 iX1 hP (CP_v hC hb_r1).1 hvF rfl 2 (by decide) flX3_185 rfl rfl dX3_narrowView_158 ?_
                refine q_vS C0 lX3_188 (c_X0_countOfPart l D y L F110 (grh G (zvw σ xv)) (grw G (zvw σ xv)) (zod σ (zvw σ xv)) ((zst σ (zvw σ xv)).1) ((zst σ (zvw σ xv)).2.1) ((zst σ (zvw σ xv)).2.2) (turn (zod σ (zvw σ xv)) xlow) (zvh σ xv) (CP_r hC (hW.2.2.1 xv)) (by omega) (by omega)) ⟨rfl, rfl⟩ rfl hP (CP_r hC (hW.2.2.1 xv)).1 (CP_r hC (hW.2.2.1 xv)).2.1 rfl rfl rfl hl rfl (Nat.le_of_ble_eq_true rfl) dX3_narrowView_161 ⟨Nat.le_of_ble_eq_true rfl, Nat.le_of_ble_eq_true rfl⟩ (fun r111 e_r111 => ?_)
                subst e_r111
                refine W.widen (k := 8) (n := 60) (Nat.le_of_ble_eq_true rfl) (Nat.le_of_ble_eq_true rfl) ?_
                exact vx_ret (q_retMi C0 hret rfl hlk dX3_narrowView_164 hP hD hS (⟨by omega, by omega, (by unfold kR_narrowView; rw [if_neg (by (unfold nRef; (repeat' split) <;> omega)), show nLo σ xv xkind xlow = (turn (zod σ (zvw σ xv)) xlow) by (unfold nLo; (repeat' split) <;> first | rfl | omega), show nHi σ xv xkind xhigh = zvh σ xv by (unfold nHi; (repeat' split) <;> first | rfl | omega)]), O, G, CP_eq hC (by rw [sVw2]; unfold kS_narrowView; rw [if_neg (by (unfold nRef; (repeat' split) <;> omega)), show nLo σ xv xkind xlow = (turn (zod σ (zvw σ xv)) xlow) by (unfold nLo; (repeat' split) <;> first | rfl | omega), show nHi σ xv xkind xhigh = zvh σ xv by (unfold nHi; (repeat' split) <;> first | rfl | omega)]), rfl, Ext0 hO⟩))
              · refine lv_aload_n hx hb dX3_narrowView_127 rfl (lv_at hl 5 rfl) ?_
                refine q_vMi C0 lX3_63 (c_X3_refuse l D y L F _ O G σ hC) ⟨rfl, rfl⟩ rfl hP hD hS hA hC.1.1 hC.1.2 rfl rfl rfl hl rfl (Nat.le_of_ble_eq_true rfl) dX3_narrowView_128 ⟨Nat.le_of_ble_eq_true rfl, Nat.le_of_ble_eq_true rfl⟩ (fun r112 H locs L113 F113 hP hD hS hz113 hp113 => ?_)
                obtain ⟨eL, hC, er, hO1⟩ := hp113
                subst eL
                subst er
                have hO := hO.tr hO1
                refine W.widen (k := 8) (n := 60) (Nat.le_of_ble_eq_true rfl) (Nat.le_of_ble_eq_true rfl) ?_
                exact vx_ret (q_retMi C0 hret rfl hlk dX3_narrowView_131 hP hD hS (⟨by omega, by omega, (by unfold kR_narrowView; rw [if_pos (by unfold nRef; (repeat' split) <;> first | rfl | omega)]), O, G, CP_eq hC (by unfold kS_narrowView; rw [if_pos (by unfold nRef; (repeat' split) <;> first | rfl | omega)]), rfl, Ext0 hO⟩))
          · refine q_iconst hx hb dX3_narrowView_98 ?_
            refine lv_goto (tgt := 103) hx hb dX3_narrowView_99 (by decide) ?_
            refine lv_istore (lv' := [(9, .int (iI 1)), (8, .int (iI 0)), (7, .int (iI (zvh σ xv))), (6, .int (iI ((turn (zod σ (zvw σ xv)) xlow)))), (5, .ref ((gva G xv))), (0, .ref ((gbg G))), (1, .int (iI xv)), (2, .int (iI xkind)), (3, .int (iI xlow)), (4, .int (iI xhigh))]) hx hb dX3_narrowView_103 hl (by decide) rfl (fun ls hl => ?_)
            refine lv_iload hx hb dX3_narrowView_105 (lv_at hl 1 rfl) ?_
            refine q_if_ne hx hb dX3_narrowView_107 (tgt := 127) (by decide) (by omega) (fun c114 => absurd c114 (by omega)) (fun c114 => ?_)
            refine lv_iload hx hb dX3_narrowView_110 (lv_at hl 0 rfl) ?_
            refine q_if_ne hx hb dX3_narrowView_112 (tgt := 127) (by decide) (by omega) (fun c115 => ?_) (fun c115 => absurd c115 (by omega))
            refine lv_aload_n hx hb dX3_narrowView_127 rfl (lv_at hl 5 rfl) ?_
            refine q_vMi C0 lX3_63 (c_X3_refuse l D y L F _ O G σ hC) ⟨rfl, rfl⟩ rfl hP hD hS hA hC.1.1 hC.1.2 rfl rfl rfl hl rfl (Nat.le_of_ble_eq_true rfl) dX3_narrowView_128 ⟨Nat.le_of_ble_eq_true rfl, Nat.le_of_ble_eq_true rfl⟩ (fun r116 H locs L117 F117 hP hD hS hz117 hp117 => ?_)
            obtain ⟨eL, hC, er, hO1⟩ := hp117
            subst eL
            subst er
            have hO := hO.tr hO1
            refine W.widen (k := 8) (n := 60) (Nat.le_of_ble_eq_true rfl) (Nat.le_of_ble_eq_true rfl) ?_
            exact vx_ret (q_retMi C0 hret rfl hlk dX3_narrowView_131 hP hD hS (⟨by omega, by omega, (by unfold kR_narrowView; rw [if_pos (by unfold nRef; (repeat' split) <;> first | rfl | omega)]), O, G, CP_eq hC (by unfold kS_narrowView; rw [if_pos (by unfold nRef; (repeat' split) <;> first | rfl | omega)]), rfl, Ext0 hO⟩))
      · refine lv_aload hx hb dX3_narrowView_66 (lv_at hl 2 rfl) ?_
        refine lv_iload hx hb dX3_narrowView_68 (lv_at hl 1 rfl) ?_
        refine q_vS C0 lX3_191 (c_X1_isWithin l D y L F (gva G xv) (grh G (zvw σ xv)) (zvl σ xv) (zvh σ xv) (turn (zod σ (zvw σ xv)) xlow) (CP_v hC hb_r1).1 (CP_v hC hb_r1).2 (by omega) (by omega) (by omega)) ⟨rfl, rfl⟩ rfl hP (CP_v hC hb_r1).1 (CP_v hC hb_r1).2 rfl rfl rfl hl rfl (Nat.le_of_ble_eq_true rfl) dX3_narrowView_70 ⟨Nat.le_of_ble_eq_true rfl, Nat.le_of_ble_eq_true rfl⟩ (fun r118 e_r118 => ?_)
        subst e_r118
        refine q_if_ne hx hb dX3_narrowView_73 (tgt := 80) (by decide) (by omega) (fun c119 => ?_) (fun c119 => ?_)
        · refine q_iconst hx hb dX3_narrowView_80 ?_
          refine lv_istore (lv' := [(8, .int (iI 0)), (7, .int (iI (zvh σ xv))), (6, .int (iI ((turn (zod σ (zvw σ xv)) xlow)))), (5, .ref ((gva G xv))), (0, .ref ((gbg G))), (1, .int (iI xv)), (2, .int (iI xkind)), (3, .int (iI xlow)), (4, .int (iI xhigh))]) hx hb dX3_narrowView_81 hl (by decide) rfl (fun ls hl => ?_)
          refine lv_iload_n hx hb dX3_narrowView_83 rfl (lv_at hl 6 rfl) ?_
          refine q_iconst hx hb dX3_narrowView_84 ?_
          refine q_icmp_eq hx hb dX3_narrowView_85 (tgt := 102) (by decide) (by omega) (by omega) (fun c120 => ?_) (fun c120 => ?_)
          · refine q_iconst hx hb dX3_narrowView_102 ?_
            refine lv_istore (lv' := [(9, .int (iI 0)), (8, .int (iI 0)), (7, .int (iI (zvh σ xv))), (6, .int (iI ((turn (zod σ (zvw σ xv)) xlow)))), (5, .ref ((gva G xv))), (0, .ref ((gbg G))), (1, .int (iI xv)), (2, .int (iI xkind)), (3, .int (iI xlow)), (4, .int (iI xhigh))]) hx hb dX3_narrowView_103 hl (by decide) rfl (fun ls hl => ?_)
            refine lv_iload hx hb dX3_narrowView_105 (lv_at hl 1 rfl) ?_
            refine q_if_ne hx hb dX3_narrowView_107 (tgt := 127) (by decide) (by omega) (fun c121 => absurd c121 (by omega)) (fun c121 => ?_)
            refine lv_iload hx hb dX3_narrowView_110 (lv_at hl 0 rfl) ?_
            refine q_if_ne hx hb dX3_narrowView_112 (tgt := 127) (by decide) (by omega) (fun c122 => absurd c122 (by omega)) (fun c122 => ?_)
            refine lv_iload_n hx hb dX3_narrowView_115 rfl (lv_at hl 7 rfl) ?_
            refine q_iconst hx hb dX3_narrowView_116 ?_
            refine q_icmp_ne hx hb dX3_narrowView_117 (tgt := 132) (by decide) (by omega) (by omega) (fun c123 => ?_) (fun c123 => ?_)
            · refine lv_aload hx hb dX3_narrowView_132 (lv_at hl 4 rfl) ?_
              refine lv_iload hx hb dX3_narrowView_134 (lv_at hl 3 rfl) ?_
              refine q_put C0 iX1 tyX1 tyX1_ok nmX1 hP hD hS (CP_v hC hb_r1).1 (CP_v hC hb_r1).2 rfl 1 (by decide) flX3_182 rfl rfl rfl rfl (Nat.le_of_ble_eq_true rfl) dX3_narrowView_136 (fun H locs hP hD hS => ?_)
              obtain ⟨F124, eF124⟩ : ∃ z, z = va_up F (gva G xv) (.inr (3, [.ref ((grh G (zvw σ xv))), .int (iI ((turn (zod σ (zvw σ xv)) xlow))), .int (iI (zvh σ xv))])) := ⟨_, rfl⟩
              have hP : va_P D vwCl (va_pl L F124) H := by rw [eF124]; exact hP
              have hD : va_D (AL L s.heap.size) (va_pl L F124) := by rw [eF124]; exact hD
              have hvF : F124 (gva G xv) = (.inr (3, [.ref ((grh G (zvw σ xv))), .int (iI ((turn (zod σ (zvw σ xv)) xlow))), .int (iI (zvh σ xv))])) := by rw [eF124]; exact va_up_self _ _ _
              have hO : OE O F F124 := by rw [eF124]; exact hO.tr (OE1 ((CP_O hC).2.2.2.2.2.1 _ hb_r1.1 hb_r1.2))
              have hC : CP y L F124 O G (sVw σ xv (zvw σ xv) (turn (zod σ (zvw σ xv)) xlow) (zvh σ xv)) := by rw [eF124]; exact CP_vw hC hb_r1 (va_up_self _ _ _) (fun q hq => va_up_ne _ _ hq)
              refine lv_aload hx hb dX3_narrowView_139 (lv_at hl 4 rfl) ?_
              refine lv_iload hx hb dX3_narrowView_141 (lv_at hl 2 rfl) ?_
              refine q_put C0 iX1 tyX1 tyX1_ok nmX1 hP hD hS (CP_v hC hb_r1).1 hvF rfl 2 (by decide) flX3_185 rfl rfl rfl rfl (Nat.le_of_ble_eq_true rfl) dX3_narrowView_143 (fun H locs hP hD hS => ?_)
              obtain ⟨F125, eF125⟩ : ∃ z, z = va_up F124 (gva G xv) (.inr (3, [.ref ((grh G (zvw σ xv))), .int (iI ((turn (zod σ (zvw σ xv)) xlow))), .int (iI (zvh σ xv))])) := ⟨_, rfl⟩
              have hP : va_P D vwCl (va_pl L F125) H := by rw [eF125]; exact hP
              have hD : va_D (AL L s.heap.size) (va_pl L F125) := by rw [eF125]; exact hD
              have hvF : F125 (gva G xv) = (.inr (3, [.ref ((grh G (zvw σ xv))), .int (iI ((turn (zod σ (zvw σ xv)) xlow))), .int (iI (zvh σ xv))])) := by rw [eF125]; exact va_up_self _ _ _
              have hO : OE O F F125 := by rw [eF125]; exact hO.tr (OE1 ((CP_O hC).2.2.2.2.2.1 _ hb_r1.1 hb_r1.2))
              have hC : CP y L F125 O G (sVw (sVw σ xv (zvw σ xv) (turn (zod σ (zvw σ xv)) xlow) (zvh σ xv)) xv (zvw σ xv) (turn (zod σ (zvw σ xv)) xlow) (zvh σ xv)) := by rw [eF125]; exact CP_vw hC hb_r1 (va_up_self _ _ _) (fun q hq => va_up_ne _ _ hq)
              refine lv_aload hx hb dX3_narrowView_146 (lv_at hl 4 rfl) ?_
              refine q_get C0 iX1 hP (CP_v hC hb_r1).1 hvF rfl 0 (by decide) flX3_178 rfl rfl dX3_narrowView_148 ?_
              refine lv_aload hx hb dX3_narrowView_151 (lv_at hl 4 rfl) ?_
              refine q_get C0 iX1 hP (CP_v hC hb_r1).1 hvF rfl 1 (by decide) flX3_182 rfl rfl dX3_narrowView_153 ?_
              refine lv_aload hx hb dX3_narrowView_156 (lv_at hl 4 rfl) ?_
              refine q_get C0 iX1 hP (CP_v hC hb_r1).1 hvF rfl 2 (by decide) flX3_185 rfl rfl dX3_narrowView_158 ?_
              refine q_vS C0 lX3_188 (c_X0_countOfPart l D y L F125 (grh G (zvw σ xv)) (grw G (zvw σ xv)) (zod σ (zvw σ xv)) ((zst σ (zvw σ xv)).1) ((zst σ (zvw σ xv)).2.1) ((zst σ (zvw σ xv)).2.2) (turn (zod σ (zvw σ xv)) xlow) (zvh σ xv) (CP_r hC (hW.2.2.1 xv)) (by omega) (by omega)) ⟨rfl, rfl⟩ rfl hP (CP_r hC (hW.2.2.1 xv)).1 (CP_r hC (hW.2.2.1 xv)).2.1 rfl rfl rfl hl rfl (Nat.le_of_ble_eq_true rfl) dX3_narrowView_161 ⟨Nat.le_of_ble_eq_true rfl, Nat.le_of_ble_eq_true rfl⟩ (fun r126 e_r126 => ?_)
              subst e_r126
              refine W.widen (k := 8) (n := 60) (Nat.le_of_ble_eq_true rfl) (Nat.le_of_ble_eq_true rfl) ?_
              exact vx_ret (q_retMi C0 hret rfl hlk dX3_narrowView_164 hP hD hS (⟨by omega, by omega, (by unfold kR_narrowView; rw [if_neg (by (unfold nRef; (repeat' split) <;> omega)), show nLo σ xv xkind xlow = (turn (zod σ (zvw σ xv)) xlow) by (unfold nLo; (repeat' split) <;> first | rfl | omega), show nHi σ xv xkind xhigh = zvh σ xv by (unfold nHi; (repeat' split) <;> first | rfl | omega)]), O, G, CP_eq hC (by rw [sVw2]; unfold kS_narrowView; rw [if_neg (by (unfold nRef; (repeat' split) <;> omega)), show nLo σ xv xkind xlow = (turn (zod σ (zvw σ xv)) xlow) by (unfold nLo; (repeat' split) <;> first | rfl | omega), show nHi σ xv xkind xhigh = zvh σ xv by (unfold nHi; (repeat' split) <;> first | rfl | omega)]), rfl, Ext0 hO⟩))
            · refine lv_iload hx hb dX3_narrowView_120 (lv_at hl 3 rfl) ?_
              refine lv_iload hx hb dX3_narrowView_122 (lv_at hl 2 rfl) ?_
              refine q_icmp_le hx hb dX3_narrowView_124 (tgt := 132) (by decide) (by omega) (by omega) (fun c127 => ?_) (fun c127 => ?_)
              · refine lv_aload hx hb dX3_narrowView_132 (lv_at hl 4 rfl) ?_
                refine lv_iload hx hb dX3_narrowView_134 (lv_at hl 3 rfl) ?_
                refine q_put C0 iX1 tyX1 tyX1_ok nmX1 hP hD hS (CP_v hC hb_r1).1 (CP_v hC hb_r1).2 rfl 1 (by decide) flX3_182 rfl rfl rfl rfl (Nat.le_of_ble_eq_true rfl) dX3_narrowView_136 (fun H locs hP hD hS => ?_)
                obtain ⟨F128, eF128⟩ : ∃ z, z = va_up F (gva G xv) (.inr (3, [.ref ((grh G (zvw σ xv))), .int (iI ((turn (zod σ (zvw σ xv)) xlow))), .int (iI (zvh σ xv))])) := ⟨_, rfl⟩
                have hP : va_P D vwCl (va_pl L F128) H := by rw [eF128]; exact hP
                have hD : va_D (AL L s.heap.size) (va_pl L F128) := by rw [eF128]; exact hD
                have hvF : F128 (gva G xv) = (.inr (3, [.ref ((grh G (zvw σ xv))), .int (iI ((turn (zod σ (zvw σ xv)) xlow))), .int (iI (zvh σ xv))])) := by rw [eF128]; exact va_up_self _ _ _
                have hO : OE O F F128 := by rw [eF128]; exact hO.tr (OE1 ((CP_O hC).2.2.2.2.2.1 _ hb_r1.1 hb_r1.2))
                have hC : CP y L F128 O G (sVw σ xv (zvw σ xv) (turn (zod σ (zvw σ xv)) xlow) (zvh σ xv)) := by rw [eF128]; exact CP_vw hC hb_r1 (va_up_self _ _ _) (fun q hq => va_up_ne _ _ hq)
                refine lv_aload hx hb dX3_narrowView_139 (lv_at hl 4 rfl) ?_
                refine lv_iload hx hb dX3_narrowView_141 (lv_at hl 2 rfl) ?_
                refine q_put C0 iX1 tyX1 tyX1_ok nmX1 hP hD hS (CP_v hC hb_r1).1 hvF rfl 2 (by decide) flX3_185 rfl rfl rfl rfl (Nat.le_of_ble_eq_true rfl) dX3_narrowView_143 (fun H locs hP hD hS => ?_)
                obtain ⟨F129, eF129⟩ : ∃ z, z = va_up F128 (gva G xv) (.inr (3, [.ref ((grh G (zvw σ xv))), .int (iI ((turn (zod σ (zvw σ xv)) xlow))), .int (iI (zvh σ xv))])) := ⟨_, rfl⟩
                have hP : va_P D vwCl (va_pl L F129) H := by rw [eF129]; exact hP
                have hD : va_D (AL L s.heap.size) (va_pl L F129) := by rw [eF129]; exact hD
                have hvF : F129 (gva G xv) = (.inr (3, [.ref ((grh G (zvw σ xv))), .int (iI ((turn (zod σ (zvw σ xv)) xlow))), .int (iI (zvh σ xv))])) := by rw [eF129]; exact va_up_self _ _ _
                have hO : OE O F F129 := by rw [eF129]; exact hO.tr (OE1 ((CP_O hC).2.2.2.2.2.1 _ hb_r1.1 hb_r1.2))
                have hC : CP y L F129 O G (sVw (sVw σ xv (zvw σ xv) (turn (zod σ (zvw σ xv)) xlow) (zvh σ xv)) xv (zvw σ xv) (turn (zod σ (zvw σ xv)) xlow) (zvh σ xv)) := by rw [eF129]; exact CP_vw hC hb_r1 (va_up_self _ _ _) (fun q hq => va_up_ne _ _ hq)
                refine lv_aload hx hb dX3_narrowView_146 (lv_at hl 4 rfl) ?_
                refine q_get C0 iX1 hP (CP_v hC hb_r1).1 hvF rfl 0 (by decide) flX3_178 rfl rfl dX3_narrowView_148 ?_
                refine lv_aload hx hb dX3_narrowView_151 (lv_at hl 4 rfl) ?_
                refine q_get C0 iX1 hP (CP_v hC hb_r1).1 hvF rfl 1 (by decide) flX3_182 rfl rfl dX3_narrowView_153 ?_
                refine lv_aload hx hb dX3_narrowView_156 (lv_at hl 4 rfl) ?_
                refine q_get C0 iX1 hP (CP_v hC hb_r1).1 hvF rfl 2 (by decide) flX3_185 rfl rfl dX3_narrowView_158 ?_
                refine q_vS C0 lX3_188 (c_X0_countOfPart l D y L F129 (grh G (zvw σ xv)) (grw G (zvw σ xv)) (zod σ (zvw σ xv)) ((zst σ (zvw σ xv)).1) ((zst σ (zvw σ xv)).2.1) ((zst σ (zvw σ xv)).2.2) (turn (zod σ (zvw σ xv)) xlow) (zvh σ xv) (CP_r hC (hW.2.2.1 xv)) (by omega) (by omega)) ⟨rfl, rfl⟩ rfl hP (CP_r hC (hW.2.2.1 xv)).1 (CP_r hC (hW.2.2.1 xv)).2.1 rfl rfl rfl hl rfl (Nat.le_of_ble_eq_true rfl) dX3_narrowView_161 ⟨Nat.le_of_ble_eq_true rfl, Nat.le_of_ble_eq_true rfl⟩ (fun r130 e_r130 => ?_)
                subst e_r130
                refine W.widen (k := 8) (n := 60) (Nat.le_of_ble_eq_true rfl) (Nat.le_of_ble_eq_true rfl) ?_
                exact vx_ret (q_retMi C0 hret rfl hlk dX3_narrowView_164 hP hD hS (⟨by omega, by omega, (by unfold kR_narrowView; rw [if_neg (by (unfold nRef; (repeat' split) <;> omega)), show nLo σ xv xkind xlow = (turn (zod σ (zvw σ xv)) xlow) by (unfold nLo; (repeat' split) <;> first | rfl | omega), show nHi σ xv xkind xhigh = zvh σ xv by (unfold nHi; (repeat' split) <;> first | rfl | omega)]), O, G, CP_eq hC (by rw [sVw2]; unfold kS_narrowView; rw [if_neg (by (unfold nRef; (repeat' split) <;> omega)), show nLo σ xv xkind xlow = (turn (zod σ (zvw σ xv)) xlow) by (unfold nLo; (repeat' split) <;> first | rfl | omega), show nHi σ xv xkind xhigh = zvh σ xv by (unfold nHi; (repeat' split) <;> first | rfl | omega)]), rfl, Ext0 hO⟩))
              · refine lv_aload_n hx hb dX3_narrowView_127 rfl (lv_at hl 5 rfl) ?_
                refine q_vMi C0 lX3_63 (c_X3_refuse l D y L F _ O G σ hC) ⟨rfl, rfl⟩ rfl hP hD hS hA hC.1.1 hC.1.2 rfl rfl rfl hl rfl (Nat.le_of_ble_eq_true rfl) dX3_narrowView_128 ⟨Nat.le_of_ble_eq_true rfl, Nat.le_of_ble_eq_true rfl⟩ (fun r131 H locs L132 F132 hP hD hS hz132 hp132 => ?_)
                obtain ⟨eL, hC, er, hO1⟩ := hp132
                subst eL
                subst er
                have hO := hO.tr hO1
                refine W.widen (k := 8) (n := 60) (Nat.le_of_ble_eq_true rfl) (Nat.le_of_ble_eq_true rfl) ?_
                exact vx_ret (q_retMi C0 hret rfl hlk dX3_narrowView_131 hP hD hS (⟨by omega, by omega, (by unfold kR_narrowView; rw [if_pos (by unfold nRef; (repeat' split) <;> first | rfl | omega)]), O, G, CP_eq hC (by unfold kS_narrowView; rw [if_pos (by unfold nRef; (repeat' split) <;> first | rfl | omega)]), rfl, Ext0 hO⟩))
          · refine lv_aload hx hb dX3_narrowView_88 (lv_at hl 3 rfl) ?_
            refine lv_iload hx hb dX3_narrowView_90 (lv_at hl 1 rfl) ?_
            refine q_vS C0 lX3_191 (c_X1_isWithin l D y L F (gva G xv) (grh G (zvw σ xv)) (zvl σ xv) (zvh σ xv) (zvh σ xv) (CP_v hC hb_r1).1 (CP_v hC hb_r1).2 (by omega) (by omega) (by omega)) ⟨rfl, rfl⟩ rfl hP (CP_v hC hb_r1).1 (CP_v hC hb_r1).2 rfl rfl rfl hl rfl (Nat.le_of_ble_eq_true rfl) dX3_narrowView_92 ⟨Nat.le_of_ble_eq_true rfl, Nat.le_of_ble_eq_true rfl⟩ (fun r133 e_r133 => ?_)
            subst e_r133
            refine q_if_ne hx hb dX3_narrowView_95 (tgt := 102) (by decide) (by omega) (fun c134 => ?_) (fun c134 => ?_)
            · refine q_iconst hx hb dX3_narrowView_102 ?_
              refine lv_istore (lv' := [(9, .int (iI 0)), (8, .int (iI 0)), (7, .int (iI (zvh σ xv))), (6, .int (iI ((turn (zod σ (zvw σ xv)) xlow)))), (5, .ref ((gva G xv))), (0, .ref ((gbg G))), (1, .int (iI xv)), (2, .int (iI xkind)), (3, .int (iI xlow)), (4, .int (iI xhigh))]) hx hb dX3_narrowView_103 hl (by decide) rfl (fun ls hl => ?_)
              refine lv_iload hx hb dX3_narrowView_105 (lv_at hl 1 rfl) ?_
              refine q_if_ne hx hb dX3_narrowView_107 (tgt := 127) (by decide) (by omega) (fun c135 => absurd c135 (by omega)) (fun c135 => ?_)
              refine lv_iload hx hb dX3_narrowView_110 (lv_at hl 0 rfl) ?_
              refine q_if_ne hx hb dX3_narrowView_112 (tgt := 127) (by decide) (by omega) (fun c136 => absurd c136 (by omega)) (fun c136 => ?_)
              refine lv_iload_n hx hb dX3_narrowView_115 rfl (lv_at hl 7 rfl) ?_
              refine q_iconst hx hb dX3_narrowView_116 ?_
              refine q_icmp_ne hx hb dX3_narrowView_117 (tgt := 132) (by decide) (by omega) (by omega) (fun c137 => ?_) (fun c137 => ?_)
              · refine lv_aload hx hb dX3_narrowView_132 (lv_at hl 4 rfl) ?_
                refine lv_iload hx hb dX3_narrowView_134 (lv_at hl 3 rfl) ?_
                refine q_put C0 iX1 tyX1 tyX1_ok nmX1 hP hD hS (CP_v hC hb_r1).1 (CP_v hC hb_r1).2 rfl 1 (by decide) flX3_182 rfl rfl rfl rfl (Nat.le_of_ble_eq_true rfl) dX3_narrowView_136 (fun H locs hP hD hS => ?_)
                obtain ⟨F138, eF138⟩ : ∃ z, z = va_up F (gva G xv) (.inr (3, [.ref ((grh G (zvw σ xv))), .int (iI ((turn (zod σ (zvw σ xv)) xlow))), .int (iI (zvh σ xv))])) := ⟨_, rfl⟩
                have hP : va_P D vwCl (va_pl L F138) H := by rw [eF138]; exact hP
                have hD : va_D (AL L s.heap.size) (va_pl L F138) := by rw [eF138]; exact hD
                have hvF : F138 (gva G xv) = (.inr (3, [.ref ((grh G (zvw σ xv))), .int (iI ((turn (zod σ (zvw σ xv)) xlow))), .int (iI (zvh σ xv))])) := by rw [eF138]; exact va_up_self _ _ _
                have hO : OE O F F138 := by rw [eF138]; exact hO.tr (OE1 ((CP_O hC).2.2.2.2.2.1 _ hb_r1.1 hb_r1.2))
                have hC : CP y L F138 O G (sVw σ xv (zvw σ xv) (turn (zod σ (zvw σ xv)) xlow) (zvh σ xv)) := by rw [eF138]; exact CP_vw hC hb_r1 (va_up_self _ _ _) (fun q hq => va_up_ne _ _ hq)
                refine lv_aload hx hb dX3_narrowView_139 (lv_at hl 4 rfl) ?_
                refine lv_iload hx hb dX3_narrowView_141 (lv_at hl 2 rfl) ?_
                refine q_put C0 iX1 tyX1 tyX1_ok nmX1 hP hD hS (CP_v hC hb_r1).1 hvF rfl 2 (by decide) flX3_185 rfl rfl rfl rfl (Nat.le_of_ble_eq_true rfl) dX3_narrowView_143 (fun H locs hP hD hS => ?_)
                obtain ⟨F139, eF139⟩ : ∃ z, z = va_up F138 (gva G xv) (.inr (3, [.ref ((grh G (zvw σ xv))), .int (iI ((turn (zod σ (zvw σ xv)) xlow))), .int (iI (zvh σ xv))])) := ⟨_, rfl⟩
                have hP : va_P D vwCl (va_pl L F139) H := by rw [eF139]; exact hP
                have hD : va_D (AL L s.heap.size) (va_pl L F139) := by rw [eF139]; exact hD
                have hvF : F139 (gva G xv) = (.inr (3, [.ref ((grh G (zvw σ xv))), .int (iI ((turn (zod σ (zvw σ xv)) xlow))), .int (iI (zvh σ xv))])) := by rw [eF139]; exact va_up_self _ _ _
                have hO : OE O F F139 := by rw [eF139]; exact hO.tr (OE1 ((CP_O hC).2.2.2.2.2.1 _ hb_r1.1 hb_r1.2))
                have hC : CP y L F139 O G (sVw (sVw σ xv (zvw σ xv) (turn (zod σ (zvw σ xv)) xlow) (zvh σ xv)) xv (zvw σ xv) (turn (zod σ (zvw σ xv)) xlow) (zvh σ xv)) := by rw [eF139]; exact CP_vw hC hb_r1 (va_up_self _ _ _) (fun q hq => va_up_ne _ _ hq)
                refine lv_aload hx hb dX3_narrowView_146 (lv_at hl 4 rfl) ?_
                refine q_get C0 iX1 hP (CP_v hC hb_r1).1 hvF rfl 0 (by decide) flX3_178 rfl rfl dX3_narrowView_148 ?_
                refine lv_aload hx hb dX3_narrowView_151 (lv_at hl 4 rfl) ?_
                refine q_get C0 iX1 hP (CP_v hC hb_r1).1 hvF rfl 1 (by decide) flX3_182 rfl rfl dX3_narrowView_153 ?_
                refine lv_aload hx hb dX3_narrowView_156 (lv_at hl 4 rfl) ?_
                refine q_get C0 iX1 hP (CP_v hC hb_r1).1 hvF rfl 2 (by decide) flX3_185 rfl rfl dX3_narrowView_158 ?_
                refine q_vS C0 lX3_188 (c_X0_countOfPart l D y L F139 (grh G (zvw σ xv)) (grw G (zvw σ xv)) (zod σ (zvw σ xv)) ((zst σ (zvw σ xv)).1) ((zst σ (zvw σ xv)).2.1) ((zst σ (zvw σ xv)).2.2) (turn (zod σ (zvw σ xv)) xlow) (zvh σ xv) (CP_r hC (hW.2.2.1 xv)) (by omega) (by omega)) ⟨rfl, rfl⟩ rfl hP (CP_r hC (hW.2.2.1 xv)).1 (CP_r hC (hW.2.2.1 xv)).2.1 rfl rfl rfl hl rfl (Nat.le_of_ble_eq_true rfl) dX3_narrowView_161 ⟨Nat.le_of_ble_eq_true rfl, Nat.le_of_ble_eq_true rfl⟩ (fun r140 e_r140 => ?_)
                subst e_r140
                refine W.widen (k := 8) (n := 60) (Nat.le_of_ble_eq_true rfl) (Nat.le_of_ble_eq_true rfl) ?_
                exact vx_ret (q_retMi C0 hret rfl hlk dX3_narrowView_164 hP hD hS (⟨by omega, by omega, (by unfold kR_narrowView; rw [if_neg (by (unfold nRef; (repeat' split) <;> omega)), show nLo σ xv xkind xlow = (turn (zod σ (zvw σ xv)) xlow) by (unfold nLo; (repeat' split) <;> first | rfl | omega), show nHi σ xv xkind xhigh = zvh σ xv by (unfold nHi; (repeat' split) <;> first | rfl | omega)]), O, G, CP_eq hC (by rw [sVw2]; unfold kS_narrowView; rw [if_neg (by (unfold nRef; (repeat' split) <;> omega)), show nLo σ xv xkind xlow = (turn (zod σ (zvw σ xv)) xlow) by (unfold nLo; (repeat' split) <;> first | rfl | omega), show nHi σ xv xkind xhigh = zvh σ xv by (unfold nHi; (repeat' split) <;> first | rfl | omega)]), rfl, Ext0 hO⟩))
              · refine lv_iload hx hb dX3_narrowView_120 (lv_at hl 3 rfl) ?_
                refine lv_iload hx hb dX3_narrowView_122 (lv_at hl 2 rfl) ?_
                refine q_icmp_le hx hb dX3_narrowView_124 (tgt := 132) (by decide) (by omega) (by omega) (fun c141 => ?_) (fun c141 => ?_)
                · refine lv_aload hx hb dX3_narrowView_132 (lv_at hl 4 rfl) ?_
                  refine lv_iload hx hb dX3_narrowView_134 (lv_at hl 3 rfl) ?_
                  refine q_put C0 iX1 tyX1 tyX1_ok nmX1 hP hD hS (CP_v hC hb_r1).1 (CP_v hC hb_r1).2 rfl 1 (by decide) flX3_182 rfl rfl rfl rfl (Nat.le_of_ble_eq_true rfl) dX3_narrowView_136 (fun H locs hP hD hS => ?_)
                  obtain ⟨F142, eF142⟩ : ∃ z, z = va_up F (gva G xv) (.inr (3, [.ref ((grh G (zvw σ xv))), .int (iI ((turn (zod σ (zvw σ xv)) xlow))), .int (iI (zvh σ xv))])) := ⟨_, rfl⟩
                  have hP : va_P D vwCl (va_pl L F142) H := by rw [eF142]; exact hP
                  have hD : va_D (AL L s.heap.size) (va_pl L F142) := by rw [eF142]; exact hD
                  have hvF : F142 (gva G xv) = (.inr (3, [.ref ((grh G (zvw σ xv))), .int (iI ((turn (zod σ (zvw σ xv)) xlow))), .int (iI (zvh σ xv))])) := by rw [eF142]; exact va_up_self _ _ _
                  have hO : OE O F F142 := by rw [eF142]; exact hO.tr (OE1 ((CP_O hC).2.2.2.2.2.1 _ hb_r1.1 hb_r1.2))
                  have hC : CP y L F142 O G (sVw σ xv (zvw σ xv) (turn (zod σ (zvw σ xv)) xlow) (zvh σ xv)) := by rw [eF142]; exact CP_vw hC hb_r1 (va_up_self _ _ _) (fun q hq => va_up_ne _ _ hq)
                  refine lv_aload hx hb dX3_narrowView_139 (lv_at hl 4 rfl) ?_
                  refine lv_iload hx hb dX3_narrowView_141 (lv_at hl 2 rfl) ?_
                  refine q_put C0 iX1 tyX1 tyX1_ok nmX1 hP hD hS (CP_v hC hb_r1).1 hvF rfl 2 (by decide) flX3_185 rfl rfl rfl rfl (Nat.le_of_ble_eq_true rfl) dX3_narrowView_143 (fun H locs hP hD hS => ?_)
                  obtain ⟨F143, eF143⟩ : ∃ z, z = va_up F142 (gva G xv) (.inr (3, [.ref ((grh G (zvw σ xv))), .int (iI ((turn (zod σ (zvw σ xv)) xlow))), .int (iI (zvh σ xv))])) := ⟨_, rfl⟩
                  have hP : va_P D vwCl (va_pl L F143) H := by rw [eF143]; exact hP
                  have hD : va_D (AL L s.heap.size) (va_pl L F143) := by rw [eF143]; exact hD
                  have hvF : F143 (gva G xv) = (.inr (3, [.ref ((grh G (zvw σ xv))), .int (iI ((turn (zod σ (zvw σ xv)) xlow))), .int (iI (zvh σ xv))])) := by rw [eF143]; exact va_up_self _ _ _
                  have hO : OE O F F143 := by rw [eF143]; exact hO.tr (OE1 ((CP_O hC).2.2.2.2.2.1 _ hb_r1.1 hb_r1.2))
                  have hC : CP y L F143 O G (sVw (sVw σ xv (zvw σ xv) (turn (zod σ (zvw σ xv)) xlow) (zvh σ xv)) xv (zvw σ xv) (turn (zod σ (zvw σ xv)) xlow) (zvh σ xv)) := by rw [eF143]; exact CP_vw hC hb_r1 (va_up_self _ _ _) (fun q hq => va_up_ne _ _ hq)
                  refine lv_aload hx hb dX3_narrowView_146 (lv_at hl 4 rfl) ?_
                  refine q_get C0 iX1 hP (CP_v hC hb_r1).1 hvF rfl 0 (by decide) flX3_178 rfl rfl dX3_narrowView_148 ?_
                  refine lv_aload hx hb dX3_narrowView_151 (lv_at hl 4 rfl) ?_
                  refine q_get C0 iX1 hP (CP_v hC hb_r1).1 hvF rfl 1 (by decide) flX3_182 rfl rfl dX3_narrowView_153 ?_
                  refine lv_aload hx hb dX3_narrowView_156 (lv_at hl 4 rfl) ?_
                  refine q_get C0 iX1 hP (CP_v hC hb_r1).1 hvF rfl 2 (by decide) flX3_185 rfl rfl dX3_narrowView_158 ?_
                  refine q_vS C0 lX3_188 (c_X0_countOfPart l D y L F143 (grh G (zvw σ xv)) (grw G (zvw σ xv)) (zod σ (zvw σ xv)) ((zst σ (zvw σ xv)).1) ((zst σ (zvw σ xv)).2.1) ((zst σ (zvw σ xv)).2.2) (turn (zod σ (zvw σ xv)) xlow) (zvh σ xv) (CP_r hC (hW.2.2.1 xv)) (by omega) (by omega)) ⟨rfl, rfl⟩ rfl hP (CP_r hC (hW.2.2.1 xv)).1 (CP_r hC (hW.2.2.1 xv)).2.1 rfl rfl rfl hl rfl (Nat.le_of_ble_eq_true rfl) dX3_narrowView_161 ⟨Nat.le_of_ble_eq_true rfl, Nat.le_of_ble_eq_true rfl⟩ (fun r144 e_r144 => ?_)
                  subst e_r144
                  refine W.widen (k := 8) (n := 60) (Nat.le_of_ble_eq_true rfl) (Nat.le_of_ble_eq_true rfl) ?_
                  exact vx_ret (q_retMi C0 hret rfl hlk dX3_narrowView_164 hP hD hS (⟨by omega, by omega, (by unfold kR_narrowView; rw [if_neg (by (unfold nRef; (repeat' split) <;> omega)), show nLo σ xv xkind xlow = (turn (zod σ (zvw σ xv)) xlow) by (unfold nLo; (repeat' split) <;> first | rfl | omega), show nHi σ xv xkind xhigh = zvh σ xv by (unfold nHi; (repeat' split) <;> first | rfl | omega)]), O, G, CP_eq hC (by rw [sVw2]; unfold kS_narrowView; rw [if_neg (by (unfold nRef; (repeat' split) <;> omega)), show nLo σ xv xkind xlow = (turn (zod σ (zvw σ xv)) xlow) by (unfold nLo; (repeat' split) <;> first | rfl | omega), show nHi σ xv xkind xhigh = zvh σ xv by (unfold nHi; (repeat' split) <;> first | rfl | omega)]), rfl, Ext0 hO⟩))
                · refine lv_aload_n hx hb dX3_narrowView_127 rfl (lv_at hl 5 rfl) ?_
                  refine q_vMi C0 lX3_63 (c_X3_refuse l D y L F _ O G σ hC) ⟨rfl, rfl⟩ rfl hP hD hS hA hC.1.1 hC.1.2 rfl rfl rfl hl rfl (Nat.le_of_ble_eq_true rfl) dX3_narrowView_128 ⟨Nat.le_of_ble_eq_true rfl, Nat.le_of_ble_eq_true rfl⟩ (fun r145 H locs L146 F146 hP hD hS hz146 hp146 => ?_)
                  obtain ⟨eL, hC, er, hO1⟩ := hp146
                  subst eL
                  subst er
                  have hO := hO.tr hO1
                  refine W.widen (k := 8) (n := 60) (Nat.le_of_ble_eq_true rfl) (Nat.le_of_ble_eq_true rfl) ?_
                  exact vx_ret (q_retMi C0 hret rfl hlk dX3_narrowView_131 hP hD hS (⟨by omega, by omega, (by unfold kR_narrowView; rw [if_pos (by unfold nRef; (repeat' split) <;> first | rfl | omega)]), O, G, CP_eq hC (by unfold kS_narrowView; rw [if_pos (by unfold nRef; (repeat' split) <;> first | rfl | omega)]), rfl, Ext0 hO⟩))
            · refine q_iconst hx hb dX3_narrowView_98 ?_
              refine lv_goto (tgt := 103) hx hb dX3_narrowView_99 (by decide) ?_
              refine lv_istore (lv' := [(9, .int (iI 1)), (8, .int (iI 0)), (7, .int (iI (zvh σ xv))), (6, .int (iI ((turn (zod σ (zvw σ xv)) xlow)))), (5, .ref ((gva G xv))), (0, .ref ((gbg G))), (1, .int (iI xv)), (2, .int (iI xkind)), (3, .int (iI xlow)), (4, .int (iI xhigh))]) hx hb dX3_narrowView_103 hl (by decide) rfl (fun ls hl => ?_)
              refine lv_iload hx hb dX3_narrowView_105 (lv_at hl 1 rfl) ?_
              refine q_if_ne hx hb dX3_narrowView_107 (tgt := 127) (by decide) (by omega) (fun c147 => absurd c147 (by omega)) (fun c147 => ?_)
              refine lv_iload hx hb dX3_narrowView_110 (lv_at hl 0 rfl) ?_
              refine q_if_ne hx hb dX3_narrowView_112 (tgt := 127) (by decide) (by omega) (fun c148 => ?_) (fun c148 => absurd c148 (by omega))
              refine lv_aload_n hx hb dX3_narrowView_127 rfl (lv_at hl 5 rfl) ?_
              refine q_vMi C0 lX3_63 (c_X3_refuse l D y L F _ O G σ hC) ⟨rfl, rfl⟩ rfl hP hD hS hA hC.1.1 hC.1.2 rfl rfl rfl hl rfl (Nat.le_of_ble_eq_true rfl) dX3_narrowView_128 ⟨Nat.le_of_ble_eq_true rfl, Nat.le_of_ble_eq_true rfl⟩ (fun r149 H locs L150 F150 hP hD hS hz150 hp150 => ?_)
              obtain ⟨eL, hC, er, hO1⟩ := hp150
              subst eL
              subst er
              have hO := hO.tr hO1
              refine W.widen (k := 8) (n := 60) (Nat.le_of_ble_eq_true rfl) (Nat.le_of_ble_eq_true rfl) ?_
              exact vx_ret (q_retMi C0 hret rfl hlk dX3_narrowView_131 hP hD hS (⟨by omega, by omega, (by unfold kR_narrowView; rw [if_pos (by unfold nRef; (repeat' split) <;> first | rfl | omega)]), O, G, CP_eq hC (by unfold kS_narrowView; rw [if_pos (by unfold nRef; (repeat' split) <;> first | rfl | omega)]), rfl, Ext0 hO⟩))
        · refine q_iconst hx hb dX3_narrowView_76 ?_
          refine lv_goto (tgt := 81) hx hb dX3_narrowView_77 (by decide) ?_
          refine lv_istore (lv' := [(8, .int (iI 1)), (7, .int (iI (zvh σ xv))), (6, .int (iI ((turn (zod σ (zvw σ xv)) xlow)))), (5, .ref ((gva G xv))), (0, .ref ((gbg G))), (1, .int (iI xv)), (2, .int (iI xkind)), (3, .int (iI xlow)), (4, .int (iI xhigh))]) hx hb dX3_narrowView_81 hl (by decide) rfl (fun ls hl => ?_)
          refine lv_iload_n hx hb dX3_narrowView_83 rfl (lv_at hl 6 rfl) ?_
          refine q_iconst hx hb dX3_narrowView_84 ?_
          refine q_icmp_eq hx hb dX3_narrowView_85 (tgt := 102) (by decide) (by omega) (by omega) (fun c151 => ?_) (fun c151 => ?_)
          · refine q_iconst hx hb dX3_narrowView_102 ?_
            refine lv_istore (lv' := [(9, .int (iI 0)), (8, .int (iI 1)), (7, .int (iI (zvh σ xv))), (6, .int (iI ((turn (zod σ (zvw σ xv)) xlow)))), (5, .ref ((gva G xv))), (0, .ref ((gbg G))), (1, .int (iI xv)), (2, .int (iI xkind)), (3, .int (iI xlow)), (4, .int (iI xhigh))]) hx hb dX3_narrowView_103 hl (by decide) rfl (fun ls hl => ?_)
            refine lv_iload hx hb dX3_narrowView_105 (lv_at hl 1 rfl) ?_
            refine q_if_ne hx hb dX3_narrowView_107 (tgt := 127) (by decide) (by omega) (fun c152 => ?_) (fun c152 => absurd c152 (by omega))
            refine lv_aload_n hx hb dX3_narrowView_127 rfl (lv_at hl 5 rfl) ?_
            refine q_vMi C0 lX3_63 (c_X3_refuse l D y L F _ O G σ hC) ⟨rfl, rfl⟩ rfl hP hD hS hA hC.1.1 hC.1.2 rfl rfl rfl hl rfl (Nat.le_of_ble_eq_true rfl) dX3_narrowView_128 ⟨Nat.le_of_ble_eq_true rfl, Nat.le_of_ble_eq_true rfl⟩ (fun r153 H locs L154 F154 hP hD hS hz154 hp154 => ?_)
            obtain ⟨eL, hC, er, hO1⟩ := hp154
            subst eL
            subst er
            have hO := hO.tr hO1
            refine W.widen (k := 8) (n := 60) (Nat.le_of_ble_eq_true rfl) (Nat.le_of_ble_eq_true rfl) ?_
            exact vx_ret (q_retMi C0 hret rfl hlk dX3_narrowView_131 hP hD hS (⟨by omega, by omega, (by unfold kR_narrowView; rw [if_pos (by unfold nRef; (repeat' split) <;> first | rfl | omega)]), O, G, CP_eq hC (by unfold kS_narrowView; rw [if_pos (by unfold nRef; (repeat' split) <;> first | rfl | omega)]), rfl, Ext0 hO⟩))
          · refine lv_aload hx hb dX3_narrowView_88 (lv_at hl 3 rfl) ?_
            refine lv_iload hx hb dX3_narrowView_90 (lv_at hl 1 rfl) ?_
            refine q_vS C0 lX3_191 (c_X1_isWithin l D y L F (gva G xv) (grh G (zvw σ xv)) (zvl σ xv) (zvh σ xv) (zvh σ xv) (CP_v hC hb_r1).1 (CP_v hC hb_r1).2 (by omega) (by omega) (by omega)) ⟨rfl, rfl⟩ rfl hP (CP_v hC hb_r1).1 (CP_v hC hb_r1).2 rfl rfl rfl hl rfl (Nat.le_of_ble_eq_true rfl) dX3_narrowView_92 ⟨Nat.le_of_ble_eq_true rfl, Nat.le_of_ble_eq_true rfl⟩ (fun r155 e_r155 => ?_)
            subst e_r155
            refine q_if_ne hx hb dX3_narrowView_95 (tgt := 102) (by decide) (by omega) (fun c156 => ?_) (fun c156 => ?_)
            · refine q_iconst hx hb dX3_narrowView_102 ?_
              refine lv_istore (lv' := [(9, .int (iI 0)), (8, .int (iI 1)), (7, .int (iI (zvh σ xv))), (6, .int (iI ((turn (zod σ (zvw σ xv)) xlow)))), (5, .ref ((gva G xv))), (0, .ref ((gbg G))), (1, .int (iI xv)), (2, .int (iI xkind)), (3, .int (iI xlow)), (4, .int (iI xhigh))]) hx hb dX3_narrowView_103 hl (by decide) rfl (fun ls hl => ?_)
              refine lv_iload hx hb dX3_narrowView_105 (lv_at hl 1 rfl) ?_
              refine q_if_ne hx hb dX3_narrowView_107 (tgt := 127) (by decide) (by omega) (fun c157 => ?_) (fun c157 => absurd c157 (by omega))
              refine lv_aload_n hx hb dX3_narrowView_127 rfl (lv_at hl 5 rfl) ?_
              refine q_vMi C0 lX3_63 (c_X3_refuse l D y L F _ O G σ hC) ⟨rfl, rfl⟩ rfl hP hD hS hA hC.1.1 hC.1.2 rfl rfl rfl hl rfl (Nat.le_of_ble_eq_true rfl) dX3_narrowView_128 ⟨Nat.le_of_ble_eq_true rfl, Nat.le_of_ble_eq_true rfl⟩ (fun r158 H locs L159 F159 hP hD hS hz159 hp159 => ?_)
              obtain ⟨eL, hC, er, hO1⟩ := hp159
              subst eL
              subst er
              have hO := hO.tr hO1
              refine W.widen (k := 8) (n := 60) (Nat.le_of_ble_eq_true rfl) (Nat.le_of_ble_eq_true rfl) ?_
              exact vx_ret (q_retMi C0 hret rfl hlk dX3_narrowView_131 hP hD hS (⟨by omega, by omega, (by unfold kR_narrowView; rw [if_pos (by unfold nRef; (repeat' split) <;> first | rfl | omega)]), O, G, CP_eq hC (by unfold kS_narrowView; rw [if_pos (by unfold nRef; (repeat' split) <;> first | rfl | omega)]), rfl, Ext0 hO⟩))
            · refine q_iconst hx hb dX3_narrowView_98 ?_
              refine lv_goto (tgt := 103) hx hb dX3_narrowView_99 (by decide) ?_
              refine lv_istore (lv' := [(9, .int (iI 1)), (8, .int (iI 1)), (7, .int (iI (zvh σ xv))), (6, .int (iI ((turn (zod σ (zvw σ xv)) xlow)))), (5, .ref ((gva G xv))), (0, .ref ((gbg G))), (1, .int (iI xv)), (2, .int (iI xkind)), (3, .int (iI xlow)), (4, .int (iI xhigh))]) hx hb dX3_narrowView_103 hl (by decide) rfl (fun ls hl => ?_)
              refine lv_iload hx hb dX3_narrowView_105 (lv_at hl 1 rfl) ?_
              refine q_if_ne hx hb dX3_narrowView_107 (tgt := 127) (by decide) (by omega) (fun c160 => ?_) (fun c160 => absurd c160 (by omega))
              refine lv_aload_n hx hb dX3_narrowView_127 rfl (lv_at hl 5 rfl) ?_
              refine q_vMi C0 lX3_63 (c_X3_refuse l D y L F _ O G σ hC) ⟨rfl, rfl⟩ rfl hP hD hS hA hC.1.1 hC.1.2 rfl rfl rfl hl rfl (Nat.le_of_ble_eq_true rfl) dX3_narrowView_128 ⟨Nat.le_of_ble_eq_true rfl, Nat.le_of_ble_eq_true rfl⟩ (fun r161 H locs L162 F162 hP hD hS hz162 hp162 => ?_)
              obtain ⟨eL, hC, er, hO1⟩ := hp162
              subst eL
              subst er
              have hO := hO.tr hO1
              refine W.widen (k := 8) (n := 60) (Nat.le_of_ble_eq_true rfl) (Nat.le_of_ble_eq_true rfl) ?_
              exact vx_ret (q_retMi C0 hret rfl hlk dX3_narrowView_131 hP hD hS (⟨by omega, by omega, (by unfold kR_narrowView; rw [if_pos (by unfold nRef; (repeat' split) <;> first | rfl | omega)]), O, G, CP_eq hC (by unfold kS_narrowView; rw [if_pos (by unfold nRef; (repeat' split) <;> first | rfl | omega)]), rfl, Ext0 hO⟩))
  · refine lv_aload hx hb dX3_narrowView_18 (lv_at hl 0 rfl) ?_
    refine q_get C0 iX1 hP (CP_v hC hb_r1).1 (CP_v hC hb_r1).2 rfl 1 (by decide) flX3_182 rfl rfl dX3_narrowView_20 ?_
    refine lv_goto (tgt := 35) hx hb dX3_narrowView_23 (by decide) ?_
    refine lv_istore (lv' := [(6, .int (iI (zvl σ xv))), (5, .ref ((gva G xv))), (0, .ref ((gbg G))), (1, .int (iI xv)), (2, .int (iI xkind)), (3, .int (iI xlow)), (4, .int (iI xhigh))]) hx hb dX3_narrowView_35 hl (by decide) rfl (fun ls hl => ?_)
    refine lv_iload_n hx hb dX3_narrowView_37 rfl (lv_at hl 4 rfl) ?_
    refine q_iconst hx hb dX3_narrowView_38 ?_
    refine q_icmp_ne hx hb dX3_narrowView_39 (tgt := 50) (by decide) (by omega) (by omega) (fun c163 => ?_) (fun c163 => ?_)
    · refine lv_aload hx hb dX3_narrowView_50 (lv_at hl 1 rfl) ?_
      refine q_get C0 iX1 hP (CP_v hC hb_r1).1 (CP_v hC hb_r1).2 rfl 0 (by decide) flX3_178 rfl rfl dX3_narrowView_52 ?_
      refine lv_iload hx hb dX3_narrowView_55 (lv_at hl 6 rfl) ?_
      refine q_vS C0 lX3_70 (c_X0_rankOf l D y L F (grh G (zvw σ xv)) (grw G (zvw σ xv)) (zod σ (zvw σ xv)) ((zst σ (zvw σ xv)).1) ((zst σ (zvw σ xv)).2.1) ((zst σ (zvw σ xv)).2.2) xhigh (CP_r hC (hW.2.2.1 xv)) (by omega)) ⟨rfl, rfl⟩ rfl hP (CP_r hC (hW.2.2.1 xv)).1 (CP_r hC (hW.2.2.1 xv)).2.1 rfl rfl rfl hl rfl (Nat.le_of_ble_eq_true rfl) dX3_narrowView_57 ⟨Nat.le_of_ble_eq_true rfl, Nat.le_of_ble_eq_true rfl⟩ (fun r164 e_r164 => ?_)
      subst e_r164
      have b_165 := @turn_b (zod σ (zvw σ xv)) xhigh (by omega)
      refine lv_istore (lv' := [(7, .int (iI ((turn (zod σ (zvw σ xv)) xhigh)))), (6, .int (iI (zvl σ xv))), (5, .ref ((gva G xv))), (0, .ref ((gbg G))), (1, .int (iI xv)), (2, .int (iI xkind)), (3, .int (iI xlow)), (4, .int (iI xhigh))]) hx hb dX3_narrowView_60 hl (by decide) rfl (fun ls hl => ?_)
      refine lv_iload_n hx hb dX3_narrowView_62 rfl (lv_at hl 5 rfl) ?_
      refine q_if_eq hx hb dX3_narrowView_63 (tgt := 80) (by decide) (by omega) (fun c166 => ?_) (fun c166 => ?_)
      · refine q_iconst hx hb dX3_narrowView_80 ?_
        refine lv_istore (lv' := [(8, .int (iI 0)), (7, .int (iI ((turn (zod σ (zvw σ xv)) xhigh)))), (6, .int (iI (zvl σ xv))), (5, .ref ((gva G xv))), (0, .ref ((gbg G))), (1, .int (iI xv)), (2, .int (iI xkind)), (3, .int (iI xlow)), (4, .int (iI xhigh))]) hx hb dX3_narrowView_81 hl (by decide) rfl (fun ls hl => ?_)
        refine lv_iload_n hx hb dX3_narrowView_83 rfl (lv_at hl 6 rfl) ?_
        refine q_iconst hx hb dX3_narrowView_84 ?_
        refine q_icmp_eq hx hb dX3_narrowView_85 (tgt := 102) (by decide) (by omega) (by omega) (fun c167 => ?_) (fun c167 => ?_)
        · refine q_iconst hx hb dX3_narrowView_102 ?_
          refine lv_istore (lv' := [(9, .int (iI 0)), (8, .int (iI 0)), (7, .int (iI ((turn (zod σ (zvw σ xv)) xhigh)))), (6, .int (iI (zvl σ xv))), (5, .ref ((gva G xv))), (0, .ref ((gbg G))), (1, .int (iI xv)), (2, .int (iI xkind)), (3, .int (iI xlow)), (4, .int (iI xhigh))]) hx hb dX3_narrowView_103 hl (by decide) rfl (fun ls hl => ?_)
          refine lv_iload hx hb dX3_narrowView_105 (lv_at hl 1 rfl) ?_
          refine q_if_ne hx hb dX3_narrowView_107 (tgt := 127) (by decide) (by omega) (fun c168 => absurd c168 (by omega)) (fun c168 => ?_)
          refine lv_iload hx hb dX3_narrowView_110 (lv_at hl 0 rfl) ?_
          refine q_if_ne hx hb dX3_narrowView_112 (tgt := 127) (by decide) (by omega) (fun c169 => absurd c169 (by omega)) (fun c169 => ?_)
          refine lv_iload_n hx hb dX3_narrowView_115 rfl (lv_at hl 7 rfl) ?_
          refine q_iconst hx hb dX3_narrowView_116 ?_
          refine q_icmp_ne hx hb dX3_narrowView_117 (tgt := 132) (by decide) (by omega) (by omega) (fun c170 => ?_) (fun c170 => ?_)
          · refine lv_aload hx hb dX3_narrowView_132 (lv_at hl 4 rfl) ?_
            refine lv_iload hx hb dX3_narrowView_134 (lv_at hl 3 rfl) ?_
            refine q_put C0 iX1 tyX1 tyX1_ok nmX1 hP hD hS (CP_v hC hb_r1).1 (CP_v hC hb_r1).2 rfl 1 (by decide) flX3_182 rfl rfl rfl rfl (Nat.le_of_ble_eq_true rfl) dX3_narrowView_136 (fun H locs hP hD hS => ?_)
            obtain ⟨F171, eF171⟩ : ∃ z, z = va_up F (gva G xv) (.inr (3, [.ref ((grh G (zvw σ xv))), .int (iI (zvl σ xv)), .int (iI (zvh σ xv))])) := ⟨_, rfl⟩
            have hP : va_P D vwCl (va_pl L F171) H := by rw [eF171]; exact hP
            have hD : va_D (AL L s.heap.size) (va_pl L F171) := by rw [eF171]; exact hD
            have hvF : F171 (gva G xv) = (.inr (3, [.ref ((grh G (zvw σ xv))), .int (iI (zvl σ xv)), .int (iI (zvh σ xv))])) := by rw [eF171]; exact va_up_self _ _ _
            have hO : OE O F F171 := by rw [eF171]; exact hO.tr (OE1 ((CP_O hC).2.2.2.2.2.1 _ hb_r1.1 hb_r1.2))
            have hC : CP y L F171 O G (sVw σ xv (zvw σ xv) (zvl σ xv) (zvh σ xv)) := by rw [eF171]; exact CP_vw hC hb_r1 (va_up_self _ _ _) (fun q hq => va_up_ne _ _ hq)
            refine lv_aload hx hb dX3_narrowView_139 (lv_at hl 4 rfl) ?_
            refine lv_iload hx hb dX3_narrowView_141 (lv_at hl 2 rfl) ?_
            refine q_put C0 iX1 tyX1 tyX1_ok nmX1 hP hD hS (CP_v hC hb_r1).1 hvF rfl 2 (by decide) flX3_185 rfl rfl rfl rfl (Nat.le_of_ble_eq_true rfl) dX3_narrowView_143 (fun H locs hP hD hS => ?_)
            obtain ⟨F172, eF172⟩ : ∃ z, z = va_up F171 (gva G xv) (.inr (3, [.ref ((grh G (zvw σ xv))), .int (iI (zvl σ xv)), .int (iI ((turn (zod σ (zvw σ xv)) xhigh)))])) := ⟨_, rfl⟩
            have hP : va_P D vwCl (va_pl L F172) H := by rw [eF172]; exact hP
            have hD : va_D (AL L s.heap.size) (va_pl L F172) := by rw [eF172]; exact hD
            have hvF : F172 (gva G xv) = (.inr (3, [.ref ((grh G (zvw σ xv))), .int (iI (zvl σ xv)), .int (iI ((turn (zod σ (zvw σ xv)) xhigh)))])) := by rw [eF172]; exact va_up_self _ _ _
            have hO : OE O F F172 := by rw [eF172]; exact hO.tr (OE1 ((CP_O hC).2.2.2.2.2.1 _ hb_r1.1 hb_r1.2))
            have hC : CP y L F172 O G (sVw (sVw σ xv (zvw σ xv) (zvl σ xv) (zvh σ xv)) xv (zvw σ xv) (zvl σ xv) (turn (zod σ (zvw σ xv)) xhigh)) := by rw [eF172]; exact CP_vw hC hb_r1 (va_up_self _ _ _) (fun q hq => va_up_ne _ _ hq)
            refine lv_aload hx hb dX3_narrowView_146 (lv_at hl 4 rfl) ?_
            refine q_get C0 iX1 hP (CP_v hC hb_r1).1 hvF rfl 0 (by decide) flX3_178 rfl rfl dX3_narrowView_148 ?_
            refine lv_aload hx hb dX3_narrowView_151 (lv_at hl 4 rfl) ?_
            refine q_get C0 iX1 hP (CP_v hC hb_r1).1 hvF rfl 1 (by decide) flX3_182 rfl rfl dX3_narrowView_153 ?_
            refine lv_aload hx hb dX3_narrowView_156 (lv_at hl 4 rfl) ?_
            refine q_get C0 iX1 hP (CP_v hC hb_r1).1 hvF rfl 2 (by decide) flX3_185 rfl rfl dX3_narrowView_158 ?_
            refine q_vS C0 lX3_188 (c_X0_countOfPart l D y L F172 (grh G (zvw σ xv)) (grw G (zvw σ xv)) (zod σ (zvw σ xv)) ((zst σ (zvw σ xv)).1) ((zst σ (zvw σ xv)).2.1) ((zst σ (zvw σ xv)).2.2) (zvl σ xv) (turn (zod σ (zvw σ xv)) xhigh) (CP_r hC (hW.2.2.1 xv)) (by omega) (by omega)) ⟨rfl, rfl⟩ rfl hP (CP_r hC (hW.2.2.1 xv)).1 (CP_r hC (hW.2.2.1 xv)).2.1 rfl rfl rfl hl rfl (Nat.le_of_ble_eq_true rfl) dX3_narrowView_161 ⟨Nat.le_of_ble_eq_true rfl, Nat.le_of_ble_eq_true rfl⟩ (fun r173 e_r173 => ?_)
            subst e_r173
            refine W.widen (k := 8) (n := 60) (Nat.le_of_ble_eq_true rfl) (Nat.le_of_ble_eq_true rfl) ?_
            exact vx_ret (q_retMi C0 hret rfl hlk dX3_narrowView_164 hP hD hS (⟨by omega, by omega, (by unfold kR_narrowView; rw [if_neg (by (unfold nRef; (repeat' split) <;> omega)), show nLo σ xv xkind xlow = zvl σ xv by (unfold nLo; (repeat' split) <;> first | rfl | omega), show nHi σ xv xkind xhigh = (turn (zod σ (zvw σ xv)) xhigh) by (unfold nHi; (repeat' split) <;> first | rfl | omega)]), O, G, CP_eq hC (by rw [sVw2]; unfold kS_narrowView; rw [if_neg (by (unfold nRef; (repeat' split) <;> omega)), show nLo σ xv xkind xlow = zvl σ xv by (unfold nLo; (repeat' split) <;> first | rfl | omega), show nHi σ xv xkind xhigh = (turn (zod σ (zvw σ xv)) xhigh) by (unfold nHi; (repeat' split) <;> first | rfl | omega)]), rfl, Ext0 hO⟩))
          · refine lv_iload hx hb dX3_narrowView_120 (lv_at hl 3 rfl) ?_
            refine lv_iload hx hb dX3_narrowView_122 (lv_at hl 2 rfl) ?_
            refine q_icmp_le hx hb dX3_narrowView_124 (tgt := 132) (by decide) (by omega) (by omega) (fun c174 => ?_) (fun c174 => ?_)
            · refine lv_aload hx hb dX3_narrowView_132 (lv_at hl 4 rfl) ?_
              refine lv_iload hx hb dX3_narrowView_134 (lv_at hl 3 rfl) ?_
              refine q_put C0 iX1 tyX1 tyX1_ok nmX1 hP hD hS (CP_v hC hb_r1).1 (CP_v hC hb_r1).2 rfl 1 (by decide) flX3_182 rfl rfl rfl rfl (Nat.le_of_ble_eq_true rfl) dX3_narrowView_136 (fun H locs hP hD hS => ?_)
              obtain ⟨F175, eF175⟩ : ∃ z, z = va_up F (gva G xv) (.inr (3, [.ref ((grh G (zvw σ xv))), .int (iI (zvl σ xv)), .int (iI (zvh σ xv))])) := ⟨_, rfl⟩
              have hP : va_P D vwCl (va_pl L F175) H := by rw [eF175]; exact hP
              have hD : va_D (AL L s.heap.size) (va_pl L F175) := by rw [eF175]; exact hD
              have hvF : F175 (gva G xv) = (.inr (3, [.ref ((grh G (zvw σ xv))), .int (iI (zvl σ xv)), .int (iI (zvh σ xv))])) := by rw [eF175]; exact va_up_self _ _ _
              have hO : OE O F F175 := by rw [eF175]; exact hO.tr (OE1 ((CP_O hC).2.2.2.2.2.1 _ hb_r1.1 hb_r1.2))
              have hC : CP y L F175 O G (sVw σ xv (zvw σ xv) (zvl σ xv) (zvh σ xv)) := by rw [eF175]; exact CP_vw hC hb_r1 (va_up_self _ _ _) (fun q hq => va_up_ne _ _ hq)
              refine lv_aload hx hb dX3_narrowView_139 (lv_at hl 4 rfl) ?_
              refine lv_iload hx hb dX3_narrowView_141 (lv_at hl 2 rfl) ?_
              refine q_put C0 iX1 tyX1 tyX1_ok nmX1 hP hD hS (CP_v hC hb_r1).1 hvF rfl 2 (by decide) flX3_185 rfl rfl rfl rfl (Nat.le_of_ble_eq_true rfl) dX3_narrowView_143 (fun H locs hP hD hS => ?_)
              obtain ⟨F176, eF176⟩ : ∃ z, z = va_up F175 (gva G xv) (.inr (3, [.ref ((grh G (zvw σ xv))), .int (iI (zvl σ xv)), .int (iI ((turn (zod σ (zvw σ xv)) xhigh)))])) := ⟨_, rfl⟩
              have hP : va_P D vwCl (va_pl L F176) H := by rw [eF176]; exact hP
              have hD : va_D (AL L s.heap.size) (va_pl L F176) := by rw [eF176]; exact hD
              have hvF : F176 (gva G xv) = (.inr (3, [.ref ((grh G (zvw σ xv))), .int (iI (zvl σ xv)), .int (iI ((turn (zod σ (zvw σ xv)) xhigh)))])) := by rw [eF176]; exact va_up_self _ _ _
              have hO : OE O F F176 := by rw [eF176]; exact hO.tr (OE1 ((CP_O hC).2.2.2.2.2.1 _ hb_r1.1 hb_r1.2))
              have hC : CP y L F176 O G (sVw (sVw σ xv (zvw σ xv) (zvl σ xv) (zvh σ xv)) xv (zvw σ xv) (zvl σ xv) (turn (zod σ (zvw σ xv)) xhigh)) := by rw [eF176]; exact CP_vw hC hb_r1 (va_up_self _ _ _) (fun q hq => va_up_ne _ _ hq)
              refine lv_aload hx hb dX3_narrowView_146 (lv_at hl 4 rfl) ?_
              refine q_get C0 iX1 hP (CP_v hC hb_r1).1 hvF rfl 0 (by decide) flX3_178 rfl rfl dX3_narrowView_148 ?_
              refine lv_aload hx hb dX3_narrowView_151 (lv_at hl 4 rfl) ?_
              refine q_get C0 iX1 hP (CP_v hC hb_r1).1 hvF rfl 1 (by decide) flX3_182 rfl rfl dX3_narrowView_153 ?_
              refine lv_aload hx hb dX3_narrowView_156 (lv_at hl 4 rfl) ?_
              refine q_get C0 iX1 hP (CP_v hC hb_r1).1 hvF rfl 2 (by decide) flX3_185 rfl rfl dX3_narrowView_158 ?_
              refine q_vS C0 lX3_188 (c_X0_countOfPart l D y L F176 (grh G (zvw σ xv)) (grw G (zvw σ xv)) (zod σ (zvw σ xv)) ((zst σ (zvw σ xv)).1) ((zst σ (zvw σ xv)).2.1) ((zst σ (zvw σ xv)).2.2) (zvl σ xv) (turn (zod σ (zvw σ xv)) xhigh) (CP_r hC (hW.2.2.1 xv)) (by omega) (by omega)) ⟨rfl, rfl⟩ rfl hP (CP_r hC (hW.2.2.1 xv)).1 (CP_r hC (hW.2.2.1 xv)).2.1 rfl rfl rfl hl rfl (Nat.le_of_ble_eq_true rfl) dX3_narrowView_161 ⟨Nat.le_of_ble_eq_true rfl, Nat.le_of_ble_eq_true rfl⟩ (fun r177 e_r177 => ?_)
              subst e_r177
              refine W.widen (k := 8) (n := 60) (Nat.le_of_ble_eq_true rfl) (Nat.le_of_ble_eq_true rfl) ?_
              exact vx_ret (q_retMi C0 hret rfl hlk dX3_narrowView_164 hP hD hS (⟨by omega, by omega, (by unfold kR_narrowView; rw [if_neg (by (unfold nRef; (repeat' split) <;> omega)), show nLo σ xv xkind xlow = zvl σ xv by (unfold nLo; (repeat' split) <;> first | rfl | omega), show nHi σ xv xkind xhigh = (turn (zod σ (zvw σ xv)) xhigh) by (unfold nHi; (repeat' split) <;> first | rfl | omega)]), O, G, CP_eq hC (by rw [sVw2]; unfold kS_narrowView; rw [if_neg (by (unfold nRef; (repeat' split) <;> omega)), show nLo σ xv xkind xlow = zvl σ xv by (unfold nLo; (repeat' split) <;> first | rfl | omega), show nHi σ xv xkind xhigh = (turn (zod σ (zvw σ xv)) xhigh) by (unfold nHi; (repeat' split) <;> first | rfl | omega)]), rfl, Ext0 hO⟩))
            · refine lv_aload_n hx hb dX3_narrowView_127 rfl (lv_at hl 5 rfl) ?_
              refine q_vMi C0 lX3_63 (c_X3_refuse l D y L F _ O G σ hC) ⟨rfl, rfl⟩ rfl hP hD hS hA hC.1.1 hC.1.2 rfl rfl rfl hl rfl (Nat.le_of_ble_eq_true rfl) dX3_narrowView_128 ⟨Nat.le_of_ble_eq_true rfl, Nat.le_of_ble_eq_true rfl⟩ (fun r178 H locs L179 F179 hP hD hS hz179 hp179 => ?_)
              obtain ⟨eL, hC, er, hO1⟩ := hp179
              subst eL
              subst er
              have hO := hO.tr hO1
              refine W.widen (k := 8) (n := 60) (Nat.le_of_ble_eq_true rfl) (Nat.le_of_ble_eq_true rfl) ?_
              exact vx_ret (q_retMi C0 hret rfl hlk dX3_narrowView_131 hP hD hS (⟨by omega, by omega, (by unfold kR_narrowView; rw [if_pos (by unfold nRef; (repeat' split) <;> first | rfl | omega)]), O, G, CP_eq hC (by unfold kS_narrowView; rw [if_pos (by unfold nRef; (repeat' split) <;> first | rfl | omega)]), rfl, Ext0 hO⟩))
        · refine lv_aload hx hb dX3_narrowView_88 (lv_at hl 3 rfl) ?_
          refine lv_iload hx hb dX3_narrowView_90 (lv_at hl 1 rfl) ?_
          refine q_vS C0 lX3_191 (c_X1_isWithin l D y L F (gva G xv) (grh G (zvw σ xv)) (zvl σ xv) (zvh σ xv) (turn (zod σ (zvw σ xv)) xhigh) (CP_v hC hb_r1).1 (CP_v hC hb_r1).2 (by omega) (by omega) (by omega)) ⟨rfl, rfl⟩ rfl hP (CP_v hC hb_r1).1 (CP_v hC hb_r1).2 rfl rfl rfl hl rfl (Nat.le_of_ble_eq_true rfl) dX3_narrowView_92 ⟨Nat.le_of_ble_eq_true rfl, Nat.le_of_ble_eq_true rfl⟩ (fun r180 e_r180 => ?_)
          subst e_r180
          refine q_if_ne hx hb dX3_narrowView_95 (tgt := 102) (by decide) (by omega) (fun c181 => ?_) (fun c181 => ?_)
          · refine q_iconst hx hb dX3_narrowView_102 ?_
            refine lv_istore (lv' := [(9, .int (iI 0)), (8, .int (iI 0)), (7, .int (iI ((turn (zod σ (zvw σ xv)) xhigh)))), (6, .int (iI (zvl σ xv))), (5, .ref ((gva G xv))), (0, .ref ((gbg G))), (1, .int (iI xv)), (2, .int (iI xkind)), (3, .int (iI xlow)), (4, .int (iI xhigh))]) hx hb dX3_narrowView_103 hl (by decide) rfl (fun ls hl => ?_)
            refine lv_iload hx hb dX3_narrowView_105 (lv_at hl 1 rfl) ?_
            refine q_if_ne hx hb dX3_narrowView_107 (tgt := 127) (by decide) (by omega) (fun c182 => absurd c182 (by omega)) (fun c182 => ?_)
            refine lv_iload hx hb dX3_narrowView_110 (lv_at hl 0 rfl) ?_
            refine q_if_ne hx hb dX3_narrowView_112 (tgt := 127) (by decide) (by omega) (fun c183 => absurd c183 (by omega)) (fun c183 => ?_)
            refine lv_iload_n hx hb dX3_narrowView_115 rfl (lv_at hl 7 rfl) ?_
            refine q_iconst hx hb dX3_narrowView_116 ?_
            refine q_icmp_ne hx hb dX3_narrowView_117 (tgt := 132) (by decide) (by omega) (by omega) (fun c184 => ?_) (fun c184 => ?_)
            · refine lv_aload hx hb dX3_narrowView_132 (lv_at hl 4 rfl) ?_
              refine lv_iload hx hb dX3_narrowView_134 (lv_at hl 3 rfl) ?_
              refine q_put C0 iX1 tyX1 tyX1_ok nmX1 hP hD hS (CP_v hC hb_r1).1 (CP_v hC hb_r1).2 rfl 1 (by decide) flX3_182 rfl rfl rfl rfl (Nat.le_of_ble_eq_true rfl) dX3_narrowView_136 (fun H locs hP hD hS => ?_)
              obtain ⟨F185, eF185⟩ : ∃ z, z = va_up F (gva G xv) (.inr (3, [.ref ((grh G (zvw σ xv))), .int (iI (zvl σ xv)), .int (iI (zvh σ xv))])) := ⟨_, rfl⟩
              have hP : va_P D vwCl (va_pl L F185) H := by rw [eF185]; exact hP
              have hD : va_D (AL L s.heap.size) (va_pl L F185) := by rw [eF185]; exact hD
              have hvF : F185 (gva G xv) = (.inr (3, [.ref ((grh G (zvw σ xv))), .int (iI (zvl σ xv)), .int (iI (zvh σ xv))])) := by rw [eF185]; exact va_up_self _ _ _
              have hO : OE O F F185 := by rw [eF185]; exact hO.tr (OE1 ((CP_O hC).2.2.2.2.2.1 _ hb_r1.1 hb_r1.2))
              have hC : CP y L F185 O G (sVw σ xv (zvw σ xv) (zvl σ xv) (zvh σ xv)) := by rw [eF185]; exact CP_vw hC hb_r1 (va_up_self _ _ _) (fun q hq => va_up_ne _ _ hq)
              refine lv_aload hx hb dX3_narrowView_139 (lv_at hl 4 rfl) ?_
              refine lv_iload hx hb dX3_narrowView_141 (lv_at hl 2 rfl) ?_
              refine q_put C0 iX1 tyX1 tyX1_ok nmX1 hP hD hS (CP_v hC hb_r1).1 hvF rfl 2 (by decide) flX3_185 rfl rfl rfl rfl (Nat.le_of_ble_eq_true rfl) dX3_narrowView_143 (fun H locs hP hD hS => ?_)
              obtain ⟨F186, eF186⟩ : ∃ z, z = va_up F185 (gva G xv) (.inr (3, [.ref ((grh G (zvw σ xv))), .int (iI (zvl σ xv)), .int (iI ((turn (zod σ (zvw σ xv)) xhigh)))])) := ⟨_, rfl⟩
              have hP : va_P D vwCl (va_pl L F186) H := by rw [eF186]; exact hP
              have hD : va_D (AL L s.heap.size) (va_pl L F186) := by rw [eF186]; exact hD
              have hvF : F186 (gva G xv) = (.inr (3, [.ref ((grh G (zvw σ xv))), .int (iI (zvl σ xv)), .int (iI ((turn (zod σ (zvw σ xv)) xhigh)))])) := by rw [eF186]; exact va_up_self _ _ _
              have hO : OE O F F186 := by rw [eF186]; exact hO.tr (OE1 ((CP_O hC).2.2.2.2.2.1 _ hb_r1.1 hb_r1.2))
              have hC : CP y L F186 O G (sVw (sVw σ xv (zvw σ xv) (zvl σ xv) (zvh σ xv)) xv (zvw σ xv) (zvl σ xv) (turn (zod σ (zvw σ xv)) xhigh)) := by rw [eF186]; exact CP_vw hC hb_r1 (va_up_self _ _ _) (fun q hq => va_up_ne _ _ hq)
              refine lv_aload hx hb dX3_narrowView_146 (lv_at hl 4 rfl) ?_
              refine q_get C0 iX1 hP (CP_v hC hb_r1).1 hvF rfl 0 (by decide) flX3_178 rfl rfl dX3_narrowView_148 ?_
              refine lv_aload hx hb dX3_narrowView_151 (lv_at hl 4 rfl) ?_
              refine q_get C0 iX1 hP (CP_v hC hb_r1).1 hvF rfl 1 (by decide) flX3_182 rfl rfl dX3_narrowView_153 ?_
              refine lv_aload hx hb dX3_narrowView_156 (lv_at hl 4 rfl) ?_
              refine q_get C0 iX1 hP (CP_v hC hb_r1).1 hvF rfl 2 (by decide) flX3_185 rfl rfl dX3_narrowView_158 ?_
              refine q_vS C0 lX3_188 (c_X0_countOfPart l D y L F186 (grh G (zvw σ xv)) (grw G (zvw σ xv)) (zod σ (zvw σ xv)) ((zst σ (zvw σ xv)).1) ((zst σ (zvw σ xv)).2.1) ((zst σ (zvw σ xv)).2.2) (zvl σ xv) (turn (zod σ (zvw σ xv)) xhigh) (CP_r hC (hW.2.2.1 xv)) (by omega) (by omega)) ⟨rfl, rfl⟩ rfl hP (CP_r hC (hW.2.2.1 xv)).1 (CP_r hC (hW.2.2.1 xv)).2.1 rfl rfl rfl hl rfl (Nat.le_of_ble_eq_true rfl) dX3_narrowView_161 ⟨Nat.le_of_ble_eq_true rfl, Nat.le_of_ble_eq_true rfl⟩ (fun r187 e_r187 => ?_)
              subst e_r187
              refine W.widen (k := 8) (n := 60) (Nat.le_of_ble_eq_true rfl) (Nat.le_of_ble_eq_true rfl) ?_
              exact vx_ret (q_retMi C0 hret rfl hlk dX3_narrowView_164 hP hD hS (⟨by omega, by omega, (by unfold kR_narrowView; rw [if_neg (by (unfold nRef; (repeat' split) <;> omega)), show nLo σ xv xkind xlow = zvl σ xv by (unfold nLo; (repeat' split) <;> first | rfl | omega), show nHi σ xv xkind xhigh = (turn (zod σ (zvw σ xv)) xhigh) by (unfold nHi; (repeat' split) <;> first | rfl | omega)]), O, G, CP_eq hC (by rw [sVw2]; unfold kS_narrowView; rw [if_neg (by (unfold nRef; (repeat' split) <;> omega)), show nLo σ xv xkind xlow = zvl σ xv by (unfold nLo; (repeat' split) <;> first | rfl | omega), show nHi σ xv xkind xhigh = (turn (zod σ (zvw σ xv)) xhigh) by (unfold nHi; (repeat' split) <;> first | rfl | omega)]), rfl, Ext0 hO⟩))
            · refine lv_iload hx hb dX3_narrowView_120 (lv_at hl 3 rfl) ?_
              refine lv_iload hx hb dX3_narrowView_122 (lv_at hl 2 rfl) ?_
              refine q_icmp_le hx hb dX3_narrowView_124 (tgt := 132) (by decide) (by omega) (by omega) (fun c188 => ?_) (fun c188 => ?_)
              · refine lv_aload hx hb dX3_narrowView_132 (lv_at hl 4 rfl) ?_
                refine lv_iload hx hb dX3_narrowView_134 (lv_at hl 3 rfl) ?_
                refine q_put C0 iX1 tyX1 tyX1_ok nmX1 hP hD hS (CP_v hC hb_r1).1 (CP_v hC hb_r1).2 rfl 1 (by decide) flX3_182 rfl rfl rfl rfl (Nat.le_of_ble_eq_true rfl) dX3_narrowView_136 (fun H locs hP hD hS => ?_)
                obtain ⟨F189, eF189⟩ : ∃ z, z = va_up F (gva G xv) (.inr (3, [.ref ((grh G (zvw σ xv))), .int (iI (zvl σ xv)), .int (iI (zvh σ xv))])) := ⟨_, rfl⟩
                have hP : va_P D vwCl (va_pl L F189) H := by rw [eF189]; exact hP
                have hD : va_D (AL L s.heap.size) (va_pl L F189) := by rw [eF189]; exact hD
                have hvF : F189 (gva G xv) = (.inr (3, [.ref ((grh G (zvw σ xv))), .int (iI (zvl σ xv)), .int (iI (zvh σ xv))])) := by rw [eF189]; exact va_up_self _ _ _
                have hO : OE O F F189 := by rw [eF189]; exact hO.tr (OE1 ((CP_O hC).2.2.2.2.2.1 _ hb_r1.1 hb_r1.2))
                have hC : CP y L F189 O G (sVw σ xv (zvw σ xv) (zvl σ xv) (zvh σ xv)) := by rw [eF189]; exact CP_vw hC hb_r1 (va_up_self _ _ _) (fun q hq => va_up_ne _ _ hq)
                refine lv_aload hx hb dX3_narrowView_139 (lv_at hl 4 rfl) ?_
                refine lv_iload hx hb dX3_narrowView_141 (lv_at hl 2 rfl) ?_
                refine q_put C0 iX1 tyX1 tyX1_ok nmX1 hP hD hS (CP_v hC hb_r1).1 hvF rfl 2 (by decide) flX3_185 rfl rfl rfl rfl (Nat.le_of_ble_eq_true rfl) dX3_narrowView_143 (fun H locs hP hD hS => ?_)
                obtain ⟨F190, eF190⟩ : ∃ z, z = va_up F189 (gva G xv) (.inr (3, [.ref ((grh G (zvw σ xv))), .int (iI (zvl σ xv)), .int (iI ((turn (zod σ (zvw σ xv)) xhigh)))])) := ⟨_, rfl⟩
                have hP : va_P D vwCl (va_pl L F190) H := by rw [eF190]; exact hP
                have hD : va_D (AL L s.heap.size) (va_pl L F190) := by rw [eF190]; exact hD
                have hvF : F190 (gva G xv) = (.inr (3, [.ref ((grh G (zvw σ xv))), .int (iI (zvl σ xv)), .int (iI ((turn (zod σ (zvw σ xv)) xhigh)))])) := by rw [eF190]; exact va_up_self _ _ _
                have hO : OE O F F190 := by rw [eF190]; exact hO.tr (OE1 ((CP_O hC).2.2.2.2.2.1 _ hb_r1.1 hb_r1.2))
                have hC : CP y L F190 O G (sVw (sVw σ xv (zvw σ xv) (zvl σ xv) (zvh σ xv)) xv (zvw σ xv) (zvl σ xv) (turn (zod σ (zvw σ xv)) xhigh)) := by rw [eF190]; exact CP_vw hC hb_r1 (va_up_self _ _ _) (fun q hq => va_up_ne _ _ hq)
                refine lv_aload hx hb dX3_narrowView_146 (lv_at hl 4 rfl) ?_
                refine q_get C0 iX1 hP (CP_v hC hb_r1).1 hvF rfl 0 (by decide) flX3_178 rfl rfl dX3_narrowView_148 ?_
                refine lv_aload hx hb dX3_narrowView_151 (lv_at hl 4 rfl) ?_
                refine q_get C0 iX1 hP (CP_v hC hb_r1).1 hvF rfl 1 (by decide) flX3_182 rfl rfl dX3_narrowView_153 ?_
                refine lv_aload hx hb dX3_narrowView_156 (lv_at hl 4 rfl) ?_
                refine q_get C0 iX1 hP (CP_v hC hb_r1).1 hvF rfl 2 (by decide) flX3_185 rfl rfl dX3_narrowView_158 ?_
                refine q_vS C0 lX3_188 (c_X0_countOfPart l D y L F190 (grh G (zvw σ xv)) (grw G (zvw σ xv)) (zod σ (zvw σ xv)) ((zst σ (zvw σ xv)).1) ((zst σ (zvw σ xv)).2.1) ((zst σ (zvw σ xv)).2.2) (zvl σ xv) (turn (zod σ (zvw σ xv)) xhigh) (CP_r hC (hW.2.2.1 xv)) (by omega) (by omega)) ⟨rfl, rfl⟩ rfl hP (CP_r hC (hW.2.2.1 xv)).1 (CP_r hC (hW.2.2.1 xv)).2.1 rfl rfl rfl hl rfl (Nat.le_of_ble_eq_true rfl) dX3_narrowView_161 ⟨Nat.le_of_ble_eq_true rfl, Nat.le_of_ble_eq_true rfl⟩ (fun r191 e_r191 => ?_)
                subst e_r191
                refine W.widen (k := 8) (n := 60) (Nat.le_of_ble_eq_true rfl) (Nat.le_of_ble_eq_true rfl) ?_
                exact vx_ret (q_retMi C0 hret rfl hlk dX3_narrowView_164 hP hD hS (⟨by omega, by omega, (by unfold kR_narrowView; rw [if_neg (by (unfold nRef; (repeat' split) <;> omega)), show nLo σ xv xkind xlow = zvl σ xv by (unfold nLo; (repeat' split) <;> first | rfl | omega), show nHi σ xv xkind xhigh = (turn (zod σ (zvw σ xv)) xhigh) by (unfold nHi; (repeat' split) <;> first | rfl | omega)]), O, G, CP_eq hC (by rw [sVw2]; unfold kS_narrowView; rw [if_neg (by (unfold nRef; (repeat' split) <;> omega)), show nLo σ xv xkind xlow = zvl σ xv by (unfold nLo; (repeat' split) <;> first | rfl | omega), show nHi σ xv xkind xhigh = (turn (zod σ (zvw σ xv)) xhigh) by (unfold nHi; (repeat' split) <;> first | rfl | omega)]), rfl, Ext0 hO⟩))
              · refine lv_aload_n hx hb dX3_narrowView_127 rfl (lv_at hl 5 rfl) ?_
                refine q_vMi C0 lX3_63 (c_X3_refuse l D y L F _ O G σ hC) ⟨rfl, rfl⟩ rfl hP hD hS hA hC.1.1 hC.1.2 rfl rfl rfl hl rfl (Nat.le_of_ble_eq_true rfl) dX3_narrowView_128 ⟨Nat.le_of_ble_eq_true rfl, Nat.le_of_ble_eq_true rfl⟩ (fun r192 H locs L193 F193 hP hD hS hz193 hp193 => ?_)
                obtain ⟨eL, hC, er, hO1⟩ := hp193
                subst eL
                subst er
                have hO := hO.tr hO1
                refine W.widen (k := 8) (n := 60) (Nat.le_of_ble_eq_true rfl) (Nat.le_of_ble_eq_true rfl) ?_
                exact vx_ret (q_retMi C0 hret rfl hlk dX3_narrowView_131 hP hD hS (⟨by omega, by omega, (by unfold kR_narrowView; rw [if_pos (by unfold nRef; (repeat' split) <;> first | rfl | omega)]), O, G, CP_eq hC (by unfold kS_narrowView; rw [if_pos (by unfold nRef; (repeat' split) <;> first | rfl | omega)]), rfl, Ext0 hO⟩))
          · refine q_iconst hx hb dX3_narrowView_98 ?_
            refine lv_goto (tgt := 103) hx hb dX3_narrowView_99 (by decide) ?_
            refine lv_istore (lv' := [(9, .int (iI 1)), (8, .int (iI 0)), (7, .int (iI ((turn (zod σ (zvw σ xv)) xhigh)))), (6, .int (iI (zvl σ xv))), (5, .ref ((gva G xv))), (0, .ref ((gbg G))), (1, .int (iI xv)), (2, .int (iI xkind)), (3, .int (iI xlow)), (4, .int (iI xhigh))]) hx hb dX3_narrowView_103 hl (by decide) rfl (fun ls hl => ?_)
            refine lv_iload hx hb dX3_narrowView_105 (lv_at hl 1 rfl) ?_
            refine q_if_ne hx hb dX3_narrowView_107 (tgt := 127) (by decide) (by omega) (fun c194 => absurd c194 (by omega)) (fun c194 => ?_)
            refine lv_iload hx hb dX3_narrowView_110 (lv_at hl 0 rfl) ?_
            refine q_if_ne hx hb dX3_narrowView_112 (tgt := 127) (by decide) (by omega) (fun c195 => ?_) (fun c195 => absurd c195 (by omega))
            refine lv_aload_n hx hb dX3_narrowView_127 rfl (lv_at hl 5 rfl) ?_
            refine q_vMi C0 lX3_63 (c_X3_refuse l D y L F _ O G σ hC) ⟨rfl, rfl⟩ rfl hP hD hS hA hC.1.1 hC.1.2 rfl rfl rfl hl rfl (Nat.le_of_ble_eq_true rfl) dX3_narrowView_128 ⟨Nat.le_of_ble_eq_true rfl, Nat.le_of_ble_eq_true rfl⟩ (fun r196 H locs L197 F197 hP hD hS hz197 hp197 => ?_)
            obtain ⟨eL, hC, er, hO1⟩ := hp197
            subst eL
            subst er
            have hO := hO.tr hO1
            refine W.widen (k := 8) (n := 60) (Nat.le_of_ble_eq_true rfl) (Nat.le_of_ble_eq_true rfl) ?_
            exact vx_ret (q_retMi C0 hret rfl hlk dX3_narrowView_131 hP hD hS (⟨by omega, by omega, (by unfold kR_narrowView; rw [if_pos (by unfold nRef; (repeat' split) <;> first | rfl | omega)]), O, G, CP_eq hC (by unfold kS_narrowView; rw [if_pos (by unfold nRef; (repeat' split) <;> first | rfl | omega)]), rfl, Ext0 hO⟩))
      · refine lv_aload hx hb dX3_narrowView_66 (lv_at hl 2 rfl) ?_
        refine lv_iload hx hb dX3_narrowView_68 (lv_at hl 1 rfl) ?_
        refine q_vS C0 lX3_191 (c_X1_isWithin l D y L F (gva G xv) (grh G (zvw σ xv)) (zvl σ xv) (zvh σ xv) (zvl σ xv) (CP_v hC hb_r1).1 (CP_v hC hb_r1).2 (by omega) (by omega) (by omega)) ⟨rfl, rfl⟩ rfl hP (CP_v hC hb_r1).1 (CP_v hC hb_r1).2 rfl rfl rfl hl rfl (Nat.le_of_ble_eq_true rfl) dX3_narrowView_70 ⟨Nat.le_of_ble_eq_true rfl, Nat.le_of_ble_eq_true rfl⟩ (fun r198 e_r198 => ?_)
        subst e_r198
        refine q_if_ne hx hb dX3_narrowView_73 (tgt := 80) (by decide) (by omega) (fun c199 => ?_) (fun c199 => ?_)
        · refine q_iconst hx hb dX3_narrowView_80 ?_
          refine lv_istore (lv' := [(8, .int (iI 0)), (7, .int (iI ((turn (zod σ (zvw σ xv)) xhigh)))), (6, .int (iI (zvl σ xv))), (5, .ref ((gva G xv))), (0, .ref ((gbg G))), (1, .int (iI xv)), (2, .int (iI xkind)), (3, .int (iI xlow)), (4, .int (iI xhigh))]) hx hb dX3_narrowView_81 hl (by decide) rfl (fun ls hl => ?_)
          refine lv_iload_n hx hb dX3_narrowView_83 rfl (lv_at hl 6 rfl) ?_
          refine q_iconst hx hb dX3_narrowView_84 ?_
          refine q_icmp_eq hx hb dX3_narrowView_85 (tgt := 102) (by decide) (by omega) (by omega) (fun c200 => ?_) (fun c200 => ?_)
          · refine q_iconst hx hb dX3_narrowView_102 ?_
            refine lv_istore (lv' := [(9, .int (iI 0)), (8, .int (iI 0)), (7, .int (iI ((turn (zod σ (zvw σ xv)) xhigh)))), (6, .int (iI (zvl σ xv))), (5, .ref ((gva G xv))), (0, .ref ((gbg G))), (1, .int (iI xv)), (2, .int (iI xkind)), (3, .int (iI xlow)), (4, .int (iI xhigh))]) hx hb dX3_narrowView_103 hl (by decide) rfl (fun ls hl => ?_)
            refine lv_iload hx hb dX3_narrowView_105 (lv_at hl 1 rfl) ?_
            refine q_if_ne hx hb dX3_narrowView_107 (tgt := 127) (by decide) (by omega) (fun c201 => absurd c201 (by omega)) (fun c201 => ?_)
            refine lv_iload hx hb dX3_narrowView_110 (lv_at hl 0 rfl) ?_
            refine q_if_ne hx hb dX3_narrowView_112 (tgt := 127) (by decide) (by omega) (fun c202 => absurd c202 (by omega)) (fun c202 => ?_)
            refine lv_iload_n hx hb dX3_narrowView_115 rfl (lv_at hl 7 rfl) ?_
            refine q_iconst hx hb dX3_narrowView_116 ?_
            refine q_icmp_ne hx hb dX3_narrowView_117 (tgt := 132) (by decide) (by omega) (by omega) (fun c203 => ?_) (fun c203 => ?_)
            · refine lv_aload hx hb dX3_narrowView_132 (lv_at hl 4 rfl) ?_
              refine lv_iload hx hb dX3_narrowView_134 (lv_at hl 3 rfl) ?_
              refine q_put C0 iX1 tyX1 tyX1_ok nmX1 hP hD hS (CP_v hC hb_r1).1 (CP_v hC hb_r1).2 rfl 1 (by decide) flX3_182 rfl rfl rfl rfl (Nat.le_of_ble_eq_true rfl) dX3_narrowView_136 (fun H locs hP hD hS => ?_)
              obtain ⟨F204, eF204⟩ : ∃ z, z = va_up F (gva G xv) (.inr (3, [.ref ((grh G (zvw σ xv))), .int (iI (zvl σ xv)), .int (iI (zvh σ xv))])) := ⟨_, rfl⟩
              have hP : va_P D vwCl (va_pl L F204) H := by rw [eF204]; exact hP
              have hD : va_D (AL L s.heap.size) (va_pl L F204) := by rw [eF204]; exact hD
              have hvF : F204 (gva G xv) = (.inr (3, [.ref ((grh G (zvw σ xv))), .int (iI (zvl σ xv)), .int (iI (zvh σ xv))])) := by rw [eF204]; exact va_up_self _ _ _
              have hO : OE O F F204 := by rw [eF204]; exact hO.tr (OE1 ((CP_O hC).2.2.2.2.2.1 _ hb_r1.1 hb_r1.2))
              have hC : CP y L F204 O G (sVw σ xv (zvw σ xv) (zvl σ xv) (zvh σ xv)) := by rw [eF204]; exact CP_vw hC hb_r1 (va_up_self _ _ _) (fun q hq => va_up_ne _ _ hq)
              refine lv_aload hx hb dX3_narrowView_139 (lv_at hl 4 rfl) ?_
              refine lv_iload hx hb dX3_narrowView_141 (lv_at hl 2 rfl) ?_
              refine q_put C0 iX1 tyX1 tyX1_ok nmX1 hP hD hS (CP_v hC hb_r1).1 hvF rfl 2 (by decide) flX3_185 rfl rfl rfl rfl (Nat.le_of_ble_eq_true rfl) dX3_narrowView_143 (fun H locs hP hD hS => ?_)
              obtain ⟨F205, eF205⟩ : ∃ z, z = va_up F204 (gva G xv) (.inr (3, [.ref ((grh G (zvw σ xv))), .int (iI (zvl σ xv)), .int (iI ((turn (zod σ (zvw σ xv)) xhigh)))])) := ⟨_, rfl⟩
              have hP : va_P D vwCl (va_pl L F205) H := by rw [eF205]; exact hP
              have hD : va_D (AL L s.heap.size) (va_pl L F205) := by rw [eF205]; exact hD
              have hvF : F205 (gva G xv) = (.inr (3, [.ref ((grh G (zvw σ xv))), .int (iI (zvl σ xv)), .int (iI ((turn (zod σ (zvw σ xv)) xhigh)))])) := by rw [eF205]; exact va_up_self _ _ _
              have hO : OE O F F205 := by rw [eF205]; exact hO.tr (OE1 ((CP_O hC).2.2.2.2.2.1 _ hb_r1.1 hb_r1.2))
              have hC : CP y L F205 O G (sVw (sVw σ xv (zvw σ xv) (zvl σ xv) (zvh σ xv)) xv (zvw σ xv) (zvl σ xv) (turn (zod σ (zvw σ xv)) xhigh)) := by rw [eF205]; exact CP_vw hC hb_r1 (va_up_self _ _ _) (fun q hq => va_up_ne _ _ hq)
              refine lv_aload hx hb dX3_narrowView_146 (lv_at hl 4 rfl) ?_
              refine q_get C0 iX1 hP (CP_v hC hb_r1).1 hvF rfl 0 (by decide) flX3_178 rfl rfl dX3_narrowView_148 ?_
              refine lv_aload hx hb dX3_narrowView_151 (lv_at hl 4 rfl) ?_
              refine q_get C0 iX1 hP (CP_v hC hb_r1).1 hvF rfl 1 (by decide) flX3_182 rfl rfl dX3_narrowView_153 ?_
              refine lv_aload hx hb dX3_narrowView_156 (lv_at hl 4 rfl) ?_
              refine q_get C0 iX1 hP (CP_v hC hb_r1).1 hvF rfl 2 (by decide) flX3_185 rfl rfl dX3_narrowView_158 ?_
              refine q_vS C0 lX3_188 (c_X0_countOfPart l D y L F205 (grh G (zvw σ xv)) (grw G (zvw σ xv)) (zod σ (zvw σ xv)) ((zst σ (zvw σ xv)).1) ((zst σ (zvw σ xv)).2.1) ((zst σ (zvw σ xv)).2.2) (zvl σ xv) (turn (zod σ (zvw σ xv)) xhigh) (CP_r hC (hW.2.2.1 xv)) (by omega) (by omega)) ⟨rfl, rfl⟩ rfl hP (CP_r hC (hW.2.2.1 xv)).1 (CP_r hC (hW.2.2.1 xv)).2.1 rfl rfl rfl hl rfl (Nat.le_of_ble_eq_true rfl) dX3_narrowView_161 ⟨Nat.le_of_ble_eq_true rfl, Nat.le_of_ble_eq_true rfl⟩ (fun r206 e_r206 => ?_)
              subst e_r206
              refine W.widen (k := 8) (n := 60) (Nat.le_of_ble_eq_true rfl) (Nat.le_of_ble_eq_true rfl) ?_
              exact vx_ret (q_retMi C0 hret rfl hlk dX3_narrowView_164 hP hD hS (⟨by omega, by omega, (by unfold kR_narrowView; rw [if_neg (by (unfold nRef; (repeat' split) <;> omega)), show nLo σ xv xkind xlow = zvl σ xv by (unfold nLo; (repeat' split) <;> first | rfl | omega), show nHi σ xv xkind xhigh = (turn (zod σ (zvw σ xv)) xhigh) by (unfold nHi; (repeat' split) <;> first | rfl | omega)]), O, G, CP_eq hC (by rw [sVw2]; unfold kS_narrowView; rw [if_neg (by (unfold nRef; (repeat' split) <;> omega)), show nLo σ xv xkind xlow = zvl σ xv by (unfold nLo; (repeat' split) <;> first | rfl | omega), show nHi σ xv xkind xhigh = (turn (zod σ (zvw σ xv)) xhigh) by (unfold nHi; (repeat' split) <;> first | rfl | omega)]), rfl, Ext0 hO⟩))
            · refine lv_iload hx hb dX3_narrowView_120 (lv_at hl 3 rfl) ?_
              refine lv_iload hx hb dX3_narrowView_122 (lv_at hl 2 rfl) ?_
              refine q_icmp_le hx hb dX3_narrowView_124 (tgt := 132) (by decide) (by omega) (by omega) (fun c207 => ?_) (fun c207 => ?_)
              · refine lv_aload hx hb dX3_narrowView_132 (lv_at hl 4 rfl) ?_
                refine lv_iload hx hb dX3_narrowView_134 (lv_at hl 3 rfl) ?_
                refine q_put C0 iX1 tyX1 tyX1_ok nmX1 hP hD hS (CP_v hC hb_r1).1 (CP_v hC hb_r1).2 rfl 1 (by decide) flX3_182 rfl rfl rfl rfl (Nat.le_of_ble_eq_true rfl) dX3_narrowView_136 (fun H locs hP hD hS => ?_)
                obtain ⟨F208, eF208⟩ : ∃ z, z = va_up F (gva G xv) (.inr (3, [.ref ((grh G (zvw σ xv))), .int (iI (zvl σ xv)), .int (iI (zvh σ xv))])) := ⟨_, rfl⟩
                have hP : va_P D vwCl (va_pl L F208) H := by rw [eF208]; exact hP
                have hD : va_D (AL L s.heap.size) (va_pl L F208) := by rw [eF208]; exact hD
                have hvF : F208 (gva G xv) = (.inr (3, [.ref ((grh G (zvw σ xv))), .int (iI (zvl σ xv)), .int (iI (zvh σ xv))])) := by rw [eF208]; exact va_up_self _ _ _
                have hO : OE O F F208 := by rw [eF208]; exact hO.tr (OE1 ((CP_O hC).2.2.2.2.2.1 _ hb_r1.1 hb_r1.2))
                have hC : CP y L F208 O G (sVw σ xv (zvw σ xv) (zvl σ xv) (zvh σ xv)) := by rw [eF208]; exact CP_vw hC hb_r1 (va_up_self _ _ _) (fun q hq => va_up_ne _ _ hq)
                refine lv_aload hx hb dX3_narrowView_139 (lv_at hl 4 rfl) ?_
                refine lv_iload hx hb dX3_narrowView_141 (lv_at hl 2 rfl) ?_
                refine q_put C0 iX1 tyX1 tyX1_ok nmX1 hP hD hS (CP_v hC hb_r1).1 hvF rfl 2 (by decide) flX3_185 rfl rfl rfl rfl (Nat.le_of_ble_eq_true rfl) dX3_narrowView_143 (fun H locs hP hD hS => ?_)
                obtain ⟨F209, eF209⟩ : ∃ z, z = va_up F208 (gva G xv) (.inr (3, [.ref ((grh G (zvw σ xv))), .int (iI (zvl σ xv)), .int (iI ((turn (zod σ (zvw σ xv)) xhigh)))])) := ⟨_, rfl⟩
                have hP : va_P D vwCl (va_pl L F209) H := by rw [eF209]; exact hP
                have hD : va_D (AL L s.heap.size) (va_pl L F209) := by rw [eF209]; exact hD
                have hvF : F209 (gva G xv) = (.inr (3, [.ref ((grh G (zvw σ xv))), .int (iI (zvl σ xv)), .int (iI ((turn (zod σ (zvw σ xv)) xhigh)))])) := by rw [eF209]; exact va_up_self _ _ _
                have hO : OE O F F209 := by rw [eF209]; exact hO.tr (OE1 ((CP_O hC).2.2.2.2.2.1 _ hb_r1.1 hb_r1.2))
                have hC : CP y L F209 O G (sVw (sVw σ xv (zvw σ xv) (zvl σ xv) (zvh σ xv)) xv (zvw σ xv) (zvl σ xv) (turn (zod σ (zvw σ xv)) xhigh)) := by rw [eF209]; exact CP_vw hC hb_r1 (va_up_self _ _ _) (fun q hq => va_up_ne _ _ hq)
                refine lv_aload hx hb dX3_narrowView_146 (lv_at hl 4 rfl) ?_
                refine q_get C0 iX1 hP (CP_v hC hb_r1).1 hvF rfl 0 (by decide) flX3_178 rfl rfl dX3_narrowView_148 ?_
                refine lv_aload hx hb dX3_narrowView_151 (lv_at hl 4 rfl) ?_
                refine q_get C0 iX1 hP (CP_v hC hb_r1).1 hvF rfl 1 (by decide) flX3_182 rfl rfl dX3_narrowView_153 ?_
                refine lv_aload hx hb dX3_narrowView_156 (lv_at hl 4 rfl) ?_
                refine q_get C0 iX1 hP (CP_v hC hb_r1).1 hvF rfl 2 (by decide) flX3_185 rfl rfl dX3_narrowView_158 ?_
                refine q_vS C0 lX3_188 (c_X0_countOfPart l D y L F209 (grh G (zvw σ xv)) (grw G (zvw σ xv)) (zod σ (zvw σ xv)) ((zst σ (zvw σ xv)).1) ((zst σ (zvw σ xv)).2.1) ((zst σ (zvw σ xv)).2.2) (zvl σ xv) (turn (zod σ (zvw σ xv)) xhigh) (CP_r hC (hW.2.2.1 xv)) (by omega) (by omega)) ⟨rfl, rfl⟩ rfl hP (CP_r hC (hW.2.2.1 xv)).1 (CP_r hC (hW.2.2.1 xv)).2.1 rfl rfl rfl hl rfl (Nat.le_of_ble_eq_true rfl) dX3_narrowView_161 ⟨Nat.le_of_ble_eq_true rfl, Nat.le_of_ble_eq_true rfl⟩ (fun r210 e_r210 => ?_)
                subst e_r210
                refine W.widen (k := 8) (n := 60) (Nat.le_of_ble_eq_true rfl) (Nat.le_of_ble_eq_true rfl) ?_
                exact vx_ret (q_retMi C0 hret rfl hlk dX3_narrowView_164 hP hD hS (⟨by omega, by omega, (by unfold kR_narrowView; rw [if_neg (by (unfold nRef; (repeat' split) <;> omega)), show nLo σ xv xkind xlow = zvl σ xv by (unfold nLo; (repeat' split) <;> first | rfl | omega), show nHi σ xv xkind xhigh = (turn (zod σ (zvw σ xv)) xhigh) by (unfold nHi; (repeat' split) <;> first | rfl | omega)]), O, G, CP_eq hC (by rw [sVw2]; unfold kS_narrowView; rw [if_neg (by (unfold nRef; (repeat' split) <;> omega)), show nLo σ xv xkind xlow = zvl σ xv by (unfold nLo; (repeat' split) <;> first | rfl | omega), show nHi σ xv xkind xhigh = (turn (zod σ (zvw σ xv)) xhigh) by (unfold nHi; (repeat' split) <;> first | rfl | omega)]), rfl, Ext0 hO⟩))
              · refine lv_aload_n hx hb dX3_narrowView_127 rfl (lv_at hl 5 rfl) ?_
                refine q_vMi C0 lX3_63 (c_X3_refuse l D y L F _ O G σ hC) ⟨rfl, rfl⟩ rfl hP hD hS hA hC.1.1 hC.1.2 rfl rfl rfl hl rfl (Nat.le_of_ble_eq_true rfl) dX3_narrowView_128 ⟨Nat.le_of_ble_eq_true rfl, Nat.le_of_ble_eq_true rfl⟩ (fun r211 H locs L212 F212 hP hD hS hz212 hp212 => ?_)
                obtain ⟨eL, hC, er, hO1⟩ := hp212
                subst eL
                subst er
                have hO := hO.tr hO1
                refine W.widen (k := 8) (n := 60) (Nat.le_of_ble_eq_true rfl) (Nat.le_of_ble_eq_true rfl) ?_
                exact vx_ret (q_retMi C0 hret rfl hlk dX3_narrowView_131 hP hD hS (⟨by omega, by omega, (by unfold kR_narrowView; rw [if_pos (by unfold nRef; (repeat' split) <;> first | rfl | omega)]), O, G, CP_eq hC (by unfold kS_narrowView; rw [if_pos (by unfold nRef; (repeat' split) <;> first | rfl | omega)]), rfl, Ext0 hO⟩))
          · refine lv_aload hx hb dX3_narrowView_88 (lv_at hl 3 rfl) ?_
            refine lv_iload hx hb dX3_narrowView_90 (lv_at hl 1 rfl) ?_
            refine q_vS C0 lX3_191 (c_X1_isWithin l D y L F (gva G xv) (grh G (zvw σ xv)) (zvl σ xv) (zvh σ xv) (turn (zod σ (zvw σ xv)) xhigh) (CP_v hC hb_r1).1 (CP_v hC hb_r1).2 (by omega) (by omega) (by omega)) ⟨rfl, rfl⟩ rfl hP (CP_v hC hb_r1).1 (CP_v hC hb_r1).2 rfl rfl rfl hl rfl (Nat.le_of_ble_eq_true rfl) dX3_narrowView_92 ⟨Nat.le_of_ble_eq_true rfl, Nat.le_of_ble_eq_true rfl⟩ (fun r213 e_r213 => ?_)
            subst e_r213
            refine q_if_ne hx hb dX3_narrowView_95 (tgt := 102) (by decide) (by omega) (fun c214 => ?_) (fun c214 => ?_)
            · refine q_iconst hx hb dX3_narrowView_102 ?_
              refine lv_istore (lv' := [(9, .int (iI 0)), (8, .int (iI 0)), (7, .int (iI ((turn (zod σ (zvw σ xv)) xhigh)))), (6, .int (iI (zvl σ xv))), (5, .ref ((gva G xv))), (0, .ref ((gbg G))), (1, .int (iI xv)), (2, .int (iI xkind)), (3, .int (iI xlow)), (4, .int (iI xhigh))]) hx hb dX3_narrowView_103 hl (by decide) rfl (fun ls hl => ?_)
              refine lv_iload hx hb dX3_narrowView_105 (lv_at hl 1 rfl) ?_
              refine q_if_ne hx hb dX3_narrowView_107 (tgt := 127) (by decide) (by omega) (fun c215 => absurd c215 (by omega)) (fun c215 => ?_)
              refine lv_iload hx hb dX3_narrowView_110 (lv_at hl 0 rfl) ?_
              refine q_if_ne hx hb dX3_narrowView_112 (tgt := 127) (by decide) (by omega) (fun c216 => absurd c216 (by omega)) (fun c216 => ?_)
              refine lv_iload_n hx hb dX3_narrowView_115 rfl (lv_at hl 7 rfl) ?_
              refine q_iconst hx hb dX3_narrowView_116 ?_
              refine q_icmp_ne hx hb dX3_narrowView_117 (tgt := 132) (by decide) (by omega) (by omega) (fun c217 => ?_) (fun c217 => ?_)
              · refine lv_aload hx hb dX3_narrowView_132 (lv_at hl 4 rfl) ?_
                refine lv_iload hx hb dX3_narrowView_134 (lv_at hl 3 rfl) ?_
                refine q_put C0 iX1 tyX1 tyX1_ok nmX1 hP hD hS (CP_v hC hb_r1).1 (CP_v hC hb_r1).2 rfl 1 (by decide) flX3_182 rfl rfl rfl rfl (Nat.le_of_ble_eq_true rfl) dX3_narrowView_136 (fun H locs hP hD hS => ?_)
                obtain ⟨F218, eF218⟩ : ∃ z, z = va_up F (gva G xv) (.inr (3, [.ref ((grh G (zvw σ xv))), .int (iI (zvl σ xv)), .int (iI (zvh σ xv))])) := ⟨_, rfl⟩
                have hP : va_P D vwCl (va_pl L F218) H := by rw [eF218]; exact hP
                have hD : va_D (AL L s.heap.size) (va_pl L F218) := by rw [eF218]; exact hD
                have hvF : F218 (gva G xv) = (.inr (3, [.ref ((grh G (zvw σ xv))), .int (iI (zvl σ xv)), .int (iI (zvh σ xv))])) := by rw [eF218]; exact va_up_self _ _ _
                have hO : OE O F F218 := by rw [eF218]; exact hO.tr (OE1 ((CP_O hC).2.2.2.2.2.1 _ hb_r1.1 hb_r1.2))
                have hC : CP y L F218 O G (sVw σ xv (zvw σ xv) (zvl σ xv) (zvh σ xv)) := by rw [eF218]; exact CP_vw hC hb_r1 (va_up_self _ _ _) (fun q hq => va_up_ne _ _ hq)
                refine lv_aload hx hb dX3_narrowView_139 (lv_at hl 4 rfl) ?_
                refine lv_iload hx hb dX3_narrowView_141 (lv_at hl 2 rfl) ?_
                refine q_put C0 iX1 tyX1 tyX1_ok nmX1 hP hD hS (CP_v hC hb_r1).1 hvF rfl 2 (by decide) flX3_185 rfl rfl rfl rfl (Nat.le_of_ble_eq_true rfl) dX3_narrowView_143 (fun H locs hP hD hS => ?_)
                obtain ⟨F219, eF219⟩ : ∃ z, z = va_up F218 (gva G xv) (.inr (3, [.ref ((grh G (zvw σ xv))), .int (iI (zvl σ xv)), .int (iI ((turn (zod σ (zvw σ xv)) xhigh)))])) := ⟨_, rfl⟩
                have hP : va_P D vwCl (va_pl L F219) H := by rw [eF219]; exact hP
                have hD : va_D (AL L s.heap.size) (va_pl L F219) := by rw [eF219]; exact hD
                have hvF : F219 (gva G xv) = (.inr (3, [.ref ((grh G (zvw σ xv))), .int (iI (zvl σ xv)), .int (iI ((turn (zod σ (zvw σ xv)) xhigh)))])) := by rw [eF219]; exact va_up_self _ _ _
                have hO : OE O F F219 := by rw [eF219]; exact hO.tr (OE1 ((CP_O hC).2.2.2.2.2.1 _ hb_r1.1 hb_r1.2))
                have hC : CP y L F219 O G (sVw (sVw σ xv (zvw σ xv) (zvl σ xv) (zvh σ xv)) xv (zvw σ xv) (zvl σ xv) (turn (zod σ (zvw σ xv)) xhigh)) := by rw [eF219]; exact CP_vw hC hb_r1 (va_up_self _ _ _) (fun q hq => va_up_ne _ _ hq)
                refine lv_aload hx hb dX3_narrowView_146 (lv_at hl 4 rfl) ?_
                refine q_get C0 iX1 hP (CP_v hC hb_r1).1 hvF rfl 0 (by decide) flX3_178 rfl rfl dX3_narrowView_148 ?_
                refine lv_aload hx hb dX3_narrowView_151 (lv_at hl 4 rfl) ?_
                refine q_get C0 iX1 hP (CP_v hC hb_r1).1 hvF rfl 1 (by decide) flX3_182 rfl rfl dX3_narrowView_153 ?_
                refine lv_aload hx hb dX3_narrowView_156 (lv_at hl 4 rfl) ?_
                refine q_get C0 iX1 hP (CP_v hC hb_r1).1 hvF rfl 2 (by decide) flX3_185 rfl rfl dX3_narrowView_158 ?_
                refine q_vS C0 lX3_188 (c_X0_countOfPart l D y L F219 (grh G (zvw σ xv)) (grw G (zvw σ xv)) (zod σ (zvw σ xv)) ((zst σ (zvw σ xv)).1) ((zst σ (zvw σ xv)).2.1) ((zst σ (zvw σ xv)).2.2) (zvl σ xv) (turn (zod σ (zvw σ xv)) xhigh) (CP_r hC (hW.2.2.1 xv)) (by omega) (by omega)) ⟨rfl, rfl⟩ rfl hP (CP_r hC (hW.2.2.1 xv)).1 (CP_r hC (hW.2.2.1 xv)).2.1 rfl rfl rfl hl rfl (Nat.le_of_ble_eq_true rfl) dX3_narrowView_161 ⟨Nat.le_of_ble_eq_true rfl, Nat.le_of_ble_eq_true rfl⟩ (fun r220 e_r220 => ?_)
                subst e_r220
                refine W.widen (k := 8) (n := 60) (Nat.le_of_ble_eq_true rfl) (Nat.le_of_ble_eq_true rfl) ?_
                exact vx_ret (q_retMi C0 hret rfl hlk dX3_narrowView_164 hP hD hS (⟨by omega, by omega, (by unfold kR_narrowView; rw [if_neg (by (unfold nRef; (repeat' split) <;> omega)), show nLo σ xv xkind xlow = zvl σ xv by (unfold nLo; (repeat' split) <;> first | rfl | omega), show nHi σ xv xkind xhigh = (turn (zod σ (zvw σ xv)) xhigh) by (unfold nHi; (repeat' split) <;> first | rfl | omega)]), O, G, CP_eq hC (by rw [sVw2]; unfold kS_narrowView; rw [if_neg (by (unfold nRef; (repeat' split) <;> omega)), show nLo σ xv xkind xlow = zvl σ xv by (unfold nLo; (repeat' split) <;> first | rfl | omega), show nHi σ xv xkind xhigh = (turn (zod σ (zvw σ xv)) xhigh) by (unfold nHi; (repeat' split) <;> first | rfl | omega)]), rfl, Ext0 hO⟩))
              · refine lv_iload hx hb dX3_narrowView_120 (lv_at hl 3 rfl) ?_
                refine lv_iload hx hb dX3_narrowView_122 (lv_at hl 2 rfl) ?_
                refine q_icmp_le hx hb dX3_narrowView_124 (tgt := 132) (by decide) (by omega) (by omega) (fun c221 => ?_) (fun c221 => ?_)
                · refine lv_aload hx hb dX3_narrowView_132 (lv_at hl 4 rfl) ?_
                  refine lv_iload hx hb dX3_narrowView_134 (lv_at hl 3 rfl) ?_
                  refine q_put C0 iX1 tyX1 tyX1_ok nmX1 hP hD hS (CP_v hC hb_r1).1 (CP_v hC hb_r1).2 rfl 1 (by decide) flX3_182 rfl rfl rfl rfl (Nat.le_of_ble_eq_true rfl) dX3_narrowView_136 (fun H locs hP hD hS => ?_)
                  obtain ⟨F222, eF222⟩ : ∃ z, z = va_up F (gva G xv) (.inr (3, [.ref ((grh G (zvw σ xv))), .int (iI (zvl σ xv)), .int (iI (zvh σ xv))])) := ⟨_, rfl⟩
                  have hP : va_P D vwCl (va_pl L F222) H := by rw [eF222]; exact hP
                  have hD : va_D (AL L s.heap.size) (va_pl L F222) := by rw [eF222]; exact hD
                  have hvF : F222 (gva G xv) = (.inr (3, [.ref ((grh G (zvw σ xv))), .int (iI (zvl σ xv)), .int (iI (zvh σ xv))])) := by rw [eF222]; exact va_up_self _ _ _
                  have hO : OE O F F222 := by rw [eF222]; exact hO.tr (OE1 ((CP_O hC).2.2.2.2.2.1 _ hb_r1.1 hb_r1.2))
                  have hC : CP y L F222 O G (sVw σ xv (zvw σ xv) (zvl σ xv) (zvh σ xv)) := by rw [eF222]; exact CP_vw hC hb_r1 (va_up_self _ _ _) (fun q hq => va_up_ne _ _ hq)
                  refine lv_aload hx hb dX3_narrowView_139 (lv_at hl 4 rfl) ?_
                  refine lv_iload hx hb dX3_narrowView_141 (lv_at hl 2 rfl) ?_
                  refine q_put C0 iX1 tyX1 tyX1_ok nmX1 hP hD hS (CP_v hC hb_r1).1 hvF rfl 2 (by decide) flX3_185 rfl rfl rfl rfl (Nat.le_of_ble_eq_true rfl) dX3_narrowView_143 (fun H locs hP hD hS => ?_)
                  obtain ⟨F223, eF223⟩ : ∃ z, z = va_up F222 (gva G xv) (.inr (3, [.ref ((grh G (zvw σ xv))), .int (iI (zvl σ xv)), .int (iI ((turn (zod σ (zvw σ xv)) xhigh)))])) := ⟨_, rfl⟩
                  have hP : va_P D vwCl (va_pl L F223) H := by rw [eF223]; exact hP
                  have hD : va_D (AL L s.heap.size) (va_pl L F223) := by rw [eF223]; exact hD
                  have hvF : F223 (gva G xv) = (.inr (3, [.ref ((grh G (zvw σ xv))), .int (iI (zvl σ xv)), .int (iI ((turn (zod σ (zvw σ xv)) xhigh)))])) := by rw [eF223]; exact va_up_self _ _ _
                  have hO : OE O F F223 := by rw [eF223]; exact hO.tr (OE1 ((CP_O hC).2.2.2.2.2.1 _ hb_r1.1 hb_r1.2))
                  have hC : CP y L F223 O G (sVw (sVw σ xv (zvw σ xv) (zvl σ xv) (zvh σ xv)) xv (zvw σ xv) (zvl σ xv) (turn (zod σ (zvw σ xv)) xhigh)) := by rw [eF223]; exact CP_vw hC hb_r1 (va_up_self _ _ _) (fun q hq => va_up_ne _ _ hq)
                  refine lv_aload hx hb dX3_narrowView_146 (lv_at hl 4 rfl) ?_
                  refine q_get C0 iX1 hP (CP_v hC hb_r1).1 hvF rfl 0 (by decide) flX3_178 rfl rfl dX3_narrowView_148 ?_
                  refine lv_aload hx hb dX3_narrowView_151 (lv_at hl 4 rfl) ?_
                  refine q_get C0 iX1 hP (CP_v hC hb_r1).1 hvF rfl 1 (by decide) flX3_182 rfl rfl dX3_narrowView_153 ?_
                  refine lv_aload hx hb dX3_narrowView_156 (lv_at hl 4 rfl) ?_
                  refine q_get C0 iX1 hP (CP_v hC hb_r1).1 hvF rfl 2 (by decide) flX3_185 rfl rfl dX3_narrowView_158 ?_
                  refine q_vS C0 lX3_188 (c_X0_countOfPart l D y L F223 (grh G (zvw σ xv)) (grw G (zvw σ xv)) (zod σ (zvw σ xv)) ((zst σ (zvw σ xv)).1) ((zst σ (zvw σ xv)).2.1) ((zst σ (zvw σ xv)).2.2) (zvl σ xv) (turn (zod σ (zvw σ xv)) xhigh) (CP_r hC (hW.2.2.1 xv)) (by omega) (by omega)) ⟨rfl, rfl⟩ rfl hP (CP_r hC (hW.2.2.1 xv)).1 (CP_r hC (hW.2.2.1 xv)).2.1 rfl rfl rfl hl rfl (Nat.le_of_ble_eq_true rfl) dX3_narrowView_161 ⟨Nat.le_of_ble_eq_true rfl, Nat.le_of_ble_eq_true rfl⟩ (fun r224 e_r224 => ?_)
                  subst e_r224
                  refine W.widen (k := 8) (n := 60) (Nat.le_of_ble_eq_true rfl) (Nat.le_of_ble_eq_true rfl) ?_
                  exact vx_ret (q_retMi C0 hret rfl hlk dX3_narrowView_164 hP hD hS (⟨by omega, by omega, (by unfold kR_narrowView; rw [if_neg (by (unfold nRef; (repeat' split) <;> omega)), show nLo σ xv xkind xlow = zvl σ xv by (unfold nLo; (repeat' split) <;> first | rfl | omega), show nHi σ xv xkind xhigh = (turn (zod σ (zvw σ xv)) xhigh) by (unfold nHi; (repeat' split) <;> first | rfl | omega)]), O, G, CP_eq hC (by rw [sVw2]; unfold kS_narrowView; rw [if_neg (by (unfold nRef; (repeat' split) <;> omega)), show nLo σ xv xkind xlow = zvl σ xv by (unfold nLo; (repeat' split) <;> first | rfl | omega), show nHi σ xv xkind xhigh = (turn (zod σ (zvw σ xv)) xhigh) by (unfold nHi; (repeat' split) <;> first | rfl | omega)]), rfl, Ext0 hO⟩))
                · refine lv_aload_n hx hb dX3_narrowView_127 rfl (lv_at hl 5 rfl) ?_
                  refine q_vMi C0 lX3_63 (c_X3_refuse l D y L F _ O G σ hC) ⟨rfl, rfl⟩ rfl hP hD hS hA hC.1.1 hC.1.2 rfl rfl rfl hl rfl (Nat.le_of_ble_eq_true rfl) dX3_narrowView_128 ⟨Nat.le_of_ble_eq_true rfl, Nat.le_of_ble_eq_true rfl⟩ (fun r225 H locs L226 F226 hP hD hS hz226 hp226 => ?_)
                  obtain ⟨eL, hC, er, hO1⟩ := hp226
                  subst eL
                  subst er
                  have hO := hO.tr hO1
                  refine W.widen (k := 8) (n := 60) (Nat.le_of_ble_eq_true rfl) (Nat.le_of_ble_eq_true rfl) ?_
                  exact vx_ret (q_retMi C0 hret rfl hlk dX3_narrowView_131 hP hD hS (⟨by omega, by omega, (by unfold kR_narrowView; rw [if_pos (by unfold nRef; (repeat' split) <;> first | rfl | omega)]), O, G, CP_eq hC (by unfold kS_narrowView; rw [if_pos (by unfold nRef; (repeat' split) <;> first | rfl | omega)]), rfl, Ext0 hO⟩))
            · refine q_iconst hx hb dX3_narrowView_98 ?_
              refine lv_goto (tgt := 103) hx hb dX3_narrowView_99 (by decide) ?_
              refine lv_istore (lv' := [(9, .int (iI 1)), (8, .int (iI 0)), (7, .int (iI ((turn (zod σ (zvw σ xv)) xhigh)))), (6, .int (iI (zvl σ xv))), (5, .ref ((gva G xv))), (0, .ref ((gbg G))), (1, .int (iI xv)), (2, .int (iI xkind)), (3, .int (iI xlow)), (4, .int (iI xhigh))]) hx hb dX3_narrowView_103 hl (by decide) rfl (fun ls hl => ?_)
              refine lv_iload hx hb dX3_narrowView_105 (lv_at hl 1 rfl) ?_
              refine q_if_ne hx hb dX3_narrowView_107 (tgt := 127) (by decide) (by omega) (fun c227 => absurd c227 (by omega)) (fun c227 => ?_)
              refine lv_iload hx hb dX3_narrowView_110 (lv_at hl 0 rfl) ?_
              refine q_if_ne hx hb dX3_narrowView_112 (tgt := 127) (by decide) (by omega) (fun c228 => ?_) (fun c228 => absurd c228 (by omega))
              refine lv_aload_n hx hb dX3_narrowView_127 rfl (lv_at hl 5 rfl) ?_
              refine q_vMi C0 lX3_63 (c_X3_refuse l D y L F _ O G σ hC) ⟨rfl, rfl⟩ rfl hP hD hS hA hC.1.1 hC.1.2 rfl rfl rfl hl rfl (Nat.le_of_ble_eq_true rfl) dX3_narrowView_128 ⟨Nat.le_of_ble_eq_true rfl, Nat.le_of_ble_eq_true rfl⟩ (fun r229 H locs L230 F230 hP hD hS hz230 hp230 => ?_)
              obtain ⟨eL, hC, er, hO1⟩ := hp230
              subst eL
              subst er
              have hO := hO.tr hO1
              refine W.widen (k := 8) (n := 60) (Nat.le_of_ble_eq_true rfl) (Nat.le_of_ble_eq_true rfl) ?_
              exact vx_ret (q_retMi C0 hret rfl hlk dX3_narrowView_131 hP hD hS (⟨by omega, by omega, (by unfold kR_narrowView; rw [if_pos (by unfold nRef; (repeat' split) <;> first | rfl | omega)]), O, G, CP_eq hC (by unfold kS_narrowView; rw [if_pos (by unfold nRef; (repeat' split) <;> first | rfl | omega)]), rfl, Ext0 hO⟩))
        · refine q_iconst hx hb dX3_narrowView_76 ?_
          refine lv_goto (tgt := 81) hx hb dX3_narrowView_77 (by decide) ?_
          refine lv_istore (lv' := [(8, .int (iI 1)), (7, .int (iI ((turn (zod σ (zvw σ xv)) xhigh)))), (6, .int (iI (zvl σ xv))), (5, .ref ((gva G xv))), (0, .ref ((gbg G))), (1, .int (iI xv)), (2, .int (iI xkind)), (3, .int (iI xlow)), (4, .int (iI xhigh))]) hx hb dX3_narrowView_81 hl (by decide) rfl (fun ls hl => ?_)
          refine lv_iload_n hx hb dX3_narrowView_83 rfl (lv_at hl 6 rfl) ?_
          refine q_iconst hx hb dX3_narrowView_84 ?_
          refine q_icmp_eq hx hb dX3_narrowView_85 (tgt := 102) (by decide) (by omega) (by omega) (fun c231 => ?_) (fun c231 => ?_)
          · refine q_iconst hx hb dX3_narrowView_102 ?_
            refine lv_istore (lv' := [(9, .int (iI 0)), (8, .int (iI 1)), (7, .int (iI ((turn (zod σ (zvw σ xv)) xhigh)))), (6, .int (iI (zvl σ xv))), (5, .ref ((gva G xv))), (0, .ref ((gbg G))), (1, .int (iI xv)), (2, .int (iI xkind)), (3, .int (iI xlow)), (4, .int (iI xhigh))]) hx hb dX3_narrowView_103 hl (by decide) rfl (fun ls hl => ?_)
            refine lv_iload hx hb dX3_narrowView_105 (lv_at hl 1 rfl) ?_
            refine q_if_ne hx hb dX3_narrowView_107 (tgt := 127) (by decide) (by omega) (fun c232 => ?_) (fun c232 => absurd c232 (by omega))
            refine lv_aload_n hx hb dX3_narrowView_127 rfl (lv_at hl 5 rfl) ?_
            refine q_vMi C0 lX3_63 (c_X3_refuse l D y L F _ O G σ hC) ⟨rfl, rfl⟩ rfl hP hD hS hA hC.1.1 hC.1.2 rfl rfl rfl hl rfl (Nat.le_of_ble_eq_true rfl) dX3_narrowView_128 ⟨Nat.le_of_ble_eq_true rfl, Nat.le_of_ble_eq_true rfl⟩ (fun r233 H locs L234 F234 hP hD hS hz234 hp234 => ?_)
            obtain ⟨eL, hC, er, hO1⟩ := hp234
            subst eL
            subst er
            have hO := hO.tr hO1
            refine W.widen (k := 8) (n := 60) (Nat.le_of_ble_eq_true rfl) (Nat.le_of_ble_eq_true rfl) ?_
            exact vx_ret (q_retMi C0 hret rfl hlk dX3_narrowView_131 hP hD hS (⟨by omega, by omega, (by unfold kR_narrowView; rw [if_pos (by unfold nRef; (repeat' split) <;> first | rfl | omega)]), O, G, CP_eq hC (by unfold kS_narrowView; rw [if_pos (by unfold nRef; (repeat' split) <;> first | rfl | omega)]), rfl, Ext0 hO⟩))
          · refine lv_aload hx hb dX3_narrowView_88 (lv_at hl 3 rfl) ?_
            refine lv_iload hx hb dX3_narrowView_90 (lv_at hl 1 rfl) ?_
            refine q_vS C0 lX3_191 (c_X1_isWithin l D y L F (gva G xv) (grh G (zvw σ xv)) (zvl σ xv) (zvh σ xv) (turn (zod σ (zvw σ xv)) xhigh) (CP_v hC hb_r1).1 (CP_v hC hb_r1).2 (by omega) (by omega) (by omega)) ⟨rfl, rfl⟩ rfl hP (CP_v hC hb_r1).1 (CP_v hC hb_r1).2 rfl rfl rfl hl rfl (Nat.le_of_ble_eq_true rfl) dX3_narrowView_92 ⟨Nat.le_of_ble_eq_true rfl, Nat.le_of_ble_eq_true rfl⟩ (fun r235 e_r235 => ?_)
            subst e_r235
            refine q_if_ne hx hb dX3_narrowView_95 (tgt := 102) (by decide) (by omega) (fun c236 => ?_) (fun c236 => ?_)
            · refine q_iconst hx hb dX3_narrowView_102 ?_
              refine lv_istore (lv' := [(9, .int (iI 0)), (8, .int (iI 1)), (7, .int (iI ((turn (zod σ (zvw σ xv)) xhigh)))), (6, .int (iI (zvl σ xv))), (5, .ref ((gva G xv))), (0, .ref ((gbg G))), (1, .int (iI xv)), (2, .int (iI xkind)), (3, .int (iI xlow)), (4, .int (iI xhigh))]) hx hb dX3_narrowView_103 hl (by decide) rfl (fun ls hl => ?_)
              refine lv_iload hx hb dX3_narrowView_105 (lv_at hl 1 rfl) ?_
              refine q_if_ne hx hb dX3_narrowView_107 (tgt := 127) (by decide) (by omega) (fun c237 => ?_) (fun c237 => absurd c237 (by omega))
              refine lv_aload_n hx hb dX3_narrowView_127 rfl (lv_at hl 5 rfl) ?_
              refine q_vMi C0 lX3_63 (c_X3_refuse l D y L F _ O G σ hC) ⟨rfl, rfl⟩ rfl hP hD hS hA hC.1.1 hC.1.2 rfl rfl rfl hl rfl (Nat.le_of_ble_eq_true rfl) dX3_narrowView_128 ⟨Nat.le_of_ble_eq_true rfl, Nat.le_of_ble_eq_true rfl⟩ (fun r238 H locs L239 F239 hP hD hS hz239 hp239 => ?_)
              obtain ⟨eL, hC, er, hO1⟩ := hp239
              subst eL
              subst er
              have hO := hO.tr hO1
              refine W.widen (k := 8) (n := 60) (Nat.le_of_ble_eq_true rfl) (Nat.le_of_ble_eq_true rfl) ?_
              exact vx_ret (q_retMi C0 hret rfl hlk dX3_narrowView_131 hP hD hS (⟨by omega, by omega, (by unfold kR_narrowView; rw [if_pos (by unfold nRef; (repeat' split) <;> first | rfl | omega)]), O, G, CP_eq hC (by unfold kS_narrowView; rw [if_pos (by unfold nRef; (repeat' split) <;> first | rfl | omega)]), rfl, Ext0 hO⟩))
            · refine q_iconst hx hb dX3_narrowView_98 ?_
              refine lv_goto (tgt := 103) hx hb dX3_narrowView_99 (by decide) ?_
              refine lv_istore (lv' := [(9, .int (iI 1)), (8, .int (iI 1)), (7, .int (iI ((turn (zod σ (zvw σ xv)) xhigh)))), (6, .int (iI (zvl σ xv))), (5, .ref ((gva G xv))), (0, .ref ((gbg G))), (1, .int (iI xv)), (2, .int (iI xkind)), (3, .int (iI xlow)), (4, .int (iI xhigh))]) hx hb dX3_narrowView_103 hl (by decide) rfl (fun ls hl => ?_)
              refine lv_iload hx hb dX3_narrowView_105 (lv_at hl 1 rfl) ?_
              refine q_if_ne hx hb dX3_narrowView_107 (tgt := 127) (by decide) (by omega) (fun c240 => ?_) (fun c240 => absurd c240 (by omega))
              refine lv_aload_n hx hb dX3_narrowView_127 rfl (lv_at hl 5 rfl) ?_
              refine q_vMi C0 lX3_63 (c_X3_refuse l D y L F _ O G σ hC) ⟨rfl, rfl⟩ rfl hP hD hS hA hC.1.1 hC.1.2 rfl rfl rfl hl rfl (Nat.le_of_ble_eq_true rfl) dX3_narrowView_128 ⟨Nat.le_of_ble_eq_true rfl, Nat.le_of_ble_eq_true rfl⟩ (fun r241 H locs L242 F242 hP hD hS hz242 hp242 => ?_)
              obtain ⟨eL, hC, er, hO1⟩ := hp242
              subst eL
              subst er
              have hO := hO.tr hO1
              refine W.widen (k := 8) (n := 60) (Nat.le_of_ble_eq_true rfl) (Nat.le_of_ble_eq_true rfl) ?_
              exact vx_ret (q_retMi C0 hret rfl hlk dX3_narrowView_131 hP hD hS (⟨by omega, by omega, (by unfold kR_narrowView; rw [if_pos (by unfold nRef; (repeat' split) <;> first | rfl | omega)]), O, G, CP_eq hC (by unfold kS_narrowView; rw [if_pos (by unfold nRef; (repeat' split) <;> first | rfl | omega)]), rfl, Ext0 hO⟩))
    · refine lv_aload hx hb dX3_narrowView_42 (lv_at hl 1 rfl) ?_
      refine q_get C0 iX1 hP (CP_v hC hb_r1).1 (CP_v hC hb_r1).2 rfl 2 (by decide) flX3_185 rfl rfl dX3_narrowView_44 ?_
      refine lv_goto (tgt := 60) hx hb dX3_narrowView_47 (by decide) ?_
      refine lv_istore (lv' := [(7, .int (iI (zvh σ xv))), (6, .int (iI (zvl σ xv))), (5, .ref ((gva G xv))), (0, .ref ((gbg G))), (1, .int (iI xv)), (2, .int (iI xkind)), (3, .int (iI xlow)), (4, .int (iI xhigh))]) hx hb dX3_narrowView_60 hl (by decide) rfl (fun ls hl => ?_)
      refine lv_iload_n hx hb dX3_narrowView_62 rfl (lv_at hl 5 rfl) ?_
      refine q_if_eq hx hb dX3_narrowView_63 (tgt := 80) (by decide) (by omega) (fun c243 => ?_) (fun c243 => ?_)
      · refine q_iconst hx hb dX3_narrowView_80 ?_
        refine lv_istore (lv' := [(8, .int (iI 0)), (7, .int (iI (zvh σ xv))), (6, .int (iI (zvl σ xv))), (5, .ref ((gva G xv))), (0, .ref ((gbg G))), (1, .int (iI xv)), (2, .int (iI xkind)), (3, .int (iI xlow)), (4, .int (iI xhigh))]) hx hb dX3_narrowView_81 hl (by decide) rfl (fun ls hl => ?_)
        refine lv_iload_n hx hb dX3_narrowView_83 rfl (lv_at hl 6 rfl) ?_
        refine q_iconst hx hb dX3_narrowView_84 ?_
        refine q_icmp_eq hx hb dX3_narrowView_85 (tgt := 102) (by decide) (by omega) (by omega) (fun c244 => ?_) (fun c244 => ?_)
        · refine q_iconst hx hb dX3_narrowView_102 ?_
          refine lv_istore (lv' := [(9, .int (iI 0)), (8, .int (iI 0)), (7, .int (iI (zvh σ xv))), (6, .int (iI (zvl σ xv))), (5, .ref ((gva G xv))), (0, .ref ((gbg G))), (1, .int (iI xv)), (2, .int (iI xkind)), (3, .int (iI xlow)), (4, .int (iI xhigh))]) hx hb dX3_narrowView_103 hl (by decide) rfl (fun ls hl => ?_)
          refine lv_iload hx hb dX3_narrowView_105 (lv_at hl 1 rfl) ?_
          refine q_if_ne hx hb dX3_narrowView_107 (tgt := 127) (by decide) (by omega) (fun c245 => absurd c245 (by omega)) (fun c245 => ?_)
          refine lv_iload hx hb dX3_narrowView_110 (lv_at hl 0 rfl) ?_
          refine q_if_ne hx hb dX3_narrowView_112 (tgt := 127) (by decide) (by omega) (fun c246 => absurd c246 (by omega)) (fun c246 => ?_)
          refine lv_iload_n hx hb dX3_narrowView_115 rfl (lv_at hl 7 rfl) ?_
          refine q_iconst hx hb dX3_narrowView_116 ?_
          refine q_icmp_ne hx hb dX3_narrowView_117 (tgt := 132) (by decide) (by omega) (by omega) (fun c247 => ?_) (fun c247 => ?_)
          · refine lv_aload hx hb dX3_narrowView_132 (lv_at hl 4 rfl) ?_
            refine lv_iload hx hb dX3_narrowView_134 (lv_at hl 3 rfl) ?_
            refine q_put C0 iX1 tyX1 tyX1_ok nmX1 hP hD hS (CP_v hC hb_r1).1 (CP_v hC hb_r1).2 rfl 1 (by decide) flX3_182 rfl rfl rfl rfl (Nat.le_of_ble_eq_true rfl) dX3_narrowView_136 (fun H locs hP hD hS => ?_)
            obtain ⟨F248, eF248⟩ : ∃ z, z = va_up F (gva G xv) (.inr (3, [.ref ((grh G (zvw σ xv))), .int (iI (zvl σ xv)), .int (iI (zvh σ xv))])) := ⟨_, rfl⟩
            have hP : va_P D vwCl (va_pl L F248) H := by rw [eF248]; exact hP
            have hD : va_D (AL L s.heap.size) (va_pl L F248) := by rw [eF248]; exact hD
            have hvF : F248 (gva G xv) = (.inr (3, [.ref ((grh G (zvw σ xv))), .int (iI (zvl σ xv)), .int (iI (zvh σ xv))])) := by rw [eF248]; exact va_up_self _ _ _
            have hO : OE O F F248 := by rw [eF248]; exact hO.tr (OE1 ((CP_O hC).2.2.2.2.2.1 _ hb_r1.1 hb_r1.2))
            have hC : CP y L F248 O G (sVw σ xv (zvw σ xv) (zvl σ xv) (zvh σ xv)) := by rw [eF248]; exact CP_vw hC hb_r1 (va_up_self _ _ _) (fun q hq => va_up_ne _ _ hq)
            refine lv_aload hx hb dX3_narrowView_139 (lv_at hl 4 rfl) ?_
            refine lv_iload hx hb dX3_narrowView_141 (lv_at hl 2 rfl) ?_
            refine q_put C0 iX1 tyX1 tyX1_ok nmX1 hP hD hS (CP_v hC hb_r1).1 hvF rfl 2 (by decide) flX3_185 rfl rfl rfl rfl (Nat.le_of_ble_eq_true rfl) dX3_narrowView_143 (fun H locs hP hD hS => ?_)
            obtain ⟨F249, eF249⟩ : ∃ z, z = va_up F248 (gva G xv) (.inr (3, [.ref ((grh G (zvw σ xv))), .int (iI (zvl σ xv)), .int (iI (zvh σ xv))])) := ⟨_, rfl⟩
            have hP : va_P D vwCl (va_pl L F249) H := by rw [eF249]; exact hP
            have hD : va_D (AL L s.heap.size) (va_pl L F249) := by rw [eF249]; exact hD
            have hvF : F249 (gva G xv) = (.inr (3, [.ref ((grh G (zvw σ xv))), .int (iI (zvl σ xv)), .int (iI (zvh σ xv))])) := by rw [eF249]; exact va_up_self _ _ _
            have hO : OE O F F249 := by rw [eF249]; exact hO.tr (OE1 ((CP_O hC).2.2.2.2.2.1 _ hb_r1.1 hb_r1.2))
            have hC : CP y L F249 O G (sVw (sVw σ xv (zvw σ xv) (zvl σ xv) (zvh σ xv)) xv (zvw σ xv) (zvl σ xv) (zvh σ xv)) := by rw [eF249]; exact CP_vw hC hb_r1 (va_up_self _ _ _) (fun q hq => va_up_ne _ _ hq)
            refine lv_aload hx hb dX3_narrowView_146 (lv_at hl 4 rfl) ?_
            refine q_get C0 iX1 hP (CP_v hC hb_r1).1 hvF rfl 0 (by decide) flX3_178 rfl rfl dX3_narrowView_148 ?_
            refine lv_aload hx hb dX3_narrowView_151 (lv_at hl 4 rfl) ?_
            refine q_get C0 iX1 hP (CP_v hC hb_r1).1 hvF rfl 1 (by decide) flX3_182 rfl rfl dX3_narrowView_153 ?_
            refine lv_aload hx hb dX3_narrowView_156 (lv_at hl 4 rfl) ?_
            refine q_get C0 iX1 hP (CP_v hC hb_r1).1 hvF rfl 2 (by decide) flX3_185 rfl rfl dX3_narrowView_158 ?_
            refine q_vS C0 lX3_188 (c_X0_countOfPart l D y L F249 (grh G (zvw σ xv)) (grw G (zvw σ xv)) (zod σ (zvw σ xv)) ((zst σ (zvw σ xv)).1) ((zst σ (zvw σ xv)).2.1) ((zst σ (zvw σ xv)).2.2) (zvl σ xv) (zvh σ xv) (CP_r hC (hW.2.2.1 xv)) (by omega) (by omega)) ⟨rfl, rfl⟩ rfl hP (CP_r hC (hW.2.2.1 xv)).1 (CP_r hC (hW.2.2.1 xv)).2.1 rfl rfl rfl hl rfl (Nat.le_of_ble_eq_true rfl) dX3_narrowView_161 ⟨Nat.le_of_ble_eq_true rfl, Nat.le_of_ble_eq_true rfl⟩ (fun r250 e_r250 => ?_)
            subst e_r250
            refine W.widen (k := 8) (n := 60) (Nat.le_of_ble_eq_true rfl) (Nat.le_of_ble_eq_true rfl) ?_
            exact vx_ret (q_retMi C0 hret rfl hlk dX3_narrowView_164 hP hD hS (⟨by omega, by omega, (by unfold kR_narrowView; rw [if_neg (by (unfold nRef; (repeat' split) <;> omega)), show nLo σ xv xkind xlow = zvl σ xv by (unfold nLo; (repeat' split) <;> first | rfl | omega), show nHi σ xv xkind xhigh = zvh σ xv by (unfold nHi; (repeat' split) <;> first | rfl | omega)]), O, G, CP_eq hC (by rw [sVw2]; unfold kS_narrowView; rw [if_neg (by (unfold nRef; (repeat' split) <;> omega)), show nLo σ xv xkind xlow = zvl σ xv by (unfold nLo; (repeat' split) <;> first | rfl | omega), show nHi σ xv xkind xhigh = zvh σ xv by (unfold nHi; (repeat' split) <;> first | rfl | omega)]), rfl, Ext0 hO⟩))
          · refine lv_iload hx hb dX3_narrowView_120 (lv_at hl 3 rfl) ?_
            refine lv_iload hx hb dX3_narrowView_122 (lv_at hl 2 rfl) ?_
            refine q_icmp_le hx hb dX3_narrowView_124 (tgt := 132) (by decide) (by omega) (by omega) (fun c251 => ?_) (fun c251 => ?_)
            · refine lv_aload hx hb dX3_narrowView_132 (lv_at hl 4 rfl) ?_
              refine lv_iload hx hb dX3_narrowView_134 (lv_at hl 3 rfl) ?_
              refine q_put C0 iX1 tyX1 tyX1_ok nmX1 hP hD hS (CP_v hC hb_r1).1 (CP_v hC hb_r1).2 rfl 1 (by decide) flX3_182 rfl rfl rfl rfl (Nat.le_of_ble_eq_true rfl) dX3_narrowView_136 (fun H locs hP hD hS => ?_)
              obtain ⟨F252, eF252⟩ : ∃ z, z = va_up F (gva G xv) (.inr (3, [.ref ((grh G (zvw σ xv))), .int (iI (zvl σ xv)), .int (iI (zvh σ xv))])) := ⟨_, rfl⟩
              have hP : va_P D vwCl (va_pl L F252) H := by rw [eF252]; exact hP
              have hD : va_D (AL L s.heap.size) (va_pl L F252) := by rw [eF252]; exact hD
              have hvF : F252 (gva G xv) = (.inr (3, [.ref ((grh G (zvw σ xv))), .int (iI (zvl σ xv)), .int (iI (zvh σ xv))])) := by rw [eF252]; exact va_up_self _ _ _
              have hO : OE O F F252 := by rw [eF252]; exact hO.tr (OE1 ((CP_O hC).2.2.2.2.2.1 _ hb_r1.1 hb_r1.2))
              have hC : CP y L F252 O G (sVw σ xv (zvw σ xv) (zvl σ xv) (zvh σ xv)) := by rw [eF252]; exact CP_vw hC hb_r1 (va_up_self _ _ _) (fun q hq => va_up_ne _ _ hq)
              refine lv_aload hx hb dX3_narrowView_139 (lv_at hl 4 rfl) ?_
              refine lv_iload hx hb dX3_narrowView_141 (lv_at hl 2 rfl) ?_
              refine q_put C0 iX1 tyX1 tyX1_ok nmX1 hP hD hS (CP_v hC hb_r1).1 hvF rfl 2 (by decide) flX3_185 rfl rfl rfl rfl (Nat.le_of_ble_eq_true rfl) dX3_narrowView_143 (fun H locs hP hD hS => ?_)
              obtain ⟨F253, eF253⟩ : ∃ z, z = va_up F252 (gva G xv) (.inr (3, [.ref ((grh G (zvw σ xv))), .int (iI (zvl σ xv)), .int (iI (zvh σ xv))])) := ⟨_, rfl⟩
              have hP : va_P D vwCl (va_pl L F253) H := by rw [eF253]; exact hP
              have hD : va_D (AL L s.heap.size) (va_pl L F253) := by rw [eF253]; exact hD
              have hvF : F253 (gva G xv) = (.inr (3, [.ref ((grh G (zvw σ xv))), .int (iI (zvl σ xv)), .int (iI (zvh σ xv))])) := by rw [eF253]; exact va_up_self _ _ _
              have hO : OE O F F253 := by rw [eF253]; exact hO.tr (OE1 ((CP_O hC).2.2.2.2.2.1 _ hb_r1.1 hb_r1.2))
              have hC : CP y L F253 O G (sVw (sVw σ xv (zvw σ xv) (zvl σ xv) (zvh σ xv)) xv (zvw σ xv) (zvl σ xv) (zvh σ xv)) := by rw [eF253]; exact CP_vw hC hb_r1 (va_up_self _ _ _) (fun q hq => va_up_ne _ _ hq)
              refine lv_aload hx hb dX3_narrowView_146 (lv_at hl 4 rfl) ?_
              refine q_get C0 iX1 hP (CP_v hC hb_r1).1 hvF rfl 0 (by decide) flX3_178 rfl rfl dX3_narrowView_148 ?_
              refine lv_aload hx hb dX3_narrowView_151 (lv_at hl 4 rfl) ?_
              refine q_get C0 iX1 hP (CP_v hC hb_r1).1 hvF rfl 1 (by decide) flX3_182 rfl rfl dX3_narrowView_153 ?_
              refine lv_aload hx hb dX3_narrowView_156 (lv_at hl 4 rfl) ?_
              refine q_get C0 iX1 hP (CP_v hC hb_r1).1 hvF rfl 2 (by decide) flX3_185 rfl rfl dX3_narrowView_158 ?_
              refine q_vS C0 lX3_188 (c_X0_countOfPart l D y L F253 (grh G (zvw σ xv)) (grw G (zvw σ xv)) (zod σ (zvw σ xv)) ((zst σ (zvw σ xv)).1) ((zst σ (zvw σ xv)).2.1) ((zst σ (zvw σ xv)).2.2) (zvl σ xv) (zvh σ xv) (CP_r hC (hW.2.2.1 xv)) (by omega) (by omega)) ⟨rfl, rfl⟩ rfl hP (CP_r hC (hW.2.2.1 xv)).1 (CP_r hC (hW.2.2.1 xv)).2.1 rfl rfl rfl hl rfl (Nat.le_of_ble_eq_true rfl) dX3_narrowView_161 ⟨Nat.le_of_ble_eq_true rfl, Nat.le_of_ble_eq_true rfl⟩ (fun r254 e_r254 => ?_)
              subst e_r254
              refine W.widen (k := 8) (n := 60) (Nat.le_of_ble_eq_true rfl) (Nat.le_of_ble_eq_true rfl) ?_
              exact vx_ret (q_retMi C0 hret rfl hlk dX3_narrowView_164 hP hD hS (⟨by omega, by omega, (by unfold kR_narrowView; rw [if_neg (by (unfold nRef; (repeat' split) <;> omega)), show nLo σ xv xkind xlow = zvl σ xv by (unfold nLo; (repeat' split) <;> first | rfl | omega), show nHi σ xv xkind xhigh = zvh σ xv by (unfold nHi; (repeat' split) <;> first | rfl | omega)]), O, G, CP_eq hC (by rw [sVw2]; unfold kS_narrowView; rw [if_neg (by (unfold nRef; (repeat' split) <;> omega)), show nLo σ xv xkind xlow = zvl σ xv by (unfold nLo; (repeat' split) <;> first | rfl | omega), show nHi σ xv xkind xhigh = zvh σ xv by (unfold nHi; (repeat' split) <;> first | rfl | omega)]), rfl, Ext0 hO⟩))
            · refine lv_aload_n hx hb dX3_narrowView_127 rfl (lv_at hl 5 rfl) ?_
              refine q_vMi C0 lX3_63 (c_X3_refuse l D y L F _ O G σ hC) ⟨rfl, rfl⟩ rfl hP hD hS hA hC.1.1 hC.1.2 rfl rfl rfl hl rfl (Nat.le_of_ble_eq_true rfl) dX3_narrowView_128 ⟨Nat.le_of_ble_eq_true rfl, Nat.le_of_ble_eq_true rfl⟩ (fun r255 H locs L256 F256 hP hD hS hz256 hp256 => ?_)
              obtain ⟨eL, hC, er, hO1⟩ := hp256
              subst eL
              subst er
              have hO := hO.tr hO1
              refine W.widen (k := 8) (n := 60) (Nat.le_of_ble_eq_true rfl) (Nat.le_of_ble_eq_true rfl) ?_
              exact vx_ret (q_retMi C0 hret rfl hlk dX3_narrowView_131 hP hD hS (⟨by omega, by omega, (by unfold kR_narrowView; rw [if_pos (by unfold nRef; (repeat' split) <;> first | rfl | omega)]), O, G, CP_eq hC (by unfold kS_narrowView; rw [if_pos (by unfold nRef; (repeat' split) <;> first | rfl | omega)]), rfl, Ext0 hO⟩))
        · refine lv_aload hx hb dX3_narrowView_88 (lv_at hl 3 rfl) ?_
          refine lv_iload hx hb dX3_narrowView_90 (lv_at hl 1 rfl) ?_
          refine q_vS C0 lX3_191 (c_X1_isWithin l D y L F (gva G xv) (grh G (zvw σ xv)) (zvl σ xv) (zvh σ xv) (zvh σ xv) (CP_v hC hb_r1).1 (CP_v hC hb_r1).2 (by omega) (by omega) (by omega)) ⟨rfl, rfl⟩ rfl hP (CP_v hC hb_r1).1 (CP_v hC hb_r1).2 rfl rfl rfl hl rfl (Nat.le_of_ble_eq_true rfl) dX3_narrowView_92 ⟨Nat.le_of_ble_eq_true rfl, Nat.le_of_ble_eq_true rfl⟩ (fun r257 e_r257 => ?_)
          subst e_r257
          refine q_if_ne hx hb dX3_narrowView_95 (tgt := 102) (by decide) (by omega) (fun c258 => ?_) (fun c258 => ?_)
          · refine q_iconst hx hb dX3_narrowView_102 ?_
            refine lv_istore (lv' := [(9, .int (iI 0)), (8, .int (iI 0)), (7, .int (iI (zvh σ xv))), (6, .int (iI (zvl σ xv))), (5, .ref ((gva G xv))), (0, .ref ((gbg G))), (1, .int (iI xv)), (2, .int (iI xkind)), (3, .int (iI xlow)), (4, .int (iI xhigh))]) hx hb dX3_narrowView_103 hl (by decide) rfl (fun ls hl => ?_)
            refine lv_iload hx hb dX3_narrowView_105 (lv_at hl 1 rfl) ?_
            refine q_if_ne hx hb dX3_narrowView_107 (tgt := 127) (by decide) (by omega) (fun c259 => absurd c259 (by omega)) (fun c259 => ?_)
            refine lv_iload hx hb dX3_narrowView_110 (lv_at hl 0 rfl) ?_
            refine q_if_ne hx hb dX3_narrowView_112 (tgt := 127) (by decide) (by omega) (fun c260 => absurd c260 (by omega)) (fun c260 => ?_)
            refine lv_iload_n hx hb dX3_narrowView_115 rfl (lv_at hl 7 rfl) ?_
            refine q_iconst hx hb dX3_narrowView_116 ?_
            refine q_icmp_ne hx hb dX3_narrowView_117 (tgt := 132) (by decide) (by omega) (by omega) (fun c261 => ?_) (fun c261 => ?_)
            · refine lv_aload hx hb dX3_narrowView_132 (lv_at hl 4 rfl) ?_
              refine lv_iload hx hb dX3_narrowView_134 (lv_at hl 3 rfl) ?_
              refine q_put C0 iX1 tyX1 tyX1_ok nmX1 hP hD hS (CP_v hC hb_r1).1 (CP_v hC hb_r1).2 rfl 1 (by decide) flX3_182 rfl rfl rfl rfl (Nat.le_of_ble_eq_true rfl) dX3_narrowView_136 (fun H locs hP hD hS => ?_)
              obtain ⟨F262, eF262⟩ : ∃ z, z = va_up F (gva G xv) (.inr (3, [.ref ((grh G (zvw σ xv))), .int (iI (zvl σ xv)), .int (iI (zvh σ xv))])) := ⟨_, rfl⟩
              have hP : va_P D vwCl (va_pl L F262) H := by rw [eF262]; exact hP
              have hD : va_D (AL L s.heap.size) (va_pl L F262) := by rw [eF262]; exact hD
              have hvF : F262 (gva G xv) = (.inr (3, [.ref ((grh G (zvw σ xv))), .int (iI (zvl σ xv)), .int (iI (zvh σ xv))])) := by rw [eF262]; exact va_up_self _ _ _
              have hO : OE O F F262 := by rw [eF262]; exact hO.tr (OE1 ((CP_O hC).2.2.2.2.2.1 _ hb_r1.1 hb_r1.2))
              have hC : CP y L F262 O G (sVw σ xv (zvw σ xv) (zvl σ xv) (zvh σ xv)) := by rw [eF262]; exact CP_vw hC hb_r1 (va_up_self _ _ _) (fun q hq => va_up_ne _ _ hq)
              refine lv_aload hx hb dX3_narrowView_139 (lv_at hl 4 rfl) ?_
              refine lv_iload hx hb dX3_narrowView_141 (lv_at hl 2 rfl) ?_
              refine q_put C0 iX1 tyX1 tyX1_ok nmX1 hP hD hS (CP_v hC hb_r1).1 hvF rfl 2 (by decide) flX3_185 rfl rfl rfl rfl (Nat.le_of_ble_eq_true rfl) dX3_narrowView_143 (fun H locs hP hD hS => ?_)
              obtain ⟨F263, eF263⟩ : ∃ z, z = va_up F262 (gva G xv) (.inr (3, [.ref ((grh G (zvw σ xv))), .int (iI (zvl σ xv)), .int (iI (zvh σ xv))])) := ⟨_, rfl⟩
              have hP : va_P D vwCl (va_pl L F263) H := by rw [eF263]; exact hP
              have hD : va_D (AL L s.heap.size) (va_pl L F263) := by rw [eF263]; exact hD
              have hvF : F263 (gva G xv) = (.inr (3, [.ref ((grh G (zvw σ xv))), .int (iI (zvl σ xv)), .int (iI (zvh σ xv))])) := by rw [eF263]; exact va_up_self _ _ _
              have hO : OE O F F263 := by rw [eF263]; exact hO.tr (OE1 ((CP_O hC).2.2.2.2.2.1 _ hb_r1.1 hb_r1.2))
              have hC : CP y L F263 O G (sVw (sVw σ xv (zvw σ xv) (zvl σ xv) (zvh σ xv)) xv (zvw σ xv) (zvl σ xv) (zvh σ xv)) := by rw [eF263]; exact CP_vw hC hb_r1 (va_up_self _ _ _) (fun q hq => va_up_ne _ _ hq)
              refine lv_aload hx hb dX3_narrowView_146 (lv_at hl 4 rfl) ?_
              refine q_get C0 iX1 hP (CP_v hC hb_r1).1 hvF rfl 0 (by decide) flX3_178 rfl rfl dX3_narrowView_148 ?_
              refine lv_aload hx hb dX3_narrowView_151 (lv_at hl 4 rfl) ?_
              refine q_get C0 iX1 hP (CP_v hC hb_r1).1 hvF rfl 1 (by decide) flX3_182 rfl rfl dX3_narrowView_153 ?_
              refine lv_aload hx hb dX3_narrowView_156 (lv_at hl 4 rfl) ?_
              refine q_get C0 iX1 hP (CP_v hC hb_r1).1 hvF rfl 2 (by decide) flX3_185 rfl rfl dX3_narrowView_158 ?_
              refine q_vS C0 lX3_188 (c_X0_countOfPart l D y L F263 (grh G (zvw σ xv)) (grw G (zvw σ xv)) (zod σ (zvw σ xv)) ((zst σ (zvw σ xv)).1) ((zst σ (zvw σ xv)).2.1) ((zst σ (zvw σ xv)).2.2) (zvl σ xv) (zvh σ xv) (CP_r hC (hW.2.2.1 xv)) (by omega) (by omega)) ⟨rfl, rfl⟩ rfl hP (CP_r hC (hW.2.2.1 xv)).1 (CP_r hC (hW.2.2.1 xv)).2.1 rfl rfl rfl hl rfl (Nat.le_of_ble_eq_true rfl) dX3_narrowView_161 ⟨Nat.le_of_ble_eq_true rfl, Nat.le_of_ble_eq_true rfl⟩ (fun r264 e_r264 => ?_)
              subst e_r264
              refine W.widen (k := 8) (n := 60) (Nat.le_of_ble_eq_true rfl) (Nat.le_of_ble_eq_true rfl) ?_
              exact vx_ret (q_retMi C0 hret rfl hlk dX3_narrowView_164 hP hD hS (⟨by omega, by omega, (by unfold kR_narrowView; rw [if_neg (by (unfold nRef; (repeat' split) <;> omega)), show nLo σ xv xkind xlow = zvl σ xv by (unfold nLo; (repeat' split) <;> first | rfl | omega), show nHi σ xv xkind xhigh = zvh σ xv by (unfold nHi; (repeat' split) <;> first | rfl | omega)]), O, G, CP_eq hC (by rw [sVw2]; unfold kS_narrowView; rw [if_neg (by (unfold nRef; (repeat' split) <;> omega)), show nLo σ xv xkind xlow = zvl σ xv by (unfold nLo; (repeat' split) <;> first | rfl | omega), show nHi σ xv xkind xhigh = zvh σ xv by (unfold nHi; (repeat' split) <;> first | rfl | omega)]), rfl, Ext0 hO⟩))
            · refine lv_iload hx hb dX3_narrowView_120 (lv_at hl 3 rfl) ?_
              refine lv_iload hx hb dX3_narrowView_122 (lv_at hl 2 rfl) ?_
              refine q_icmp_le hx hb dX3_narrowView_124 (tgt := 132) (by decide) (by omega) (by omega) (fun c265 => ?_) (fun c265 => ?_)
              · refine lv_aload hx hb dX3_narrowView_132 (lv_at hl 4 rfl) ?_
                refine lv_iload hx hb dX3_narrowView_134 (lv_at hl 3 rfl) ?_
                refine q_put C0 iX1 tyX1 tyX1_ok nmX1 hP hD hS (CP_v hC hb_r1).1 (CP_v hC hb_r1).2 rfl 1 (by decide) flX3_182 rfl rfl rfl rfl (Nat.le_of_ble_eq_true rfl) dX3_narrowView_136 (fun H locs hP hD hS => ?_)
                obtain ⟨F266, eF266⟩ : ∃ z, z = va_up F (gva G xv) (.inr (3, [.ref ((grh G (zvw σ xv))), .int (iI (zvl σ xv)), .int (iI (zvh σ xv))])) := ⟨_, rfl⟩
                have hP : va_P D vwCl (va_pl L F266) H := by rw [eF266]; exact hP
                have hD : va_D (AL L s.heap.size) (va_pl L F266) := by rw [eF266]; exact hD
                have hvF : F266 (gva G xv) = (.inr (3, [.ref ((grh G (zvw σ xv))), .int (iI (zvl σ xv)), .int (iI (zvh σ xv))])) := by rw [eF266]; exact va_up_self _ _ _
                have hO : OE O F F266 := by rw [eF266]; exact hO.tr (OE1 ((CP_O hC).2.2.2.2.2.1 _ hb_r1.1 hb_r1.2))
                have hC : CP y L F266 O G (sVw σ xv (zvw σ xv) (zvl σ xv) (zvh σ xv)) := by rw [eF266]; exact CP_vw hC hb_r1 (va_up_self _ _ _) (fun q hq => va_up_ne _ _ hq)
                refine lv_aload hx hb dX3_narrowView_139 (lv_at hl 4 rfl) ?_
                refine lv_iload hx hb dX3_narrowView_141 (lv_at hl 2 rfl) ?_
                refine q_put C0 iX1 tyX1 tyX1_ok nmX1 hP hD hS (CP_v hC hb_r1).1 hvF rfl 2 (by decide) flX3_185 rfl rfl rfl rfl (Nat.le_of_ble_eq_true rfl) dX3_narrowView_143 (fun H locs hP hD hS => ?_)
                obtain ⟨F267, eF267⟩ : ∃ z, z = va_up F266 (gva G xv) (.inr (3, [.ref ((grh G (zvw σ xv))), .int (iI (zvl σ xv)), .int (iI (zvh σ xv))])) := ⟨_, rfl⟩
                have hP : va_P D vwCl (va_pl L F267) H := by rw [eF267]; exact hP
                have hD : va_D (AL L s.heap.size) (va_pl L F267) := by rw [eF267]; exact hD
                have hvF : F267 (gva G xv) = (.inr (3, [.ref ((grh G (zvw σ xv))), .int (iI (zvl σ xv)), .int (iI (zvh σ xv))])) := by rw [eF267]; exact va_up_self _ _ _
                have hO : OE O F F267 := by rw [eF267]; exact hO.tr (OE1 ((CP_O hC).2.2.2.2.2.1 _ hb_r1.1 hb_r1.2))
                have hC : CP y L F267 O G (sVw (sVw σ xv (zvw σ xv) (zvl σ xv) (zvh σ xv)) xv (zvw σ xv) (zvl σ xv) (zvh σ xv)) := by rw [eF267]; exact CP_vw hC hb_r1 (va_up_self _ _ _) (fun q hq => va_up_ne _ _ hq)
                refine lv_aload hx hb dX3_narrowView_146 (lv_at hl 4 rfl) ?_
                refine q_get C0 iX1 hP (CP_v hC hb_r1).1 hvF rfl 0 (by decide) flX3_178 rfl rfl dX3_narrowView_148 ?_
                refine lv_aload hx hb dX3_narrowView_151 (lv_at hl 4 rfl) ?_
                refine q_get C0 iX1 hP (CP_v hC hb_r1).1 hvF rfl 1 (by decide) flX3_182 rfl rfl dX3_narrowView_153 ?_
                refine lv_aload hx hb dX3_narrowView_156 (lv_at hl 4 rfl) ?_
                refine q_get C0 iX1 hP (CP_v hC hb_r1).1 hvF rfl 2 (by decide) flX3_185 rfl rfl dX3_narrowView_158 ?_
                refine q_vS C0 lX3_188 (c_X0_countOfPart l D y L F267 (grh G (zvw σ xv)) (grw G (zvw σ xv)) (zod σ (zvw σ xv)) ((zst σ (zvw σ xv)).1) ((zst σ (zvw σ xv)).2.1) ((zst σ (zvw σ xv)).2.2) (zvl σ xv) (zvh σ xv) (CP_r hC (hW.2.2.1 xv)) (by omega) (by omega)) ⟨rfl, rfl⟩ rfl hP (CP_r hC (hW.2.2.1 xv)).1 (CP_r hC (hW.2.2.1 xv)).2.1 rfl rfl rfl hl rfl (Nat.le_of_ble_eq_true rfl) dX3_narrowView_161 ⟨Nat.le_of_ble_eq_true rfl, Nat.le_of_ble_eq_true rfl⟩ (fun r268 e_r268 => ?_)
                subst e_r268
                refine W.widen (k := 8) (n := 60) (Nat.le_of_ble_eq_true rfl) (Nat.le_of_ble_eq_true rfl) ?_
                exact vx_ret (q_retMi C0 hret rfl hlk dX3_narrowView_164 hP hD hS (⟨by omega, by omega, (by unfold kR_narrowView; rw [if_neg (by (unfold nRef; (repeat' split) <;> omega)), show nLo σ xv xkind xlow = zvl σ xv by (unfold nLo; (repeat' split) <;> first | rfl | omega), show nHi σ xv xkind xhigh = zvh σ xv by (unfold nHi; (repeat' split) <;> first | rfl | omega)]), O, G, CP_eq hC (by rw [sVw2]; unfold kS_narrowView; rw [if_neg (by (unfold nRef; (repeat' split) <;> omega)), show nLo σ xv xkind xlow = zvl σ xv by (unfold nLo; (repeat' split) <;> first | rfl | omega), show nHi σ xv xkind xhigh = zvh σ xv by (unfold nHi; (repeat' split) <;> first | rfl | omega)]), rfl, Ext0 hO⟩))
              · refine lv_aload_n hx hb dX3_narrowView_127 rfl (lv_at hl 5 rfl) ?_
                refine q_vMi C0 lX3_63 (c_X3_refuse l D y L F _ O G σ hC) ⟨rfl, rfl⟩ rfl hP hD hS hA hC.1.1 hC.1.2 rfl rfl rfl hl rfl (Nat.le_of_ble_eq_true rfl) dX3_narrowView_128 ⟨Nat.le_of_ble_eq_true rfl, Nat.le_of_ble_eq_true rfl⟩ (fun r269 H locs L270 F270 hP hD hS hz270 hp270 => ?_)
                obtain ⟨eL, hC, er, hO1⟩ := hp270
                subst eL
                subst er
                have hO := hO.tr hO1
                refine W.widen (k := 8) (n := 60) (Nat.le_of_ble_eq_true rfl) (Nat.le_of_ble_eq_true rfl) ?_
                exact vx_ret (q_retMi C0 hret rfl hlk dX3_narrowView_131 hP hD hS (⟨by omega, by omega, (by unfold kR_narrowView; rw [if_pos (by unfold nRef; (repeat' split) <;> first | rfl | omega)]), O, G, CP_eq hC (by unfold kS_narrowView; rw [if_pos (by unfold nRef; (repeat' split) <;> first | rfl | omega)]), rfl, Ext0 hO⟩))
          · refine q_iconst hx hb dX3_narrowView_98 ?_
            refine lv_goto (tgt := 103) hx hb dX3_narrowView_99 (by decide) ?_
            refine lv_istore (lv' := [(9, .int (iI 1)), (8, .int (iI 0)), (7, .int (iI (zvh σ xv))), (6, .int (iI (zvl σ xv))), (5, .ref ((gva G xv))), (0, .ref ((gbg G))), (1, .int (iI xv)), (2, .int (iI xkind)), (3, .int (iI xlow)), (4, .int (iI xhigh))]) hx hb dX3_narrowView_103 hl (by decide) rfl (fun ls hl => ?_)
            refine lv_iload hx hb dX3_narrowView_105 (lv_at hl 1 rfl) ?_
            refine q_if_ne hx hb dX3_narrowView_107 (tgt := 127) (by decide) (by omega) (fun c271 => absurd c271 (by omega)) (fun c271 => ?_)
            refine lv_iload hx hb dX3_narrowView_110 (lv_at hl 0 rfl) ?_
            refine q_if_ne hx hb dX3_narrowView_112 (tgt := 127) (by decide) (by omega) (fun c272 => ?_) (fun c272 => absurd c272 (by omega))
            refine lv_aload_n hx hb dX3_narrowView_127 rfl (lv_at hl 5 rfl) ?_
            refine q_vMi C0 lX3_63 (c_X3_refuse l D y L F _ O G σ hC) ⟨rfl, rfl⟩ rfl hP hD hS hA hC.1.1 hC.1.2 rfl rfl rfl hl rfl (Nat.le_of_ble_eq_true rfl) dX3_narrowView_128 ⟨Nat.le_of_ble_eq_true rfl, Nat.le_of_ble_eq_true rfl⟩ (fun r273 H locs L274 F274 hP hD hS hz274 hp274 => ?_)
            obtain ⟨eL, hC, er, hO1⟩ := hp274
            subst eL
            subst er
            have hO := hO.tr hO1
            refine W.widen (k := 8) (n := 60) (Nat.le_of_ble_eq_true rfl) (Nat.le_of_ble_eq_true rfl) ?_
            exact vx_ret (q_retMi C0 hret rfl hlk dX3_narrowView_131 hP hD hS (⟨by omega, by omega, (by unfold kR_narrowView; rw [if_pos (by unfold nRef; (repeat' split) <;> first | rfl | omega)]), O, G, CP_eq hC (by unfold kS_narrowView; rw [if_pos (by unfold nRef; (repeat' split) <;> first | rfl | omega)]), rfl, Ext0 hO⟩))
      · refine lv_aload hx hb dX3_narrowView_66 (lv_at hl 2 rfl) ?_
        refine lv_iload hx hb dX3_narrowView_68 (lv_at hl 1 rfl) ?_
        refine q_vS C0 lX3_191 (c_X1_isWithin l D y L F (gva G xv) (grh G (zvw σ xv)) (zvl σ xv) (zvh σ xv) (zvl σ xv) (CP_v hC hb_r1).1 (CP_v hC hb_r1).2 (by omega) (by omega) (by omega)) ⟨rfl, rfl⟩ rfl hP (CP_v hC hb_r1).1 (CP_v hC hb_r1).2 rfl rfl rfl hl rfl (Nat.le_of_ble_eq_true rfl) dX3_narrowView_70 ⟨Nat.le_of_ble_eq_true rfl, Nat.le_of_ble_eq_true rfl⟩ (fun r275 e_r275 => ?_)
        subst e_r275
        refine q_if_ne hx hb dX3_narrowView_73 (tgt := 80) (by decide) (by omega) (fun c276 => ?_) (fun c276 => ?_)
        · refine q_iconst hx hb dX3_narrowView_80 ?_
          refine lv_istore (lv' := [(8, .int (iI 0)), (7, .int (iI (zvh σ xv))), (6, .int (iI (zvl σ xv))), (5, .ref ((gva G xv))), (0, .ref ((gbg G))), (1, .int (iI xv)), (2, .int (iI xkind)), (3, .int (iI xlow)), (4, .int (iI xhigh))]) hx hb dX3_narrowView_81 hl (by decide) rfl (fun ls hl => ?_)
          refine lv_iload_n hx hb dX3_narrowView_83 rfl (lv_at hl 6 rfl) ?_
          refine q_iconst hx hb dX3_narrowView_84 ?_
          refine q_icmp_eq hx hb dX3_narrowView_85 (tgt := 102) (by decide) (by omega) (by omega) (fun c277 => ?_) (fun c277 => ?_)
          · refine q_iconst hx hb dX3_narrowView_102 ?_
            refine lv_istore (lv' := [(9, .int (iI 0)), (8, .int (iI 0)), (7, .int (iI (zvh σ xv))), (6, .int (iI (zvl σ xv))), (5, .ref ((gva G xv))), (0, .ref ((gbg G))), (1, .int (iI xv)), (2, .int (iI xkind)), (3, .int (iI xlow)), (4, .int (iI xhigh))]) hx hb dX3_narrowView_103 hl (by decide) rfl (fun ls hl => ?_)
            refine lv_iload hx hb dX3_narrowView_105 (lv_at hl 1 rfl) ?_
            refine q_if_ne hx hb dX3_narrowView_107 (tgt := 127) (by decide) (by omega) (fun c278 => absurd c278 (by omega)) (fun c278 => ?_)
            refine lv_iload hx hb dX3_narrowView_110 (lv_at hl 0 rfl) ?_
            refine q_if_ne hx hb dX3_narrowView_112 (tgt := 127) (by decide) (by omega) (fun c279 => absurd c279 (by omega)) (fun c279 => ?_)
            refine lv_iload_n hx hb dX3_narrowView_115 rfl (lv_at hl 7 rfl) ?_
            refine q_iconst hx hb dX3_narrowView_116 ?_
            refine q_icmp_ne hx hb dX3_narrowView_117 (tgt := 132) (by decide) (by omega) (by omega) (fun c280 => ?_) (fun c280 => ?_)
            · refine lv_aload hx hb dX3_narrowView_132 (lv_at hl 4 rfl) ?_
              refine lv_iload hx hb dX3_narrowView_134 (lv_at hl 3 rfl) ?_
              refine q_put C0 iX1 tyX1 tyX1_ok nmX1 hP hD hS (CP_v hC hb_r1).1 (CP_v hC hb_r1).2 rfl 1 (by decide) flX3_182 rfl rfl rfl rfl (Nat.le_of_ble_eq_true rfl) dX3_narrowView_136 (fun H locs hP hD hS => ?_)
              obtain ⟨F281, eF281⟩ : ∃ z, z = va_up F (gva G xv) (.inr (3, [.ref ((grh G (zvw σ xv))), .int (iI (zvl σ xv)), .int (iI (zvh σ xv))])) := ⟨_, rfl⟩
              have hP : va_P D vwCl (va_pl L F281) H := by rw [eF281]; exact hP
              have hD : va_D (AL L s.heap.size) (va_pl L F281) := by rw [eF281]; exact hD
              have hvF : F281 (gva G xv) = (.inr (3, [.ref ((grh G (zvw σ xv))), .int (iI (zvl σ xv)), .int (iI (zvh σ xv))])) := by rw [eF281]; exact va_up_self _ _ _
              have hO : OE O F F281 := by rw [eF281]; exact hO.tr (OE1 ((CP_O hC).2.2.2.2.2.1 _ hb_r1.1 hb_r1.2))
              have hC : CP y L F281 O G (sVw σ xv (zvw σ xv) (zvl σ xv) (zvh σ xv)) := by rw [eF281]; exact CP_vw hC hb_r1 (va_up_self _ _ _) (fun q hq => va_up_ne _ _ hq)
              refine lv_aload hx hb dX3_narrowView_139 (lv_at hl 4 rfl) ?_
              refine lv_iload hx hb dX3_narrowView_141 (lv_at hl 2 rfl) ?_
              refine q_put C0 iX1 tyX1 tyX1_ok nmX1 hP hD hS (CP_v hC hb_r1).1 hvF rfl 2 (by decide) flX3_185 rfl rfl rfl rfl (Nat.le_of_ble_eq_true rfl) dX3_narrowView_143 (fun H locs hP hD hS => ?_)
              obtain ⟨F282, eF282⟩ : ∃ z, z = va_up F281 (gva G xv) (.inr (3, [.ref ((grh G (zvw σ xv))), .int (iI (zvl σ xv)), .int (iI (zvh σ xv))])) := ⟨_, rfl⟩
              have hP : va_P D vwCl (va_pl L F282) H := by rw [eF282]; exact hP
              have hD : va_D (AL L s.heap.size) (va_pl L F282) := by rw [eF282]; exact hD
              have hvF : F282 (gva G xv) = (.inr (3, [.ref ((grh G (zvw σ xv))), .int (iI (zvl σ xv)), .int (iI (zvh σ xv))])) := by rw [eF282]; exact va_up_self _ _ _
              have hO : OE O F F282 := by rw [eF282]; exact hO.tr (OE1 ((CP_O hC).2.2.2.2.2.1 _ hb_r1.1 hb_r1.2))
              have hC : CP y L F282 O G (sVw (sVw σ xv (zvw σ xv) (zvl σ xv) (zvh σ xv)) xv (zvw σ xv) (zvl σ xv) (zvh σ xv)) := by rw [eF282]; exact CP_vw hC hb_r1 (va_up_self _ _ _) (fun q hq => va_up_ne _ _ hq)
              refine lv_aload hx hb dX3_narrowView_146 (lv_at hl 4 rfl) ?_
              refine q_get C0 iX1 hP (CP_v hC hb_r1).1 hvF rfl 0 (by decide) flX3_178 rfl rfl dX3_narrowView_148 ?_
              refine lv_aload hx hb dX3_narrowView_151 (lv_at hl 4 rfl) ?_
              refine q_get C0 iX1 hP (CP_v hC hb_r1).1 hvF rfl 1 (by decide) flX3_182 rfl rfl dX3_narrowView_153 ?_
              refine lv_aload hx hb dX3_narrowView_156 (lv_at hl 4 rfl) ?_
              refine q_get C0 iX1 hP (CP_v hC hb_r1).1 hvF rfl 2 (by decide) flX3_185 rfl rfl dX3_narrowView_158 ?_
              refine q_vS C0 lX3_188 (c_X0_countOfPart l D y L F282 (grh G (zvw σ xv)) (grw G (zvw σ xv)) (zod σ (zvw σ xv)) ((zst σ (zvw σ xv)).1) ((zst σ (zvw σ xv)).2.1) ((zst σ (zvw σ xv)).2.2) (zvl σ xv) (zvh σ xv) (CP_r hC (hW.2.2.1 xv)) (by omega) (by omega)) ⟨rfl, rfl⟩ rfl hP (CP_r hC (hW.2.2.1 xv)).1 (CP_r hC (hW.2.2.1 xv)).2.1 rfl rfl rfl hl rfl (Nat.le_of_ble_eq_true rfl) dX3_narrowView_161 ⟨Nat.le_of_ble_eq_true rfl, Nat.le_of_ble_eq_true rfl⟩ (fun r283 e_r283 => ?_)
              subst e_r283
              refine W.widen (k := 8) (n := 60) (Nat.le_of_ble_eq_true rfl) (Nat.le_of_ble_eq_true rfl) ?_
              exact vx_ret (q_retMi C0 hret rfl hlk dX3_narrowView_164 hP hD hS (⟨by omega, by omega, (by unfold kR_narrowView; rw [if_neg (by (unfold nRef; (repeat' split) <;> omega)), show nLo σ xv xkind xlow = zvl σ xv by (unfold nLo; (repeat' split) <;> first | rfl | omega), show nHi σ xv xkind xhigh = zvh σ xv by (unfold nHi; (repeat' split) <;> first | rfl | omega)]), O, G, CP_eq hC (by rw [sVw2]; unfold kS_narrowView; rw [if_neg (by (unfold nRef; (repeat' split) <;> omega)), show nLo σ xv xkind xlow = zvl σ xv by (unfold nLo; (repeat' split) <;> first | rfl | omega), show nHi σ xv xkind xhigh = zvh σ xv by (unfold nHi; (repeat' split) <;> first | rfl | omega)]), rfl, Ext0 hO⟩))
            · refine lv_iload hx hb dX3_narrowView_120 (lv_at hl 3 rfl) ?_
              refine lv_iload hx hb dX3_narrowView_122 (lv_at hl 2 rfl) ?_
              refine q_icmp_le hx hb dX3_narrowView_124 (tgt := 132) (by decide) (by omega) (by omega) (fun c284 => ?_) (fun c284 => ?_)
              · refine lv_aload hx hb dX3_narrowView_132 (lv_at hl 4 rfl) ?_
                refine lv_iload hx hb dX3_narrowView_134 (lv_at hl 3 rfl) ?_
                refine q_put C0 iX1 tyX1 tyX1_ok nmX1 hP hD hS (CP_v hC hb_r1).1 (CP_v hC hb_r1).2 rfl 1 (by decide) flX3_182 rfl rfl rfl rfl (Nat.le_of_ble_eq_true rfl) dX3_narrowView_136 (fun H locs hP hD hS => ?_)
                obtain ⟨F285, eF285⟩ : ∃ z, z = va_up F (gva G xv) (.inr (3, [.ref ((grh G (zvw σ xv))), .int (iI (zvl σ xv)), .int (iI (zvh σ xv))])) := ⟨_, rfl⟩
                have hP : va_P D vwCl (va_pl L F285) H := by rw [eF285]; exact hP
                have hD : va_D (AL L s.heap.size) (va_pl L F285) := by rw [eF285]; exact hD
                have hvF : F285 (gva G xv) = (.inr (3, [.ref ((grh G (zvw σ xv))), .int (iI (zvl σ xv)), .int (iI (zvh σ xv))])) := by rw [eF285]; exact va_up_self _ _ _
                have hO : OE O F F285 := by rw [eF285]; exact hO.tr (OE1 ((CP_O hC).2.2.2.2.2.1 _ hb_r1.1 hb_r1.2))
                have hC : CP y L F285 O G (sVw σ xv (zvw σ xv) (zvl σ xv) (zvh σ xv)) := by rw [eF285]; exact CP_vw hC hb_r1 (va_up_self _ _ _) (fun q hq => va_up_ne _ _ hq)
                refine lv_aload hx hb dX3_narrowView_139 (lv_at hl 4 rfl) ?_
                refine lv_iload hx hb dX3_narrowView_141 (lv_at hl 2 rfl) ?_
                refine q_put C0 iX1 tyX1 tyX1_ok nmX1 hP hD hS (CP_v hC hb_r1).1 hvF rfl 2 (by decide) flX3_185 rfl rfl rfl rfl (Nat.le_of_ble_eq_true rfl) dX3_narrowView_143 (fun H locs hP hD hS => ?_)
                obtain ⟨F286, eF286⟩ : ∃ z, z = va_up F285 (gva G xv) (.inr (3, [.ref ((grh G (zvw σ xv))), .int (iI (zvl σ xv)), .int (iI (zvh σ xv))])) := ⟨_, rfl⟩
                have hP : va_P D vwCl (va_pl L F286) H := by rw [eF286]; exact hP
                have hD : va_D (AL L s.heap.size) (va_pl L F286) := by rw [eF286]; exact hD
                have hvF : F286 (gva G xv) = (.inr (3, [.ref ((grh G (zvw σ xv))), .int (iI (zvl σ xv)), .int (iI (zvh σ xv))])) := by rw [eF286]; exact va_up_self _ _ _
                have hO : OE O F F286 := by rw [eF286]; exact hO.tr (OE1 ((CP_O hC).2.2.2.2.2.1 _ hb_r1.1 hb_r1.2))
                have hC : CP y L F286 O G (sVw (sVw σ xv (zvw σ xv) (zvl σ xv) (zvh σ xv)) xv (zvw σ xv) (zvl σ xv) (zvh σ xv)) := by rw [eF286]; exact CP_vw hC hb_r1 (va_up_self _ _ _) (fun q hq => va_up_ne _ _ hq)
                refine lv_aload hx hb dX3_narrowView_146 (lv_at hl 4 rfl) ?_
                refine q_get C0 iX1 hP (CP_v hC hb_r1).1 hvF rfl 0 (by decide) flX3_178 rfl rfl dX3_narrowView_148 ?_
                refine lv_aload hx hb dX3_narrowView_151 (lv_at hl 4 rfl) ?_
                refine q_get C0 iX1 hP (CP_v hC hb_r1).1 hvF rfl 1 (by decide) flX3_182 rfl rfl dX3_narrowView_153 ?_
                refine lv_aload hx hb dX3_narrowView_156 (lv_at hl 4 rfl) ?_
                refine q_get C0 iX1 hP (CP_v hC hb_r1).1 hvF rfl 2 (by decide) flX3_185 rfl rfl dX3_narrowView_158 ?_
                refine q_vS C0 lX3_188 (c_X0_countOfPart l D y L F286 (grh G (zvw σ xv)) (grw G (zvw σ xv)) (zod σ (zvw σ xv)) ((zst σ (zvw σ xv)).1) ((zst σ (zvw σ xv)).2.1) ((zst σ (zvw σ xv)).2.2) (zvl σ xv) (zvh σ xv) (CP_r hC (hW.2.2.1 xv)) (by omega) (by omega)) ⟨rfl, rfl⟩ rfl hP (CP_r hC (hW.2.2.1 xv)).1 (CP_r hC (hW.2.2.1 xv)).2.1 rfl rfl rfl hl rfl (Nat.le_of_ble_eq_true rfl) dX3_narrowView_161 ⟨Nat.le_of_ble_eq_true rfl, Nat.le_of_ble_eq_true rfl⟩ (fun r287 e_r287 => ?_)
                subst e_r287
                refine W.widen (k := 8) (n := 60) (Nat.le_of_ble_eq_true rfl) (Nat.le_of_ble_eq_true rfl) ?_
                exact vx_ret (q_retMi C0 hret rfl hlk dX3_narrowView_164 hP hD hS (⟨by omega, by omega, (by unfold kR_narrowView; rw [if_neg (by (unfold nRef; (repeat' split) <;> omega)), show nLo σ xv xkind xlow = zvl σ xv by (unfold nLo; (repeat' split) <;> first | rfl | omega), show nHi σ xv xkind xhigh = zvh σ xv by (unfold nHi; (repeat' split) <;> first | rfl | omega)]), O, G, CP_eq hC (by rw [sVw2]; unfold kS_narrowView; rw [if_neg (by (unfold nRef; (repeat' split) <;> omega)), show nLo σ xv xkind xlow = zvl σ xv by (unfold nLo; (repeat' split) <;> first | rfl | omega), show nHi σ xv xkind xhigh = zvh σ xv by (unfold nHi; (repeat' split) <;> first | rfl | omega)]), rfl, Ext0 hO⟩))
              · refine lv_aload_n hx hb dX3_narrowView_127 rfl (lv_at hl 5 rfl) ?_
                refine q_vMi C0 lX3_63 (c_X3_refuse l D y L F _ O G σ hC) ⟨rfl, rfl⟩ rfl hP hD hS hA hC.1.1 hC.1.2 rfl rfl rfl hl rfl (Nat.le_of_ble_eq_true rfl) dX3_narrowView_128 ⟨Nat.le_of_ble_eq_true rfl, Nat.le_of_ble_eq_true rfl⟩ (fun r288 H locs L289 F289 hP hD hS hz289 hp289 => ?_)
                obtain ⟨eL, hC, er, hO1⟩ := hp289
                subst eL
                subst er
                have hO := hO.tr hO1
                refine W.widen (k := 8) (n := 60) (Nat.le_of_ble_eq_true rfl) (Nat.le_of_ble_eq_true rfl) ?_
                exact vx_ret (q_retMi C0 hret rfl hlk dX3_narrowView_131 hP hD hS (⟨by omega, by omega, (by unfold kR_narrowView; rw [if_pos (by unfold nRef; (repeat' split) <;> first | rfl | omega)]), O, G, CP_eq hC (by unfold kS_narrowView; rw [if_pos (by unfold nRef; (repeat' split) <;> first | rfl | omega)]), rfl, Ext0 hO⟩))
          · refine lv_aload hx hb dX3_narrowView_88 (lv_at hl 3 rfl) ?_
            refine lv_iload hx hb dX3_narrowView_90 (lv_at hl 1 rfl) ?_
            refine q_vS C0 lX3_191 (c_X1_isWithin l D y L F (gva G xv) (grh G (zvw σ xv)) (zvl σ xv) (zvh σ xv) (zvh σ xv) (CP_v hC hb_r1).1 (CP_v hC hb_r1).2 (by omega) (by omega) (by omega)) ⟨rfl, rfl⟩ rfl hP (CP_v hC hb_r1).1 (CP_v hC hb_r1).2 rfl rfl rfl hl rfl (Nat.le_of_ble_eq_true rfl) dX3_narrowView_92 ⟨Nat.le_of_ble_eq_true rfl, Nat.le_of_ble_eq_true rfl⟩ (fun r290 e_r290 => ?_)
            subst e_r290
            refine q_if_ne hx hb dX3_narrowView_95 (tgt := 102) (by decide) (by omega) (fun c291 => ?_) (fun c291 => ?_)
            · refine q_iconst hx hb dX3_narrowView_102 ?_
              refine lv_istore (lv' := [(9, .int (iI 0)), (8, .int (iI 0)), (7, .int (iI (zvh σ xv))), (6, .int (iI (zvl σ xv))), (5, .ref ((gva G xv))), (0, .ref ((gbg G))), (1, .int (iI xv)), (2, .int (iI xkind)), (3, .int (iI xlow)), (4, .int (iI xhigh))]) hx hb dX3_narrowView_103 hl (by decide) rfl (fun ls hl => ?_)
              refine lv_iload hx hb dX3_narrowView_105 (lv_at hl 1 rfl) ?_
              refine q_if_ne hx hb dX3_narrowView_107 (tgt := 127) (by decide) (by omega) (fun c292 => absurd c292 (by omega)) (fun c292 => ?_)
              refine lv_iload hx hb dX3_narrowView_110 (lv_at hl 0 rfl) ?_
              refine q_if_ne hx hb dX3_narrowView_112 (tgt := 127) (by decide) (by omega) (fun c293 => absurd c293 (by omega)) (fun c293 => ?_)
              refine lv_iload_n hx hb dX3_narrowView_115 rfl (lv_at hl 7 rfl) ?_
              refine q_iconst hx hb dX3_narrowView_116 ?_
              refine q_icmp_ne hx hb dX3_narrowView_117 (tgt := 132) (by decide) (by omega) (by omega) (fun c294 => ?_) (fun c294 => ?_)
              · refine lv_aload hx hb dX3_narrowView_132 (lv_at hl 4 rfl) ?_
                refine lv_iload hx hb dX3_narrowView_134 (lv_at hl 3 rfl) ?_
                refine q_put C0 iX1 tyX1 tyX1_ok nmX1 hP hD hS (CP_v hC hb_r1).1 (CP_v hC hb_r1).2 rfl 1 (by decide) flX3_182 rfl rfl rfl rfl (Nat.le_of_ble_eq_true rfl) dX3_narrowView_136 (fun H locs hP hD hS => ?_)
                obtain ⟨F295, eF295⟩ : ∃ z, z = va_up F (gva G xv) (.inr (3, [.ref ((grh G (zvw σ xv))), .int (iI (zvl σ xv)), .int (iI (zvh σ xv))])) := ⟨_, rfl⟩
                have hP : va_P D vwCl (va_pl L F295) H := by rw [eF295]; exact hP
                have hD : va_D (AL L s.heap.size) (va_pl L F295) := by rw [eF295]; exact hD
                have hvF : F295 (gva G xv) = (.inr (3, [.ref ((grh G (zvw σ xv))), .int (iI (zvl σ xv)), .int (iI (zvh σ xv))])) := by rw [eF295]; exact va_up_self _ _ _
                have hO : OE O F F295 := by rw [eF295]; exact hO.tr (OE1 ((CP_O hC).2.2.2.2.2.1 _ hb_r1.1 hb_r1.2))
                have hC : CP y L F295 O G (sVw σ xv (zvw σ xv) (zvl σ xv) (zvh σ xv)) := by rw [eF295]; exact CP_vw hC hb_r1 (va_up_self _ _ _) (fun q hq => va_up_ne _ _ hq)
                refine lv_aload hx hb dX3_narrowView_139 (lv_at hl 4 rfl) ?_
                refine lv_iload hx hb dX3_narrowView_141 (lv_at hl 2 rfl) ?_
                refine q_put C0 iX1 tyX1 tyX1_ok nmX1 hP hD hS (CP_v hC hb_r1).1 hvF rfl 2 (by decide) flX3_185 rfl rfl rfl rfl (Nat.le_of_ble_eq_true rfl) dX3_narrowView_143 (fun H locs hP hD hS => ?_)
                obtain ⟨F296, eF296⟩ : ∃ z, z = va_up F295 (gva G xv) (.inr (3, [.ref ((grh G (zvw σ xv))), .int (iI (zvl σ xv)), .int (iI (zvh σ xv))])) := ⟨_, rfl⟩
                have hP : va_P D vwCl (va_pl L F296) H := by rw [eF296]; exact hP
                have hD : va_D (AL L s.heap.size) (va_pl L F296) := by rw [eF296]; exact hD
                have hvF : F296 (gva G xv) = (.inr (3, [.ref ((grh G (zvw σ xv))), .int (iI (zvl σ xv)), .int (iI (zvh σ xv))])) := by rw [eF296]; exact va_up_self _ _ _
                have hO : OE O F F296 := by rw [eF296]; exact hO.tr (OE1 ((CP_O hC).2.2.2.2.2.1 _ hb_r1.1 hb_r1.2))
                have hC : CP y L F296 O G (sVw (sVw σ xv (zvw σ xv) (zvl σ xv) (zvh σ xv)) xv (zvw σ xv) (zvl σ xv) (zvh σ xv)) := by rw [eF296]; exact CP_vw hC hb_r1 (va_up_self _ _ _) (fun q hq => va_up_ne _ _ hq)
                refine lv_aload hx hb dX3_narrowView_146 (lv_at hl 4 rfl) ?_
                refine q_get C0 iX1 hP (CP_v hC hb_r1).1 hvF rfl 0 (by decide) flX3_178 rfl rfl dX3_narrowView_148 ?_
                refine lv_aload hx hb dX3_narrowView_151 (lv_at hl 4 rfl) ?_
                refine q_get C0 iX1 hP (CP_v hC hb_r1).1 hvF rfl 1 (by decide) flX3_182 rfl rfl dX3_narrowView_153 ?_
                refine lv_aload hx hb dX3_narrowView_156 (lv_at hl 4 rfl) ?_
                refine q_get C0 iX1 hP (CP_v hC hb_r1).1 hvF rfl 2 (by decide) flX3_185 rfl rfl dX3_narrowView_158 ?_
                refine q_vS C0 lX3_188 (c_X0_countOfPart l D y L F296 (grh G (zvw σ xv)) (grw G (zvw σ xv)) (zod σ (zvw σ xv)) ((zst σ (zvw σ xv)).1) ((zst σ (zvw σ xv)).2.1) ((zst σ (zvw σ xv)).2.2) (zvl σ xv) (zvh σ xv) (CP_r hC (hW.2.2.1 xv)) (by omega) (by omega)) ⟨rfl, rfl⟩ rfl hP (CP_r hC (hW.2.2.1 xv)).1 (CP_r hC (hW.2.2.1 xv)).2.1 rfl rfl rfl hl rfl (Nat.le_of_ble_eq_true rfl) dX3_narrowView_161 ⟨Nat.le_of_ble_eq_true rfl, Nat.le_of_ble_eq_true rfl⟩ (fun r297 e_r297 => ?_)
                subst e_r297
                refine W.widen (k := 8) (n := 60) (Nat.le_of_ble_eq_true rfl) (Nat.le_of_ble_eq_true rfl) ?_
                exact vx_ret (q_retMi C0 hret rfl hlk dX3_narrowView_164 hP hD hS (⟨by omega, by omega, (by unfold kR_narrowView; rw [if_neg (by (unfold nRef; (repeat' split) <;> omega)), show nLo σ xv xkind xlow = zvl σ xv by (unfold nLo; (repeat' split) <;> first | rfl | omega), show nHi σ xv xkind xhigh = zvh σ xv by (unfold nHi; (repeat' split) <;> first | rfl | omega)]), O, G, CP_eq hC (by rw [sVw2]; unfold kS_narrowView; rw [if_neg (by (unfold nRef; (repeat' split) <;> omega)), show nLo σ xv xkind xlow = zvl σ xv by (unfold nLo; (repeat' split) <;> first | rfl | omega), show nHi σ xv xkind xhigh = zvh σ xv by (unfold nHi; (repeat' split) <;> first | rfl | omega)]), rfl, Ext0 hO⟩))
              · refine lv_iload hx hb dX3_narrowView_120 (lv_at hl 3 rfl) ?_
                refine lv_iload hx hb dX3_narrowView_122 (lv_at hl 2 rfl) ?_
                refine q_icmp_le hx hb dX3_narrowView_124 (tgt := 132) (by decide) (by omega) (by omega) (fun c298 => ?_) (fun c298 => ?_)
                · refine lv_aload hx hb dX3_narrowView_132 (lv_at hl 4 rfl) ?_
                  refine lv_iload hx hb dX3_narrowView_134 (lv_at hl 3 rfl) ?_
                  refine q_put C0 iX1 tyX1 tyX1_ok nmX1 hP hD hS (CP_v hC hb_r1).1 (CP_v hC hb_r1).2 rfl 1 (by decide) flX3_182 rfl rfl rfl rfl (Nat.le_of_ble_eq_true rfl) dX3_narrowView_136 (fun H locs hP hD hS => ?_)
                  obtain ⟨F299, eF299⟩ : ∃ z, z = va_up F (gva G xv) (.inr (3, [.ref ((grh G (zvw σ xv))), .int (iI (zvl σ xv)), .int (iI (zvh σ xv))])) := ⟨_, rfl⟩
                  have hP : va_P D vwCl (va_pl L F299) H := by rw [eF299]; exact hP
                  have hD : va_D (AL L s.heap.size) (va_pl L F299) := by rw [eF299]; exact hD
                  have hvF : F299 (gva G xv) = (.inr (3, [.ref ((grh G (zvw σ xv))), .int (iI (zvl σ xv)), .int (iI (zvh σ xv))])) := by rw [eF299]; exact va_up_self _ _ _
                  have hO : OE O F F299 := by rw [eF299]; exact hO.tr (OE1 ((CP_O hC).2.2.2.2.2.1 _ hb_r1.1 hb_r1.2))
                  have hC : CP y L F299 O G (sVw σ xv (zvw σ xv) (zvl σ xv) (zvh σ xv)) := by rw [eF299]; exact CP_vw hC hb_r1 (va_up_self _ _ _) (fun q hq => va_up_ne _ _ hq)
                  refine lv_aload hx hb dX3_narrowView_139 (lv_at hl 4 rfl) ?_
                  refine lv_iload hx hb dX3_narrowView_141 (lv_at hl 2 rfl) ?_
                  refine q_put C0 iX1 tyX1 tyX1_ok nmX1 hP hD hS (CP_v hC hb_r1).1 hvF rfl 2 (by decide) flX3_185 rfl rfl rfl rfl (Nat.le_of_ble_eq_true rfl) dX3_narrowView_143 (fun H locs hP hD hS => ?_)
                  obtain ⟨F300, eF300⟩ : ∃ z, z = va_up F299 (gva G xv) (.inr (3, [.ref ((grh G (zvw σ xv))), .int (iI (zvl σ xv)), .int (iI (zvh σ xv))])) := ⟨_, rfl⟩
                  have hP : va_P D vwCl (va_pl L F300) H := by rw [eF300]; exact hP
                  have hD : va_D (AL L s.heap.size) (va_pl L F300) := by rw [eF300]; exact hD
                  have hvF : F300 (gva G xv) = (.inr (3, [.ref ((grh G (zvw σ xv))), .int (iI (zvl σ xv)), .int (iI (zvh σ xv))])) := by rw [eF300]; exact va_up_self _ _ _
                  have hO : OE O F F300 := by rw [eF300]; exact hO.tr (OE1 ((CP_O hC).2.2.2.2.2.1 _ hb_r1.1 hb_r1.2))
                  have hC : CP y L F300 O G (sVw (sVw σ xv (zvw σ xv) (zvl σ xv) (zvh σ xv)) xv (zvw σ xv) (zvl σ xv) (zvh σ xv)) := by rw [eF300]; exact CP_vw hC hb_r1 (va_up_self _ _ _) (fun q hq => va_up_ne _ _ hq)
                  refine lv_aload hx hb dX3_narrowView_146 (lv_at hl 4 rfl) ?_
                  refine q_get C0 iX1 hP (CP_v hC hb_r1).1 hvF rfl 0 (by decide) flX3_178 rfl rfl dX3_narrowView_148 ?_
                  refine lv_aload hx hb dX3_narrowView_151 (lv_at hl 4 rfl) ?_
                  refine q_get C0 iX1 hP (CP_v hC hb_r1).1 hvF rfl 1 (by decide) flX3_182 rfl rfl dX3_narrowView_153 ?_
                  refine lv_aload hx hb dX3_narrowView_156 (lv_at hl 4 rfl) ?_
                  refine q_get C0 iX1 hP (CP_v hC hb_r1).1 hvF rfl 2 (by decide) flX3_185 rfl rfl dX3_narrowView_158 ?_
                  refine q_vS C0 lX3_188 (c_X0_countOfPart l D y L F300 (grh G (zvw σ xv)) (grw G (zvw σ xv)) (zod σ (zvw σ xv)) ((zst σ (zvw σ xv)).1) ((zst σ (zvw σ xv)).2.1) ((zst σ (zvw σ xv)).2.2) (zvl σ xv) (zvh σ xv) (CP_r hC (hW.2.2.1 xv)) (by omega) (by omega)) ⟨rfl, rfl⟩ rfl hP (CP_r hC (hW.2.2.1 xv)).1 (CP_r hC (hW.2.2.1 xv)).2.1 rfl rfl rfl hl rfl (Nat.le_of_ble_eq_true rfl) dX3_narrowView_161 ⟨Nat.le_of_ble_eq_true rfl, Nat.le_of_ble_eq_true rfl⟩ (fun r301 e_r301 => ?_)
                  subst e_r301
                  refine W.widen (k := 8) (n := 60) (Nat.le_of_ble_eq_true rfl) (Nat.le_of_ble_eq_true rfl) ?_
                  exact vx_ret (q_retMi C0 hret rfl hlk dX3_narrowView_164 hP hD hS (⟨by omega, by omega, (by unfold kR_narrowView; rw [if_neg (by (unfold nRef; (repeat' split) <;> omega)), show nLo σ xv xkind xlow = zvl σ xv by (unfold nLo; (repeat' split) <;> first | rfl | omega), show nHi σ xv xkind xhigh = zvh σ xv by (unfold nHi; (repeat' split) <;> first | rfl | omega)]), O, G, CP_eq hC (by rw [sVw2]; unfold kS_narrowView; rw [if_neg (by (unfold nRef; (repeat' split) <;> omega)), show nLo σ xv xkind xlow = zvl σ xv by (unfold nLo; (repeat' split) <;> first | rfl | omega), show nHi σ xv xkind xhigh = zvh σ xv by (unfold nHi; (repeat' split) <;> first | rfl | omega)]), rfl, Ext0 hO⟩))
                · refine lv_aload_n hx hb dX3_narrowView_127 rfl (lv_at hl 5 rfl) ?_
                  refine q_vMi C0 lX3_63 (c_X3_refuse l D y L F _ O G σ hC) ⟨rfl, rfl⟩ rfl hP hD hS hA hC.1.1 hC.1.2 rfl rfl rfl hl rfl (Nat.le_of_ble_eq_true rfl) dX3_narrowView_128 ⟨Nat.le_of_ble_eq_true rfl, Nat.le_of_ble_eq_true rfl⟩ (fun r302 H locs L303 F303 hP hD hS hz303 hp303 => ?_)
                  obtain ⟨eL, hC, er, hO1⟩ := hp303
                  subst eL
                  subst er
                  have hO := hO.tr hO1
                  refine W.widen (k := 8) (n := 60) (Nat.le_of_ble_eq_true rfl) (Nat.le_of_ble_eq_true rfl) ?_
                  exact vx_ret (q_retMi C0 hret rfl hlk dX3_narrowView_131 hP hD hS (⟨by omega, by omega, (by unfold kR_narrowView; rw [if_pos (by unfold nRef; (repeat' split) <;> first | rfl | omega)]), O, G, CP_eq hC (by unfold kS_narrowView; rw [if_pos (by unfold nRef; (repeat' split) <;> first | rfl | omega)]), rfl, Ext0 hO⟩))
            · refine q_iconst hx hb dX3_narrowView_98 ?_
              refine lv_goto (tgt := 103) hx hb dX3_narrowView_99 (by decide) ?_
              refine lv_istore (lv' := [(9, .int (iI 1)), (8, .int (iI 0)), (7, .int (iI (zvh σ xv))), (6, .int (iI (zvl σ xv))), (5, .ref ((gva G xv))), (0, .ref ((gbg G))), (1, .int (iI xv)), (2, .int (iI xkind)), (3, .int (iI xlow)), (4, .int (iI xhigh))]) hx hb dX3_narrowView_103 hl (by decide) rfl (fun ls hl => ?_)
              refine lv_iload hx hb dX3_narrowView_105 (lv_at hl 1 rfl) ?_
              refine q_if_ne hx hb dX3_narrowView_107 (tgt := 127) (by decide) (by omega) (fun c304 => absurd c304 (by omega)) (fun c304 => ?_)
              refine lv_iload hx hb dX3_narrowView_110 (lv_at hl 0 rfl) ?_
              refine q_if_ne hx hb dX3_narrowView_112 (tgt := 127) (by decide) (by omega) (fun c305 => ?_) (fun c305 => absurd c305 (by omega))
              refine lv_aload_n hx hb dX3_narrowView_127 rfl (lv_at hl 5 rfl) ?_
              refine q_vMi C0 lX3_63 (c_X3_refuse l D y L F _ O G σ hC) ⟨rfl, rfl⟩ rfl hP hD hS hA hC.1.1 hC.1.2 rfl rfl rfl hl rfl (Nat.le_of_ble_eq_true rfl) dX3_narrowView_128 ⟨Nat.le_of_ble_eq_true rfl, Nat.le_of_ble_eq_true rfl⟩ (fun r306 H locs L307 F307 hP hD hS hz307 hp307 => ?_)
              obtain ⟨eL, hC, er, hO1⟩ := hp307
              subst eL
              subst er
              have hO := hO.tr hO1
              refine W.widen (k := 8) (n := 60) (Nat.le_of_ble_eq_true rfl) (Nat.le_of_ble_eq_true rfl) ?_
              exact vx_ret (q_retMi C0 hret rfl hlk dX3_narrowView_131 hP hD hS (⟨by omega, by omega, (by unfold kR_narrowView; rw [if_pos (by unfold nRef; (repeat' split) <;> first | rfl | omega)]), O, G, CP_eq hC (by unfold kS_narrowView; rw [if_pos (by unfold nRef; (repeat' split) <;> first | rfl | omega)]), rfl, Ext0 hO⟩))
        · refine q_iconst hx hb dX3_narrowView_76 ?_
          refine lv_goto (tgt := 81) hx hb dX3_narrowView_77 (by decide) ?_
          refine lv_istore (lv' := [(8, .int (iI 1)), (7, .int (iI (zvh σ xv))), (6, .int (iI (zvl σ xv))), (5, .ref ((gva G xv))), (0, .ref ((gbg G))), (1, .int (iI xv)), (2, .int (iI xkind)), (3, .int (iI xlow)), (4, .int (iI xhigh))]) hx hb dX3_narrowView_81 hl (by decide) rfl (fun ls hl => ?_)
          refine lv_iload_n hx hb dX3_narrowView_83 rfl (lv_at hl 6 rfl) ?_
          refine q_iconst hx hb dX3_narrowView_84 ?_
          refine q_icmp_eq hx hb dX3_narrowView_85 (tgt := 102) (by decide) (by omega) (by omega) (fun c308 => ?_) (fun c308 => ?_)
          · refine q_iconst hx hb dX3_narrowView_102 ?_
            refine lv_istore (lv' := [(9, .int (iI 0)), (8, .int (iI 1)), (7, .int (iI (zvh σ xv))), (6, .int (iI (zvl σ xv))), (5, .ref ((gva G xv))), (0, .ref ((gbg G))), (1, .int (iI xv)), (2, .int (iI xkind)), (3, .int (iI xlow)), (4, .int (iI xhigh))]) hx hb dX3_narrowView_103 hl (by decide) rfl (fun ls hl => ?_)
            refine lv_iload hx hb dX3_narrowView_105 (lv_at hl 1 rfl) ?_
            refine q_if_ne hx hb dX3_narrowView_107 (tgt := 127) (by decide) (by omega) (fun c309 => ?_) (fun c309 => absurd c309 (by omega))
            refine lv_aload_n hx hb dX3_narrowView_127 rfl (lv_at hl 5 rfl) ?_
            refine q_vMi C0 lX3_63 (c_X3_refuse l D y L F _ O G σ hC) ⟨rfl, rfl⟩ rfl hP hD hS hA hC.1.1 hC.1.2 rfl rfl rfl hl rfl (Nat.le_of_ble_eq_true rfl) dX3_narrowView_128 ⟨Nat.le_of_ble_eq_true rfl, Nat.le_of_ble_eq_true rfl⟩ (fun r310 H locs L311 F311 hP hD hS hz311 hp311 => ?_)
            obtain ⟨eL, hC, er, hO1⟩ := hp311
            subst eL
            subst er
            have hO := hO.tr hO1
            refine W.widen (k := 8) (n := 60) (Nat.le_of_ble_eq_true rfl) (Nat.le_of_ble_eq_true rfl) ?_
            exact vx_ret (q_retMi C0 hret rfl hlk dX3_narrowView_131 hP hD hS (⟨by omega, by omega, (by unfold kR_narrowView; rw [if_pos (by unfold nRef; (repeat' split) <;> first | rfl | omega)]), O, G, CP_eq hC (by unfold kS_narrowView; rw [if_pos (by unfold nRef; (repeat' split) <;> first | rfl | omega)]), rfl, Ext0 hO⟩))
          · refine lv_aload hx hb dX3_narrowView_88 (lv_at hl 3 rfl) ?_
            refine lv_iload hx hb dX3_narrowView_90 (lv_at hl 1 rfl) ?_
            refine q_vS C0 lX3_191 (c_X1_isWithin l D y L F (gva G xv) (grh G (zvw σ xv)) (zvl σ xv) (zvh σ xv) (zvh σ xv) (CP_v hC hb_r1).1 (CP_v hC hb_r1).2 (by omega) (by omega) (by omega)) ⟨rfl, rfl⟩ rfl hP (CP_v hC hb_r1).1 (CP_v hC hb_r1).2 rfl rfl rfl hl rfl (Nat.le_of_ble_eq_true rfl) dX3_narrowView_92 ⟨Nat.le_of_ble_eq_true rfl, Nat.le_of_ble_eq_true rfl⟩ (fun r312 e_r312 => ?_)
            subst e_r312
            refine q_if_ne hx hb dX3_narrowView_95 (tgt := 102) (by decide) (by omega) (fun c313 => ?_) (fun c313 => ?_)
            · refine q_iconst hx hb dX3_narrowView_102 ?_
              refine lv_istore (lv' := [(9, .int (iI 0)), (8, .int (iI 1)), (7, .int (iI (zvh σ xv))), (6, .int (iI (zvl σ xv))), (5, .ref ((gva G xv))), (0, .ref ((gbg G))), (1, .int (iI xv)), (2, .int (iI xkind)), (3, .int (iI xlow)), (4, .int (iI xhigh))]) hx hb dX3_narrowView_103 hl (by decide) rfl (fun ls hl => ?_)
              refine lv_iload hx hb dX3_narrowView_105 (lv_at hl 1 rfl) ?_
              refine q_if_ne hx hb dX3_narrowView_107 (tgt := 127) (by decide) (by omega) (fun c314 => ?_) (fun c314 => absurd c314 (by omega))
              refine lv_aload_n hx hb dX3_narrowView_127 rfl (lv_at hl 5 rfl) ?_
              refine q_vMi C0 lX3_63 (c_X3_refuse l D y L F _ O G σ hC) ⟨rfl, rfl⟩ rfl hP hD hS hA hC.1.1 hC.1.2 rfl rfl rfl hl rfl (Nat.le_of_ble_eq_true rfl) dX3_narrowView_128 ⟨Nat.le_of_ble_eq_true rfl, Nat.le_of_ble_eq_true rfl⟩ (fun r315 H locs L316 F316 hP hD hS hz316 hp316 => ?_)
              obtain ⟨eL, hC, er, hO1⟩ := hp316
              subst eL
              subst er
              have hO := hO.tr hO1
              refine W.widen (k := 8) (n := 60) (Nat.le_of_ble_eq_true rfl) (Nat.le_of_ble_eq_true rfl) ?_
              exact vx_ret (q_retMi C0 hret rfl hlk dX3_narrowView_131 hP hD hS (⟨by omega, by omega, (by unfold kR_narrowView; rw [if_pos (by unfold nRef; (repeat' split) <;> first | rfl | omega)]), O, G, CP_eq hC (by unfold kS_narrowView; rw [if_pos (by unfold nRef; (repeat' split) <;> first | rfl | omega)]), rfl, Ext0 hO⟩))
            · refine q_iconst hx hb dX3_narrowView_98 ?_
              refine lv_goto (tgt := 103) hx hb dX3_narrowView_99 (by decide) ?_
              refine lv_istore (lv' := [(9, .int (iI 1)), (8, .int (iI 1)), (7, .int (iI (zvh σ xv))), (6, .int (iI (zvl σ xv))), (5, .ref ((gva G xv))), (0, .ref ((gbg G))), (1, .int (iI xv)), (2, .int (iI xkind)), (3, .int (iI xlow)), (4, .int (iI xhigh))]) hx hb dX3_narrowView_103 hl (by decide) rfl (fun ls hl => ?_)
              refine lv_iload hx hb dX3_narrowView_105 (lv_at hl 1 rfl) ?_
              refine q_if_ne hx hb dX3_narrowView_107 (tgt := 127) (by decide) (by omega) (fun c317 => ?_) (fun c317 => absurd c317 (by omega))
              refine lv_aload_n hx hb dX3_narrowView_127 rfl (lv_at hl 5 rfl) ?_
              refine q_vMi C0 lX3_63 (c_X3_refuse l D y L F _ O G σ hC) ⟨rfl, rfl⟩ rfl hP hD hS hA hC.1.1 hC.1.2 rfl rfl rfl hl rfl (Nat.le_of_ble_eq_true rfl) dX3_narrowView_128 ⟨Nat.le_of_ble_eq_true rfl, Nat.le_of_ble_eq_true rfl⟩ (fun r318 H locs L319 F319 hP hD hS hz319 hp319 => ?_)
              obtain ⟨eL, hC, er, hO1⟩ := hp319
              subst eL
              subst er
              have hO := hO.tr hO1
              refine W.widen (k := 8) (n := 60) (Nat.le_of_ble_eq_true rfl) (Nat.le_of_ble_eq_true rfl) ?_
              exact vx_ret (q_retMi C0 hret rfl hlk dX3_narrowView_131 hP hD hS (⟨by omega, by omega, (by unfold kR_narrowView; rw [if_pos (by unfold nRef; (repeat' split) <;> first | rfl | omega)]), O, G, CP_eq hC (by unfold kS_narrowView; rw [if_pos (by unfold nRef; (repeat' split) <;> first | rfl | omega)]), rfl, Ext0 hO⟩))
