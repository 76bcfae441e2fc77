set_option maxHeartbeats 3000000 in
set_option maxRecDepth 100000 in
theorem c_X3_narrowView (l : Launch) (hfl : l.stackTraces = false) (D : va_G) (y : Nat → ClassId) (L : List Nat) (F : Nat → va_E) (sz : Nat) (O : Nat → Prop) (G : CG) (σ : CS) (xv : Int) (xkind : Int) (xlow : Int) (xhigh : Int) (hC : CP y L F O G σ) (hW : CW σ) (h_xv : -2147483648 ≤ xv ∧ xv ≤ 2147483647) (h_xkind : -2147483648 ≤ xkind ∧ xkind ≤ 2147483647) (h_xlow : -2147483648 ≤ xlow ∧ xlow ≤ 2147483647) (h_xhigh : -2147483648 ≤ xhigh ∧ xhigh ≤ 2147483647) : vx_Met l yX3_narrowView (.code yX3_narrowView cX3_narrowView 10 (some .int) :: Tt) ({ frames := 8, cells := 8, slots := 60, locals := 125 }) (PcX D y L F sz [.ref ((gbg G)), .int (iI xv), .int (iI xkind), .int (iI xlow), .int (iI xhigh)]) (cMi D (AL L sz) (fun r L1 F1 => ((0 ≤ xv ∧ xv ≤ 1)) ∧ ((0 ≤ xkind ∧ xkind ≤ 2) ∧ (0 ≤ xlow ∧ xlow ≤ 99) ∧ (0 ≤ xhigh ∧ xhigh ≤ 99)) ∧ r = kR_narrowView σ xv xkind xlow xhigh ∧ ∃ O1 G1, CP y L1 F1 O1 G1 (kS_narrowView σ xv xkind xlow xhigh) ∧ gbg G1 = gbg G ∧ Ext O O1 L L1 F F1)) (XC (pX ((0 ≤ xv ∧ xv ≤ 1)) ((0 ≤ xkind ∧ xkind ≤ 2) ∧ (0 ≤ xlow ∧ xlow ≤ 99) ∧ (0 ≤ xhigh ∧ xhigh ≤ 99)))) 8 60 (AL L sz) := by
  have vb_ := hW.2.2.2.2.1 xv
  have hO : OE O F F := fun _ _ => rfl
  have hw4 := hW.2.2.2.2.2.1
  have hw5 := hW.2.2.2.2.2.2.1
  have hw6 := hW.2.2.2.2.2.2.2.2.2.2
  refine q_ofX (lv := [(0, .ref ((gbg G))), (1, .int (iI xv)), (2, .int (iI xkind)), (3, .int (iI xlow)), (4, .int (iI xhigh))]) (by decide) (Nat.le_of_ble_eq_true rfl) rfl (fun p e s m below meth c C0 hret hlk hout hsz hA hP hD hS hX ls hl => ?_)
  subst hsz
  have hx := C0.1.1
  have hb := C0.1.2.1
  have hts := C0.1.2.2.2.2
  refine lv_aload_n hx hb dX3_narrowView_0 rfl (lv_at hl 0 rfl) ?_
  refine lv_iload_n hx hb dX3_narrowView_1 rfl (lv_at hl 1 rfl) ?_
  refine q_vXa C0 lX3_171 (c_X3_viewAt l hfl D y L F _ O G σ xv hC (by omega)) ⟨rfl, rfl⟩ rfl hP hD hX hout hlk hC.1.1 hC.1.2 rfl rfl rfl hl rfl (Nat.le_of_ble_eq_true rfl) dX3_narrowView_2 ⟨Nat.le_of_ble_eq_true rfl, Nat.le_of_ble_eq_true rfl⟩ ⟨Nat.le_of_ble_eq_true rfl, Nat.le_of_ble_eq_true rfl⟩ (fun E h => Or.inl ⟨h.1, fun q => h.2 (by omega)⟩) (fun r1 e_r1 => ?_)
  refine W.widen (k := 1) (n := 6) (Nat.le_of_ble_eq_true rfl) (Nat.le_of_ble_eq_true rfl) ?_
  obtain ⟨hb_r1, e_r1⟩ := e_r1
  subst e_r1
  have hv_r1 := hW.2.2.2.2.1 xv
  refine lv_astore (lv' := [(5, .ref ((gva G xv))), (0, .ref ((gbg G))), (1, .int (iI xv)), (2, .int (iI xkind)), (3, .int (iI xlow)), (4, .int (iI xhigh))]) hx hb dX3_narrowView_5 hl (by decide) rfl (fun ls hl => ?_)
  refine lv_iload_n hx hb dX3_narrowView_7 rfl (lv_at hl 3 rfl) ?_
  refine lv_iload_n hx hb dX3_narrowView_8 rfl (lv_at hl 4 rfl) ?_
  refine lv_iload hx hb dX3_narrowView_9 (lv_at hl 5 rfl) ?_
  refine q_sXv C0 lX3_175 (c_X3_checkKindAndBounds l hfl D y L F _ xkind xlow xhigh (by omega) (by omega) (by omega)) ⟨rfl, rfl⟩ rfl hP hD hX hout hlk rfl hl rfl (Nat.le_of_ble_eq_true rfl) dX3_narrowView_11 ⟨Nat.le_of_ble_eq_true rfl, Nat.le_of_ble_eq_true rfl⟩ ⟨Nat.le_of_ble_eq_true rfl, Nat.le_of_ble_eq_true rfl⟩ (fun E h => Or.inr ⟨h.1, by first | trivial | omega, fun q => h.2 (by omega)⟩) (fun _ e_r2 => ?_)
  refine W.widen (k := 4) (n := 24) (Nat.le_of_ble_eq_true rfl) (Nat.le_of_ble_eq_true rfl) ?_
  refine lv_iload_n hx hb dX3_narrowView_14 rfl (lv_at hl 3 rfl) ?_
  refine q_if_ne hx hb dX3_narrowView_15 (tgt := 26) (by decide) (by omega) (fun c3 => ?_) (fun c3 => ?_)
  · refine lv_aload hx hb dX3_narrowView_26 (lv_at hl 0 rfl) ?_
    refine q_get C0 iX1 hP (CP_v hC hb_r1).1 (CP_v hC hb_r1).2 rfl 0 (by decide) flX3_178 rfl rfl dX3_narrowView_28 ?_
    refine lv_iload_n hx hb dX3_narrowView_31 rfl (lv_at hl 4 rfl) ?_
    refine q_vS C0 lX3_70 (c_X0_rankOf l D y L F (grh G (zvw σ xv)) (grw G (zvw σ xv)) (zod σ (zvw σ xv)) ((zst σ (zvw σ xv)).1) ((zst σ (zvw σ xv)).2.1) ((zst σ (zvw σ xv)).2.2) xlow (CP_r hC (hW.2.2.1 xv)) (by omega)) ⟨rfl, rfl⟩ rfl hP (CP_r hC (hW.2.2.1 xv)).1 (CP_r hC (hW.2.2.1 xv)).2.1 rfl rfl rfl hl rfl (Nat.le_of_ble_eq_true rfl) dX3_narrowView_32 ⟨Nat.le_of_ble_eq_true rfl, Nat.le_of_ble_eq_true rfl⟩ (fun r4 e_r4 => ?_)
    subst e_r4
    have b_5 := @turn_b (zod σ (zvw σ xv)) xlow (by omega)
    refine lv_istore (lv' := [(6, .int (iI ((turn (zod σ (zvw σ xv)) xlow)))), (5, .ref ((gva G xv))), (0, .ref ((gbg G))), (1, .int (iI xv)), (2, .int (iI xkind)), (3, .int (iI xlow)), (4, .int (iI xhigh))]) hx hb dX3_narrowView_35 hl (by decide) rfl (fun ls hl => ?_)
    refine lv_iload_n hx hb dX3_narrowView_37 rfl (lv_at hl 4 rfl) ?_
    refine q_iconst hx hb dX3_narrowView_38 ?_
    refine q_icmp_ne hx hb dX3_narrowView_39 (tgt := 50) (by decide) (by omega) (by omega) (fun c6 => ?_) (fun c6 => ?_)
    · refine lv_aload hx hb dX3_narrowView_50 (lv_at hl 1 rfl) ?_
      refine q_get C0 iX1 hP (CP_v hC hb_r1).1 (CP_v hC hb_r1).2 rfl 0 (by decide) flX3_178 rfl rfl dX3_narrowView_52 ?_
      refine lv_iload hx hb dX3_narrowView_55 (lv_at hl 6 rfl) ?_
      refine q_vS C0 lX3_70 (c_X0_rankOf l D y L F (grh G (zvw σ xv)) (grw G (zvw σ xv)) (zod σ (zvw σ xv)) ((zst σ (zvw σ xv)).1) ((zst σ (zvw σ xv)).2.1) ((zst σ (zvw σ xv)).2.2) xhigh (CP_r hC (hW.2.2.1 xv)) (by omega)) ⟨rfl, rfl⟩ rfl hP (CP_r hC (hW.2.2.1 xv)).1 (CP_r hC (hW.2.2.1 xv)).2.1 rfl rfl rfl hl rfl (Nat.le_of_ble_eq_true rfl) dX3_narrowView_57 ⟨Nat.le_of_ble_eq_true rfl, Nat.le_of_ble_eq_true rfl⟩ (fun r7 e_r7 => ?_)
      subst e_r7
      have b_8 := @turn_b (zod σ (zvw σ xv)) xhigh (by omega)
      refine lv_istore (lv' := [(7, .int (iI ((turn (zod σ (zvw σ xv)) xhigh)))), (6, .int (iI ((turn (zod σ (zvw σ xv)) xlow)))), (5, .ref ((gva G xv))), (0, .ref ((gbg G))), (1, .int (iI xv)), (2, .int (iI xkind)), (3, .int (iI xlow)), (4, .int (iI xhigh))]) hx hb dX3_narrowView_60 hl (by decide) rfl (fun ls hl => ?_)
      refine lv_iload_n hx hb dX3_narrowView_62 rfl (lv_at hl 5 rfl) ?_
      refine q_if_eq hx hb dX3_narrowView_63 (tgt := 80) (by decide) (by omega) (fun c9 => ?_) (fun c9 => ?_)
      · refine q_iconst hx hb dX3_narrowView_80 ?_
        refine lv_istore (lv' := [(8, .int (iI 0)), (7, .int (iI ((turn (zod σ (zvw σ xv)) xhigh)))), (6, .int (iI ((turn (zod σ (zvw σ xv)) xlow)))), (5, .ref ((gva G xv))), (0, .ref ((gbg G))), (1, .int (iI xv)), (2, .int (iI xkind)), (3, .int (iI xlow)), (4, .int (iI xhigh))]) hx hb dX3_narrowView_81 hl (by decide) rfl (fun ls hl => ?_)
        refine lv_iload_n hx hb dX3_narrowView_83 rfl (lv_at hl 6 rfl) ?_
        refine q_iconst hx hb dX3_narrowView_84 ?_
        refine q_icmp_eq hx hb dX3_narrowView_85 (tgt := 102) (by decide) (by omega) (by omega) (fun c10 => ?_) (fun c10 => ?_)
        · refine q_iconst hx hb dX3_narrowView_102 ?_
          refine lv_istore (lv' := [(9, .int (iI 0)), (8, .int (iI 0)), (7, .int (iI ((turn (zod σ (zvw σ xv)) xhigh)))), (6, .int (iI ((turn (zod σ (zvw σ xv)) xlow)))), (5, .ref ((gva G xv))), (0, .ref ((gbg G))), (1, .int (iI xv)), (2, .int (iI xkind)), (3, .int (iI xlow)), (4, .int (iI xhigh))]) hx hb dX3_narrowView_103 hl (by decide) rfl (fun ls hl => ?_)
          refine lv_iload hx hb dX3_narrowView_105 (lv_at hl 1 rfl) ?_
          refine q_if_ne hx hb dX3_narrowView_107 (tgt := 127) (by decide) (by omega) (fun c11 => absurd c11 (by omega)) (fun c11 => ?_)
          refine lv_iload hx hb dX3_narrowView_110 (lv_at hl 0 rfl) ?_
          refine q_if_ne hx hb dX3_narrowView_112 (tgt := 127) (by decide) (by omega) (fun c12 => absurd c12 (by omega)) (fun c12 => ?_)
          refine lv_iload_n hx hb dX3_narrowView_115 rfl (lv_at hl 7 rfl) ?_
          refine q_iconst hx hb dX3_narrowView_116 ?_
          refine q_icmp_ne hx hb dX3_narrowView_117 (tgt := 132) (by decide) (by omega) (by omega) (fun c13 => ?_) (fun c13 => ?_)
          · refine lv_aload hx hb dX3_narrowView_132 (lv_at hl 4 rfl) ?_
            refine lv_iload hx hb dX3_narrowView_134 (lv_at hl 3 rfl) ?_
            refine q_put C0 iX1 tyX1 tyX1_ok nmX1 hP hD hS (CP_v hC hb_r1).1 (CP_v hC hb_r1).2 rfl 1 (by decide) flX3_182 rfl rfl rfl rfl (Nat.le_of_ble_eq_true rfl) dX3_narrowView_136 (fun H locs hP hD hS => ?_)
            obtain ⟨F14, eF14⟩ : ∃ z, z = va_up F (gva G xv) (.inr (3, [.ref ((grh G (zvw σ xv))), .int (iI ((turn (zod σ (zvw σ xv)) xlow))), .int (iI (zvh σ xv))])) := ⟨_, rfl⟩
            have hP : va_P D vwCl (va_pl L F14) H := by rw [eF14]; exact hP
            have hD : va_D (AL L s.heap.size) (va_pl L F14) := by rw [eF14]; exact hD
            have hvF : F14 (gva G xv) = (.inr (3, [.ref ((grh G (zvw σ xv))), .int (iI ((turn (zod σ (zvw σ xv)) xlow))), .int (iI (zvh σ xv))])) := by rw [eF14]; exact va_up_self _ _ _
            have hO : OE O F F14 := by rw [eF14]; exact hO.tr (OE1 ((CP_O hC).2.2.2.2.2.1 _ hb_r1.1 hb_r1.2))
            have hC : CP y L F14 O G (sVw σ xv (zvw σ xv) (turn (zod σ (zvw σ xv)) xlow) (zvh σ xv)) := by rw [eF14]; exact CP_vw hC hb_r1 (va_up_self _ _ _) (fun q hq => va_up_ne _ _ hq)
            refine lv_aload hx hb dX3_narrowView_139 (lv_at hl 4 rfl) ?_
            refine lv_iload hx hb dX3_narrowView_141 (lv_at hl 2 rfl) ?_
            refine q_put C0 iX1 tyX1 tyX1_ok nmX1 hP hD hS (CP_v hC hb_r1).1 hvF rfl 2 (by decide) flX3_185 rfl rfl rfl rfl (Nat.le_of_ble_eq_true rfl) dX3_narrowView_143 (fun H locs hP hD hS => ?_)
            obtain ⟨F15, eF15⟩ : ∃ z, z = va_up F14 (gva G xv) (.inr (3, [.ref ((grh G (zvw σ xv))), .int (iI ((turn (zod σ (zvw σ xv)) xlow))), .int (iI ((turn (zod σ (zvw σ xv)) xhigh)))])) := ⟨_, rfl⟩
            have hP : va_P D vwCl (va_pl L F15) H := by rw [eF15]; exact hP
            have hD : va_D (AL L s.heap.size) (va_pl L F15) := by rw [eF15]; exact hD
            have hvF : F15 (gva G xv) = (.inr (3, [.ref ((grh G (zvw σ xv))), .int (iI ((turn (zod σ (zvw σ xv)) xlow))), .int (iI ((turn (zod σ (zvw σ xv)) xhigh)))])) := by rw [eF15]; exact va_up_self _ _ _
            have hO : OE O F F15 := by rw [eF15]; exact hO.tr (OE1 ((CP_O hC).2.2.2.2.2.1 _ hb_r1.1 hb_r1.2))
            have hC : CP y L F15 O G (sVw (sVw σ xv (zvw σ xv) (turn (zod σ (zvw σ xv)) xlow) (zvh σ xv)) xv (zvw σ xv) (turn (zod σ (zvw σ xv)) xlow) (turn (zod σ (zvw σ xv)) xhigh)) := by rw [eF15]; exact CP_vw hC hb_r1 (va_up_self _ _ _) (fun q hq => va_up_ne _ _ hq)
            refine lv_aload hx hb dX3_narrowView_146 (lv_at hl 4 rfl) ?_
            refine q_get C0 iX1 hP (CP_v hC hb_r1).1 hvF rfl 0 (by decide) flX3_178 rfl rfl dX3_narrowView_148 ?_
            refine lv_aload hx hb dX3_narrowView_151 (lv_at hl 4 rfl) ?_
            refine q_get C0 iX1 hP (CP_v hC hb_r1).1 hvF rfl 1 (by decide) flX3_182 rfl rfl dX3_narrowView_153 ?_
            refine lv_aload hx hb dX3_narrowView_156 (lv_at hl 4 rfl) ?_
            refine q_get C0 iX1 hP (CP_v hC hb_r1).1 hvF rfl 2 (by decide) flX3_185 rfl rfl dX3_narrowView_158 ?_
            refine q_vS C0 lX3_188 (c_X0_countOfPart l D y L F15 (grh G (zvw σ xv)) (grw G (zvw σ xv)) (zod σ (zvw σ xv)) ((zst σ (zvw σ xv)).1) ((zst σ (zvw σ xv)).2.1) ((zst σ (zvw σ xv)).2.2) (turn (zod σ (zvw σ xv)) xlow) (turn (zod σ (zvw σ xv)) xhigh) (CP_r hC (hW.2.2.1 xv)) (by omega) (by omega)) ⟨rfl, rfl⟩ rfl hP (CP_r hC (hW.2.2.1 xv)).1 (CP_r hC (hW.2.2.1 xv)).2.1 rfl rfl rfl hl rfl (Nat.le_of_ble_eq_true rfl) dX3_narrowView_161 ⟨Nat.le_of_ble_eq_true rfl, Nat.le_of_ble_eq_true rfl⟩ (fun r16 e_r16 => ?_)
            subst e_r16
            refine W.widen (k := 8) (n := 60) (Nat.le_of_ble_eq_true rfl) (Nat.le_of_ble_eq_true rfl) ?_
            exact vx_ret (q_retMi C0 hret rfl hlk dX3_narrowView_164 hP hD hS (⟨by omega, by omega, (by unfold kR_narrowView; rw [if_neg (by (unfold nRef; (repeat' split) <;> omega)), show nLo σ xv xkind xlow = (turn (zod σ (zvw σ xv)) xlow) by (unfold nLo; (repeat' split) <;> first | rfl | omega), show nHi σ xv xkind xhigh = (turn (zod σ (zvw σ xv)) xhigh) by (unfold nHi; (repeat' split) <;> first | rfl | omega)]), O, G, CP_eq hC (by rw [sVw2]; unfold kS_narrowView; rw [if_neg (by (unfold nRef; (repeat' split) <;> omega)), show nLo σ xv xkind xlow = (turn (zod σ (zvw σ xv)) xlow) by (unfold nLo; (repeat' split) <;> first | rfl | omega), show nHi σ xv xkind xhigh = (turn (zod σ (zvw σ xv)) xhigh) by (unfold nHi; (repeat' split) <;> first | rfl | omega)]), rfl, Ext0 hO⟩))
          · refine lv_iload hx hb dX3_narrowView_120 (lv_at hl 3 rfl) ?_
            refine lv_iload hx hb dX3_narrowView_122 (lv_at hl 2 rfl) ?_
            refine q_icmp_le hx hb dX3_narrowView_124 (tgt := 132) (by decide) (by omega) (by omega) (fun c17 => ?_) (fun c17 => ?_)
            · refine lv_aload hx hb dX3_narrowView_132 (lv_at hl 4 rfl) ?_
              refine lv_iload hx hb dX3_narrowView_134 (lv_at hl 3 rfl) ?_
              refine q_put C0 iX1 tyX1 tyX1_ok nmX1 hP hD hS (CP_v hC hb_r1).1 (CP_v hC hb_r1).2 rfl 1 (by decide) flX3_182 rfl rfl rfl rfl (Nat.le_of_ble_eq_true rfl) dX3_narrowView_136 (fun H locs hP hD hS => ?_)
              obtain ⟨F18, eF18⟩ : ∃ z, z = va_up F (gva G xv) (.inr (3, [.ref ((grh G (zvw σ xv))), .int (iI ((turn (zod σ (zvw σ xv)) xlow))), .int (iI (zvh σ xv))])) := ⟨_, rfl⟩
              have hP : va_P D vwCl (va_pl L F18) H := by rw [eF18]; exact hP
              have hD : va_D (AL L s.heap.size) (va_pl L F18) := by rw [eF18]; exact hD
              have hvF : F18 (gva G xv) = (.inr (3, [.ref ((grh G (zvw σ xv))), .int (iI ((turn (zod σ (zvw σ xv)) xlow))), .int (iI (zvh σ xv))])) := by rw [eF18]; exact va_up_self _ _ _
              have hO : OE O F F18 := by rw [eF18]; exact hO.tr (OE1 ((CP_O hC).2.2.2.2.2.1 _ hb_r1.1 hb_r1.2))
              have hC : CP y L F18 O G (sVw σ xv (zvw σ xv) (turn (zod σ (zvw σ xv)) xlow) (zvh σ xv)) := by rw [eF18]; exact CP_vw hC hb_r1 (va_up_self _ _ _) (fun q hq => va_up_ne _ _ hq)
              refine lv_aload hx hb dX3_narrowView_139 (lv_at hl 4 rfl) ?_
              refine lv_iload hx hb dX3_narrowView_141 (lv_at hl 2 rfl) ?_
              refine q_put C0 iX1 tyX1 tyX1_ok nmX1 hP hD hS (CP_v hC hb_r1).1 hvF rfl 2 (by decide) flX3_185 rfl rfl rfl rfl (Nat.le_of_ble_eq_true rfl) dX3_narrowView_143 (fun H locs hP hD hS => ?_)
              obtain ⟨F19, eF19⟩ : ∃ z, z = va_up F18 (gva G xv) (.inr (3, [.ref ((grh G (zvw σ xv))), .int (iI ((turn (zod σ (zvw σ xv)) xlow))), .int (iI ((turn (zod σ (zvw σ xv)) xhigh)))])) := ⟨_, rfl⟩
              have hP : va_P D vwCl (va_pl L F19) H := by rw [eF19]; exact hP
              have hD : va_D (AL L s.heap.size) (va_pl L F19) := by rw [eF19]; exact hD
              have hvF : F19 (gva G xv) = (.inr (3, [.ref ((grh G (zvw σ xv))), .int (iI ((turn (zod σ (zvw σ xv)) xlow))), .int (iI ((turn (zod σ (zvw σ xv)) xhigh)))])) := by rw [eF19]; exact va_up_self _ _ _
              have hO : OE O F F19 := by rw [eF19]; exact hO.tr (OE1 ((CP_O hC).2.2.2.2.2.1 _ hb_r1.1 hb_r1.2))
              have hC : CP y L F19 O G (sVw (sVw σ xv (zvw σ xv) (turn (zod σ (zvw σ xv)) xlow) (zvh σ xv)) xv (zvw σ xv) (turn (zod σ (zvw σ xv)) xlow) (turn (zod σ (zvw σ xv)) xhigh)) := by rw [eF19]; exact CP_vw hC hb_r1 (va_up_self _ _ _) (fun q hq => va_up_ne _ _ hq)
              refine lv_aload hx hb dX3_narrowView_146 (lv_at hl 4 rfl) ?_
              refine q_get C0 iX1 hP (CP_v hC hb_r1).1 hvF rfl 0 (by decide) flX3_178 rfl rfl dX3_narrowView_148 ?_
              refine lv_aload hx hb dX3_narrowView_151 (lv_at hl 4 rfl) ?_
              refine q_get C0 iX1 hP (CP_v hC hb_r1).1 hvF rfl 1 (by decide) flX3_182 rfl rfl dX3_narrowView_153 ?_
              refine lv_aload hx hb dX3_narrowView_156 (lv_at hl 4 rfl) ?_
              refine q_get C0 iX1 hP (CP_v hC hb_r1).1 hvF rfl 2 (by decide) flX3_185 rfl rfl dX3_narrowView_158 ?_
              refine q_vS C0 lX3_188 (c_X0_countOfPart l D y L F19 (grh G (zvw σ xv)) (grw G (zvw σ xv)) (zod σ (zvw σ xv)) ((zst σ (zvw σ xv)).1) ((zst σ (zvw σ xv)).2.1) ((zst σ (zvw σ xv)).2.2) (turn (zod σ (zvw σ xv)) xlow) (turn (zod σ (zvw σ xv)) xhigh) (CP_r hC (hW.2.2.1 xv)) (by omega) (by omega)) ⟨rfl, rfl⟩ rfl hP (CP_r hC (hW.2.2.1 xv)).1 (CP_r hC (hW.2.2.1 xv)).2.1 rfl rfl rfl hl rfl (Nat.le_of_ble_eq_true rfl) dX3_narrowView_161 ⟨Nat.le_of_ble_eq_true rfl, Nat.le_of_ble_eq_true rfl⟩ (fun r20 e_r20 => ?_)
              subst e_r20
              refine W.widen (k := 8) (n := 60) (Nat.le_of_ble_eq_true rfl) (Nat.le_of_ble_eq_true rfl) ?_
              exact vx_ret (q_retMi C0 hret rfl hlk dX3_narrowView_164 hP hD hS (⟨by omega, by omega, (by unfold kR_narrowView; rw [if_neg (by (unfold nRef; (repeat' split) <;> omega)), show nLo σ xv xkind xlow = (turn (zod σ (zvw σ xv)) xlow) by (unfold nLo; (repeat' split) <;> first | rfl | omega), show nHi σ xv xkind xhigh = (turn (zod σ (zvw σ xv)) xhigh) by (unfold nHi; (repeat' split) <;> first | rfl | omega)]), O, G, CP_eq hC (by rw [sVw2]; unfold kS_narrowView; rw [if_neg (by (unfold nRef; (repeat' split) <;> omega)), show nLo σ xv xkind xlow = (turn (zod σ (zvw σ xv)) xlow) by (unfold nLo; (repeat' split) <;> first | rfl | omega), show nHi σ xv xkind xhigh = (turn (zod σ (zvw σ xv)) xhigh) by (unfold nHi; (repeat' split) <;> first | rfl | omega)]), rfl, Ext0 hO⟩))
            · refine lv_aload_n hx hb dX3_narrowView_127 rfl (lv_at hl 5 rfl) ?_
              refine q_vMi C0 lX3_63 (c_X3_refuse l D y L F _ O G σ hC) ⟨rfl, rfl⟩ rfl hP hD hS hA hC.1.1 hC.1.2 rfl rfl rfl hl rfl (Nat.le_of_ble_eq_true rfl) dX3_narrowView_128 ⟨Nat.le_of_ble_eq_true rfl, Nat.le_of_ble_eq_true rfl⟩ (fun r21 H locs L22 F22 hP hD hS hz22 hp22 => ?_)
              obtain ⟨eL, hC, er, hO1⟩ := hp22
              subst eL
              subst er
              have hO := hO.tr hO1
              refine W.widen (k := 8) (n := 60) (Nat.le_of_ble_eq_true rfl) (Nat.le_of_ble_eq_true rfl) ?_
              exact vx_ret (q_retMi C0 hret rfl hlk dX3_narrowView_131 hP hD hS (⟨by omega, by omega, (by unfold kR_narrowView; rw [if_pos (by unfold nRef; (repeat' split) <;> first | rfl | omega)]), O, G, CP_eq hC (by unfold kS_narrowView; rw [if_pos (by unfold nRef; (repeat' split) <;> first | rfl | omega)]), rfl, Ext0 hO⟩))
        · refine lv_aload hx hb dX3_narrowView_88 (lv_at hl 3 rfl) ?_
          refine lv_iload hx hb dX3_narrowView_90 (lv_at hl 1 rfl) ?_
          refine q_vS C0 lX3_191 (c_X1_isWithin l D y L F (gva G xv) (grh G (zvw σ xv)) (zvl σ xv) (zvh σ xv) (turn (zod σ (zvw σ xv)) xhigh) (CP_v hC hb_r1).1 (CP_v hC hb_r1).2 (by omega) (by omega) (by omega)) ⟨rfl, rfl⟩ rfl hP (CP_v hC hb_r1).1 (CP_v hC hb_r1).2 rfl rfl rfl hl rfl (Nat.le_of_ble_eq_true rfl) dX3_narrowView_92 ⟨Nat.le_of_ble_eq_true rfl, Nat.le_of_ble_eq_true rfl⟩ (fun r23 e_r23 => ?_)
          subst e_r23
          refine q_if_ne hx hb dX3_narrowView_95 (tgt := 102) (by decide) (by omega) (fun c24 => ?_) (fun c24 => ?_)
          · refine q_iconst hx hb dX3_narrowView_102 ?_
            refine lv_istore (lv' := [(9, .int (iI 0)), (8, .int (iI 0)), (7, .int (iI ((turn (zod σ (zvw σ xv)) xhigh)))), (6, .int (iI ((turn (zod σ (zvw σ xv)) xlow)))), (5, .ref ((gva G xv))), (0, .ref ((gbg G))), (1, .int (iI xv)), (2, .int (iI xkind)), (3, .int (iI xlow)), (4, .int (iI xhigh))]) hx hb dX3_narrowView_103 hl (by decide) rfl (fun ls hl => ?_)
            refine lv_iload hx hb dX3_narrowView_105 (lv_at hl 1 rfl) ?_
            refine q_if_ne hx hb dX3_narrowView_107 (tgt := 127) (by decide) (by omega) (fun c25 => absurd c25 (by omega)) (fun c25 => ?_)
            refine lv_iload hx hb dX3_narrowView_110 (lv_at hl 0 rfl) ?_
            refine q_if_ne hx hb dX3_narrowView_112 (tgt := 127) (by decide) (by omega) (fun c26 => absurd c26 (by omega)) (fun c26 => ?_)
            refine lv_iload_n hx hb dX3_narrowView_115 rfl (lv_at hl 7 rfl) ?_
            refine q_iconst hx hb dX3_narrowView_116 ?_
            refine q_icmp_ne hx hb dX3_narrowView_117 (tgt := 132) (by decide) (by omega) (by omega) (fun c27 => ?_) (fun c27 => ?_)
            · refine lv_aload hx hb dX3_narrowView_132 (lv_at hl 4 rfl) ?_
              refine lv_iload hx hb dX3_narrowView_134 (lv_at hl 3 rfl) ?_
              refine q_put C0 iX1 tyX1 tyX1_ok nmX1 hP hD hS (CP_v hC hb_r1).1 (CP_v hC hb_r1).2 rfl 1 (by decide) flX3_182 rfl rfl rfl rfl (Nat.le_of_ble_eq_true rfl) dX3_narrowView_136 (fun H locs hP hD hS => ?_)
              obtain ⟨F28, eF28⟩ : ∃ z, z = va_up F (gva G xv) (.inr (3, [.ref ((grh G (zvw σ xv))), .int (iI ((turn (zod σ (zvw σ xv)) xlow))), .int (iI (zvh σ xv))])) := ⟨_, rfl⟩
              have hP : va_P D vwCl (va_pl L F28) H := by rw [eF28]; exact hP
              have hD : va_D (AL L s.heap.size) (va_pl L F28) := by rw [eF28]; exact hD
              have hvF : F28 (gva G xv) = (.inr (3, [.ref ((grh G (zvw σ xv))), .int (iI ((turn (zod σ (zvw σ xv)) xlow))), .int (iI (zvh σ xv))])) := by rw [eF28]; exact va_up_self _ _ _
              have hO : OE O F F28 := by rw [eF28]; exact hO.tr (OE1 ((CP_O hC).2.2.2.2.2.1 _ hb_r1.1 hb_r1.2))
              have hC : CP y L F28 O G (sVw σ xv (zvw σ xv) (turn (zod σ (zvw σ xv)) xlow) (zvh σ xv)) := by rw [eF28]; exact CP_vw hC hb_r1 (va_up_self _ _ _) (fun q hq => va_up_ne _ _ hq)
              refine lv_aload hx hb dX3_narrowView_139 (lv_at hl 4 rfl) ?_
              refine lv_iload hx hb dX3_narrowView_141 (lv_at hl 2 rfl) ?_
              refine q_put C0 iX1 tyX1 tyX1_ok nmX1 hP hD hS (CP_v hC hb_r1).1 hvF rfl 2 (by decide) flX3_185 rfl rfl rfl rfl (Nat.le_of_ble_eq_true rfl) dX3_narrowView_143 (fun H locs hP hD hS => ?_)
              obtain ⟨F29, eF29⟩ : ∃ z, z = va_up F28 (gva G xv) (.inr (3, [.ref ((grh G (zvw σ xv))), .int (iI ((turn (zod σ (zvw σ xv)) xlow))), .int (iI ((turn (zod σ (zvw σ xv)) xhigh)))])) := ⟨_, rfl⟩
              have hP : va_P D vwCl (va_pl L F29) H := by rw [eF29]; exact hP
              have hD : va_D (AL L s.heap.size) (va_pl L F29) := by rw [eF29]; exact hD
              have hvF : F29 (gva G xv) = (.inr (3, [.ref ((grh G (zvw σ xv))), .int (iI ((turn (zod σ (zvw σ xv)) xlow))), .int (iI ((turn (zod σ (zvw σ xv)) xhigh)))])) := by rw [eF29]; exact va_up_self _ _ _
              have hO : OE O F F29 := by rw [eF29]; exact hO.tr (OE1 ((CP_O hC).2.2.2.2.2.1 _ hb_r1.1 hb_r1.2))
              have hC : CP y L F29 O G (sVw (sVw σ xv (zvw σ xv) (turn (zod σ (zvw σ xv)) xlow) (zvh σ xv)) xv (zvw σ xv) (turn (zod σ (zvw σ xv)) xlow) (turn (zod σ (zvw σ xv)) xhigh)) := by rw [eF29]; exact CP_vw hC hb_r1 (va_up_self _ _ _) (fun q hq => va_up_ne _ _ hq)
              refine lv_aload hx hb dX3_narrowView_146 (lv_at hl 4 rfl) ?_
              refine q_get C0 iX1 hP (CP_v hC hb_r1).1 hvF rfl 0 (by decide) flX3_178 rfl rfl dX3_narrowView_148 ?_
              refine lv_aload hx hb dX3_narrowView_151 (lv_at hl 4 rfl) ?_
              refine q_get C0 iX1 hP (CP_v hC hb_r1).1 hvF rfl 1 (by decide) flX3_182 rfl rfl dX3_narrowView_153 ?_
              refine lv_aload hx hb dX3_narrowView_156 (lv_at hl 4 rfl) ?_
              refine q_get C0 iX1 hP (CP_v hC hb_r1).1 hvF rfl 2 (by decide) flX3_185 rfl rfl dX3_narrowView_158 ?_
              refine q_vS C0 lX3_188 (c_X0_countOfPart l D y L F29 (grh G (zvw σ xv)) (grw G (zvw σ xv)) (zod σ (zvw σ xv)) ((zst σ (zvw σ xv)).1) ((zst σ (zvw σ xv)).2.1) ((zst σ (zvw σ xv)).2.2) (turn (zod σ (zvw σ xv)) xlow) (turn (zod σ (zvw σ xv)) xhigh) (CP_r hC (hW.2.2.1 xv)) (by omega) (by omega)) ⟨rfl, rfl⟩ rfl hP (CP_r hC (hW.2.2.1 xv)).1 (CP_r hC (hW.2.2.1 xv)).2.1 rfl rfl rfl hl rfl (Nat.le_of_ble_eq_true rfl) dX3_narrowView_161 ⟨Nat.le_of_ble_eq_true rfl, Nat.le_of_ble_eq_true rfl⟩ (fun r30 e_r30 => ?_)
              subst e_r30
              refine W.widen (k := 8) (n := 60) (Nat.le_of_ble_eq_true rfl) (Nat.le_of_ble_eq_true rfl) ?_
              exact vx_ret (q_retMi C0 hret rfl hlk dX3_narrowView_164 hP hD hS (⟨by omega, by omega, (by unfold kR_narrowView; rw [if_neg (by (unfold nRef; (repeat' split) <;> omega)), show nLo σ xv xkind xlow = (turn (zod σ (zvw σ xv)) xlow) by (unfold nLo; (repeat' split) <;> first | rfl | omega), show nHi σ xv xkind xhigh = (turn (zod σ (zvw σ xv)) xhigh) by (unfold nHi; (repeat' split) <;> first | rfl | omega)]), O, G, CP_eq hC (by rw [sVw2]; unfold kS_narrowView; rw [if_neg (by (unfold nRef; (repeat' split) <;> omega)), show nLo σ xv xkind xlow = (turn (zod σ (zvw σ xv)) xlow) by (unfold nLo; (repeat' split) <;> first | rfl | omega), show nHi σ xv xkind xhigh = (turn (zod σ (zvw σ xv)) xhigh) by (unfold nHi; (repeat' split) <;> first | rfl | omega)]), rfl, Ext0 hO⟩))
            · refine lv_iload hx hb dX3_narrowView_120 (lv_at hl 3 rfl) ?_
              refine lv_iload hx hb dX3_narrowView_122 (lv_at hl 2 rfl) ?_
              refine q_icmp_le hx hb dX3_narrowView_124 (tgt := 132) (by decide) (by omega) (by omega) (fun c31 => ?_) (fun c31 => ?_)
              · refine lv_aload hx hb dX3_narrowView_132 (lv_at hl 4 rfl) ?_
                refine lv_iload hx hb dX3_narrowView_134 (lv_at hl 3 rfl) ?_
                refine q_put C0 iX1 tyX1 tyX1_ok nmX1 hP hD hS (CP_v hC hb_r1).1 (CP_v hC hb_r1).2 rfl 1 (by decide) flX3_182 rfl rfl rfl rfl (Nat.le_of_ble_eq_true rfl) dX3_narrowView_136 (fun H locs hP hD hS => ?_)
                obtain ⟨F32, eF32⟩ : ∃ z, z = va_up F (gva G xv) (.inr (3, [.ref ((grh G (zvw σ xv))), .int (iI ((turn (zod σ (zvw σ xv)) xlow))), .int (iI (zvh σ xv))])) := ⟨_, rfl⟩
                have hP : va_P D vwCl (va_pl L F32) H := by rw [eF32]; exact hP
                have hD : va_D (AL L s.heap.size) (va_pl L F32) := by rw [eF32]; exact hD
                have hvF : F32 (gva G xv) = (.inr (3, [.ref ((grh G (zvw σ xv))), .int (iI ((turn (zod σ (zvw σ xv)) xlow))), .int (iI (zvh σ xv))])) := by rw [eF32]; exact va_up_self _ _ _
                have hO : OE O F F32 := by rw [eF32]; exact hO.tr (OE1 ((CP_O hC).2.2.2.2.2.1 _ hb_r1.1 hb_r1.2))
                have hC : CP y L F32 O G (sVw σ xv (zvw σ xv) (turn (zod σ (zvw σ xv)) xlow) (zvh σ xv)) := by rw [eF32]; exact CP_vw hC hb_r1 (va_up_self _ _ _) (fun q hq => va_up_ne _ _ hq)
                refine lv_aload hx hb dX3_narrowView_139 (lv_at hl 4 rfl) ?_
                refine lv_iload hx hb dX3_narrowView_141 (lv_at hl 2 rfl) ?_
                refine q_put C0 iX1 tyX1 tyX1_ok nmX1 hP hD hS (CP_v hC hb_r1).1 hvF rfl 2 (by decide) flX3_185 rfl rfl rfl rfl (Nat.le_of_ble_eq_true rfl) dX3_narrowView_143 (fun H locs hP hD hS => ?_)
                obtain ⟨F33, eF33⟩ : ∃ z, z = va_up F32 (gva G xv) (.inr (3, [.ref ((grh G (zvw σ xv))), .int (iI ((turn (zod σ (zvw σ xv)) xlow))), .int (iI ((turn (zod σ (zvw σ xv)) xhigh)))])) := ⟨_, rfl⟩
                have hP : va_P D vwCl (va_pl L F33) H := by rw [eF33]; exact hP
                have hD : va_D (AL L s.heap.size) (va_pl L F33) := by rw [eF33]; exact hD
                have hvF : F33 (gva G xv) = (.inr (3, [.ref ((grh G (zvw σ xv))), .int (iI ((turn (zod σ (zvw σ xv)) xlow))), .int (iI ((turn (zod σ (zvw σ xv)) xhigh)))])) := by rw [eF33]; exact va_up_self _ _ _
                have hO : OE O F F33 := by rw [eF33]; exact hO.tr (OE1 ((CP_O hC).2.2.2.2.2.1 _ hb_r1.1 hb_r1.2))
                have hC : CP y L F33 O G (sVw (sVw σ xv (zvw σ xv) (turn (zod σ (zvw σ xv)) xlow) (zvh σ xv)) xv (zvw σ xv) (turn (zod σ (zvw σ xv)) xlow) (turn (zod σ (zvw σ xv)) xhigh)) := by rw [eF33]; exact CP_vw hC hb_r1 (va_up_self _ _ _) (fun q hq => va_up_ne _ _ hq)
                refine lv_aload hx hb dX3_narrowView_146 (lv_at hl 4 rfl) ?_
                refine q_get C0 iX1 hP (CP_v hC hb_r1).1 hvF rfl 0 (by decide) flX3_178 rfl rfl dX3_narrowView_148 ?_
                refine lv_aload hx hb dX3_narrowView_151 (lv_at hl 4 rfl) ?_
                refine q_get C0 iX1 hP (CP_v hC hb_r1).1 hvF rfl 1 (by decide) flX3_182 rfl rfl dX3_narrowView_153 ?_
                refine lv_aload hx hb dX3_narrowView_156 (lv_at hl 4 rfl) ?_
                refine q_get C0 iX1 hP (CP_v hC hb_r1).1 hvF rfl 2 (by decide) flX3_185 rfl rfl dX3_narrowView_158 ?_
                refine q_vS C0 lX3_188 (c_X0_countOfPart l D y L F33 (grh G (zvw σ xv)) (grw G (zvw σ xv)) (zod σ (zvw σ xv)) ((zst σ (zvw σ xv)).1) ((zst σ (zvw σ xv)).2.1) ((zst σ (zvw σ xv)).2.2) (turn (zod σ (zvw σ xv)) xlow) (turn (zod σ (zvw σ xv)) xhigh) (CP_r hC (hW.2.2.1 xv)) (by omega) (by omega)) ⟨rfl, rfl⟩ rfl hP (CP_r hC (hW.2.2.1 xv)).1 (CP_r hC (hW.2.2.1 xv)).2.1 rfl rfl rfl hl rfl (Nat.le_of_ble_eq_true rfl) dX3_narrowView_161 ⟨Nat.le_of_ble_eq_true rfl, Nat.le_of_ble_eq_true rfl⟩ (fun r34 e_r34 => ?_)
                subst e_r34
                refine W.widen (k := 8) (n := 60) (Nat.le_of_ble_eq_true rfl) (Nat.le_of_ble_eq_true rfl) ?_
                exact vx_ret (q_retMi C0 hret rfl hlk dX3_narrowView_164 hP hD hS (⟨by omega, by omega, (by unfold kR_narrowView; rw [if_neg (by (unfold nRef; (repeat' split) <;> omega)), show nLo σ xv xkind xlow = (turn (zod σ (zvw σ xv)) xlow) by (unfold nLo; (repeat' split) <;> first | rfl | omega), show nHi σ xv xkind xhigh = (turn (zod σ (zvw σ xv)) xhigh) by (unfold nHi; (repeat' split) <;> first | rfl | omega)]), O, G, CP_eq hC (by rw [sVw2]; unfold kS_narrowView; rw [if_neg (by (unfold nRef; (repeat' split) <;> omega)), show nLo σ xv xkind xlow = (turn (zod σ (zvw σ xv)) xlow) by (unfold nLo; (repeat' split) <;> first | rfl | omega), show nHi σ xv xkind xhigh = (turn (zod σ (zvw σ xv)) xhigh) by (unfold nHi; (repeat' split) <;> first | rfl | omega)]), rfl, Ext0 hO⟩))
              · refine lv_aload_n hx hb dX3_narrowView_127 rfl (lv_at hl 5 rfl) ?_
                refine q_vMi C0 lX3_63 (c_X3_refuse l D y L F _ O G σ hC) ⟨rfl, rfl⟩ rfl hP hD hS hA hC.1.1 hC.1.2 rfl rfl rfl hl rfl (Nat.le_of_ble_eq_true rfl) dX3_narrowView_128 ⟨Nat.le_of_ble_eq_true rfl, Nat.le_of_ble_eq_true rfl⟩ (fun r35 H locs L36 F36 hP hD hS hz36 hp36 => ?_)
                obtain ⟨eL, hC, er, hO1⟩ := hp36
                subst eL
                subst er
                have hO := hO.tr hO1
                refine W.widen (k := 8) (n := 60) (Nat.le_of_ble_eq_true rfl) (Nat.le_of_ble_eq_true rfl) ?_
                exact vx_ret (q_retMi C0 hret rfl hlk dX3_narrowView_131 hP hD hS (⟨by omega, by omega, (by unfold kR_narrowView; rw [if_pos (by unfold nRef; (repeat' split) <;> first | rfl | omega)]), O, G, CP_eq hC (by unfold kS_narrowView; rw [if_pos (by unfold nRef; (repeat' split) <;> first | rfl | omega)]), rfl, Ext0 hO⟩))
          · refine q_iconst hx hb dX3_narrowView_98 ?_
            refine lv_goto (tgt := 103) hx hb dX3_narrowView_99 (by decide) ?_
            refine lv_istore (lv' := [(9, .int (iI 1)), (8, .int (iI 0)), (7, .int (iI ((turn (zod σ (zvw σ xv)) xhigh)))), (6, .int (iI ((turn (zod σ (zvw σ xv)) xlow)))), (5, .ref ((gva G xv))), (0, .ref ((gbg G))), (1, .int (iI xv)), (2, .int (iI xkind)), (3, .int (iI xlow)), (4, .int (iI xhigh))]) hx hb dX3_narrowView_103 hl (by decide) rfl (fun ls hl => ?_)
            refine lv_iload hx hb dX3_narrowView_105 (lv_at hl 1 rfl) ?_
            refine q_if_ne hx hb dX3_narrowView_107 (tgt := 127) (by decide) (by omega) (fun c37 => absurd c37 (by omega)) (fun c37 => ?_)
            refine lv_iload hx hb dX3_narrowView_110 (lv_at hl 0 rfl) ?_
            refine q_if_ne hx hb dX3_narrowView_112 (tgt := 127) (by decide) (by omega) (fun c38 => ?_) (fun c38 => absurd c38 (by omega))
            refine lv_aload_n hx hb dX3_narrowView_127 rfl (lv_at hl 5 rfl) ?_
            refine q_vMi C0 lX3_63 (c_X3_refuse l D y L F _ O G σ hC) ⟨rfl, rfl⟩ rfl hP hD hS hA hC.1.1 hC.1.2 rfl rfl rfl hl rfl (Nat.le_of_ble_eq_true rfl) dX3_narrowView_128 ⟨Nat.le_of_ble_eq_true rfl, Nat.le_of_ble_eq_true rfl⟩ (fun r39 H locs L40 F40 hP hD hS hz40 hp40 => ?_)
            obtain ⟨eL, hC, er, hO1⟩ := hp40
            subst eL
            subst er
            have hO := hO.tr hO1
            refine W.widen (k := 8) (n := 60) (Nat.le_of_ble_eq_true rfl) (Nat.le_of_ble_eq_true rfl) ?_
            exact vx_ret (q_retMi C0 hret rfl hlk dX3_narrowView_131 hP hD hS (⟨by omega, by omega, (by unfold kR_narrowView; rw [if_pos (by unfold nRef; (repeat' split) <;> first | rfl | omega)]), O, G, CP_eq hC (by unfold kS_narrowView; rw [if_pos (by unfold nRef; (repeat' split) <;> first | rfl | omega)]), rfl, Ext0 hO⟩))
      · refine lv_aload hx hb dX3_narrowView_66 (lv_at hl 2 rfl) ?_
        refine lv_iload hx hb dX3_narrowView_68 (lv_at hl 1 rfl) ?_
        refine q_vS C0 lX3_191 (c_X1_isWithin l D y L F (gva G xv) (grh G (zvw σ xv)) (zvl σ xv) (zvh σ xv) (turn (zod σ (zvw σ xv)) xlow) (CP_v hC hb_r1).1 (CP_v hC hb_r1).2 (by omega) (by omega) (by omega)) ⟨rfl, rfl⟩ rfl hP (CP_v hC hb_r1).1 (CP_v hC hb_r1).2 rfl rfl rfl hl rfl (Nat.le_of_ble_eq_true rfl) dX3_narrowView_70 ⟨Nat.le_of_ble_eq_true rfl, Nat.le_of_ble_eq_true rfl⟩ (fun r41 e_r41 => ?_)
        subst e_r41
        refine q_if_ne hx hb dX3_narrowView_73 (tgt := 80) (by decide) (by omega) (fun c42 => ?_) (fun c42 => ?_)
        · refine q_iconst hx hb dX3_narrowView_80 ?_
          refine lv_istore (lv' := [(8, .int (iI 0)), (7, .int (iI ((turn (zod σ (zvw σ xv)) xhigh)))), (6, .int (iI ((turn (zod σ (zvw σ xv)) xlow)))), (5, .ref ((gva G xv))), (0, .ref ((gbg G))), (1, .int (iI xv)), (2, .int (iI xkind)), (3, .int (iI xlow)), (4, .int (iI xhigh))]) hx hb dX3_narrowView_81 hl (by decide) rfl (fun ls hl => ?_)
          refine lv_iload_n hx hb dX3_narrowView_83 rfl (lv_at hl 6 rfl) ?_
          refine q_iconst hx hb dX3_narrowView_84 ?_
          refine q_icmp_eq hx hb dX3_narrowView_85 (tgt := 102) (by decide) (by omega) (by omega) (fun c43 => ?_) (fun c43 => ?_)
          · refine q_iconst hx hb dX3_narrowView_102 ?_
            refine lv_istore (lv' := [(9, .int (iI 0)), (8, .int (iI 0)), (7, .int (iI ((turn (zod σ (zvw σ xv)) xhigh)))), (6, .int (iI ((turn (zod σ (zvw σ xv)) xlow)))), (5, .ref ((gva G xv))), (0, .ref ((gbg G))), (1, .int (iI xv)), (2, .int (iI xkind)), (3, .int (iI xlow)), (4, .int (iI xhigh))]) hx hb dX3_narrowView_103 hl (by decide) rfl (fun ls hl => ?_)
            refine lv_iload hx hb dX3_narrowView_105 (lv_at hl 1 rfl) ?_
            refine q_if_ne hx hb dX3_narrowView_107 (tgt := 127) (by decide) (by omega) (fun c44 => absurd c44 (by omega)) (fun c44 => ?_)
            refine lv_iload hx hb dX3_narrowView_110 (lv_at hl 0 rfl) ?_
            refine q_if_ne hx hb dX3_narrowView_112 (tgt := 127) (by decide) (by omega) (fun c45 => absurd c45 (by omega)) (fun c45 => ?_)
            refine lv_iload_n hx hb dX3_narrowView_115 rfl (lv_at hl 7 rfl) ?_
            refine q_iconst hx hb dX3_narrowView_116 ?_
            refine q_icmp_ne hx hb dX3_narrowView_117 (tgt := 132) (by decide) (by omega) (by omega) (fun c46 => ?_) (fun c46 => ?_)
            · refine lv_aload hx hb dX3_narrowView_132 (lv_at hl 4 rfl) ?_
              refine lv_iload hx hb dX3_narrowView_134 (lv_at hl 3 rfl) ?_
              refine q_put C0 iX1 tyX1 tyX1_ok nmX1 hP hD hS (CP_v hC hb_r1).1 (CP_v hC hb_r1).2 rfl 1 (by decide) flX3_182 rfl rfl rfl rfl (Nat.le_of_ble_eq_true rfl) dX3_narrowView_136 (fun H locs hP hD hS => ?_)
              obtain ⟨F47, eF47⟩ : ∃ z, z = va_up F (gva G xv) (.inr (3, [.ref ((grh G (zvw σ xv))), .int (iI ((turn (zod σ (zvw σ xv)) xlow))), .int (iI (zvh σ xv))])) := ⟨_, rfl⟩
              have hP : va_P D vwCl (va_pl L F47) H := by rw [eF47]; exact hP
              have hD : va_D (AL L s.heap.size) (va_pl L F47) := by rw [eF47]; exact hD
              have hvF : F47 (gva G xv) = (.inr (3, [.ref ((grh G (zvw σ xv))), .int (iI ((turn (zod σ (zvw σ xv)) xlow))), .int (iI (zvh σ xv))])) := by rw [eF47]; exact va_up_self _ _ _
              have hO : OE O F F47 := by rw [eF47]; exact hO.tr (OE1 ((CP_O hC).2.2.2.2.2.1 _ hb_r1.1 hb_r1.2))
              have hC : CP y L F47 O G (sVw σ xv (zvw σ xv) (turn (zod σ (zvw σ xv)) xlow) (zvh σ xv)) := by rw [eF47]; exact CP_vw hC hb_r1 (va_up_self _ _ _) (fun q hq => va_up_ne _ _ hq)
              refine lv_aload hx hb dX3_narrowView_139 (lv_at hl 4 rfl) ?_
              refine lv_iload hx hb dX3_narrowView_141 (lv_at hl 2 rfl) ?_
              refine q_put C0 iX1 tyX1 tyX1_ok nmX1 hP hD hS (CP_v hC hb_r1).1 hvF rfl 2 (by decide) flX3_185 rfl rfl rfl rfl (Nat.le_of_ble_eq_true rfl) dX3_narrowView_143 (fun H locs hP hD hS => ?_)
              obtain ⟨F48, eF48⟩ : ∃ z, z = va_up F47 (gva G xv) (.inr (3, [.ref ((grh G (zvw σ xv))), .int (iI ((turn (zod σ (zvw σ xv)) xlow))), .int (iI ((turn (zod σ (zvw σ xv)) xhigh)))])) := ⟨_, rfl⟩
              have hP : va_P D vwCl (va_pl L F48) H := by rw [eF48]; exact hP
              have hD : va_D (AL L s.heap.size) (va_pl L F48) := by rw [eF48]; exact hD
              have hvF : F48 (gva G xv) = (.inr (3, [.ref ((grh G (zvw σ xv))), .int (iI ((turn (zod σ (zvw σ xv)) xlow))), .int (iI ((turn (zod σ (zvw σ xv)) xhigh)))])) := by rw [eF48]; exact va_up_self _ _ _
              have hO : OE O F F48 := by rw [eF48]; exact hO.tr (OE1 ((CP_O hC).2.2.2.2.2.1 _ hb_r1.1 hb_r1.2))
              have hC : CP y L F48 O G (sVw (sVw σ xv (zvw σ xv) (turn (zod σ (zvw σ xv)) xlow) (zvh σ xv)) xv (zvw σ xv) (turn (zod σ (zvw σ xv)) xlow) (turn (zod σ (zvw σ xv)) xhigh)) := by rw [eF48]; exact CP_vw hC hb_r1 (va_up_self _ _ _) (fun q hq => va_up_ne _ _ hq)
              refine lv_aload hx hb dX3_narrowView_146 (lv_at hl 4 rfl) ?_
              refine q_get C0 iX1 hP (CP_v hC hb_r1).1 hvF rfl 0 (by decide) flX3_178 rfl rfl dX3_narrowView_148 ?_
              refine lv_aload hx hb dX3_narrowView_151 (lv_at hl 4 rfl) ?_
              refine q_get C0 iX1 hP (CP_v hC hb_r1).1 hvF rfl 1 (by decide) flX3_182 rfl rfl dX3_narrowView_153 ?_
              refine lv_aload hx hb dX3_narrowView_156 (lv_at hl 4 rfl) ?_
              refine q_get C0 iX1 hP (CP_v hC hb_r1).1 hvF rfl 2 (by decide) flX3_185 rfl rfl dX3_narrowView_158 ?_
              refine q_vS C0 lX3_188 (c_X0_countOfPart l D y L F48 (grh G (zvw σ xv)) (grw G (zvw σ xv)) (zod σ (zvw σ xv)) ((zst σ (zvw σ xv)).1) ((zst σ (zvw σ xv)).2.1) ((zst σ (zvw σ xv)).2.2) (turn (zod σ (zvw σ xv)) xlow) (turn (zod σ (zvw σ xv)) xhigh) (CP_r hC (hW.2.2.1 xv)) (by omega) (by omega)) ⟨rfl, rfl⟩ rfl hP (CP_r hC (hW.2.2.1 xv)).1 (CP_r hC (hW.2.2.1 xv)).2.1 rfl rfl rfl hl rfl (Nat.le_of_ble_eq_true rfl) dX3_narrowView_161 ⟨Nat.le_of_ble_eq_true rfl, Nat.le_of_ble_eq_true rfl⟩ (fun r49 e_r49 => ?_)
              subst e_r49
              refine W.widen (k := 8) (n := 60) (Nat.le_of_ble_eq_true rfl) (Nat.le_of_ble_eq_true rfl) ?_
              exact vx_ret (q_retMi C0 hret rfl hlk dX3_narrowView_164 hP hD hS (⟨by omega, by omega, (by unfold kR_narrowView; rw [if_neg (by (unfold nRef; (repeat' split) <;> omega)), show nLo σ xv xkind xlow = (turn (zod σ (zvw σ xv)) xlow) by (unfold nLo; (repeat' split) <;> first | rfl | omega), show nHi σ xv xkind xhigh = (turn (zod σ (zvw σ xv)) xhigh) by (unfold nHi; (repeat' split) <;> first | rfl | omega)]), O, G, CP_eq hC (by rw [sVw2]; unfold kS_narrowView; rw [if_neg (by (unfold nRef; (repeat' split) <;> omega)), show nLo σ xv xkind xlow = (turn (zod σ (zvw σ xv)) xlow) by (unfold nLo; (repeat' split) <;> first | rfl | omega), show nHi σ xv xkind xhigh = (turn (zod σ (zvw σ xv)) xhigh) by (unfold nHi; (repeat' split) <;> first | rfl | omega)]), rfl, Ext0 hO⟩))
            · refine lv_iload hx hb dX3_narrowView_120 (lv_at hl 3 rfl) ?_
              refine lv_iload hx hb dX3_narrowView_122 (lv_at hl 2 rfl) ?_
              refine q_icmp_le hx hb dX3_narrowView_124 (tgt := 132) (by decide) (by omega) (by omega) (fun c50 => ?_) (fun c50 => ?_)
              · refine lv_aload hx hb dX3_narrowView_132 (lv_at hl 4 rfl) ?_
                refine lv_iload hx hb dX3_narrowView_134 (lv_at hl 3 rfl) ?_
                refine q_put C0 iX1 tyX1 tyX1_ok nmX1 hP hD hS (CP_v hC hb_r1).1 (CP_v hC hb_r1).2 rfl 1 (by decide) flX3_182 rfl rfl rfl rfl (Nat.le_of_ble_eq_true rfl) dX3_narrowView_136 (fun H locs hP hD hS => ?_)
                obtain ⟨F51, eF51⟩ : ∃ z, z = va_up F (gva G xv) (.inr (3, [.ref ((grh G (zvw σ xv))), .int (iI ((turn (zod σ (zvw σ xv)) xlow))), .int (iI (zvh σ xv))])) := ⟨_, rfl⟩
                have hP : va_P D vwCl (va_pl L F51) H := by rw [eF51]; exact hP
                have hD : va_D (AL L s.heap.size) (va_pl L F51) := by rw [eF51]; exact hD
                have hvF : F51 (gva G xv) = (.inr (3, [.ref ((grh G (zvw σ xv))), .int (iI ((turn (zod σ (zvw σ xv)) xlow))), .int (iI (zvh σ xv))])) := by rw [eF51]; exact va_up_self _ _ _
                have hO : OE O F F51 := by rw [eF51]; exact hO.tr (OE1 ((CP_O hC).2.2.2.2.2.1 _ hb_r1.1 hb_r1.2))
                have hC : CP y L F51 O G (sVw σ xv (zvw σ xv) (turn (zod σ (zvw σ xv)) xlow) (zvh σ xv)) := by rw [eF51]; exact CP_vw hC hb_r1 (va_up_self _ _ _) (fun q hq => va_up_ne _ _ hq)
                refine lv_aload hx hb dX3_narrowView_139 (lv_at hl 4 rfl) ?_
                refine lv_iload hx hb dX3_narrowView_141 (lv_at hl 2 rfl) ?_
                refine q_put C0 iX1 tyX1 tyX1_ok nmX1 hP hD hS (CP_v hC hb_r1).1 hvF rfl 2 (by decide) flX3_185 rfl rfl rfl rfl (Nat.le_of_ble_eq_true rfl) dX3_narrowView_143 (fun H locs hP hD hS => ?_)
                obtain ⟨F52, eF52⟩ : ∃ z, z = va_up F51 (gva G xv) (.inr (3, [.ref ((grh G (zvw σ xv))), .int (iI ((turn (zod σ (zvw σ xv)) xlow))), .int (iI ((turn (zod σ (zvw σ xv)) xhigh)))])) := ⟨_, rfl⟩
                have hP : va_P D vwCl (va_pl L F52) H := by rw [eF52]; exact hP
                have hD : va_D (AL L s.heap.size) (va_pl L F52) := by rw [eF52]; exact hD
                have hvF : F52 (gva G xv) = (.inr (3, [.ref ((grh G (zvw σ xv))), .int (iI ((turn (zod σ (zvw σ xv)) xlow))), .int (iI ((turn (zod σ (zvw σ xv)) xhigh)))])) := by rw [eF52]; exact va_up_self _ _ _
                have hO : OE O F F52 := by rw [eF52]; exact hO.tr (OE1 ((CP_O hC).2.2.2.2.2.1 _ hb_r1.1 hb_r1.2))
                have hC : CP y L F52 O G (sVw (sVw σ xv (zvw σ xv) (turn (zod σ (zvw σ xv)) xlow) (zvh σ xv)) xv (zvw σ xv) (turn (zod σ (zvw σ xv)) xlow) (turn (zod σ (zvw σ xv)) xhigh)) := by rw [eF52]; exact CP_vw hC hb_r1 (va_up_self _ _ _) (fun q hq => va_up_ne _ _ hq)
                refine lv_aload hx hb dX3_narrowView_146 (lv_at hl 4 rfl) ?_
                refine q_get C0 iX1 hP (CP_v hC hb_r1).1 hvF rfl 0 (by decide) flX3_178 rfl rfl dX3_narrowView_148 ?_
                refine lv_aload hx hb dX3_narrowView_151 (lv_at hl 4 rfl) ?_
                refine q_get C0 iX1 hP (CP_v hC hb_r1).1 hvF rfl 1 (by decide) flX3_182 rfl rfl dX3_narrowView_153 ?_
                refine lv_aload hx hb dX3_narrowView_156 (lv_at hl 4 rfl) ?_
                refine q_get C0 iX1 hP (CP_v hC hb_r1).1 hvF rfl 2 (by decide) flX3_185 rfl rfl dX3_narrowView_158 ?_
                refine q_vS C0 lX3_188 (c_X0_countOfPart l D y L F52 (grh G (zvw σ xv)) (grw G (zvw σ xv)) (zod σ (zvw σ xv)) ((zst σ (zvw σ xv)).1) ((zst σ (zvw σ xv)).2.1) ((zst σ (zvw σ xv)).2.2) (turn (zod σ (zvw σ xv)) xlow) (turn (zod σ (zvw σ xv)) xhigh) (CP_r hC (hW.2.2.1 xv)) (by omega) (by omega)) ⟨rfl, rfl⟩ rfl hP (CP_r hC (hW.2.2.1 xv)).1 (CP_r hC (hW.2.2.1 xv)).2.1 rfl rfl rfl hl rfl (Nat.le_of_ble_eq_true rfl) dX3_narrowView_161 ⟨Nat.le_of_ble_eq_true rfl, Nat.le_of_ble_eq_true rfl⟩ (fun r53 e_r53 => ?_)
                subst e_r53
                refine W.widen (k := 8) (n := 60) (Nat.le_of_ble_eq_true rfl) (Nat.le_of_ble_eq_true rfl) ?_
                exact vx_ret (q_retMi C0 hret rfl hlk dX3_narrowView_164 hP hD hS (⟨by omega, by omega, (by unfold kR_narrowView; rw [if_neg (by (unfold nRef; (repeat' split) <;> omega)), show nLo σ xv xkind xlow = (turn (zod σ (zvw σ xv)) xlow) by (unfold nLo; (repeat' split) <;> first | rfl | omega), show nHi σ xv xkind xhigh = (turn (zod σ (zvw σ xv)) xhigh) by (unfold nHi; (repeat' split) <;> first | rfl | omega)]), O, G, CP_eq hC (by rw [sVw2]; unfold kS_narrowView; rw [if_neg (by (unfold nRef; (repeat' split) <;> omega)), show nLo σ xv xkind xlow = (turn (zod σ (zvw σ xv)) xlow) by (unfold nLo; (repeat' split) <;> first | rfl | omega), show nHi σ xv xkind xhigh = (turn (zod σ (zvw σ xv)) xhigh) by (unfold nHi; (repeat' split) <;> first | rfl | omega)]), rfl, Ext0 hO⟩))
              · refine lv_aload_n hx hb dX3_narrowView_127 rfl (lv_at hl 5 rfl) ?_
                refine q_vMi C0 lX3_63 (c_X3_refuse l D y L F _ O G σ hC) ⟨rfl, rfl⟩ rfl hP hD hS hA hC.1.1 hC.1.2 rfl rfl rfl hl rfl (Nat.le_of_ble_eq_true rfl) dX3_narrowView_128 ⟨Nat.le_of_ble_eq_true rfl, Nat.le_of_ble_eq_true rfl⟩ (fun r54 H locs L55 F55 hP hD hS hz55 hp55 => ?_)
                obtain ⟨eL, hC, er, hO1⟩ := hp55
                subst eL
                subst er
                have hO := hO.tr hO1
                refine W.widen (k := 8) (n := 60) (Nat.le_of_ble_eq_true rfl) (Nat.le_of_ble_eq_true rfl) ?_
                exact vx_ret (q_retMi C0 hret rfl hlk dX3_narrowView_131 hP hD hS (⟨by omega, by omega, (by unfold kR_narrowView; rw [if_pos (by unfold nRef; (repeat' split) <;> first | rfl | omega)]), O, G, CP_eq hC (by unfold kS_narrowView; rw [if_pos (by unfold nRef; (repeat' split) <;> first | rfl | omega)]), rfl, Ext0 hO⟩))
          · refine lv_aload hx hb dX3_narrowView_88 (lv_at hl 3 rfl) ?_
            refine lv_iload hx hb dX3_narrowView_90 (lv_at hl 1 rfl) ?_
            refine q_vS C0 lX3_191 (c_X1_isWithin l D y L F (gva G xv) (grh G (zvw σ xv)) (zvl σ xv) (zvh σ xv) (turn (zod σ (zvw σ xv)) xhigh) (CP_v hC hb_r1).1 (CP_v hC hb_r1).2 (by omega) (by omega) (by omega)) ⟨rfl, rfl⟩ rfl hP (CP_v hC hb_r1).1 (CP_v hC hb_r1).2 rfl rfl rfl hl rfl (Nat.le_of_ble_eq_true rfl) dX3_narrowView_92 ⟨Nat.le_of_ble_eq_true rfl, Nat.le_of_ble_eq_true rfl⟩ (fun r56 e_r56 => ?_)
            subst e_r56
            refine q_if_ne hx hb dX3_narrowView_95 (tgt := 102) (by decide) (by omega) (fun c57 => ?_) (fun c57 => ?_)
            · refine q_iconst hx hb dX3_narrowView_102 ?_
              refine lv_istore (lv' := [(9, .int (iI 0)), (8, .int (iI 0)), (7, .int (iI ((turn (zod σ (zvw σ xv)) xhigh)))), (6, .int (iI ((turn (zod σ (zvw σ xv)) xlow)))), (5, .ref ((gva G xv))), (0, .ref ((gbg G))), (1, .int (iI xv)), (2, .int (iI xkind)), (3, .int (iI xlow)), (4, .int (iI xhigh))]) hx hb dX3_narrowView_103 hl (by decide) rfl (fun ls hl => ?_)
              refine lv_iload hx hb dX3_narrowView_105 (lv_at hl 1 rfl) ?_
              refine q_if_ne hx hb dX3_narrowView_107 (tgt := 127) (by decide) (by omega) (fun c58 => absurd c58 (by omega)) (fun c58 => ?_)
              refine lv_iload hx hb dX3_narrowView_110 (lv_at hl 0 rfl) ?_
              refine q_if_ne hx hb dX3_narrowView_112 (tgt := 127) (by decide) (by omega) (fun c59 => absurd c59 (by omega)) (fun c59 => ?_)
              refine lv_iload_n hx hb dX3_narrowView_115 rfl (lv_at hl 7 rfl) ?_
              refine q_iconst hx hb dX3_narrowView_116 ?_
              refine q_icmp_ne hx hb dX3_narrowView_117 (tgt := 132) (by decide) (by omega) (by omega) (fun c60 => ?_) (fun c60 => ?_)
              · refine lv_aload hx hb dX3_narrowView_132 (lv_at hl 4 rfl) ?_
                refine lv_iload hx hb dX3_narrowView_134 (lv_at hl 3 rfl) ?_
                refine q_put C0 iX1 tyX1 tyX1_ok nmX1 hP hD hS (CP_v hC hb_r1).1 (CP_v hC hb_r1).2 rfl 1 (by decide) flX3_182 rfl rfl rfl rfl (Nat.le_of_ble_eq_true rfl) dX3_narrowView_136 (fun H locs hP hD hS => ?_)
                obtain ⟨F61, eF61⟩ : ∃ z, z = va_up F (gva G xv) (.inr (3, [.ref ((grh G (zvw σ xv))), .int (iI ((turn (zod σ (zvw σ xv)) xlow))), .int (iI (zvh σ xv))])) := ⟨_, rfl⟩
                have hP : va_P D vwCl (va_pl L F61) H := by rw [eF61]; exact hP
                have hD : va_D (AL L s.heap.size) (va_pl L F61) := by rw [eF61]; exact hD
                have hvF : F61 (gva G xv) = (.inr (3, [.ref ((grh G (zvw σ xv))), .int (iI ((turn (zod σ (zvw σ xv)) xlow))), .int (iI (zvh σ xv))])) := by rw [eF61]; exact va_up_self _ _ _
                have hO : OE O F F61 := by rw [eF61]; exact hO.tr (OE1 ((CP_O hC).2.2.2.2.2.1 _ hb_r1.1 hb_r1.2))
                have hC : CP y L F61 O G (sVw σ xv (zvw σ xv) (turn (zod σ (zvw σ xv)) xlow) (zvh σ xv)) := by rw [eF61]; exact CP_vw hC hb_r1 (va_up_self _ _ _) (fun q hq => va_up_ne _ _ hq)
                refine lv_aload hx hb dX3_narrowView_139 (lv_at hl 4 rfl) ?_
                refine lv_iload hx hb dX3_narrowView_141 (lv_at hl 2 rfl) ?_
                refine q_put C0 iX1 tyX1 tyX1_ok nmX1 hP hD hS (CP_v hC hb_r1).1 hvF rfl 2 (by decide) flX3_185 rfl rfl rfl rfl (Nat.le_of_ble_eq_true rfl) dX3_narrowView_143 (fun H locs hP hD hS => ?_)
                obtain ⟨F62, eF62⟩ : ∃ z, z = va_up F61 (gva G xv) (.inr (3, [.ref ((grh G (zvw σ xv))), .int (iI ((turn (zod σ (zvw σ xv)) xlow))), .int (iI ((turn (zod σ (zvw σ xv)) xhigh)))])) := ⟨_, rfl⟩
                have hP : va_P D vwCl (va_pl L F62) H := by rw [eF62]; exact hP
                have hD : va_D (AL L s.heap.size) (va_pl L F62) := by rw [eF62]; exact hD
                have hvF : F62 (gva G xv) = (.inr (3, [.ref ((grh G (zvw σ xv))), .int (iI ((turn (zod σ (zvw σ xv)) xlow))), .int (iI ((turn (zod σ (zvw σ xv)) xhigh)))])) := by rw [eF62]; exact va_up_self _ _ _
                have hO : OE O F F62 := by rw [eF62]; exact hO.tr (OE1 ((CP_O hC).2.2.2.2.2.1 _ hb_r1.1 hb_r1.2))
                have hC : CP y L F62 O G (sVw (sVw σ xv (zvw σ xv) (turn (zod σ (zvw σ xv)) xlow) (zvh σ xv)) xv (zvw σ xv) (turn (zod σ (zvw σ xv)) xlow) (turn (zod σ (zvw σ xv)) xhigh)) := by rw [eF62]; exact CP_vw hC hb_r1 (va_up_self _ _ _) (fun q hq => va_up_ne _ _ hq)
                refine lv_aload hx hb dX3_narrowView_146 (lv_at hl 4 rfl) ?_
                refine q_get C0 iX1 hP (CP_v hC hb_r1).1 hvF rfl 0 (by decide) flX3_178 rfl rfl dX3_narrowView_148 ?_
                refine lv_aload hx hb dX3_narrowView_151 (lv_at hl 4 rfl) ?_
                refine q_get C0 iX1 hP (CP_v hC hb_r1).1 hvF rfl 1 (by decide) flX3_182 rfl rfl dX3_narrowView_153 ?_
                refine lv_aload hx hb dX3_narrowView_156 (lv_at hl 4 rfl) ?_
                refine q_get C0 iX1 hP (CP_v hC hb_r1).1 hvF rfl 2 (by decide) flX3_185 rfl rfl dX3_narrowView_158 ?_
                refine q_vS C0 lX3_188 (c_X0_countOfPart l D y L F62 (grh G (zvw σ xv)) (grw G (zvw σ xv)) (zod σ (zvw σ xv)) ((zst σ (zvw σ xv)).1) ((zst σ (zvw σ xv)).2.1) ((zst σ (zvw σ xv)).2.2) (turn (zod σ (zvw σ xv)) xlow) (turn (zod σ (zvw σ xv)) xhigh) (CP_r hC (hW.2.2.1 xv)) (by omega) (by omega)) ⟨rfl, rfl⟩ rfl hP (CP_r hC (hW.2.2.1 xv)).1 (CP_r hC (hW.2.2.1 xv)).2.1 rfl rfl rfl hl rfl (Nat.le_of_ble_eq_true rfl) dX3_narrowView_161 ⟨Nat.le_of_ble_eq_true rfl, Nat.le_of_ble_eq_true rfl⟩ (fun r63 e_r63 => ?_)
                subst e_r63
                refine W.widen (k := 8) (n := 60) (Nat.le_of_ble_eq_true rfl) (Nat.le_of_ble_eq_true rfl) ?_
                exact vx_ret (q_retMi C0 hret rfl hlk dX3_narrowView_164 hP hD hS (⟨by omega, by omega, (by unfold kR_narrowView; rw [if_neg (by (unfold nRef; (repeat' split) <;> omega)), show nLo σ xv xkind xlow = (turn (zod σ (zvw σ xv)) xlow) by (unfold nLo; (repeat' split) <;> first | rfl | omega), show nHi σ xv xkind xhigh = (turn (zod σ (zvw σ xv)) xhigh) by (unfold nHi; (repeat' split) <;> first | rfl | omega)]), O, G, CP_eq hC (by rw [sVw2]; unfold kS_narrowView; rw [if_neg (by (unfold nRef; (repeat' split) <;> omega)), show nLo σ xv xkind xlow = (turn (zod σ (zvw σ xv)) xlow) by (unfold nLo; (repeat' split) <;> first | rfl | omega), show nHi σ xv xkind xhigh = (turn (zod σ (zvw σ xv)) xhigh) by (unfold nHi; (repeat' split) <;> first | rfl | omega)]), rfl, Ext0 hO⟩))
              · refine lv_iload hx hb dX3_narrowView_120 (lv_at hl 3 rfl) ?_
                refine lv_iload hx hb dX3_narrowView_122 (lv_at hl 2 rfl) ?_
                refine q_icmp_le hx hb dX3_narrowView_124 (tgt := 132) (by decide) (by omega) (by omega) (fun c64 => ?_) (fun c64 => ?_)
                · refine lv_aload hx hb dX3_narrowView_132 (lv_at hl 4 rfl) ?_
                  refine lv_iload hx hb dX3_narrowView_134 (lv_at hl 3 rfl) ?_
                  refine q_put C0 iX1 tyX1 tyX1_ok nmX1 hP hD hS (CP_v hC hb_r1).1 (CP_v hC hb_r1).2 rfl 1 (by decide) flX3_182 rfl rfl rfl rfl (Nat.le_of_ble_eq_true rfl) dX3_narrowView_136 (fun H locs hP hD hS => ?_)
                  obtain ⟨F65, eF65⟩ : ∃ z, z = va_up F (gva G xv) (.inr (3, [.ref ((grh G (zvw σ xv))), .int (iI ((turn (zod σ (zvw σ xv)) xlow))), .int (iI (zvh σ xv))])) := ⟨_, rfl⟩
                  have hP : va_P D vwCl (va_pl L F65) H := by rw [eF65]; exact hP
                  have hD : va_D (AL L s.heap.size) (va_pl L F65) := by rw [eF65]; exact hD
                  have hvF : F65 (gva G xv) = (.inr (3, [.ref ((grh G (zvw σ xv))), .int (iI ((turn (zod σ (zvw σ xv)) xlow))), .int (iI (zvh σ xv))])) := by rw [eF65]; exact va_up_self _ _ _
                  have hO : OE O F F65 := by rw [eF65]; exact hO.tr (OE1 ((CP_O hC).2.2.2.2.2.1 _ hb_r1.1 hb_r1.2))
                  have hC : CP y L F65 O G (sVw σ xv (zvw σ xv) (turn (zod σ (zvw σ xv)) xlow) (zvh σ xv)) := by rw [eF65]; exact CP_vw hC hb_r1 (va_up_self _ _ _) (fun q hq => va_up_ne _ _ hq)
                  refine lv_aload hx hb dX3_narrowView_139 (lv_at hl 4 rfl) ?_
                  refine lv_iload hx hb dX3_narrowView_141 (lv_at hl 2 rfl) ?_
                  refine q_put C0 iX1 tyX1 tyX1_ok nmX1 hP hD hS (CP_v hC hb_r1).1 hvF rfl 2 (by decide) flX3_185 rfl rfl rfl rfl (Nat.le_of_ble_eq_true rfl) dX3_narrowView_143 (fun H locs hP hD hS => ?_)
                  obtain ⟨F66, eF66⟩ : ∃ z, z = va_up F65 (gva G xv) (.inr (3, [.ref ((grh G (zvw σ xv))), .int (iI ((turn (zod σ (zvw σ xv)) xlow))), .int (iI ((turn (zod σ (zvw σ xv)) xhigh)))])) := ⟨_, rfl⟩
                  have hP : va_P D vwCl (va_pl L F66) H := by rw [eF66]; exact hP
                  have hD : va_D (AL L s.heap.size) (va_pl L F66) := by rw [eF66]; exact hD
                  have hvF : F66 (gva G xv) = (.inr (3, [.ref ((grh G (zvw σ xv))), .int (iI ((turn (zod σ (zvw σ xv)) xlow))), .int (iI ((turn (zod σ (zvw σ xv)) xhigh)))])) := by rw [eF66]; exact va_up_self _ _ _
                  have hO : OE O F F66 := by rw [eF66]; exact hO.tr (OE1 ((CP_O hC).2.2.2.2.2.1 _ hb_r1.1 hb_r1.2))
                  have hC : CP y L F66 O G (sVw (sVw σ xv (zvw σ xv) (turn (zod σ (zvw σ xv)) xlow) (zvh σ xv)) xv (zvw σ xv) (turn (zod σ (zvw σ xv)) xlow) (turn (zod σ (zvw σ xv)) xhigh)) := by rw [eF66]; exact CP_vw hC hb_r1 (va_up_self _ _ _) (fun q hq => va_up_ne _ _ hq)
                  refine lv_aload hx hb dX3_narrowView_146 (lv_at hl 4 rfl) ?_
                  refine q_get C0 iX1 hP (CP_v hC hb_r1).1 hvF rfl 0 (by decide) flX3_178 rfl rfl dX3_narrowView_148 ?_
                  refine lv_aload hx hb dX3_narrowView_151 (lv_at hl 4 rfl) ?_
                  refine q_get C0 iX1 hP (CP_v hC hb_r1).1 hvF rfl 1 (by decide) flX3_182 rfl rfl dX3_narrowView_153 ?_
                  refine lv_aload hx hb dX3_narrowView_156 (lv_at hl 4 rfl) ?_
                  refine q_get C0 iX1 hP (CP_v hC hb_r1).1 hvF rfl 2 (by decide) flX3_185 rfl rfl dX3_narrowView_158 ?_
                  refine q_vS C0 lX3_188 (c_X0_countOfPart l D y L F66 (grh G (zvw σ xv)) (grw G (zvw σ xv)) (zod σ (zvw σ xv)) ((zst σ (zvw σ xv)).1) ((zst σ (zvw σ xv)).2.1) ((zst σ (zvw σ xv)).2.2) (turn (zod σ (zvw σ xv)) xlow) (turn (zod σ (zvw σ xv)) xhigh) (CP_r hC (hW.2.2.1 xv)) (by omega) (by omega)) ⟨rfl, rfl⟩ rfl hP (CP_r hC (hW.2.2.1 xv)).1 (CP_r hC (hW.2.2.1 xv)).2.1 rfl rfl rfl hl rfl (Nat.le_of_ble_eq_true rfl) dX3_narrowView_161 ⟨Nat.le_of_ble_eq_true rfl, Nat.le_of_ble_eq_true rfl⟩ (fun r67 e_r67 => ?_)
                  subst e_r67
                  refine W.widen (k := 8) (n := 60) (Nat.le_of_ble_eq_true rfl) (Nat.le_of_ble_eq_true rfl) ?_
                  exact vx_ret (q_retMi C0 hret rfl hlk dX3_narrowView_164 hP hD hS (⟨by omega, by omega, (by unfold kR_narrowView; rw [if_neg (by (unfold nRef; (repeat' split) <;> omega)), show nLo σ xv xkind xlow = (turn (zod σ (zvw σ xv)) xlow) by (unfold nLo; (repeat' split) <;> first | rfl | omega), show nHi σ xv xkind xhigh = (turn (zod σ (zvw σ xv)) xhigh) by (unfold nHi; (repeat' split) <;> first | rfl | omega)]), O, G, CP_eq hC (by rw [sVw2]; unfold kS_narrowView; rw [if_neg (by (unfold nRef; (repeat' split) <;> omega)), show nLo σ xv xkind xlow = (turn (zod σ (zvw σ xv)) xlow) by (unfold nLo; (repeat' split) <;> first | rfl | omega), show nHi σ xv xkind xhigh = (turn (zod σ (zvw σ xv)) xhigh) by (unfold nHi; (repeat' split) <;> first | rfl | omega)]), rfl, Ext0 hO⟩))
                · refine lv_aload_n hx hb dX3_narrowView_127 rfl (lv_at hl 5 rfl) ?_
                  refine q_vMi C0 lX3_63 (c_X3_refuse l D y L F _ O G σ hC) ⟨rfl, rfl⟩ rfl hP hD hS hA hC.1.1 hC.1.2 rfl rfl rfl hl rfl (Nat.le_of_ble_eq_true rfl) dX3_narrowView_128 ⟨Nat.le_of_ble_eq_true rfl, Nat.le_of_ble_eq_true rfl⟩ (fun r68 H locs L69 F69 hP hD hS hz69 hp69 => ?_)
                  obtain ⟨eL, hC, er, hO1⟩ := hp69
                  subst eL
                  subst er
                  have hO := hO.tr hO1
                  refine W.widen (k := 8) (n := 60) (Nat.le_of_ble_eq_true rfl) (Nat.le_of_ble_eq_true rfl) ?_
                  exact vx_ret (q_retMi C0 hret rfl hlk dX3_narrowView_131 hP hD hS (⟨by omega, by omega, (by unfold kR_narrowView; rw [if_pos (by unfold nRef; (repeat' split) <;> first | rfl | omega)]), O, G, CP_eq hC (by unfold kS_narrowView; rw [if_pos (by unfold nRef; (repeat' split) <;> first | rfl | omega)]), rfl, Ext0 hO⟩))
            · refine q_iconst hx hb dX3_narrowView_98 ?_
              refine lv_goto (tgt := 103) hx hb dX3_narrowView_99 (by decide) ?_
              refine lv_istore (lv' := [(9, .int (iI 1)), (8, .int (iI 0)), (7, .int (iI ((turn (zod σ (zvw σ xv)) xhigh)))), (6, .int (iI ((turn (zod σ (zvw σ xv)) xlow)))), (5, .ref ((gva G xv))), (0, .ref ((gbg G))), (1, .int (iI xv)), (2, .int (iI xkind)), (3, .int (iI xlow)), (4, .int (iI xhigh))]) hx hb dX3_narrowView_103 hl (by decide) rfl (fun ls hl => ?_)
              refine lv_iload hx hb dX3_narrowView_105 (lv_at hl 1 rfl) ?_
              refine q_if_ne hx hb dX3_narrowView_107 (tgt := 127) (by decide) (by omega) (fun c70 => absurd c70 (by omega)) (fun c70 => ?_)
              refine lv_iload hx hb dX3_narrowView_110 (lv_at hl 0 rfl) ?_
              refine q_if_ne hx hb dX3_narrowView_112 (tgt := 127) (by decide) (by omega) (fun c71 => ?_) (fun c71 => absurd c71 (by omega))
              refine lv_aload_n hx hb dX3_narrowView_127 rfl (lv_at hl 5 rfl) ?_
              refine q_vMi C0 lX3_63 (c_X3_refuse l D y L F _ O G σ hC) ⟨rfl, rfl⟩ rfl hP hD hS hA hC.1.1 hC.1.2 rfl rfl rfl hl rfl (Nat.le_of_ble_eq_true rfl) dX3_narrowView_128 ⟨Nat.le_of_ble_eq_true rfl, Nat.le_of_ble_eq_true rfl⟩ (fun r72 H locs L73 F73 hP hD hS hz73 hp73 => ?_)
              obtain ⟨eL, hC, er, hO1⟩ := hp73
              subst eL
              subst er
              have hO := hO.tr hO1
              refine W.widen (k := 8) (n := 60) (Nat.le_of_ble_eq_true rfl) (Nat.le_of_ble_eq_true rfl) ?_
              exact vx_ret (q_retMi C0 hret rfl hlk dX3_narrowView_131 hP hD hS (⟨by omega, by omega, (by unfold kR_narrowView; rw [if_pos (by unfold nRef; (repeat' split) <;> first | rfl | omega)]), O, G, CP_eq hC (by unfold kS_narrowView; rw [if_pos (by unfold nRef; (repeat' split) <;> first | rfl | omega)]), rfl, Ext0 hO⟩))
        · refine q_iconst hx hb dX3_narrowView_76 ?_
          refine lv_goto (tgt := 81) hx hb dX3_narrowView_77 (by decide) ?_
          refine lv_istore (lv' := [(8, .int (iI 1)), (7, .int (iI ((turn (zod σ (zvw σ xv)) xhigh)))), (6, .int (iI ((turn (zod σ (zvw σ xv)) xlow)))), (5, .ref ((gva G xv))), (0, .ref ((gbg G))), (1, .int (iI xv)), (2, .int (iI xkind)), (3, .int (iI xlow)), (4, .int (iI xhigh))]) hx hb dX3_narrowView_81 hl (by decide) rfl (fun ls hl => ?_)
          refine lv_iload_n hx hb dX3_narrowView_83 rfl (lv_at hl 6 rfl) ?_
          refine q_iconst hx hb dX3_narrowView_84 ?_
          refine q_icmp_eq hx hb dX3_narrowView_85 (tgt := 102) (by decide) (by omega) (by omega) (fun c74 => ?_) (fun c74 => ?_)
          · refine q_iconst hx hb dX3_narrowView_102 ?_
            refine lv_istore (lv' := [(9, .int (iI 0)), (8, .int (iI 1)), (7, .int (iI ((turn (zod σ (zvw σ xv)) xhigh)))), (6, .int (iI ((turn (zod σ (zvw σ xv)) xlow)))), (5, .ref ((gva G xv))), (0, .ref ((gbg G))), (1, .int (iI xv)), (2, .int (iI xkind)), (3, .int (iI xlow)), (4, .int (iI xhigh))]) hx hb dX3_narrowView_103 hl (by decide) rfl (fun ls hl => ?_)
            refine lv_iload hx hb dX3_narrowView_105 (lv_at hl 1 rfl) ?_
            refine q_if_ne hx hb dX3_narrowView_107 (tgt := 127) (by decide) (by omega) (fun c75 => ?_) (fun c75 => absurd c75 (by omega))
            refine lv_aload_n hx hb dX3_narrowView_127 rfl (lv_at hl 5 rfl) ?_
            refine q_vMi C0 lX3_63 (c_X3_refuse l D y L F _ O G σ hC) ⟨rfl, rfl⟩ rfl hP hD hS hA hC.1.1 hC.1.2 rfl rfl rfl hl rfl (Nat.le_of_ble_eq_true rfl) dX3_narrowView_128 ⟨Nat.le_of_ble_eq_true rfl, Nat.le_of_ble_eq_true rfl⟩ (fun r76 H locs L77 F77 hP hD hS hz77 hp77 => ?_)
            obtain ⟨eL, hC, er, hO1⟩ := hp77
            subst eL
            subst er
            have hO := hO.tr hO1
            refine W.widen (k := 8) (n := 60) (Nat.le_of_ble_eq_true rfl) (Nat.le_of_ble_eq_true rfl) ?_
            exact vx_ret (q_retMi C0 hret rfl hlk dX3_narrowView_131 hP hD hS (⟨by omega, by omega, (by unfold kR_narrowView; rw [if_pos (by unfold nRef; (repeat' split) <;> first | rfl | omega)]), O, G, CP_eq hC (by unfold kS_narrowView; rw [if_pos (by unfold nRef; (repeat' split) <;> first | rfl | omega)]), rfl, Ext0 hO⟩))
          · refine lv_aload hx hb dX3_narrowView_88 (lv_at hl 3 rfl) ?_
            refine lv_iload hx hb dX3_narrowView_90 (lv_at hl 1 rfl) ?_
            refine q_vS C0 lX3_191 (c_X1_isWithin l D y L F (gva G xv) (grh G (zvw σ xv)) (zvl σ xv) (zvh σ xv) (turn (zod σ (zvw σ xv)) xhigh) (CP_v hC hb_r1).1 (CP_v hC hb_r1).2 (by omega) (by omega) (by omega)) ⟨rfl, rfl⟩ rfl hP (CP_v hC hb_r1).1 (CP_v hC hb_r1).2 rfl rfl rfl hl rfl (Nat.le_of_ble_eq_true rfl) dX3_narrowView_92 ⟨Nat.le_of_ble_eq_true rfl, Nat.le_of_ble_eq_true rfl⟩ (fun r78 e_r78 => ?_)
            subst e_r78
            refine q_if_ne hx hb dX3_narrowView_95 (tgt := 102) (by decide) (by omega) (fun c79 => ?_) (fun c79 => ?_)
            · refine q_iconst hx hb dX3_narrowView_102 ?_
              refine lv_istore (lv' := [(9, .int (iI 0)), (8, .int (iI 1)), (7, .int (iI ((turn (zod σ (zvw σ xv)) xhigh)))), (6, .int (iI ((turn (zod σ (zvw σ xv)) xlow)))), (5, .ref ((gva G xv))), (0, .ref ((gbg G))), (1, .int (iI xv)), (2, .int (iI xkind)), (3, .int (iI xlow)), (4, .int (iI xhigh))]) hx hb dX3_narrowView_103 hl (by decide) rfl (fun ls hl => ?_)
              refine lv_iload hx hb dX3_narrowView_105 (lv_at hl 1 rfl) ?_
              refine q_if_ne hx hb dX3_narrowView_107 (tgt := 127) (by decide) (by omega) (fun c80 => ?_) (fun c80 => absurd c80 (by omega))
              refine lv_aload_n hx hb dX3_narrowView_127 rfl (lv_at hl 5 rfl) ?_
              refine q_vMi C0 lX3_63 (c_X3_refuse l D y L F _ O G σ hC) ⟨rfl, rfl⟩ rfl hP hD hS hA hC.1.1 hC.1.2 rfl rfl rfl hl rfl (Nat.le_of_ble_eq_true rfl) dX3_narrowView_128 ⟨Nat.le_of_ble_eq_true rfl, Nat.le_of_ble_eq_true rfl⟩ (fun r81 H locs L82 F82 hP hD hS hz82 hp82 => ?_)
              obtain ⟨eL, hC, er, hO1⟩ := hp82
              subst eL
              subst er
              have hO := hO.tr hO1
              refine W.widen (k := 8) (n := 60) (Nat.le_of_ble_eq_true rfl) (Nat.le_of_ble_eq_true rfl) ?_
              exact vx_ret (q_retMi C0 hret rfl hlk dX3_narrowView_131 hP hD hS (⟨by omega, by omega, (by unfold kR_narrowView; rw [if_pos (by unfold nRef; (repeat' split) <;> first | rfl | omega)]), O, G, CP_eq hC (by unfold kS_narrowView; rw [if_pos (by unfold nRef; (repeat' split) <;> first | rfl | omega)]), rfl, Ext0 hO⟩))
            · refine q_iconst hx hb dX3_narrowView_98 ?_
              refine lv_goto (tgt := 103) hx hb dX3_narrowView_99 (by decide) ?_
              refine lv_istore (lv' := [(9, .int (iI 1)), (8, .int (iI 1)), (7, .int (iI ((turn (zod σ (zvw σ xv)) xhigh)))), (6, .int (iI ((turn (zod σ (zvw σ xv)) xlow)))), (5, .ref ((gva G xv))), (0, .ref ((gbg G))), (1, .int (iI xv)), (2, .int (iI xkind)), (3, .int (iI xlow)), (4, .int (iI xhigh))]) hx hb dX3_narrowView_103 hl (by decide) rfl (fun ls hl => ?_)
              refine lv_iload hx hb dX3_narrowView_105 (lv_at hl 1 rfl) ?_
              refine q_if_ne hx hb dX3_narrowView_107 (tgt := 127) (by decide) (by omega) (fun c83 => ?_) (fun c83 => absurd c83 (by omega))
              refine lv_aload_n hx hb dX3_narrowView_127 rfl (lv_at hl 5 rfl) ?_
              refine q_vMi C0 lX3_63 (c_X3_refuse l D y L F _ O G σ hC) ⟨rfl, rfl⟩ rfl hP hD hS hA hC.1.1 hC.1.2 rfl rfl rfl hl rfl (Nat.le_of_ble_eq_true rfl) dX3_narrowView_128 ⟨Nat.le_of_ble_eq_true rfl, Nat.le_of_ble_eq_true rfl⟩ (fun r84 H locs L85 F85 hP hD hS hz85 hp85 => ?_)
              obtain ⟨eL, hC, er, hO1⟩ := hp85
              subst eL
              subst er
              have hO := hO.tr hO1
              refine W.widen (k := 8) (n := 60) (Nat.le_of_ble_eq_true rfl) (Nat.le_of_ble_eq_true rfl) ?_
              exact vx_ret (q_retMi C0 hret rfl hlk dX3_narrowView_131 hP hD hS (⟨by omega, by omega, (by unfold kR_narrowView; rw [if_pos (by unfold nRef; (repeat' split) <;> first | rfl | omega)]), O, G, CP_eq hC (by unfold kS_narrowView; rw [if_pos (by unfold nRef; (repeat' split) <;> first | rfl | omega)]), rfl, Ext0 hO⟩))
    · refine lv_aload hx hb dX3_narrowView_42 (lv_at hl 1 rfl) ?_
      refine q_get C0 iX1 hP (CP_v hC hb_r1).1 (CP_v hC hb_r1).2 rfl 2 (by decide) flX3_185 rfl rfl dX3_narrowView_44 ?_
      refine lv_goto (tgt := 60) hx hb dX3_narrowView_47 (by decide) ?_
      refine lv_istore (lv' := [(7, .int (iI (zvh σ xv))), (6, .int (iI ((turn (zod σ (zvw σ xv)) xlow)))), (5, .ref ((gva G xv))), (0, .ref ((gbg G))), (1, .int (iI xv)), (2, .int (iI xkind)), (3, .int (iI xlow)), (4, .int (iI xhigh))]) hx hb dX3_narrowView_60 hl (by decide) rfl (fun ls hl => ?_)
      refine lv_iload_n hx hb dX3_narrowView_62 rfl (lv_at hl 5 rfl) ?_
      refine q_if_eq hx hb dX3_narrowView_63 (tgt := 80) (by decide) (by omega) (fun c86 => ?_) (fun c86 => ?_)
      · refine q_iconst hx hb dX3_narrowView_80 ?_
        refine lv_istore (lv' := [(8, .int (iI 0)), (7, .int (iI (zvh σ xv))), (6, .int (iI ((turn (zod σ (zvw σ xv)) xlow)))), (5, .ref ((gva G xv))), (0, .ref ((gbg G))), (1, .int (iI xv)), (2, .int (iI xkind)), (3, .int (iI xlow)), (4, .int (iI xhigh))]) hx hb dX3_narrowView_81 hl (by decide) rfl (fun ls hl => ?_)
        refine lv_iload_n hx hb dX3_narrowView_83 rfl (lv_at hl 6 rfl) ?_
        refine q_iconst hx hb dX3_narrowView_84 ?_
        refine q_icmp_eq hx hb dX3_narrowView_85 (tgt := 102) (by decide) (by omega) (by omega) (fun c87 => ?_) (fun c87 => ?_)
        · refine q_iconst hx hb dX3_narrowView_102 ?_
          refine lv_istore (lv' := [(9, .int (iI 0)), (8, .int (iI 0)), (7, .int (iI (zvh σ xv))), (6, .int (iI ((turn (zod σ (zvw σ xv)) xlow)))), (5, .ref ((gva G xv))), (0, .ref ((gbg G))), (1, .int (iI xv)), (2, .int (iI xkind)), (3, .int (iI xlow)), (4, .int (iI xhigh))]) hx hb dX3_narrowView_103 hl (by decide) rfl (fun ls hl => ?_)
          refine lv_iload hx hb dX3_narrowView_105 (lv_at hl 1 rfl) ?_
          refine q_if_ne hx hb dX3_narrowView_107 (tgt := 127) (by decide) (by omega) (fun c88 => absurd c88 (by omega)) (fun c88 => ?_)
          refine lv_iload hx hb dX3_narrowView_110 (lv_at hl 0 rfl) ?_
          refine q_if_ne hx hb dX3_narrowView_112 (tgt := 127) (by decide) (by omega) (fun c89 => absurd c89 (by omega)) (fun c89 => ?_)
          refine lv_iload_n hx hb dX3_narrowView_115 rfl (lv_at hl 7 rfl) ?_
          refine q_iconst hx hb dX3_narrowView_116 ?_
          refine q_icmp_ne hx hb dX3_narrowView_117 (tgt := 132) (by decide) (by omega) (by omega) (fun c90 => ?_) (fun c90 => ?_)
          · refine lv_aload hx hb dX3_narrowView_132 (lv_at hl 4 rfl) ?_
            refine lv_iload hx hb dX3_narrowView_134 (lv_at hl 3 rfl) ?_
            refine q_put C0 iX1 tyX1 tyX1_ok nmX1 hP hD hS (CP_v hC hb_r1).1 (CP_v hC hb_r1).2 rfl 1 (by decide) flX3_182 rfl rfl rfl rfl (Nat.le_of_ble_eq_true rfl) dX3_narrowView_136 (fun H locs hP hD hS => ?_)
            obtain ⟨F91, eF91⟩ : ∃ z, z = va_up F (gva G xv) (.inr (3, [.ref ((grh G (zvw σ xv))), .int (iI ((turn (zod σ (zvw σ xv)) xlow))), .int (iI (zvh σ xv))])) := ⟨_, rfl⟩
            have hP : va_P D vwCl (va_pl L F91) H := by rw [eF91]; exact hP
            have hD : va_D (AL L s.heap.size) (va_pl L F91) := by rw [eF91]; exact hD
            have hvF : F91 (gva G xv) = (.inr (3, [.ref ((grh G (zvw σ xv))), .int (iI ((turn (zod σ (zvw σ xv)) xlow))), .int (iI (zvh σ xv))])) := by rw [eF91]; exact va_up_self _ _ _
            have hO : OE O F F91 := by rw [eF91]; exact hO.tr (OE1 ((CP_O hC).2.2.2.2.2.1 _ hb_r1.1 hb_r1.2))
            have hC : CP y L F91 O G (sVw σ xv (zvw σ xv) (turn (zod σ (zvw σ xv)) xlow) (zvh σ xv)) := by rw [eF91]; exact CP_vw hC hb_r1 (va_up_self _ _ _) (fun q hq => va_up_ne _ _ hq)
            refine lv_aload hx hb dX3_narrowView_139 (lv_at hl 4 rfl) ?_
            refine lv_iload hx hb dX3_narrowView_141 (lv_at hl 2 rfl) ?_
            refine q_put C0 iX1 tyX1 tyX1_ok nmX1 hP hD hS (CP_v hC hb_r1).1 hvF rfl 2 (by decide) flX3_185 rfl rfl rfl rfl (Nat.le_of_ble_eq_true rfl) dX3_narrowView_143 (fun H locs hP hD hS => ?_)
            obtain ⟨F92, eF92⟩ : ∃ z, z = va_up F91 (gva G xv) (.inr (3, [.ref ((grh G (zvw σ xv))), .int (iI ((turn (zod σ (zvw σ xv)) xlow))), .int (iI (zvh σ xv))])) := ⟨_, rfl⟩
            have hP : va_P D vwCl (va_pl L F92) H := by rw [eF92]; exact hP
            have hD : va_D (AL L s.heap.size) (va_pl L F92) := by rw [eF92]; exact hD
            have hvF : F92 (gva G xv) = (.inr (3, [.ref ((grh G (zvw σ xv))), .int (iI ((turn (zod σ (zvw σ xv)) xlow))), .int (iI (zvh σ xv))])) := by rw [eF92]; exact va_up_self _ _ _
            have hO : OE O F F92 := by rw [eF92]; exact hO.tr (OE1 ((CP_O hC).2.2.2.2.2.1 _ hb_r1.1 hb_r1.2))
            have hC : CP y L F92 O G (sVw (sVw σ xv (zvw σ xv) (turn (zod σ (zvw σ xv)) xlow) (zvh σ xv)) xv (zvw σ xv) (turn (zod σ (zvw σ xv)) xlow) (zvh σ xv)) := by rw [eF92]; exact CP_vw hC hb_r1 (va_up_self _ _ _) (fun q hq => va_up_ne _ _ hq)
            refine lv_aload hx hb dX3_narrowView_146 (lv_at hl 4 rfl) ?_
            refine q_get C0 iX1 hP (CP_v hC hb_r1).1 hvF rfl 0 (by decide) flX3_178 rfl rfl dX3_narrowView_148 ?_
            refine lv_aload hx hb dX3_narrowView_151 (lv_at hl 4 rfl) ?_
            refine q_get C0 iX1 hP (CP_v hC hb_r1).1 hvF rfl 1 (by decide) flX3_182 rfl rfl dX3_narrowView_153 ?_
            refine lv_aload hx hb dX3_narrowView_156 (lv_at hl 4 rfl) ?_
            refine q_get C0 iX1 hP (CP_v hC hb_r1).1 hvF rfl 2 (by decide) flX3_185 rfl rfl dX3_narrowView_158 ?_
            refine q_vS C0 lX3_188 (c_X0_countOfPart l D y L F92 (grh G (zvw σ xv)) (grw G (zvw σ xv)) (zod σ (zvw σ xv)) ((zst σ (zvw σ xv)).1) ((zst σ (zvw σ xv)).2.1) ((zst σ (zvw σ xv)).2.2) (turn (zod σ (zvw σ xv)) xlow) (zvh σ xv) (CP_r hC (hW.2.2.1 xv)) (by omega) (by omega)) ⟨rfl, rfl⟩ rfl hP (CP_r hC (hW.2.2.1 xv)).1 (CP_r hC (hW.2.2.1 xv)).2.1 rfl rfl rfl hl rfl (Nat.le_of_ble_eq_true rfl) dX3_narrowView_161 ⟨Nat.le_of_ble_eq_true rfl, Nat.le_of_ble_eq_true rfl⟩ (fun r93 e_r93 => ?_)
            subst e_r93
            refine W.widen (k := 8) (n := 60) (Nat.le_of_ble_eq_true rfl) (Nat.le_of_ble_eq_true rfl) ?_
            exact vx_ret (q_retMi C0 hret rfl hlk dX3_narrowView_164 hP hD hS (⟨by omega, by omega, (by unfold kR_narrowView; rw [if_neg (by (unfold nRef; (repeat' split) <;> omega)), show nLo σ xv xkind xlow = (turn (zod σ (zvw σ xv)) xlow) by (unfold nLo; (repeat' split) <;> first | rfl | omega), show nHi σ xv xkind xhigh = zvh σ xv by (unfold nHi; (repeat' split) <;> first | rfl | omega)]), O, G, CP_eq hC (by rw [sVw2]; unfold kS_narrowView; rw [if_neg (by (unfold nRef; (repeat' split) <;> omega)), show nLo σ xv xkind xlow = (turn (zod σ (zvw σ xv)) xlow) by (unfold nLo; (repeat' split) <;> first | rfl | omega), show nHi σ xv xkind xhigh = zvh σ xv by (unfold nHi; (repeat' split) <;> first | rfl | omega)]), rfl, Ext0 hO⟩))
          · refine lv_iload hx hb dX3_narrowView_120 (lv_at hl 3 rfl) ?_
            refine lv_iload hx hb dX3_narrowView_122 (lv_at hl 2 rfl) ?_
            refine q_icmp_le hx hb dX3_narrowView_124 (tgt := 132) (by decide) (by omega) (by omega) (fun c94 => ?_) (fun c94 => ?_)
            · refine lv_aload hx hb dX3_narrowView_132 (lv_at hl 4 rfl) ?_
              refine lv_iload hx hb dX3_narrowView_134 (lv_at hl 3 rfl) ?_
              refine q_put C0 iX1 tyX1 tyX1_ok nmX1 hP hD hS (CP_v hC hb_r1).1 (CP_v hC hb_r1).2 rfl 1 (by decide) flX3_182 rfl rfl rfl rfl (Nat.le_of_ble_eq_true rfl) dX3_narrowView_136 (fun H locs hP hD hS => ?_)
              obtain ⟨F95, eF95⟩ : ∃ z, z = va_up F (gva G xv) (.inr (3, [.ref ((grh G (zvw σ xv))), .int (iI ((turn (zod σ (zvw σ xv)) xlow))), .int (iI (zvh σ xv))])) := ⟨_, rfl⟩
              have hP : va_P D vwCl (va_pl L F95) H := by rw [eF95]; exact hP
              have hD : va_D (AL L s.heap.size) (va_pl L F95) := by rw [eF95]; exact hD
              have hvF : F95 (gva G xv) = (.inr (3, [.ref ((grh G (zvw σ xv))), .int (iI ((turn (zod σ (zvw σ xv)) xlow))), .int (iI (zvh σ xv))])) := by rw [eF95]; exact va_up_self _ _ _
              have hO : OE O F F95 := by rw [eF95]; exact hO.tr (OE1 ((CP_O hC).2.2.2.2.2.1 _ hb_r1.1 hb_r1.2))
              have hC : CP y L F95 O G (sVw σ xv (zvw σ xv) (turn (zod σ (zvw σ xv)) xlow) (zvh σ xv)) := by rw [eF95]; exact CP_vw hC hb_r1 (va_up_self _ _ _) (fun q hq => va_up_ne _ _ hq)
              refine lv_aload hx hb dX3_narrowView_139 (lv_at hl 4 rfl) ?_
              refine lv_iload hx hb dX3_narrowView_141 (lv_at hl 2 rfl) ?_
              refine q_put C0 iX1 tyX1 tyX1_ok nmX1 hP hD hS (CP_v hC hb_r1).1 hvF rfl 2 (by decide) flX3_185 rfl rfl rfl rfl (Nat.le_of_ble_eq_true rfl) dX3_narrowView_143 (fun H locs hP hD hS => ?_)
              obtain ⟨F96, eF96⟩ : ∃ z, z = va_up F95 (gva G xv) (.inr (3, [.ref ((grh G (zvw σ xv))), .int (iI ((turn (zod σ (zvw σ xv)) xlow))), .int (iI (zvh σ xv))])) := ⟨_, rfl⟩
              have hP : va_P D vwCl (va_pl L F96) H := by rw [eF96]; exact hP
              have hD : va_D (AL L s.heap.size) (va_pl L F96) := by rw [eF96]; exact hD
              have hvF : F96 (gva G xv) = (.inr (3, [.ref ((grh G (zvw σ xv))), .int (iI ((turn (zod σ (zvw σ xv)) xlow))), .int (iI (zvh σ xv))])) := by rw [eF96]; exact va_up_self _ _ _
              have hO : OE O F F96 := by rw [eF96]; exact hO.tr (OE1 ((CP_O hC).2.2.2.2.2.1 _ hb_r1.1 hb_r1.2))
              have hC : CP y L F96 O G (sVw (sVw σ xv (zvw σ xv) (turn (zod σ (zvw σ xv)) xlow) (zvh σ xv)) xv (zvw σ xv) (turn (zod σ (zvw σ xv)) xlow) (zvh σ xv)) := by rw [eF96]; exact CP_vw hC hb_r1 (va_up_self _ _ _) (fun q hq => va_up_ne _ _ hq)
              refine lv_aload hx hb dX3_narrowView_146 (lv_at hl 4 rfl) ?_
              refine q_get C0 iX1 hP (CP_v hC hb_r1).1 hvF rfl 0 (by decide) flX3_178 rfl rfl dX3_narrowView_148 ?_
              refine lv_aload hx hb dX3_narrowView_151 (lv_at hl 4 rfl) ?_
              refine q_get C0 iX1 hP (CP_v hC hb_r1).1 hvF rfl 1 (by decide) flX3_182 rfl rfl dX3_narrowView_153 ?_
              refine lv_aload hx hb dX3_narrowView_156 (lv_at hl 4 rfl) ?_
              refine q_get C0 iX1 hP (CP_v hC hb_r1).1 hvF rfl 2 (by decide) flX3_185 rfl rfl dX3_narrowView_158 ?_
              refine q_vS C0 lX3_188 (c_X0_countOfPart l D y L F96 (grh G (zvw σ xv)) (grw G (zvw σ xv)) (zod σ (zvw σ xv)) ((zst σ (zvw σ xv)).1) ((zst σ (zvw σ xv)).2.1) ((zst σ (zvw σ xv)).2.2) (turn (zod σ (zvw σ xv)) xlow) (zvh σ xv) (CP_r hC (hW.2.2.1 xv)) (by omega) (by omega)) ⟨rfl, rfl⟩ rfl hP (CP_r hC (hW.2.2.1 xv)).1 (CP_r hC (hW.2.2.1 xv)).2.1 rfl rfl rfl hl rfl (Nat.le_of_ble_eq_true rfl) dX3_narrowView_161 ⟨Nat.le_of_ble_eq_true rfl, Nat.le_of_ble_eq_true rfl⟩ (fun r97 e_r97 => ?_)
              subst e_r97
              refine W.widen (k := 8) (n := 60) (Nat.le_of_ble_eq_true rfl) (Nat.le_of_ble_eq_true rfl) ?_
              exact vx_ret (q_retMi C0 hret rfl hlk dX3_narrowView_164 hP hD hS (⟨by omega, by omega, (by unfold kR_narrowView; rw [if_neg (by (unfold nRef; (repeat' split) <;> omega)), show nLo σ xv xkind xlow = (turn (zod σ (zvw σ xv)) xlow) by (unfold nLo; (repeat' split) <;> first | rfl | omega), show nHi σ xv xkind xhigh = zvh σ xv by (unfold nHi; (repeat' split) <;> first | rfl | omega)]), O, G, CP_eq hC (by rw [sVw2]; unfold kS_narrowView; rw [if_neg (by (unfold nRef; (repeat' split) <;> omega)), show nLo σ xv xkind xlow = (turn (zod σ (zvw σ xv)) xlow) by (unfold nLo; (repeat' split) <;> first | rfl | omega), show nHi σ xv xkind xhigh = zvh σ xv by (unfold nHi; (repeat' split) <;> first | rfl | omega)]), rfl, Ext0 hO⟩))
            · refine lv_aload_n hx hb dX3_narrowView_127 rfl (lv_at hl 5 rfl) ?_
              refine q_vMi C0 lX3_63 (c_X3_refuse l D y L F _ O G σ hC) ⟨rfl, rfl⟩ rfl hP hD hS hA hC.1.1 hC.1.2 rfl rfl rfl hl rfl (Nat.le_of_ble_eq_true rfl) dX3_narrowView_128 ⟨Nat.le_of_ble_eq_true rfl, Nat.le_of_ble_eq_true rfl⟩ (fun r98 H locs L99 F99 hP hD hS hz99 hp99 => ?_)
              obtain ⟨eL, hC, er, hO1⟩ := hp99
              subst eL
              subst er
              have hO := hO.tr hO1
              refine W.widen (k := 8) (n := 60) (Nat.le_of_ble_eq_true rfl) (Nat.le_of_ble_eq_true rfl) ?_
              exact vx_ret (q_retMi C0 hret rfl hlk dX3_narrowView_131 hP hD hS (⟨by omega, by omega, (by unfold kR_narrowView; rw [if_pos (by unfold nRef; (repeat' split) <;> first | rfl | omega)]), O, G, CP_eq hC (by unfold kS_narrowView; rw [if_pos (by unfold nRef; (repeat' split) <;> first | rfl | omega)]), rfl, Ext0 hO⟩))
        · refine lv_aload hx hb dX3_narrowView_88 (lv_at hl 3 rfl) ?_
          refine lv_iload hx hb dX3_narrowView_90 (lv_at hl 1 rfl) ?_
          refine q_vS C0 lX3_191 (c_X1_isWithin l D y L F (gva G xv) (grh G (zvw σ xv)) (zvl σ xv) (zvh σ xv) (zvh σ xv) (CP_v hC hb_r1).1 (CP_v hC hb_r1).2 (by omega) (by omega) (by omega)) ⟨rfl, rfl⟩ rfl hP (CP_v hC hb_r1).1 (CP_v hC hb_r1).2 rfl rfl rfl hl rfl (Nat.le_of_ble_eq_true rfl) dX3_narrowView_92 ⟨Nat.le_of_ble_eq_true rfl, Nat.le_of_ble_eq_true rfl⟩ (fun r100 e_r100 => ?_)
          subst e_r100
          refine q_if_ne hx hb dX3_narrowView_95 (tgt := 102) (by decide) (by omega) (fun c101 => ?_) (fun c101 => ?_)
          · refine q_iconst hx hb dX3_narrowView_102 ?_
            refine lv_istore (lv' := [(9, .int (iI 0)), (8, .int (iI 0)), (7, .int (iI (zvh σ xv))), (6, .int (iI ((turn (zod σ (zvw σ xv)) xlow)))), (5, .ref ((gva G xv))), (0, .ref ((gbg G))), (1, .int (iI xv)), (2, .int (iI xkind)), (3, .int (iI xlow)), (4, .int (iI xhigh))]) hx hb dX3_narrowView_103 hl (by decide) rfl (fun ls hl => ?_)
            refine lv_iload hx hb dX3_narrowView_105 (lv_at hl 1 rfl) ?_
            refine q_if_ne hx hb dX3_narrowView_107 (tgt := 127) (by decide) (by omega) (fun c102 => absurd c102 (by omega)) (fun c102 => ?_)
            refine lv_iload hx hb dX3_narrowView_110 (lv_at hl 0 rfl) ?_
            refine q_if_ne hx hb dX3_narrowView_112 (tgt := 127) (by decide) (by omega) (fun c103 => absurd c103 (by omega)) (fun c103 => ?_)
            refine lv_iload_n hx hb dX3_narrowView_115 rfl (lv_at hl 7 rfl) ?_
            refine q_iconst hx hb dX3_narrowView_116 ?_
            refine q_icmp_ne hx hb dX3_narrowView_117 (tgt := 132) (by decide) (by omega) (by omega) (fun c104 => ?_) (fun c104 => ?_)
            · refine lv_aload hx hb dX3_narrowView_132 (lv_at hl 4 rfl) ?_
              refine lv_iload hx hb dX3_narrowView_134 (lv_at hl 3 rfl) ?_
              refine q_put C0 iX1 tyX1 tyX1_ok nmX1 hP hD hS (CP_v hC hb_r1).1 (CP_v hC hb_r1).2 rfl 1 (by decide) flX3_182 rfl rfl rfl rfl (Nat.le_of_ble_eq_true rfl) dX3_narrowView_136 (fun H locs hP hD hS => ?_)
              obtain ⟨F105, eF105⟩ : ∃ z, z = va_up F (gva G xv) (.inr (3, [.ref ((grh G (zvw σ xv))), .int (iI ((turn (zod σ (zvw σ xv)) xlow))), .int (iI (zvh σ xv))])) := ⟨_, rfl⟩
              have hP : va_P D vwCl (va_pl L F105) H := by rw [eF105]; exact hP
              have hD : va_D (AL L s.heap.size) (va_pl L F105) := by rw [eF105]; exact hD
              have hvF : F105 (gva G xv) = (.inr (3, [.ref ((grh G (zvw σ xv))), .int (iI ((turn (zod σ (zvw σ xv)) xlow))), .int (iI (zvh σ xv))])) := by rw [eF105]; exact va_up_self _ _ _
              have hO : OE O F F105 := by rw [eF105]; exact hO.tr (OE1 ((CP_O hC).2.2.2.2.2.1 _ hb_r1.1 hb_r1.2))
              have hC : CP y L F105 O G (sVw σ xv (zvw σ xv) (turn (zod σ (zvw σ xv)) xlow) (zvh σ xv)) := by rw [eF105]; exact CP_vw hC hb_r1 (va_up_self _ _ _) (fun q hq => va_up_ne _ _ hq)
              refine lv_aload hx hb dX3_narrowView_139 (lv_at hl 4 rfl) ?_
              refine lv_iload hx hb dX3_narrowView_141 (lv_at hl 2 rfl) ?_
              refine q_put C0 iX1 tyX1 tyX1_ok nmX1 hP hD hS (CP_v hC hb_r1).1 hvF rfl 2 (by decide) flX3_185 rfl rfl rfl rfl (Nat.le_of_ble_eq_true rfl) dX3_narrowView_143 (fun H locs hP hD hS => ?_)
              obtain ⟨F106, eF106⟩ : ∃ z, z = va_up F105 (gva G xv) (.inr (3, [.ref ((grh G (zvw σ xv))), .int (iI ((turn (zod σ (zvw σ xv)) xlow))), .int (iI (zvh σ xv))])) := ⟨_, rfl⟩
              have hP : va_P D vwCl (va_pl L F106) H := by rw [eF106]; exact hP
              have hD : va_D (AL L s.heap.size) (va_pl L F106) := by rw [eF106]; exact hD
              have hvF : F106 (gva G xv) = (.inr (3, [.ref ((grh G (zvw σ xv))), .int (iI ((turn (zod σ (zvw σ xv)) xlow))), .int (iI (zvh σ xv))])) := by rw [eF106]; exact va_up_self _ _ _
              have hO : OE O F F106 := by rw [eF106]; exact hO.tr (OE1 ((CP_O hC).2.2.2.2.2.1 _ hb_r1.1 hb_r1.2))
              have hC : CP y L F106 O G (sVw (sVw σ xv (zvw σ xv) (turn (zod σ (zvw σ xv)) xlow) (zvh σ xv)) xv (zvw σ xv) (turn (zod σ (zvw σ xv)) xlow) (zvh σ xv)) := by rw [eF106]; exact CP_vw hC hb_r1 (va_up_self _ _ _) (fun q hq => va_up_ne _ _ hq)
              refine lv_aload hx hb dX3_narrowView_146 (lv_at hl 4 rfl) ?_
              refine q_get C0 iX1 hP (CP_v hC hb_r1).1 hvF rfl 0 (by decide) flX3_178 rfl rfl dX3_narrowView_148 ?_
              refine lv_aload hx hb dX3_narrowView_151 (lv_at hl 4 rfl) ?_
              refine q_get C0 iX1 hP (CP_v hC hb_r1).1 hvF rfl 1 (by decide) flX3_182 rfl rfl dX3_narrowView_153 ?_
              refine lv_aload hx hb dX3_narrowView_156 (lv_at hl 4 rfl) ?_
              refine q_get C0 iX1 hP (CP_v hC hb_r1).1 hvF rfl 2 (by decide) flX3_185 rfl rfl dX3_narrowView_158 ?_
              refine q_vS C0 lX3_188 (c_X0_countOfPart l D y L F106 (grh G (zvw σ xv)) (grw G (zvw σ xv)) (zod σ (zvw σ xv)) ((zst σ (zvw σ xv)).1) ((zst σ (zvw σ xv)).2.1) ((zst σ (zvw σ xv)).2.2) (turn (zod σ (zvw σ xv)) xlow) (zvh σ xv) (CP_r hC (hW.2.2.1 xv)) (by omega) (by omega)) ⟨rfl, rfl⟩ rfl hP (CP_r hC (hW.2.2.1 xv)).1 (CP_r hC (hW.2.2.1 xv)).2.1 rfl rfl rfl hl rfl (Nat.le_of_ble_eq_true rfl) dX3_narrowView_161 ⟨Nat.le_of_ble_eq_true rfl, Nat.le_of_ble_eq_true rfl⟩ (fun r107 e_r107 => ?_)
              subst e_r107
              refine W.widen (k := 8) (n := 60) (Nat.le_of_ble_eq_true rfl) (Nat.le_of_ble_eq_true rfl) ?_
              exact vx_ret (q_retMi C0 hret rfl hlk dX3_narrowView_164 hP hD hS (⟨by omega, by omega, (by unfold kR_narrowView; rw [if_neg (by (unfold nRef; (repeat' split) <;> omega)), show nLo σ xv xkind xlow = (turn (zod σ (zvw σ xv)) xlow) by (unfold nLo; (repeat' split) <;> first | rfl | omega), show nHi σ xv xkind xhigh = zvh σ xv by (unfold nHi; (repeat' split) <;> first | rfl | omega)]), O, G, CP_eq hC (by rw [sVw2]; unfold kS_narrowView; rw [if_neg (by (unfold nRef; (repeat' split) <;> omega)), show nLo σ xv xkind xlow = (turn (zod σ (zvw σ xv)) xlow) by (unfold nLo; (repeat' split) <;> first | rfl | omega), show nHi σ xv xkind xhigh = zvh σ xv by (unfold nHi; (repeat' split) <;> first | rfl | omega)]), rfl, Ext0 hO⟩))
            · refine lv_iload hx hb dX3_narrowView_120 (lv_at hl 3 rfl) ?_
              refine lv_iload hx hb dX3_narrowView_122 (lv_at hl 2 rfl) ?_
              refine q_icmp_le hx hb dX3_narrowView_124 (tgt := 132) (by decide) (by omega) (by omega) (fun c108 => ?_) (fun c108 => ?_)
              · refine lv_aload hx hb dX3_narrowView_132 (lv_at hl 4 rfl) ?_
                refine lv_iload hx hb dX3_narrowView_134 (lv_at hl 3 rfl) ?_
                refine q_put C0 iX1 tyX1 tyX1_ok nmX1 hP hD hS (CP_v hC hb_r1).1 (CP_v hC hb_r1).2 rfl 1 (by decide) flX3_182 rfl rfl rfl rfl (Nat.le_of_ble_eq_true rfl) dX3_narrowView_136 (fun H locs hP hD hS => ?_)
                obtain ⟨F109, eF109⟩ : ∃ z, z = va_up F (gva G xv) (.inr (3, [.ref ((grh G (zvw σ xv))), .int (iI ((turn (zod σ (zvw σ xv)) xlow))), .int (iI (zvh σ xv))])) := ⟨_, rfl⟩
                have hP : va_P D vwCl (va_pl L F109) H := by rw [eF109]; exact hP
                have hD : va_D (AL L s.heap.size) (va_pl L F109) := by rw [eF109]; exact hD
                have hvF : F109 (gva G xv) = (.inr (3, [.ref ((grh G (zvw σ xv))), .int (iI ((turn (zod σ (zvw σ xv)) xlow))), .int (iI (zvh σ xv))])) := by rw [eF109]; exact va_up_self _ _ _
                have hO : OE O F F109 := by rw [eF109]; exact hO.tr (OE1 ((CP_O hC).2.2.2.2.2.1 _ hb_r1.1 hb_r1.2))
                have hC : CP y L F109 O G (sVw σ xv (zvw σ xv) (turn (zod σ (zvw σ xv)) xlow) (zvh σ xv)) := by rw [eF109]; exact CP_vw hC hb_r1 (va_up_self _ _ _) (fun q hq => va_up_ne _ _ hq)
                refine lv_aload hx hb dX3_narrowView_139 (lv_at hl 4 rfl) ?_
                refine lv_iload hx hb dX3_narrowView_141 (lv_at hl 2 rfl) ?_
                refine q_put C0 iX1 tyX1 tyX1_ok nmX1 hP hD hS (CP_v hC hb_r1).1 hvF rfl 2 (by decide) flX3_185 rfl rfl rfl rfl (Nat.le_of_ble_eq_true rfl) dX3_narrowView_143 (fun H locs hP hD hS => ?_)
                obtain ⟨F110, eF110⟩ : ∃ z, z = va_up F109 (gva G xv) (.inr (3, [.ref ((grh G (zvw σ xv))), .int (iI ((turn (zod σ (zvw σ xv)) xlow))), .int (iI (zvh σ xv))])) := ⟨_, rfl⟩
                have hP : va_P D vwCl (va_pl L F110) H := by rw [eF110]; exact hP
                have hD : va_D (AL L s.heap.size) (va_pl L F110) := by rw [eF110]; exact hD
                have hvF : F110 (gva G xv) = (.inr (3, [.ref ((grh G (zvw σ xv))), .int (iI ((turn (zod σ (zvw σ xv)) xlow))), .int (iI (zvh σ xv))])) := by rw [eF110]; exact va_up_self _ _ _
                have hO : OE O F F110 := by rw [eF110]; exact hO.tr (OE1 ((CP_O hC).2.2.2.2.2.1 _ hb_r1.1 hb_r1.2))
                have hC : CP y L F110 O G (sVw (sVw σ xv (zvw σ xv) (turn (zod σ (zvw σ xv)) xlow) (zvh σ xv)) xv (zvw σ xv) (turn (zod σ (zvw σ xv)) xlow) (zvh σ xv)) := by rw [eF110]; exact CP_vw hC hb_r1 (va_up_self _ _ _) (fun q hq => va_up_ne _ _ hq)
                refine lv_aload hx hb dX3_narrowView_146 (lv_at hl 4 rfl) ?_
                refine q_get C0 iX1 hP (CP_v hC hb_r1).1 hvF rfl 0 (by decide) flX3_178 rfl rfl dX3_narrowView_148 ?_
                refine lv_aload hx hb dX3_narrowView_151 (lv_at hl 4 rfl) ?_
                refine q_get C0 iX1 hP (CP_v hC hb_r1).1 hvF rfl 1 (by decide) flX3_182 rfl rfl dX3_narrowView_153 ?_
                refine lv_aload hx hb dX3_narrowView_156 (lv_at hl 4 rfl) ?_
                refine q_get C0 iX1 hP (CP_v hC hb_r1).1 hvF rfl 2 (by decide) flX3_185 rfl rfl dX3_narrowView_158 ?_
                refine q_vS C0 lX3_188 (c_X0_countOfPart l D y L F110 (grh G (zvw σ xv)) (grw G (zvw σ xv)) (zod σ (zvw σ xv)) ((zst σ (zvw σ xv)).1) ((zst σ (zvw σ xv)).2.1) ((zst σ (zvw σ xv)).2.2) (turn (zod σ (zvw σ xv)) xlow) (zvh σ xv) (CP_r hC (hW.2.2.1 xv)) (by omega) (by omega)) ⟨rfl, rfl⟩ rfl hP (CP_r hC (hW.2.2.1 xv)).1 (CP_r hC (hW.2.2.1 xv)).2.1 rfl rfl rfl hl rfl (Nat.le_of_ble_eq_true rfl) dX3_narrowView_161 ⟨Nat.le_of_ble_eq_true rfl, Nat.le_of_ble_eq_true rfl⟩ (fun r111 e_r111 => ?_)
                subst e_r111
                refine W.widen (k := 8) (n := 60) (Nat.le_of_ble_eq_true rfl) (Nat.le_of_ble_eq_true rfl) ?_
                exact vx_ret (q_retMi C0 hret rfl hlk dX3_narrowView_164 hP hD hS (⟨by omega, by omega, (by unfold kR_narrowView; rw [if_neg (by (unfold nRef; (repeat' split) <;> omega)), show nLo σ xv xkind xlow = (turn (zod σ (zvw σ xv)) xlow) by (unfold nLo; (repeat' split) <;> first | rfl | omega), show nHi σ xv xkind xhigh = zvh σ xv by (unfold nHi; (repeat' split) <;> first | rfl | omega)]), O, G, CP_eq hC (by rw [sVw2]; unfold kS_narrowView; rw [if_neg (by (unfold nRef; (repeat' split) <;> omega)), show nLo σ xv xkind xlow = (turn (zod σ (zvw σ xv)) xlow) by (unfold nLo; (repeat' split) <;> first | rfl | omega), show nHi σ xv xkind xhigh = zvh σ xv by (unfold nHi; (repeat' split) <;> first | rfl | omega)]), rfl, Ext0 hO⟩))
              · refine lv_aload_n hx hb dX3_narrowView_127 rfl (lv_at hl 5 rfl) ?_
                refine q_vMi C0 lX3_63 (c_X3_refuse l D y L F _ O G σ hC) ⟨rfl, rfl⟩ rfl hP hD hS hA hC.1.1 hC.1.2 rfl rfl rfl hl rfl (Nat.le_of_ble_eq_true rfl) dX3_narrowView_128 ⟨Nat.le_of_ble_eq_true rfl, Nat.le_of_ble_eq_true rfl⟩ (fun r112 H locs L113 F113 hP hD hS hz113 hp113 => ?_)
                obtain ⟨eL, hC, er, hO1⟩ := hp113
                subst eL
                subst er
                have hO := hO.tr hO1
                refine W.widen (k := 8) (n := 60) (Nat.le_of_ble_eq_true rfl) (Nat.le_of_ble_eq_true rfl) ?_
                exact vx_ret (q_retMi C0 hret rfl hlk dX3_narrowView_131 hP hD hS (⟨by omega, by omega, (by unfold kR_narrowView; rw [if_pos (by unfold nRef; (repeat' split) <;> first | rfl | omega)]), O, G, CP_eq hC (by unfold kS_narrowView; rw [if_pos (by unfold nRef; (repeat' split) <;> first | rfl | omega)]), rfl, Ext0 hO⟩))
          · refine q_iconst hx hb dX3_narrowView_98 ?_
            refine lv_goto (tgt := 103) hx hb dX3_narrowView_99 (by decide) ?_
            refine lv_istore (lv' := [(9, .int (iI 1)), (8, .int (iI 0)), (7, .int (iI (zvh σ xv))), (6, .int (iI ((turn (zod σ (zvw σ xv)) xlow)))), (5, .ref ((gva G xv))), (0, .ref ((gbg G))), (1, .int (iI xv)), (2, .int (iI xkind)), (3, .int (iI xlow)), (4, .int (iI xhigh))]) hx hb dX3_narrowView_103 hl (by decide) rfl (fun ls hl => ?_)
            refine lv_iload hx hb dX3_narrowView_105 (lv_at hl 1 rfl) ?_
            refine q_if_ne hx hb dX3_narrowView_107 (tgt := 127) (by decide) (by omega) (fun c114 => absurd c114 (by omega)) (fun c114 => ?_)
            refine lv_iload hx hb dX3_narrowView_110 (lv_at hl 0 rfl) ?_
            refine q_if_ne hx hb dX3_narrowView_112 (tgt := 127) (by decide) (by omega) (fun c115 => ?_) (fun c115 => absurd c115 (by omega))
            refine lv_aload_n hx hb dX3_narrowView_127 rfl (lv_at hl 5 rfl) ?_
            refine q_vMi C0 lX3_63 (c_X3_refuse l D y L F _ O G σ hC) ⟨rfl, rfl⟩ rfl hP hD hS hA hC.1.1 hC.1.2 rfl rfl rfl hl rfl (Nat.le_of_ble_eq_true rfl) dX3_narrowView_128 ⟨Nat.le_of_ble_eq_true rfl, Nat.le_of_ble_eq_true rfl⟩ (fun r116 H locs L117 F117 hP hD hS hz117 hp117 => ?_)
            obtain ⟨eL, hC, er, hO1⟩ := hp117
            subst eL
            subst er
            have hO := hO.tr hO1
            refine W.widen (k := 8) (n := 60) (Nat.le_of_ble_eq_true rfl) (Nat.le_of_ble_eq_true rfl) ?_
            exact vx_ret (q_retMi C0 hret rfl hlk dX3_narrowView_131 hP hD hS (⟨by omega, by omega, (by unfold kR_narrowView; rw [if_pos (by unfold nRef; (repeat' split) <;> first | rfl | omega)]), O, G, CP_eq hC (by unfold kS_narrowView; rw [if_pos (by unfold nRef; (repeat' split) <;> first | rfl | omega)]), rfl, Ext0 hO⟩))
      · refine lv_aload hx hb dX3_narrowView_66 (lv_at hl 2 rfl) ?_
        refine lv_iload hx hb dX3_narrowView_68 (lv_at hl 1 rfl) ?_
        refine q_vS C0 lX3_191 (c_X1_isWithin l D y L F (gva G xv) (grh G (zvw σ xv)) (zvl σ xv) (zvh σ xv) (turn (zod σ (zvw σ xv)) xlow) (CP_v hC hb_r1).1 (CP_v hC hb_r1).2 (by omega) (by omega) (by omega)) ⟨rfl, rfl⟩ rfl hP (CP_v hC hb_r1).1 (CP_v hC hb_r1).2 rfl rfl rfl hl rfl (Nat.le_of_ble_eq_true rfl) dX3_narrowView_70 ⟨Nat.le_of_ble_eq_true rfl, Nat.le_of_ble_eq_true rfl⟩ (fun r118 e_r118 => ?_)
        subst e_r118
        refine q_if_ne hx hb dX3_narrowView_73 (tgt := 80) (by decide) (by omega) (fun c119 => ?_) (fun c119 => ?_)
        · refine q_iconst hx hb dX3_narrowView_80 ?_
          refine lv_istore (lv' := [(8, .int (iI 0)), (7, .int (iI (zvh σ xv))), (6, .int (iI ((turn (zod σ (zvw σ xv)) xlow)))), (5, .ref ((gva G xv))), (0, .ref ((gbg G))), (1, .int (iI xv)), (2, .int (iI xkind)), (3, .int (iI xlow)), (4, .int (iI xhigh))]) hx hb dX3_narrowView_81 hl (by decide) rfl (fun ls hl => ?_)
          refine lv_iload_n hx hb dX3_narrowView_83 rfl (lv_at hl 6 rfl) ?_
          refine q_iconst hx hb dX3_narrowView_84 ?_
          refine q_icmp_eq hx hb dX3_narrowView_85 (tgt := 102) (by decide) (by omega) (by omega) (fun c120 => ?_) (fun c120 => ?_)
          · refine q_iconst hx hb dX3_narrowView_102 ?_
            refine lv_istore (lv' := [(9, .int (iI 0)), (8, .int (iI 0)), (7, .int (iI (zvh σ xv))), (6, .int (iI ((turn (zod σ (zvw σ xv)) xlow)))), (5, .ref ((gva G xv))), (0, .ref ((gbg G))), (1, .int (iI xv)), (2, .int (iI xkind)), (3, .int (iI xlow)), (4, .int (iI xhigh))]) hx hb dX3_narrowView_103 hl (by decide) rfl (fun ls hl => ?_)
            refine lv_iload hx hb dX3_narrowView_105 (lv_at hl 1 rfl) ?_
            refine q_if_ne hx hb dX3_narrowView_107 (tgt := 127) (by decide) (by omega) (fun c121 => absurd c121 (by omega)) (fun c121 => ?_)
            refine lv_iload hx hb dX3_narrowView_110 (lv_at hl 0 rfl) ?_
            refine q_if_ne hx hb dX3_narrowView_112 (tgt := 127) (by decide) (by omega) (fun c122 => absurd c122 (by omega)) (fun c122 => ?_)
            refine lv_iload_n hx hb dX3_narrowView_115 rfl (lv_at hl 7 rfl) ?_
            refine q_iconst hx hb dX3_narrowView_116 ?_
            refine q_icmp_ne hx hb dX3_narrowView_117 (tgt := 132) (by decide) (by omega) (by omega) (fun c123 => ?_) (fun c123 => ?_)
            · refine lv_aload hx hb dX3_narrowView_132 (lv_at hl 4 rfl) ?_
              refine lv_iload hx hb dX3_narrowView_134 (lv_at hl 3 rfl) ?_
              refine q_put C0 iX1 tyX1 tyX1_ok nmX1 hP hD hS (CP_v hC hb_r1).1 (CP_v hC hb_r1).2 rfl 1 (by decide) flX3_182 rfl rfl rfl rfl (Nat.le_of_ble_eq_true rfl) dX3_narrowView_136 (fun H locs hP hD hS => ?_)
              obtain ⟨F124, eF124⟩ : ∃ z, z = va_up F (gva G xv) (.inr (3, [.ref ((grh G (zvw σ xv))), .int (iI ((turn (zod σ (zvw σ xv)) xlow))), .int (iI (zvh σ xv))])) := ⟨_, rfl⟩
              have hP : va_P D vwCl (va_pl L F124) H := by rw [eF124]; exact hP
              have hD : va_D (AL L s.heap.size) (va_pl L F124) := by rw [eF124]; exact hD
              have hvF : F124 (gva G xv) = (.inr (3, [.ref ((grh G (zvw σ xv))), .int (iI ((turn (zod σ (zvw σ xv)) xlow))), .int (iI (zvh σ xv))])) := by rw [eF124]; exact va_up_self _ _ _
              have hO : OE O F F124 := by rw [eF124]; exact hO.tr (OE1 ((CP_O hC).2.2.2.2.2.1 _ hb_r1.1 hb_r1.2))
              have hC : CP y L F124 O G (sVw σ xv (zvw σ xv) (turn (zod σ (zvw σ xv)) xlow) (zvh σ xv)) := by rw [eF124]; exact CP_vw hC hb_r1 (va_up_self _ _ _) (fun q hq => va_up_ne _ _ hq)
              refine lv_aload hx hb dX3_narrowView_139 (lv_at hl 4 rfl) ?_
              refine lv_iload hx hb dX3_narrowView_141 (lv_at hl 2 rfl) ?_
              refine q_put C0 iX1 tyX1 tyX1_ok nmX1 hP hD hS (CP_v hC hb_r1).1 hvF rfl 2 (by decide) flX3_185 rfl rfl rfl rfl (Nat.le_of_ble_eq_true rfl) dX3_narrowView_143 (fun H locs hP hD hS => ?_)
              obtain ⟨F125, eF125⟩ : ∃ z, z = va_up F124 (gva G xv) (.inr (3, [.ref ((grh G (zvw σ xv))), .int (iI ((turn (zod σ (zvw σ xv)) xlow))), .int (iI (zvh σ xv))])) := ⟨_, rfl⟩
              have hP : va_P D vwCl (va_pl L F125) H := by rw [eF125]; exact hP
              have hD : va_D (AL L s.heap.size) (va_pl L F125) := by rw [eF125]; exact hD
              have hvF : F125 (gva G xv) = (.inr (3, [.ref ((grh G (zvw σ xv))), .int (iI ((turn (zod σ (zvw σ xv)) xlow))), .int (iI (zvh σ xv))])) := by rw [eF125]; exact va_up_self _ _ _
              have hO : OE O F F125 := by rw [eF125]; exact hO.tr (OE1 ((CP_O hC).2.2.2.2.2.1 _ hb_r1.1 hb_r1.2))
              have hC : CP y L F125 O G (sVw (sVw σ xv (zvw σ xv) (turn (zod σ (zvw σ xv)) xlow) (zvh σ xv)) xv (zvw σ xv) (turn (zod σ (zvw σ xv)) xlow) (zvh σ xv)) := by rw [eF125]; exact CP_vw hC hb_r1 (va_up_self _ _ _) (fun q hq => va_up_ne _ _ hq)
              refine lv_aload hx hb dX3_narrowView_146 (lv_at hl 4 rfl) ?_
              refine q_get C0 iX1 hP (CP_v hC hb_r1).1 hvF rfl 0 (by decide) flX3_178 rfl rfl dX3_narrowView_148 ?_
              refine lv_aload hx hb dX3_narrowView_151 (lv_at hl 4 rfl) ?_
              refine q_get C0 iX1 hP (CP_v hC hb_r1).1 hvF rfl 1 (by decide) flX3_182 rfl rfl dX3_narrowView_153 ?_
              refine lv_aload hx hb dX3_narrowView_156 (lv_at hl 4 rfl) ?_
              refine q_get C0 iX1 hP (CP_v hC hb_r1).1 hvF rfl 2 (by decide) flX3_185 rfl rfl dX3_narrowView_158 ?_
              refine q_vS C0 lX3_188 (c_X0_countOfPart l D y L F125 (grh G (zvw σ xv)) (grw G (zvw σ xv)) (zod σ (zvw σ xv)) ((zst σ (zvw σ xv)).1) ((zst σ (zvw σ xv)).2.1) ((zst σ (zvw σ xv)).2.2) (turn (zod σ (zvw σ xv)) xlow) (zvh σ xv) (CP_r hC (hW.2.2.1 xv)) (by omega) (by omega)) ⟨rfl, rfl⟩ rfl hP (CP_r hC (hW.2.2.1 xv)).1 (CP_r hC (hW.2.2.1 xv)).2.1 rfl rfl rfl hl rfl (Nat.le_of_ble_eq_true rfl) dX3_narrowView_161 ⟨Nat.le_of_ble_eq_true rfl, Nat.le_of_ble_eq_true rfl⟩ (fun r126 e_r126 => ?_)
              subst e_r126
              refine W.widen (k := 8) (n := 60) (Nat.le_of_ble_eq_true rfl) (Nat.le_of_ble_eq_true rfl) ?_
              exact vx_ret (q_retMi C0 hret rfl hlk dX3_narrowView_164 hP hD hS (⟨by omega, by omega, (by unfold kR_narrowView; rw [if_neg (by (unfold nRef; (repeat' split) <;> omega)), show nLo σ xv xkind xlow = (turn (zod σ (zvw σ xv)) xlow) by (unfold nLo; (repeat' split) <;> first | rfl | omega), show nHi σ xv xkind xhigh = zvh σ xv by (unfold nHi; (repeat' split) <;> first | rfl | omega)]), O, G, CP_eq hC (by rw [sVw2]; unfold kS_narrowView; rw [if_neg (by (unfold nRef; (repeat' split) <;> omega)), show nLo σ xv xkind xlow = (turn (zod σ (zvw σ xv)) xlow) by (unfold nLo; (repeat' split) <;> first | rfl | omega), show nHi σ xv xkind xhigh = zvh σ xv by (unfold nHi; (repeat' split) <;> first | rfl | omega)]), rfl, Ext0 hO⟩))
            · refine lv_iload hx hb dX3_narrowView_120 (lv_at hl 3 rfl) ?_
              refine lv_iload hx hb dX3_narrowView_122 (lv_at hl 2 rfl) ?_
              refine q_icmp_le hx hb dX3_narrowView_124 (tgt := 132) (by decide) (by omega) (by omega) (fun c127 => ?_) (fun c127 => ?_)
              · refine lv_aload hx hb dX3_narrowView_132 (lv_at hl 4 rfl) ?_
                refine lv_iload hx hb dX3_narrowView_134 (lv_at hl 3 rfl) ?_
                refine q_put C0 iX1 tyX1 tyX1_ok nmX1 hP hD hS (CP_v hC hb_r1).1 (CP_v hC hb_r1).2 rfl 1 (by decide) flX3_182 rfl rfl rfl rfl (Nat.le_of_ble_eq_true rfl) dX3_narrowView_136 (fun H locs hP hD hS => ?_)
                obtain ⟨F128, eF128⟩ : ∃ z, z = va_up F (gva G xv) (.inr (3, [.ref ((grh G (zvw σ xv))), .int (iI ((turn (zod σ (zvw σ xv)) xlow))), .int (iI (zvh σ xv))])) := ⟨_, rfl⟩
                have hP : va_P D vwCl (va_pl L F128) H := by rw [eF128]; exact hP
                have hD : va_D (AL L s.heap.size) (va_pl L F128) := by rw [eF128]; exact hD
                have hvF : F128 (gva G xv) = (.inr (3, [.ref ((grh G (zvw σ xv))), .int (iI ((turn (zod σ (zvw σ xv)) xlow))), .int (iI (zvh σ xv))])) := by rw [eF128]; exact va_up_self _ _ _
                have hO : OE O F F128 := by rw [eF128]; exact hO.tr (OE1 ((CP_O hC).2.2.2.2.2.1 _ hb_r1.1 hb_r1.2))
                have hC : CP y L F128 O G (sVw σ xv (zvw σ xv) (turn (zod σ (zvw σ xv)) xlow) (zvh σ xv)) := by rw [eF128]; exact CP_vw hC hb_r1 (va_up_self _ _ _) (fun q hq => va_up_ne _ _ hq)
                refine lv_aload hx hb dX3_narrowView_139 (lv_at hl 4 rfl) ?_
                refine lv_iload hx hb dX3_narrowView_141 (lv_at hl 2 rfl) ?_
                refine q_put C0 iX1 tyX1 tyX1_ok nmX1 hP hD hS (CP_v hC hb_r1).1 hvF rfl 2 (by decide) flX3_185 rfl rfl rfl rfl (Nat.le_of_ble_eq_true rfl) dX3_narrowView_143 (fun H locs hP hD hS => ?_)
                obtain ⟨F129, eF129⟩ : ∃ z, z = va_up F128 (gva G xv) (.inr (3, [.ref ((grh G (zvw σ xv))), .int (iI ((turn (zod σ (zvw σ xv)) xlow))), .int (iI (zvh σ xv))])) := ⟨_, rfl⟩
                have hP : va_P D vwCl (va_pl L F129) H := by rw [eF129]; exact hP
                have hD : va_D (AL L s.heap.size) (va_pl L F129) := by rw [eF129]; exact hD
                have hvF : F129 (gva G xv) = (.inr (3, [.ref ((grh G (zvw σ xv))), .int (iI ((turn (zod σ (zvw σ xv)) xlow))), .int (iI (zvh σ xv))])) := by rw [eF129]; exact va_up_self _ _ _
                have hO : OE O F F129 := by rw [eF129]; exact hO.tr (OE1 ((CP_O hC).2.2.2.2.2.1 _ hb_r1.1 hb_r1.2))
                have hC : CP y L F129 O G (sVw (sVw σ xv (zvw σ xv) (turn (zod σ (zvw σ xv)) xlow) (zvh σ xv)) xv (zvw σ xv) (turn (zod σ (zvw σ xv)) xlow) (zvh σ xv)) := by rw [eF129]; exact CP_vw hC hb_r1 (va_up_self _ _ _) (fun q hq => va_up_ne _ _ hq)
                refine lv_aload hx hb dX3_narrowView_146 (lv_at hl 4 rfl) ?_
                refine q_get C0 iX1 hP (CP_v hC hb_r1).1 hvF rfl 0 (by decide) flX3_178 rfl rfl dX3_narrowView_148 ?_
                refine lv_aload hx hb dX3_narrowView_151 (lv_at hl 4 rfl) ?_
                refine q_get C0 iX1 hP (CP_v hC hb_r1).1 hvF rfl 1 (by decide) flX3_182 rfl rfl dX3_narrowView_153 ?_
                refine lv_aload hx hb dX3_narrowView_156 (lv_at hl 4 rfl) ?_
                refine q_get C0 iX1 hP (CP_v hC hb_r1).1 hvF rfl 2 (by decide) flX3_185 rfl rfl dX3_narrowView_158 ?_
                refine q_vS C0 lX3_188 (c_X0_countOfPart l D y L F129 (grh G (zvw σ xv)) (grw G (zvw σ xv)) (zod σ (zvw σ xv)) ((zst σ (zvw σ xv)).1) ((zst σ (zvw σ xv)).2.1) ((zst σ (zvw σ xv)).2.2) (turn (zod σ (zvw σ xv)) xlow) (zvh σ xv) (CP_r hC (hW.2.2.1 xv)) (by omega) (by omega)) ⟨rfl, rfl⟩ rfl hP (CP_r hC (hW.2.2.1 xv)).1 (CP_r hC (hW.2.2.1 xv)).2.1 rfl rfl rfl hl rfl (Nat.le_of_ble_eq_true rfl) dX3_narrowView_161 ⟨Nat.le_of_ble_eq_true rfl, Nat.le_of_ble_eq_true rfl⟩ (fun r130 e_r130 => ?_)
                subst e_r130
                refine W.widen (k := 8) (n := 60) (Nat.le_of_ble_eq_true rfl) (Nat.le_of_ble_eq_true rfl) ?_
                exact vx_ret (q_retMi C0 hret rfl hlk dX3_narrowView_164 hP hD hS (⟨by omega, by omega, (by unfold kR_narrowView; rw [if_neg (by (unfold nRef; (repeat' split) <;> omega)), show nLo σ xv xkind xlow = (turn (zod σ (zvw σ xv)) xlow) by (unfold nLo; (repeat' split) <;> first | rfl | omega), show nHi σ xv xkind xhigh = zvh σ xv by (unfold nHi; (repeat' split) <;> first | rfl | omega)]), O, G, CP_eq hC (by rw [sVw2]; unfold kS_narrowView; rw [if_neg (by (unfold nRef; (repeat' split) <;> omega)), show nLo σ xv xkind xlow = (turn (zod σ (zvw σ xv)) xlow) by (unfold nLo; (repeat' split) <;> first | rfl | omega), show nHi σ xv xkind xhigh = zvh σ xv by (unfold nHi; (repeat' split) <;> first | rfl | omega)]), rfl, Ext0 hO⟩))
              · refine lv_aload_n hx hb dX3_narrowView_127 rfl (lv_at hl 5 rfl) ?_
                refine q_vMi C0 lX3_63 (c_X3_refuse l D y L F _ O G σ hC) ⟨rfl, rfl⟩ rfl hP hD hS hA hC.1.1 hC.1.2 rfl rfl rfl hl rfl (Nat.le_of_ble_eq_true rfl) dX3_narrowView_128 ⟨Nat.le_of_ble_eq_true rfl, Nat.le_of_ble_eq_true rfl⟩ (fun r131 H locs L132 F132 hP hD hS hz132 hp132 => ?_)
                obtain ⟨eL, hC, er, hO1⟩ := hp132
                subst eL
                subst er
                have hO := hO.tr hO1
                refine W.widen (k := 8) (n := 60) (Nat.le_of_ble_eq_true rfl) (Nat.le_of_ble_eq_true rfl) ?_
                exact vx_ret (q_retMi C0 hret rfl hlk dX3_narrowView_131 hP hD hS (⟨by omega, by omega, (by unfold kR_narrowView; rw [if_pos (by unfold nRef; (repeat' split) <;> first | rfl | omega)]), O, G, CP_eq hC (by unfold kS_narrowView; rw [if_pos (by unfold nRef; (repeat' split) <;> first | rfl | omega)]), rfl, Ext0 hO⟩))
          · refine lv_aload hx hb dX3_narrowView_88 (lv_at hl 3 rfl) ?_
            refine lv_iload hx hb dX3_narrowView_90 (lv_at hl 1 rfl) ?_
            refine q_vS C0 lX3_191 (c_X1_isWithin l D y L F (gva G xv) (grh G (zvw σ xv)) (zvl σ xv) (zvh σ xv) (zvh σ xv) (CP_v hC hb_r1).1 (CP_v hC hb_r1).2 (by omega) (by omega) (by omega)) ⟨rfl, rfl⟩ rfl hP (CP_v hC hb_r1).1 (CP_v hC hb_r1).2 rfl rfl rfl hl rfl (Nat.le_of_ble_eq_true rfl) dX3_narrowView_92 ⟨Nat.le_of_ble_eq_true rfl, Nat.le_of_ble_eq_true rfl⟩ (fun r133 e_r133 => ?_)
            subst e_r133
            refine q_if_ne hx hb dX3_narrowView_95 (tgt := 102) (by decide) (by omega) (fun c134 => ?_) (fun c134 => ?_)
            · refine q_iconst hx hb dX3_narrowView_102 ?_
              refine lv_istore (lv' := [(9, .int (iI 0)), (8, .int (iI 0)), (7, .int (iI (zvh σ xv))), (6, .int (iI ((turn (zod σ (zvw σ xv)) xlow)))), (5, .ref ((gva G xv))), (0, .ref ((gbg G))), (1, .int (iI xv)), (2, .int (iI xkind)), (3, .int (iI xlow)), (4, .int (iI xhigh))]) hx hb dX3_narrowView_103 hl (by decide) rfl (fun ls hl => ?_)
              refine lv_iload hx hb dX3_narrowView_105 (lv_at hl 1 rfl) ?_
              refine q_if_ne hx hb dX3_narrowView_107 (tgt := 127) (by decide) (by omega) (fun c135 => absurd c135 (by omega)) (fun c135 => ?_)
              refine lv_iload hx hb dX3_narrowView_110 (lv_at hl 0 rfl) ?_
              refine q_if_ne hx hb dX3_narrowView_112 (tgt := 127) (by decide) (by omega) (fun c136 => absurd c136 (by omega)) (fun c136 => ?_)
              refine lv_iload_n hx hb dX3_narrowView_115 rfl (lv_at hl 7 rfl) ?_
              refine q_iconst hx hb dX3_narrowView_116 ?_
              refine q_icmp_ne hx hb dX3_narrowView_117 (tgt := 132) (by decide) (by omega) (by omega) (fun c137 => ?_) (fun c137 => ?_)
              · refine lv_aload hx hb dX3_narrowView_132 (lv_at hl 4 rfl) ?_
                refine lv_iload hx hb dX3_narrowView_134 (lv_at hl 3 rfl) ?_
                refine q_put C0 iX1 tyX1 tyX1_ok nmX1 hP hD hS (CP_v hC hb_r1).1 (CP_v hC hb_r1).2 rfl 1 (by decide) flX3_182 rfl rfl rfl rfl (Nat.le_of_ble_eq_true rfl) dX3_narrowView_136 (fun H locs hP hD hS => ?_)
                obtain ⟨F138, eF138⟩ : ∃ z, z = va_up F (gva G xv) (.inr (3, [.ref ((grh G (zvw σ xv))), .int (iI ((turn (zod σ (zvw σ xv)) xlow))), .int (iI (zvh σ xv))])) := ⟨_, rfl⟩
                have hP : va_P D vwCl (va_pl L F138) H := by rw [eF138]; exact hP
                have hD : va_D (AL L s.heap.size) (va_pl L F138) := by rw [eF138]; exact hD
                have hvF : F138 (gva G xv) = (.inr (3, [.ref ((grh G (zvw σ xv))), .int (iI ((turn (zod σ (zvw σ xv)) xlow))), .int (iI (zvh σ xv))])) := by rw [eF138]; exact va_up_self _ _ _
                have hO : OE O F F138 := by rw [eF138]; exact hO.tr (OE1 ((CP_O hC).2.2.2.2.2.1 _ hb_r1.1 hb_r1.2))
                have hC : CP y L F138 O G (sVw σ xv (zvw σ xv) (turn (zod σ (zvw σ xv)) xlow) (zvh σ xv)) := by rw [eF138]; exact CP_vw hC hb_r1 (va_up_self _ _ _) (fun q hq => va_up_ne _ _ hq)
                refine lv_aload hx hb dX3_narrowView_139 (lv_at hl 4 rfl) ?_
                refine lv_iload hx hb dX3_narrowView_141 (lv_at hl 2 rfl) ?_
                refine q_put C0 iX1 tyX1 tyX1_ok nmX1 hP hD hS (CP_v hC hb_r1).1 hvF rfl 2 (by decide) flX3_185 rfl rfl rfl rfl (Nat.le_of_ble_eq_true rfl) dX3_narrowView_143 (fun H locs hP hD hS => ?_)
                obtain ⟨F139, eF139⟩ : ∃ z, z = va_up F138 (gva G xv) (.inr (3, [.ref ((grh G (zvw σ xv))), .int (iI ((turn (zod σ (zvw σ xv)) xlow))), .int (iI (zvh σ xv))])) := ⟨_, rfl⟩
                have hP : va_P D vwCl (va_pl L F139) H := by rw [eF139]; exact hP
                have hD : va_D (AL L s.heap.size) (va_pl L F139) := by rw [eF139]; exact hD
                have hvF : F139 (gva G xv) = (.inr (3, [.ref ((grh G (zvw σ xv))), .int (iI ((turn (zod σ (zvw σ xv)) xlow))), .int (iI (zvh σ xv))])) := by rw [eF139]; exact va_up_self _ _ _
                have hO : OE O F F139 := by rw [eF139]; exact hO.tr (OE1 ((CP_O hC).2.2.2.2.2.1 _ hb_r1.1 hb_r1.2))
                have hC : CP y L F139 O G (sVw (sVw σ xv (zvw σ xv) (turn (zod σ (zvw σ xv)) xlow) (zvh σ xv)) xv (zvw σ xv) (turn (zod σ (zvw σ xv)) xlow) (zvh σ xv)) := by rw [eF139]; exact CP_vw hC hb_r1 (va_up_self _ _ _) (fun q hq => va_up_ne _ _ hq)
                refine lv_aload hx hb dX3_narrowView_146 (lv_at hl 4 rfl) ?_
                refine q_get C0 iX1 hP (CP_v hC hb_r1).1 hvF rfl 0 (by decide) flX3_178 rfl rfl dX3_narrowView_148 ?_
                refine lv_aload hx hb dX3_narrowView_151 (lv_at hl 4 rfl) ?_
                refine q_get C0 iX1 hP (CP_v hC hb_r1).1 hvF rfl 1 (by decide) flX3_182 rfl rfl dX3_narrowView_153 ?_
                refine lv_aload hx hb dX3_narrowView_156 (lv_at hl 4 rfl) ?_
                refine q_get C0 iX1 hP (CP_v hC hb_r1).1 hvF rfl 2 (by decide) flX3_185 rfl rfl dX3_narrowView_158 ?_
                refine q_vS C0 lX3_188 (c_X0_countOfPart l D y L F139 (grh G (zvw σ xv)) (grw G (zvw σ xv)) (zod σ (zvw σ xv)) ((zst σ (zvw σ xv)).1) ((zst σ (zvw σ xv)).2.1) ((zst σ (zvw σ xv)).2.2) (turn (zod σ (zvw σ xv)) xlow) (zvh σ xv) (CP_r hC (hW.2.2.1 xv)) (by omega) (by omega)) ⟨rfl, rfl⟩ rfl hP (CP_r hC (hW.2.2.1 xv)).1 (CP_r hC (hW.2.2.1 xv)).2.1 rfl rfl rfl hl rfl (Nat.le_of_ble_eq_true rfl) dX3_narrowView_161 ⟨Nat.le_of_ble_eq_true rfl, Nat.le_of_ble_eq_true rfl⟩ (fun r140 e_r140 => ?_)
                subst e_r140
                refine W.widen (k := 8) (n := 60) (Nat.le_of_ble_eq_true rfl) (Nat.le_of_ble_eq_true rfl) ?_
                exact vx_ret (q_retMi C0 hret rfl hlk dX3_narrowView_164 hP hD hS (⟨by omega, by omega, (by unfold kR_narrowView; rw [if_neg (by (unfold nRef; (repeat' split) <;> omega)), show nLo σ xv xkind xlow = (turn (zod σ (zvw σ xv)) xlow) by (unfold nLo; (repeat' split) <;> first | rfl | omega), show nHi σ xv xkind xhigh = zvh σ xv by (unfold nHi; (repeat' split) <;> first | rfl | omega)]), O, G, CP_eq hC (by rw [sVw2]; unfold kS_narrowView; rw [if_neg (by (unfold nRef; (repeat' split) <;> omega)), show nLo σ xv xkind xlow = (turn (zod σ (zvw σ xv)) xlow) by (unfold nLo; (repeat' split) <;> first | rfl | omega), show nHi σ xv xkind xhigh = zvh σ xv by (unfold nHi; (repeat' split) <;> first | rfl | omega)]), rfl, Ext0 hO⟩))
              · refine lv_iload hx hb dX3_narrowView_120 (lv_at hl 3 rfl) ?_
                refine lv_iload hx hb dX3_narrowView_122 (lv_at hl 2 rfl) ?_
                refine q_icmp_le hx hb dX3_narrowView_124 (tgt := 132) (by decide) (by omega) (by omega) (fun c141 => ?_) (fun c141 => ?_)
                · refine lv_aload hx hb dX3_narrowView_132 (lv_at hl 4 rfl) ?_
                  refine lv_iload hx hb dX3_narrowView_134 (lv_at hl 3 rfl) ?_
                  refine q_put C0 iX1 tyX1 tyX1_ok nmX1 hP hD hS (CP_v hC hb_r1).1 (CP_v hC hb_r1).2 rfl 1 (by decide) flX3_182 rfl rfl rfl rfl (Nat.le_of_ble_eq_true rfl) dX3_narrowView_136 (fun H locs hP hD hS => ?_)
                  obtain ⟨F142, eF142⟩ : ∃ z, z = va_up F (gva G xv) (.inr (3, [.ref ((grh G (zvw σ xv))), .int (iI ((turn (zod σ (zvw σ xv)) xlow))), .int (iI (zvh σ xv))])) := ⟨_, rfl⟩
                  have hP : va_P D vwCl (va_pl L F142) H := by rw [eF142]; exact hP
                  have hD : va_D (AL L s.heap.size) (va_pl L F142) := by rw [eF142]; exact hD
                  have hvF : F142 (gva G xv) = (.inr (3, [.ref ((grh G (zvw σ xv))), .int (iI ((turn (zod σ (zvw σ xv)) xlow))), .int (iI (zvh σ xv))])) := by rw [eF142]; exact va_up_self _ _ _
                  have hO : OE O F F142 := by rw [eF142]; exact hO.tr (OE1 ((CP_O hC).2.2.2.2.2.1 _ hb_r1.1 hb_r1.2))
                  have hC : CP y L F142 O G (sVw σ xv (zvw σ xv) (turn (zod σ (zvw σ xv)) xlow) (zvh σ xv)) := by rw [eF142]; exact CP_vw hC hb_r1 (va_up_self _ _ _) (fun q hq => va_up_ne _ _ hq)
                  refine lv_aload hx hb dX3_narrowView_139 (lv_at hl 4 rfl) ?_
                  refine lv_iload hx hb dX3_narrowView_141 (lv_at hl 2 rfl) ?_
                  refine q_put C0 iX1 tyX1 tyX1_ok nmX1 hP hD hS (CP_v hC hb_r1).1 hvF rfl 2 (by decide) flX3_185 rfl rfl rfl rfl (Nat.le_of_ble_eq_true rfl) dX3_narrowView_143 (fun H locs hP hD hS => ?_)
                  obtain ⟨F143, eF143⟩ : ∃ z, z = va_up F142 (gva G xv) (.inr (3, [.ref ((grh G (zvw σ xv))), .int (iI ((turn (zod σ (zvw σ xv)) xlow))), .int (iI (zvh σ xv))])) := ⟨_, rfl⟩
                  have hP : va_P D vwCl (va_pl L F143) H := by rw [eF143]; exact hP
                  have hD : va_D (AL L s.heap.size) (va_pl L F143) := by rw [eF143]; exact hD
                  have hvF : F143 (gva G xv) = (.inr (3, [.ref ((grh G (zvw σ xv))), .int (iI ((turn (zod σ (zvw σ xv)) xlow))), .int (iI (zvh σ xv))])) := by rw [eF143]; exact va_up_self _ _ _
                  have hO : OE O F F143 := by rw [eF143]; exact hO.tr (OE1 ((CP_O hC).2.2.2.2.2.1 _ hb_r1.1 hb_r1.2))
                  have hC : CP y L F143 O G (sVw (sVw σ xv (zvw σ xv) (turn (zod σ (zvw σ xv)) xlow) (zvh σ xv)) xv (zvw σ xv) (turn (zod σ (zvw σ xv)) xlow) (zvh σ xv)) := by rw [eF143]; exact CP_vw hC hb_r1 (va_up_self _ _ _) (fun q hq => va_up_ne _ _ hq)
                  refine lv_aload hx hb dX3_narrowView_146 (lv_at hl 4 rfl) ?_
                  refine q_get C0 iX1 hP (CP_v hC hb_r1).1 hvF rfl 0 (by decide) flX3_178 rfl rfl dX3_narrowView_148 ?_
                  refine lv_aload hx hb dX3_narrowView_151 (lv_at hl 4 rfl) ?_
                  refine q_get C0 iX1 hP (CP_v hC hb_r1).1 hvF rfl 1 (by decide) flX3_182 rfl rfl dX3_narrowView_153 ?_
                  refine lv_aload hx hb dX3_narrowView_156 (lv_at hl 4 rfl) ?_
                  refine q_get C0 iX1 hP (CP_v hC hb_r1).1 hvF rfl 2 (by decide) flX3_185 rfl rfl dX3_narrowView_158 ?_
                  refine q_vS C0 lX3_188 (c_X0_countOfPart l D y L F143 (grh G (zvw σ xv)) (grw G (zvw σ xv)) (zod σ (zvw σ xv)) ((zst σ (zvw σ xv)).1) ((zst σ (zvw σ xv)).2.1) ((zst σ (zvw σ xv)).2.2) (turn (zod σ (zvw σ xv)) xlow) (zvh σ xv) (CP_r hC (hW.2.2.1 xv)) (by omega) (by omega)) ⟨rfl, rfl⟩ rfl hP (CP_r hC (hW.2.2.1 xv)).1 (CP_r hC (hW.2.2.1 xv)).2.1 rfl rfl rfl hl rfl (Nat.le_of_ble_eq_true rfl) dX3_narrowView_161 ⟨Nat.le_of_ble_eq_true rfl, Nat.le_of_ble_eq_true rfl⟩ (fun r144 e_r144 => ?_)
                  subst e_r144
                  refine W.widen (k := 8) (n := 60) (Nat.le_of_ble_eq_true rfl) (Nat.le_of_ble_eq_true rfl) ?_
                  exact vx_ret (q_retMi C0 hret rfl hlk dX3_narrowView_164 hP hD hS (⟨by omega, by omega, (by unfold kR_narrowView; rw [if_neg (by (unfold nRef; (repeat' split) <;> omega)), show nLo σ xv xkind xlow = (turn (zod σ (zvw σ xv)) xlow) by (unfold nLo; (repeat' split) <;> first | rfl | omega), show nHi σ xv xkind xhigh = zvh σ xv by (unfold nHi; (repeat' split) <;> first | rfl | omega)]), O, G, CP_eq hC (by rw [sVw2]; unfold kS_narrowView; rw [if_neg (by (unfold nRef; (repeat' split) <;> omega)), show nLo σ xv xkind xlow = (turn (zod σ (zvw σ xv)) xlow) by (unfold nLo; (repeat' split) <;> first | rfl | omega), show nHi σ xv xkind xhigh = zvh σ xv by (unfold nHi; (repeat' split) <;> first | rfl | omega)]), rfl, Ext0 hO⟩))
                · refine lv_aload_n hx hb dX3_narrowView_127 rfl (lv_at hl 5 rfl) ?_
                  refine q_vMi C0 lX3_63 (c_X3_refuse l D y L F _ O G σ hC) ⟨rfl, rfl⟩ rfl hP hD hS hA hC.1.1 hC.1.2 rfl rfl rfl hl rfl (Nat.le_of_ble_eq_true rfl) dX3_narrowView_128 ⟨Nat.le_of_ble_eq_true rfl, Nat.le_of_ble_eq_true rfl⟩ (fun r145 H locs L146 F146 hP hD hS hz146 hp146 => ?_)
                  obtain ⟨eL, hC, er, hO1⟩ := hp146
                  subst eL
                  subst er
                  have hO := hO.tr hO1
                  refine W.widen (k := 8) (n := 60) (Nat.le_of_ble_eq_true rfl) (Nat.le_of_ble_eq_true rfl) ?_
                  exact vx_ret (q_retMi C0 hret rfl hlk dX3_narrowView_131 hP hD hS (⟨by omega, by omega, (by unfold kR_narrowView; rw [if_pos (by unfold nRef; (repeat' split) <;> first | rfl | omega)]), O, G, CP_eq hC (by unfold kS_narrowView; rw [if_pos (by unfold nRef; (repeat' split) <;> first | rfl | omega)]), rfl, Ext0 hO⟩))
            · refine q_iconst hx hb dX3_narrowView_98 ?_
              refine lv_goto (tgt := 103) hx hb dX3_narrowView_99 (by decide) ?_
              refine lv_istore (lv' := [(9, .int (iI 1)), (8, .int (iI 0)), (7, .int (iI (zvh σ xv))), (6, .int (iI ((turn (zod σ (zvw σ xv)) xlow)))), (5, .ref ((gva G xv))), (0, .ref ((gbg G))), (1, .int (iI xv)), (2, .int (iI xkind)), (3, .int (iI xlow)), (4, .int (iI xhigh))]) hx hb dX3_narrowView_103 hl (by decide) rfl (fun ls hl => ?_)
              refine lv_iload hx hb dX3_narrowView_105 (lv_at hl 1 rfl) ?_
              refine q_if_ne hx hb dX3_narrowView_107 (tgt := 127) (by decide) (by omega) (fun c147 => absurd c147 (by omega)) (fun c147 => ?_)
              refine lv_iload hx hb dX3_narrowView_110 (lv_at hl 0 rfl) ?_
              refine q_if_ne hx hb dX3_narrowView_112 (tgt := 127) (by decide) (by omega) (fun c148 => ?_) (fun c148 => absurd c148 (by omega))
              refine lv_aload_n hx hb dX3_narrowView_127 rfl (lv_at hl 5 rfl) ?_
              refine q_vMi C0 lX3_63 (c_X3_refuse l D y L F _ O G σ hC) ⟨rfl, rfl⟩ rfl hP hD hS hA hC.1.1 hC.1.2 rfl rfl rfl hl rfl (Nat.le_of_ble_eq_true rfl) dX3_narrowView_128 ⟨Nat.le_of_ble_eq_true rfl, Nat.le_of_ble_eq_true rfl⟩ (fun r149 H locs L150 F150 hP hD hS hz150 hp150 => ?_)
              obtain ⟨eL, hC, er, hO1⟩ := hp150
              subst eL
              subst er
              have hO := hO.tr hO1
              refine W.widen (k := 8) (n := 60) (Nat.le_of_ble_eq_true rfl) (Nat.le_of_ble_eq_true rfl) ?_
              exact vx_ret (q_retMi C0 hret rfl hlk dX3_narrowView_131 hP hD hS (⟨by omega, by omega, (by unfold kR_narrowView; rw [if_pos (by unfold nRef; (repeat' split) <;> first | rfl | omega)]), O, G, CP_eq hC (by unfold kS_narrowView; rw [if_pos (by unfold nRef; (repeat' split) <;> first | rfl | omega)]), rfl, Ext0 hO⟩))
        · refine q_iconst hx hb dX3_narrowView_76 ?_
          refine lv_goto (tgt := 81) hx hb dX3_narrowView_77 (by decide) ?_
          refine lv_istore (lv' := [(8, .int (iI 1)), (7, .int (iI (zvh σ xv))), (6, .int (iI ((turn (zod σ (zvw σ xv)) xlow)))), (5, .ref ((gva G xv))), (0, .ref ((gbg G))), (1, .int (iI xv)), (2, .int (iI xkind)), (3, .int (iI xlow)), (4, .int (iI xhigh))]) hx hb dX3_narrowView_81 hl (by decide) rfl (fun ls hl => ?_)
          refine lv_iload_n hx hb dX3_narrowView_83 rfl (lv_at hl 6 rfl) ?_
          refine q_iconst hx hb dX3_narrowView_84 ?_
          refine q_icmp_eq hx hb dX3_narrowView_85 (tgt := 102) (by decide) (by omega) (by omega) (fun c151 => ?_) (fun c151 => ?_)
          · refine q_iconst hx hb dX3_narrowView_102 ?_
            refine lv_istore (lv' := [(9, .int (iI 0)), (8, .int (iI 1)), (7, .int (iI (zvh σ xv))), (6, .int (iI ((turn (zod σ (zvw σ xv)) xlow)))), (5, .ref ((gva G xv))), (0, .ref ((gbg G))), (1, .int (iI xv)), (2, .int (iI xkind)), (3, .int (iI xlow)), (4, .int (iI xhigh))]) hx hb dX3_narrowView_103 hl (by decide) rfl (fun ls hl => ?_)
            refine lv_iload hx hb dX3_narrowView_105 (lv_at hl 1 rfl) ?_
            refine q_if_ne hx hb dX3_narrowView_107 (tgt := 127) (by decide) (by omega) (fun c152 => ?_) (fun c152 => absurd c152 (by omega))
            refine lv_aload_n hx hb dX3_narrowView_127 rfl (lv_at hl 5 rfl) ?_
            refine q_vMi C0 lX3_63 (c_X3_refuse l D y L F _ O G σ hC) ⟨rfl, rfl⟩ rfl hP hD hS hA hC.1.1 hC.1.2 rfl rfl rfl hl rfl (Nat.le_of_ble_eq_true rfl) dX3_narrowView_128 ⟨Nat.le_of_ble_eq_true rfl, Nat.le_of_ble_eq_true rfl⟩ (fun r153 H locs L154 F154 hP hD hS hz154 hp154 => ?_)
            obtain ⟨eL, hC, er, hO1⟩ := hp154
            subst eL
            subst er
            have hO := hO.tr hO1
            refine W.widen (k := 8) (n := 60) (Nat.le_of_ble_eq_true rfl) (Nat.le_of_ble_eq_true rfl) ?_
            exact vx_ret (q_retMi C0 hret rfl hlk dX3_narrowView_131 hP hD hS (⟨by omega, by omega, (by unfold kR_narrowView; rw [if_pos (by unfold nRef; (repeat' split) <;> first | rfl | omega)]), O, G, CP_eq hC (by unfold kS_narrowView; rw [if_pos (by unfold nRef; (repeat' split) <;> first | rfl | omega)]), rfl, Ext0 hO⟩))
          · refine lv_aload hx hb dX3_narrowView_88 (lv_at hl 3 rfl) ?_
            refine lv_iload hx hb dX3_narrowView_90 (lv_at hl 1 rfl) ?_
            refine q_vS C0 lX3_191 (c_X1_isWithin l D y L F (gva G xv) (grh G (zvw σ xv)) (zvl σ xv) (zvh σ xv) (zvh σ xv) (CP_v hC hb_r1).1 (CP_v hC hb_r1).2 (by omega) (by omega) (by omega)) ⟨rfl, rfl⟩ rfl hP (CP_v hC hb_r1).1 (CP_v hC hb_r1).2 rfl rfl rfl hl rfl (Nat.le_of_ble_eq_true rfl) dX3_narrowView_92 ⟨Nat.le_of_ble_eq_true rfl, Nat.le_of_ble_eq_true rfl⟩ (fun r155 e_r155 => ?_)
            subst e_r155
            refine q_if_ne hx hb dX3_narrowView_95 (tgt := 102) (by decide) (by omega) (fun c156 => ?_) (fun c156 => ?_)
            · refine q_iconst hx hb dX3_narrowView_102 ?_
              refine lv_istore (lv' := [(9, .int (iI 0)), (8, .int (iI 1)), (7, .int (iI (zvh σ xv))), (6, .int (iI ((turn (zod σ (zvw σ xv)) xlow)))), (5, .ref ((gva G xv))), (0, .ref ((gbg G))), (1, .int (iI xv)), (2, .int (iI xkind)), (3, .int (iI xlow)), (4, .int (iI xhigh))]) hx hb dX3_narrowView_103 hl (by decide) rfl (fun ls hl => ?_)
              refine lv_iload hx hb dX3_narrowView_105 (lv_at hl 1 rfl) ?_
              refine q_if_ne hx hb dX3_narrowView_107 (tgt := 127) (by decide) (by omega) (fun c157 => ?_) (fun c157 => absurd c157 (by omega))
              refine lv_aload_n hx hb dX3_narrowView_127 rfl (lv_at hl 5 rfl) ?_
              refine q_vMi C0 lX3_63 (c_X3_refuse l D y L F _ O G σ hC) ⟨rfl, rfl⟩ rfl hP hD hS hA hC.1.1 hC.1.2 rfl rfl rfl hl rfl (Nat.le_of_ble_eq_true rfl) dX3_narrowView_128 ⟨Nat.le_of_ble_eq_true rfl, Nat.le_of_ble_eq_true rfl⟩ (fun r158 H locs L159 F159 hP hD hS hz159 hp159 => ?_)
              obtain ⟨eL, hC, er, hO1⟩ := hp159
              subst eL
              subst er
              have hO := hO.tr hO1
              refine W.widen (k := 8) (n := 60) (Nat.le_of_ble_eq_true rfl) (Nat.le_of_ble_eq_true rfl) ?_
              exact vx_ret (q_retMi C0 hret rfl hlk dX3_narrowView_131 hP hD hS (⟨by omega, by omega, (by unfold kR_narrowView; rw [if_pos (by unfold nRef; (repeat' split) <;> first | rfl | omega)]), O, G, CP_eq hC (by unfold kS_narrowView; rw [if_pos (by unfold nRef; (repeat' split) <;> first | rfl | omega)]), rfl, Ext0 hO⟩))
            · refine q_iconst hx hb dX3_narrowView_98 ?_
              refine lv_goto (tgt := 103) hx hb dX3_narrowView_99 (by decide) ?_
              refine lv_istore (lv' := [(9, .int (iI 1)), (8, .int (iI 1)), (7, .int (iI (zvh σ xv))), (6, .int (iI ((turn (zod σ (zvw σ xv)) xlow)))), (5, .ref ((gva G xv))), (0, .ref ((gbg G))), (1, .int (iI xv)), (2, .int (iI xkind)), (3, .int (iI xlow)), (4, .int (iI xhigh))]) hx hb dX3_narrowView_103 hl (by decide) rfl (fun ls hl => ?_)
              refine lv_iload hx hb dX3_narrowView_105 (lv_at hl 1 rfl) ?_
              refine q_if_ne hx hb dX3_narrowView_107 (tgt := 127) (by decide) (by omega) (fun c160 => ?_) (fun c160 => absurd c160 (by omega))
              refine lv_aload_n hx hb dX3_narrowView_127 rfl (lv_at hl 5 rfl) ?_
              refine q_vMi C0 lX3_63 (c_X3_refuse l D y L F _ O G σ hC) ⟨rfl, rfl⟩ rfl hP hD hS hA hC.1.1 hC.1.2 rfl rfl rfl hl rfl (Nat.le_of_ble_eq_true rfl) dX3_narrowView_128 ⟨Nat.le_of_ble_eq_true rfl, Nat.le_of_ble_eq_true rfl⟩ (fun r161 H locs L162 F162 hP hD hS hz162 hp162 => ?_)
              obtain ⟨eL, hC, er, hO1⟩ := hp162
              subst eL
              subst er
              have hO := hO.tr hO1
              refine W.widen (k := 8) (n := 60) (Nat.le_of_ble_eq_true rfl) (Nat.le_of_ble_eq_true rfl) ?_
              exact vx_ret (q_retMi C0 hret rfl hlk dX3_narrowView_131 hP hD hS (⟨by omega, by omega, (by unfold kR_narrowView; rw [if_pos (by unfold nRef; (repeat' split) <;> first | rfl | omega)]), O, G, CP_eq hC (by unfold kS_narrowView; rw [if_pos (by unfold nRef; (repeat' split) <;> first | rfl | omega)]), rfl, Ext0 hO⟩))
  · refine lv_aload hx hb dX3_narrowView_18 (lv_at hl 0 rfl) ?_
    refine q_get C0 iX1 hP (CP_v hC hb_r1).1 (CP_v hC hb_r1).2 rfl 1 (by decide) flX3_182 rfl rfl dX3_narrowView_20 ?_
    refine lv_goto (tgt := 35) hx hb dX3_narrowView_23 (by decide) ?_
    refine lv_istore (lv' := [(6, .int (iI (zvl σ xv))), (5, .ref ((gva G xv))), (0, .ref ((gbg G))), (1, .int (iI xv)), (2, .int (iI xkind)), (3, .int (iI xlow)), (4, .int (iI xhigh))]) hx hb dX3_narrowView_35 hl (by decide) rfl (fun ls hl => ?_)
    refine lv_iload_n hx hb dX3_narrowView_37 rfl (lv_at hl 4 rfl) ?_
    refine q_iconst hx hb dX3_narrowView_38 ?_
    refine q_icmp_ne hx hb dX3_narrowView_39 (tgt := 50) (by decide) (by omega) (by omega) (fun c163 => ?_) (fun c163 => ?_)
    · refine lv_aload hx hb dX3_narrowView_50 (lv_at hl 1 rfl) ?_
      refine q_get C0 iX1 hP (CP_v hC hb_r1).1 (CP_v hC hb_r1).2 rfl 0 (by decide) flX3_178 rfl rfl dX3_narrowView_52 ?_
      refine lv_iload hx hb dX3_narrowView_55 (lv_at hl 6 rfl) ?_
      refine q_vS C0 lX3_70 (c_X0_rankOf l D y L F (grh G (zvw σ xv)) (grw G (zvw σ xv)) (zod σ (zvw σ xv)) ((zst σ (zvw σ xv)).1) ((zst σ (zvw σ xv)).2.1) ((zst σ (zvw σ xv)).2.2) xhigh (CP_r hC (hW.2.2.1 xv)) (by omega)) ⟨rfl, rfl⟩ rfl hP (CP_r hC (hW.2.2.1 xv)).1 (CP_r hC (hW.2.2.1 xv)).2.1 rfl rfl rfl hl rfl (Nat.le_of_ble_eq_true rfl) dX3_narrowView_57 ⟨Nat.le_of_ble_eq_true rfl, Nat.le_of_ble_eq_true rfl⟩ (fun r164 e_r164 => ?_)
      subst e_r164
      have b_165 := @turn_b (zod σ (zvw σ xv)) xhigh (by omega)
      refine lv_istore (lv' := [(7, .int (iI ((turn (zod σ (zvw σ xv)) xhigh)))), (6, .int (iI (zvl σ xv))), (5, .ref ((gva G xv))), (0, .ref ((gbg G))), (1, .int (iI xv)), (2, .int (iI xkind)), (3, .int (iI xlow)), (4, .int (iI xhigh))]) hx hb dX3_narrowView_60 hl (by decide) rfl (fun ls hl => ?_)
      refine lv_iload_n hx hb dX3_narrowView_62 rfl (lv_at hl 5 rfl) ?_
      refine q_if_eq hx hb dX3_narrowView_63 (tgt := 80) (by decide) (by omega) (fun c166 => ?_) (fun c166 => ?_)
      · refine q_iconst hx hb dX3_narrowView_80 ?_
        refine lv_istore (lv' := [(8, .int (iI 0)), (7, .int (iI ((turn (zod σ (zvw σ xv)) xhigh)))), (6, .int (iI (zvl σ xv))), (5, .ref ((gva G xv))), (0, .ref ((gbg G))), (1, .int (iI xv)), (2, .int (iI xkind)), (3, .int (iI xlow)), (4, .int (iI xhigh))]) hx hb dX3_narrowView_81 hl (by decide) rfl (fun ls hl => ?_)
        refine lv_iload_n hx hb dX3_narrowView_83 rfl (lv_at hl 6 rfl) ?_
        refine q_iconst hx hb dX3_narrowView_84 ?_
        refine q_icmp_eq hx hb dX3_narrowView_85 (tgt := 102) (by decide) (by omega) (by omega) (fun c167 => ?_) (fun c167 => ?_)
        · refine q_iconst hx hb dX3_narrowView_102 ?_
          refine lv_istore (lv' := [(9, .int (iI 0)), (8, .int (iI 0)), (7, .int (iI ((turn (zod σ (zvw σ xv)) xhigh)))), (6, .int (iI (zvl σ xv))), (5, .ref ((gva G xv))), (0, .ref ((gbg G))), (1, .int (iI xv)), (2, .int (iI xkind)), (3, .int (iI xlow)), (4, .int (iI xhigh))]) hx hb dX3_narrowView_103 hl (by decide) rfl (fun ls hl => ?_)
          refine lv_iload hx hb dX3_narrowView_105 (lv_at hl 1 rfl) ?_
          refine q_if_ne hx hb dX3_narrowView_107 (tgt := 127) (by decide) (by omega) (fun c168 => absurd c168 (by omega)) (fun c168 => ?_)
          refine lv_iload hx hb dX3_narrowView_110 (lv_at hl 0 rfl) ?_
          refine q_if_ne hx hb dX3_narrowView_112 (tgt := 127) (by decide) (by omega) (fun c169 => absurd c169 (by omega)) (fun c169 => ?_)
          refine lv_iload_n hx hb dX3_narrowView_115 rfl (lv_at hl 7 rfl) ?_
          refine q_iconst hx hb dX3_narrowView_116 ?_
          refine q_icmp_ne hx hb dX3_narrowView_117 (tgt := 132) (by decide) (by omega) (by omega) (fun c170 => ?_) (fun c170 => ?_)
          · refine lv_aload hx hb dX3_narrowView_132 (lv_at hl 4 rfl) ?_
            refine lv_iload hx hb dX3_narrowView_134 (lv_at hl 3 rfl) ?_
            refine q_put C0 iX1 tyX1 tyX1_ok nmX1 hP hD hS (CP_v hC hb_r1).1 (CP_v hC hb_r1).2 rfl 1 (by decide) flX3_182 rfl rfl rfl rfl (Nat.le_of_ble_eq_true rfl) dX3_narrowView_136 (fun H locs hP hD hS => ?_)
            obtain ⟨F171, eF171⟩ : ∃ z, z = va_up F (gva G xv) (.inr (3, [.ref ((grh G (zvw σ xv))), .int (iI (zvl σ xv)), .int (iI (zvh σ xv))])) := ⟨_, rfl⟩
            have hP : va_P D vwCl (va_pl L F171) H := by rw [eF171]; exact hP
            have hD : va_D (AL L s.heap.size) (va_pl L F171) := by rw [eF171]; exact hD
            have hvF : F171 (gva G xv) = (.inr (3, [.ref ((grh G (zvw σ xv))), .int (iI (zvl σ xv)), .int (iI (zvh σ xv))])) := by rw [eF171]; exact va_up_self _ _ _
            have hO : OE O F F171 := by rw [eF171]; exact hO.tr (OE1 ((CP_O hC).2.2.2.2.2.1 _ hb_r1.1 hb_r1.2))
            have hC : CP y L F171 O G (sVw σ xv (zvw σ xv) (zvl σ xv) (zvh σ xv)) := by rw [eF171]; exact CP_vw hC hb_r1 (va_up_self _ _ _) (fun q hq => va_up_ne _ _ hq)
            refine lv_aload hx hb dX3_narrowView_139 (lv_at hl 4 rfl) ?_
            refine lv_iload hx hb dX3_narrowView_141 (lv_at hl 2 rfl) ?_
            refine q_put C0 iX1 tyX1 tyX1_ok nmX1 hP hD hS (CP_v hC hb_r1).1 hvF rfl 2 (by decide) flX3_185 rfl rfl rfl rfl (Nat.le_of_ble_eq_true rfl) dX3_narrowView_143 (fun H locs hP hD hS => ?_)
            obtain ⟨F172, eF172⟩ : ∃ z, z = va_up F171 (gva G xv) (.inr (3, [.ref ((grh G (zvw σ xv))), .int (iI (zvl σ xv)), .int (iI ((turn (zod σ (zvw σ xv)) xhigh)))])) := ⟨_, rfl⟩
            have hP : va_P D vwCl (va_pl L F172) H := by rw [eF172]; exact hP
            have hD : va_D (AL L s.heap.size) (va_pl L F172) := by rw [eF172]; exact hD
            have hvF : F172 (gva G xv) = (.inr (3, [.ref ((grh G (zvw σ xv))), .int (iI (zvl σ xv)), .int (iI ((turn (zod σ (zvw σ xv)) xhigh)))])) := by rw [eF172]; exact va_up_self _ _ _
            have hO : OE O F F172 := by rw [eF172]; exact hO.tr (OE1 ((CP_O hC).2.2.2.2.2.1 _ hb_r1.1 hb_r1.2))
            have hC : CP y L F172 O G (sVw (sVw σ xv (zvw σ xv) (zvl σ xv) (zvh σ xv)) xv (zvw σ xv) (zvl σ xv) (turn (zod σ (zvw σ xv)) xhigh)) := by rw [eF172]; exact CP_vw hC hb_r1 (va_up_self _ _ _) (fun q hq => va_up_ne _ _ hq)
            refine lv_aload hx hb dX3_narrowView_146 (lv_at hl 4 rfl) ?_
            refine q_get C0 iX1 hP (CP_v hC hb_r1).1 hvF rfl 0 (by decide) flX3_178 rfl rfl dX3_narrowView_148 ?_
            refine lv_aload hx hb dX3_narrowView_151 (lv_at hl 4 rfl) ?_
            refine q_get C0 iX1 hP (CP_v hC hb_r1).1 hvF rfl 1 (by decide) flX3_182 rfl rfl dX3_narrowView_153 ?_
            refine lv_aload hx hb dX3_narrowView_156 (lv_at hl 4 rfl) ?_
            refine q_get C0 iX1 hP (CP_v hC hb_r1).1 hvF rfl 2 (by decide) flX3_185 rfl rfl dX3_narrowView_158 ?_
            refine q_vS C0 lX3_188 (c_X0_countOfPart l D y L F172 (grh G (zvw σ xv)) (grw G (zvw σ xv)) (zod σ (zvw σ xv)) ((zst σ (zvw σ xv)).1) ((zst σ (zvw σ xv)).2.1) ((zst σ (zvw σ xv)).2.2) (zvl σ xv) (turn (zod σ (zvw σ xv)) xhigh) (CP_r hC (hW.2.2.1 xv)) (by omega) (by omega)) ⟨rfl, rfl⟩ rfl hP (CP_r hC (hW.2.2.1 xv)).1 (CP_r hC (hW.2.2.1 xv)).2.1 rfl rfl rfl hl rfl (Nat.le_of_ble_eq_true rfl) dX3_narrowView_161 ⟨Nat.le_of_ble_eq_true rfl, Nat.le_of_ble_eq_true rfl⟩ (fun r173 e_r173 => ?_)
            subst e_r173
            refine W.widen (k := 8) (n := 60) (Nat.le_of_ble_eq_true rfl) (Nat.le_of_ble_eq_true rfl) ?_
            exact vx_ret (q_retMi C0 hret rfl hlk dX3_narrowView_164 hP hD hS (⟨by omega, by omega, (by unfold kR_narrowView; rw [if_neg (by (unfold nRef; (repeat' split) <;> omega)), show nLo σ xv xkind xlow = zvl σ xv by (unfold nLo; (repeat' split) <;> first | rfl | omega), show nHi σ xv xkind xhigh = (turn (zod σ (zvw σ xv)) xhigh) by (unfold nHi; (repeat' split) <;> first | rfl | omega)]), O, G, CP_eq hC (by rw [sVw2]; unfold kS_narrowView; rw [if_neg (by (unfold nRef; (repeat' split) <;> omega)), show nLo σ xv xkind xlow = zvl σ xv by (unfold nLo; (repeat' split) <;> first | rfl | omega), show nHi σ xv xkind xhigh = (turn (zod σ (zvw σ xv)) xhigh) by (unfold nHi; (repeat' split) <;> first | rfl | omega)]), rfl, Ext0 hO⟩))
          · refine lv_iload hx hb dX3_narrowView_120 (lv_at hl 3 rfl) ?_
            refine lv_iload hx hb dX3_narrowView_122 (lv_at hl 2 rfl) ?_
            refine q_icmp_le hx hb dX3_narrowView_124 (tgt := 132) (by decide) (by omega) (by omega) (fun c174 => ?_) (fun c174 => ?_)
            · refine lv_aload hx hb dX3_narrowView_132 (lv_at hl 4 rfl) ?_
              refine lv_iload hx hb dX3_narrowView_134 (lv_at hl 3 rfl) ?_
              refine q_put C0 iX1 tyX1 tyX1_ok nmX1 hP hD hS (CP_v hC hb_r1).1 (CP_v hC hb_r1).2 rfl 1 (by decide) flX3_182 rfl rfl rfl rfl (Nat.le_of_ble_eq_true rfl) dX3_narrowView_136 (fun H locs hP hD hS => ?_)
              obtain ⟨F175, eF175⟩ : ∃ z, z = va_up F (gva G xv) (.inr (3, [.ref ((grh G (zvw σ xv))), .int (iI (zvl σ xv)), .int (iI (zvh σ xv))])) := ⟨_, rfl⟩
              have hP : va_P D vwCl (va_pl L F175) H := by rw [eF175]; exact hP
              have hD : va_D (AL L s.heap.size) (va_pl L F175) := by rw [eF175]; exact hD
              have hvF : F175 (gva G xv) = (.inr (3, [.ref ((grh G (zvw σ xv))), .int (iI (zvl σ xv)), .int (iI (zvh σ xv))])) := by rw [eF175]; exact va_up_self _ _ _
              have hO : OE O F F175 := by rw [eF175]; exact hO.tr (OE1 ((CP_O hC).2.2.2.2.2.1 _ hb_r1.1 hb_r1.2))
              have hC : CP y L F175 O G (sVw σ xv (zvw σ xv) (zvl σ xv) (zvh σ xv)) := by rw [eF175]; exact CP_vw hC hb_r1 (va_up_self _ _ _) (fun q hq => va_up_ne _ _ hq)
              refine lv_aload hx hb dX3_narrowView_139 (lv_at hl 4 rfl) ?_
              refine lv_iload hx hb dX3_narrowView_141 (lv_at hl 2 rfl) ?_
              refine q_put C0 iX1 tyX1 tyX1_ok nmX1 hP hD hS (CP_v hC hb_r1).1 hvF rfl 2 (by decide) flX3_185 rfl rfl rfl rfl (Nat.le_of_ble_eq_true rfl) dX3_narrowView_143 (fun H locs hP hD hS => ?_)
              obtain ⟨F176, eF176⟩ : ∃ z, z = va_up F175 (gva G xv) (.inr (3, [.ref ((grh G (zvw σ xv))), .int (iI (zvl σ xv)), .int (iI ((turn (zod σ (zvw σ xv)) xhigh)))])) := ⟨_, rfl⟩
              have hP : va_P D vwCl (va_pl L F176) H := by rw [eF176]; exact hP
              have hD : va_D (AL L s.heap.size) (va_pl L F176) := by rw [eF176]; exact hD
              have hvF : F176 (gva G xv) = (.inr (3, [.ref ((grh G (zvw σ xv))), .int (iI (zvl σ xv)), .int (iI ((turn (zod σ (zvw σ xv)) xhigh)))])) := by rw [eF176]; exact va_up_self _ _ _
              have hO : OE O F F176 := by rw [eF176]; exact hO.tr (OE1 ((CP_O hC).2.2.2.2.2.1 _ hb_r1.1 hb_r1.2))
              have hC : CP y L F176 O G (sVw (sVw σ xv (zvw σ xv) (zvl σ xv) (zvh σ xv)) xv (zvw σ xv) (zvl σ xv) (turn (zod σ (zvw σ xv)) xhigh)) := by rw [eF176]; exact CP_vw hC hb_r1 (va_up_self _ _ _) (fun q hq => va_up_ne _ _ hq)
              refine lv_aload hx hb dX3_narrowView_146 (lv_at hl 4 rfl) ?_
              refine q_get C0 iX1 hP (CP_v hC hb_r1).1 hvF rfl 0 (by decide) flX3_178 rfl rfl dX3_narrowView_148 ?_
              refine lv_aload hx hb dX3_narrowView_151 (lv_at hl 4 rfl) ?_
              refine q_get C0 iX1 hP (CP_v hC hb_r1).1 hvF rfl 1 (by decide) flX3_182 rfl rfl dX3_narrowView_153 ?_
              refine lv_aload hx hb dX3_narrowView_156 (lv_at hl 4 rfl) ?_
              refine q_get C0 iX1 hP (CP_v hC hb_r1).1 hvF rfl 2 (by decide) flX3_185 rfl rfl dX3_narrowView_158 ?_
              refine q_vS C0 lX3_188 (c_X0_countOfPart l D y L F176 (grh G (zvw σ xv)) (grw G (zvw σ xv)) (zod σ (zvw σ xv)) ((zst σ (zvw σ xv)).1) ((zst σ (zvw σ xv)).2.1) ((zst σ (zvw σ xv)).2.2) (zvl σ xv) (turn (zod σ (zvw σ xv)) xhigh) (CP_r hC (hW.2.2.1 xv)) (by omega) (by omega)) ⟨rfl, rfl⟩ rfl hP (CP_r hC (hW.2.2.1 xv)).1 (CP_r hC (hW.2.2.1 xv)).2.1 rfl rfl rfl hl rfl (Nat.le_of_ble_eq_true rfl) dX3_narrowView_161 ⟨Nat.le_of_ble_eq_true rfl, Nat.le_of_ble_eq_true rfl⟩ (fun r177 e_r177 => ?_)
              subst e_r177
              refine W.widen (k := 8) (n := 60) (Nat.le_of_ble_eq_true rfl) (Nat.le_of_ble_eq_true rfl) ?_
              exact vx_ret (q_retMi C0 hret rfl hlk dX3_narrowView_164 hP hD hS (⟨by omega, by omega, (by unfold kR_narrowView; rw [if_neg (by (unfold nRef; (repeat' split) <;> omega)), show nLo σ xv xkind xlow = zvl σ xv by (unfold nLo; (repeat' split) <;> first | rfl | omega), show nHi σ xv xkind xhigh = (turn (zod σ (zvw σ xv)) xhigh) by (unfold nHi; (repeat' split) <;> first | rfl | omega)]), O, G, CP_eq hC (by rw [sVw2]; unfold kS_narrowView; rw [if_neg (by (unfold nRef; (repeat' split) <;> omega)), show nLo σ xv xkind xlow = zvl σ xv by (unfold nLo; (repeat' split) <;> first | rfl | omega), show nHi σ xv xkind xhigh = (turn (zod σ (zvw σ xv)) xhigh) by (unfold nHi; (repeat' split) <;> first | rfl | omega)]), rfl, Ext0 hO⟩))
            · refine lv_aload_n hx hb dX3_narrowView_127 rfl (lv_at hl 5 rfl) ?_
              refine q_vMi C0 lX3_63 (c_X3_refuse l D y L F _ O G σ hC) ⟨rfl, rfl⟩ rfl hP hD hS hA hC.1.1 hC.1.2 rfl rfl rfl hl rfl (Nat.le_of_ble_eq_true rfl) dX3_narrowView_128 ⟨Nat.le_of_ble_eq_true rfl, Nat.le_of_ble_eq_true rfl⟩ (fun r178 H locs L179 F179 hP hD hS hz179 hp179 => ?_)
              obtain ⟨eL, hC, er, hO1⟩ := hp179
              subst eL
              subst er
              have hO := hO.tr hO1
              refine W.widen (k := 8) (n := 60) (Nat.le_of_ble_eq_true rfl) (Nat.le_of_ble_eq_true rfl) ?_
              exact vx_ret (q_retMi C0 hret rfl hlk dX3_narrowView_131 hP hD hS (⟨by omega, by omega, (by unfold kR_narrowView; rw [if_pos (by unfold nRef; (repeat' split) <;> first | rfl | omega)]), O, G, CP_eq hC (by unfold kS_narrowView; rw [if_pos (by unfold nRef; (repeat' split) <;> first | rfl | omega)]), rfl, Ext0 hO⟩))
        · refine lv_aload hx hb dX3_narrowView_88 (lv_at hl 3 rfl) ?_
          refine lv_iload hx hb dX3_narrowView_90 (lv_at hl 1 rfl) ?_
          refine q_vS C0 lX3_191 (c_X1_isWithin l D y L F (gva G xv) (grh G (zvw σ xv)) (zvl σ xv) (zvh σ xv) (turn (zod σ (zvw σ xv)) xhigh) (CP_v hC hb_r1).1 (CP_v hC hb_r1).2 (by omega) (by omega) (by omega)) ⟨rfl, rfl⟩ rfl hP (CP_v hC hb_r1).1 (CP_v hC hb_r1).2 rfl rfl rfl hl rfl (Nat.le_of_ble_eq_true rfl) dX3_narrowView_92 ⟨Nat.le_of_ble_eq_true rfl, Nat.le_of_ble_eq_true rfl⟩ (fun r180 e_r180 => ?_)
          subst e_r180
          refine q_if_ne hx hb dX3_narrowView_95 (tgt := 102) (by decide) (by omega) (fun c181 => ?_) (fun c181 => ?_)
          · refine q_iconst hx hb dX3_narrowView_102 ?_
            refine lv_istore (lv' := [(9, .int (iI 0)), (8, .int (iI 0)), (7, .int (iI ((turn (zod σ (zvw σ xv)) xhigh)))), (6, .int (iI (zvl σ xv))), (5, .ref ((gva G xv))), (0, .ref ((gbg G))), (1, .int (iI xv)), (2, .int (iI xkind)), (3, .int (iI xlow)), (4, .int (iI xhigh))]) hx hb dX3_narrowView_103 hl (by decide) rfl (fun ls hl => ?_)
            refine lv_iload hx hb dX3_narrowView_105 (lv_at hl 1 rfl) ?_
            refine q_if_ne hx hb dX3_narrowView_107 (tgt := 127) (by decide) (by omega) (fun c182 => absurd c182 (by omega)) (fun c182 => ?_)
            refine lv_iload hx hb dX3_narrowView_110 (lv_at hl 0 rfl) ?_
            refine q_if_ne hx hb dX3_narrowView_112 (tgt := 127) (by decide) (by omega) (fun c183 => absurd c183 (by omega)) (fun c183 => ?_)
            refine lv_iload_n hx hb dX3_narrowView_115 rfl (lv_at hl 7 rfl) ?_
            refine q_iconst hx hb dX3_narrowView_116 ?_
            refine q_icmp_ne hx hb dX3_narrowView_117 (tgt := 132) (by decide) (by omega) (by omega) (fun c184 => ?_) (fun c184 => ?_)
            · refine lv_aload hx hb dX3_narrowView_132 (lv_at hl 4 rfl) ?_
              refine lv_iload hx hb dX3_narrowView_134 (lv_at hl 3 rfl) ?_
              refine q_put C0 iX1 tyX1 tyX1_ok nmX1 hP hD hS (CP_v hC hb_r1).1 (CP_v hC hb_r1).2 rfl 1 (by decide) flX3_182 rfl rfl rfl rfl (Nat.le_of_ble_eq_true rfl) dX3_narrowView_136 (fun H locs hP hD hS => ?_)
              obtain ⟨F185, eF185⟩ : ∃ z, z = va_up F (gva G xv) (.inr (3, [.ref ((grh G (zvw σ xv))), .int (iI (zvl σ xv)), .int (iI (zvh σ xv))])) := ⟨_, rfl⟩
              have hP : va_P D vwCl (va_pl L F185) H := by rw [eF185]; exact hP
              have hD : va_D (AL L s.heap.size) (va_pl L F185) := by rw [eF185]; exact hD
              have hvF : F185 (gva G xv) = (.inr (3, [.ref ((grh G (zvw σ xv))), .int (iI (zvl σ xv)), .int (iI (zvh σ xv))])) := by rw [eF185]; exact va_up_self _ _ _
              have hO : OE O F F185 := by rw [eF185]; exact hO.tr (OE1 ((CP_O hC).2.2.2.2.2.1 _ hb_r1.1 hb_r1.2))
              have hC : CP y L F185 O G (sVw σ xv (zvw σ xv) (zvl σ xv) (zvh σ xv)) := by rw [eF185]; exact CP_vw hC hb_r1 (va_up_self _ _ _) (fun q hq => va_up_ne _ _ hq)
              refine lv_aload hx hb dX3_narrowView_139 (lv_at hl 4 rfl) ?_
              refine lv_iload hx hb dX3_narrowView_141 (lv_at hl 2 rfl) ?_
              refine q_put C0 iX1 tyX1 tyX1_ok nmX1 hP hD hS (CP_v hC hb_r1).1 hvF rfl 2 (by decide) flX3_185 rfl rfl rfl rfl (Nat.le_of_ble_eq_true rfl) dX3_narrowView_143 (fun H locs hP hD hS => ?_)
              obtain ⟨F186, eF186⟩ : ∃ z, z = va_up F185 (gva G xv) (.inr (3, [.ref ((grh G (zvw σ xv))), .int (iI (zvl σ xv)), .int (iI ((turn (zod σ (zvw σ xv)) xhigh)))])) := ⟨_, rfl⟩
              have hP : va_P D vwCl (va_pl L F186) H := by rw [eF186]; exact hP
              have hD : va_D (AL L s.heap.size) (va_pl L F186) := by rw [eF186]; exact hD
              have hvF : F186 (gva G xv) = (.inr (3, [.ref ((grh G (zvw σ xv))), .int (iI (zvl σ xv)), .int (iI ((turn (zod σ (zvw σ xv)) xhigh)))])) := by rw [eF186]; exact va_up_self _ _ _
              have hO : OE O F F186 := by rw [eF186]; exact hO.tr (OE1 ((CP_O hC).2.2.2.2.2.1 _ hb_r1.1 hb_r1.2))
              have hC : CP y L F186 O G (sVw (sVw σ xv (zvw σ xv) (zvl σ xv) (zvh σ xv)) xv (zvw σ xv) (zvl σ xv) (turn (zod σ (zvw σ xv)) xhigh)) := by rw [eF186]; exact CP_vw hC hb_r1 (va_up_self _ _ _) (fun q hq => va_up_ne _ _ hq)
              refine lv_aload hx hb dX3_narrowView_146 (lv_at hl 4 rfl) ?_
              refine q_get C0 iX1 hP (CP_v hC hb_r1).1 hvF rfl 0 (by decide) flX3_178 rfl rfl dX3_narrowView_148 ?_
              refine lv_aload hx hb dX3_narrowView_151 (lv_at hl 4 rfl) ?_
              refine q_get C0 iX1 hP (CP_v hC hb_r1).1 hvF rfl 1 (by decide) flX3_182 rfl rfl dX3_narrowView_153 ?_
              refine lv_aload hx hb dX3_narrowView_156 (lv_at hl 4 rfl) ?_
              refine q_get C0 iX1 hP (CP_v hC hb_r1).1 hvF rfl 2 (by decide) flX3_185 rfl rfl dX3_narrowView_158 ?_
              refine q_vS C0 lX3_188 (c_X0_countOfPart l D y L F186 (grh G (zvw σ xv)) (grw G (zvw σ xv)) (zod σ (zvw σ xv)) ((zst σ (zvw σ xv)).1) ((zst σ (zvw σ xv)).2.1) ((zst σ (zvw σ xv)).2.2) (zvl σ xv) (turn (zod σ (zvw σ xv)) xhigh) (CP_r hC (hW.2.2.1 xv)) (by omega) (by omega)) ⟨rfl, rfl⟩ rfl hP (CP_r hC (hW.2.2.1 xv)).1 (CP_r hC (hW.2.2.1 xv)).2.1 rfl rfl rfl hl rfl (Nat.le_of_ble_eq_true rfl) dX3_narrowView_161 ⟨Nat.le_of_ble_eq_true rfl, Nat.le_of_ble_eq_true rfl⟩ (fun r187 e_r187 => ?_)
              subst e_r187
              refine W.widen (k := 8) (n := 60) (Nat.le_of_ble_eq_true rfl) (Nat.le_of_ble_eq_true rfl) ?_
              exact vx_ret (q_retMi C0 hret rfl hlk dX3_narrowView_164 hP hD hS (⟨by omega, by omega, (by unfold kR_narrowView; rw [if_neg (by (unfold nRef; (repeat' split) <;> omega)), show nLo σ xv xkind xlow = zvl σ xv by (unfold nLo; (repeat' split) <;> first | rfl | omega), show nHi σ xv xkind xhigh = (turn (zod σ (zvw σ xv)) xhigh) by (unfold nHi; (repeat' split) <;> first | rfl | omega)]), O, G, CP_eq hC (by rw [sVw2]; unfold kS_narrowView; rw [if_neg (by (unfold nRef; (repeat' split) <;> omega)), show nLo σ xv xkind xlow = zvl σ xv by (unfold nLo; (repeat' split) <;> first | rfl | omega), show nHi σ xv xkind xhigh = (turn (zod σ (zvw σ xv)) xhigh) by (unfold nHi; (repeat' split) <;> first | rfl | omega)]), rfl, Ext0 hO⟩))
            · refine lv_iload hx hb dX3_narrowView_120 (lv_at hl 3 rfl) ?_
              refine lv_iload hx hb dX3_narrowView_122 (lv_at hl 2 rfl) ?_
              refine q_icmp_le hx hb dX3_narrowView_124 (tgt := 132) (by decide) (by omega) (by omega) (fun c188 => ?_) (fun c188 => ?_)
              · refine lv_aload hx hb dX3_narrowView_132 (lv_at hl 4 rfl) ?_
                refine lv_iload hx hb dX3_narrowView_134 (lv_at hl 3 rfl) ?_
                refine q_put C0 iX1 tyX1 tyX1_ok nmX1 hP hD hS (CP_v hC hb_r1).1 (CP_v hC hb_r1).2 rfl 1 (by decide) flX3_182 rfl rfl rfl rfl (Nat.le_of_ble_eq_true rfl) dX3_narrowView_136 (fun H locs hP hD hS => ?_)
                obtain ⟨F189, eF189⟩ : ∃ z, z = va_up F (gva G xv) (.inr (3, [.ref ((grh G (zvw σ xv))), .int (iI (zvl σ xv)), .int (iI (zvh σ xv))])) := ⟨_, rfl⟩
                have hP : va_P D vwCl (va_pl L F189) H := by rw [eF189]; exact hP
                have hD : va_D (AL L s.heap.size) (va_pl L F189) := by rw [eF189]; exact hD
                have hvF : F189 (gva G xv) = (.inr (3, [.ref ((grh G (zvw σ xv))), .int (iI (zvl σ xv)), .int (iI (zvh σ xv))])) := by rw [eF189]; exact va_up_self _ _ _
                have hO : OE O F F189 := by rw [eF189]; exact hO.tr (OE1 ((CP_O hC).2.2.2.2.2.1 _ hb_r1.1 hb_r1.2))
                have hC : CP y L F189 O G (sVw σ xv (zvw σ xv) (zvl σ xv) (zvh σ xv)) := by rw [eF189]; exact CP_vw hC hb_r1 (va_up_self _ _ _) (fun q hq => va_up_ne _ _ hq)
                refine lv_aload hx hb dX3_narrowView_139 (lv_at hl 4 rfl) ?_
                refine lv_iload hx hb dX3_narrowView_141 (lv_at hl 2 rfl) ?_
                refine q_put C0 iX1 tyX1 tyX1_ok nmX1 hP hD hS (CP_v hC hb_r1).1 hvF rfl 2 (by decide) flX3_185 rfl rfl rfl rfl (Nat.le_of_ble_eq_true rfl) dX3_narrowView_143 (fun H locs hP hD hS => ?_)
                obtain ⟨F190, eF190⟩ : ∃ z, z = va_up F189 (gva G xv) (.inr (3, [.ref ((grh G (zvw σ xv))), .int (iI (zvl σ xv)), .int (iI ((turn (zod σ (zvw σ xv)) xhigh)))])) := ⟨_, rfl⟩
                have hP : va_P D vwCl (va_pl L F190) H := by rw [eF190]; exact hP
                have hD : va_D (AL L s.heap.size) (va_pl L F190) := by rw [eF190]; exact hD
                have hvF : F190 (gva G xv) = (.inr (3, [.ref ((grh G (zvw σ xv))), .int (iI (zvl σ xv)), .int (iI ((turn (zod σ (zvw σ xv)) xhigh)))])) := by rw [eF190]; exact va_up_self _ _ _
                have hO : OE O F F190 := by rw [eF190]; exact hO.tr (OE1 ((CP_O hC).2.2.2.2.2.1 _ hb_r1.1 hb_r1.2))
                have hC : CP y L F190 O G (sVw (sVw σ xv (zvw σ xv) (zvl σ xv) (zvh σ xv)) xv (zvw σ xv) (zvl σ xv) (turn (zod σ (zvw σ xv)) xhigh)) := by rw [eF190]; exact CP_vw hC hb_r1 (va_up_self _ _ _) (fun q hq => va_up_ne _ _ hq)
                refine lv_aload hx hb dX3_narrowView_146 (lv_at hl 4 rfl) ?_
                refine q_get C0 iX1 hP (CP_v hC hb_r1).1 hvF rfl 0 (by decide) flX3_178 rfl rfl dX3_narrowView_148 ?_
                refine lv_aload hx hb dX3_narrowView_151 (lv_at hl 4 rfl) ?_
                refine q_get C0 iX1 hP (CP_v hC hb_r1).1 hvF rfl 1 (by decide) flX3_182 rfl rfl dX3_narrowView_153 ?_
                refine lv_aload hx hb dX3_narrowView_156 (lv_at hl 4 rfl) ?_
                refine q_get C0 iX1 hP (CP_v hC hb_r1).1 hvF rfl 2 (by decide) flX3_185 rfl rfl dX3_narrowView_158 ?_
                refine q_vS C0 lX3_188 (c_X0_countOfPart l D y L F190 (grh G (zvw σ xv)) (grw G (zvw σ xv)) (zod σ (zvw σ xv)) ((zst σ (zvw σ xv)).1) ((zst σ (zvw σ xv)).2.1) ((zst σ (zvw σ xv)).2.2) (zvl σ xv) (turn (zod σ (zvw σ xv)) xhigh) (CP_r hC (hW.2.2.1 xv)) (by omega) (by omega)) ⟨rfl, rfl⟩ rfl hP (CP_r hC (hW.2.2.1 xv)).1 (CP_r hC (hW.2.2.1 xv)).2.1 rfl rfl rfl hl rfl (Nat.le_of_ble_eq_true rfl) dX3_narrowView_161 ⟨Nat.le_of_ble_eq_true rfl, Nat.le_of_ble_eq_true rfl⟩ (fun r191 e_r191 => ?_)
                subst e_r191
                refine W.widen (k := 8) (n := 60) (Nat.le_of_ble_eq_true rfl) (Nat.le_of_ble_eq_true rfl) ?_
                exact vx_ret (q_retMi C0 hret rfl hlk dX3_narrowView_164 hP hD hS (⟨by omega, by omega, (by unfold kR_narrowView; rw [if_neg (by (unfold nRef; (repeat' split) <;> omega)), show nLo σ xv xkind xlow = zvl σ xv by (unfold nLo; (repeat' split) <;> first | rfl | omega), show nHi σ xv xkind xhigh = (turn (zod σ (zvw σ xv)) xhigh) by (unfold nHi; (repeat' split) <;> first | rfl | omega)]), O, G, CP_eq hC (by rw [sVw2]; unfold kS_narrowView; rw [if_neg (by (unfold nRef; (repeat' split) <;> omega)), show nLo σ xv xkind xlow = zvl σ xv by (unfold nLo; (repeat' split) <;> first | rfl | omega), show nHi σ xv xkind xhigh = (turn (zod σ (zvw σ xv)) xhigh) by (unfold nHi; (repeat' split) <;> first | rfl | omega)]), rfl, Ext0 hO⟩))
              · refine lv_aload_n hx hb dX3_narrowView_127 rfl (lv_at hl 5 rfl) ?_
                refine q_vMi C0 lX3_63 (c_X3_refuse l D y L F _ O G σ hC) ⟨rfl, rfl⟩ rfl hP hD hS hA hC.1.1 hC.1.2 rfl rfl rfl hl rfl (Nat.le_of_ble_eq_true rfl) dX3_narrowView_128 ⟨Nat.le_of_ble_eq_true rfl, Nat.le_of_ble_eq_true rfl⟩ (fun r192 H locs L193 F193 hP hD hS hz193 hp193 => ?_)
                obtain ⟨eL, hC, er, hO1⟩ := hp193
                subst eL
                subst er
                have hO := hO.tr hO1
                refine W.widen (k := 8) (n := 60) (Nat.le_of_ble_eq_true rfl) (Nat.le_of_ble_eq_true rfl) ?_
                exact vx_ret (q_retMi C0 hret rfl hlk dX3_narrowView_131 hP hD hS (⟨by omega, by omega, (by unfold kR_narrowView; rw [if_pos (by unfold nRef; (repeat' split) <;> first | rfl | omega)]), O, G, CP_eq hC (by unfold kS_narrowView; rw [if_pos (by unfold nRef; (repeat' split) <;> first | rfl | omega)]), rfl, Ext0 hO⟩))
          · refine q_iconst hx hb dX3_narrowView_98 ?_
            refine lv_goto (tgt := 103) hx hb dX3_narrowView_99 (by decide) ?_
            refine lv_istore (lv' := [(9, .int (iI 1)), (8, .int (iI 0)), (7, .int (iI ((turn (zod σ (zvw σ xv)) xhigh)))), (6, .int (iI (zvl σ xv))), (5, .ref ((gva G xv))), (0, .ref ((gbg G))), (1, .int (iI xv)), (2, .int (iI xkind)), (3, .int (iI xlow)), (4, .int (iI xhigh))]) hx hb dX3_narrowView_103 hl (by decide) rfl (fun ls hl => ?_)
            refine lv_iload hx hb dX3_narrowView_105 (lv_at hl 1 rfl) ?_
            refine q_if_ne hx hb dX3_narrowView_107 (tgt := 127) (by decide) (by omega) (fun c194 => absurd c194 (by omega)) (fun c194 => ?_)
            refine lv_iload hx hb dX3_narrowView_110 (lv_at hl 0 rfl) ?_
            refine q_if_ne hx hb dX3_narrowView_112 (tgt := 127) (by decide) (by omega) (fun c195 => ?_) (fun c195 => absurd c195 (by omega))
            refine lv_aload_n hx hb dX3_narrowView_127 rfl (lv_at hl 5 rfl) ?_
            refine q_vMi C0 lX3_63 (c_X3_refuse l D y L F _ O G σ hC) ⟨rfl, rfl⟩ rfl hP hD hS hA hC.1.1 hC.1.2 rfl rfl rfl hl rfl (Nat.le_of_ble_eq_true rfl) dX3_narrowView_128 ⟨Nat.le_of_ble_eq_true rfl, Nat.le_of_ble_eq_true rfl⟩ (fun r196 H locs L197 F197 hP hD hS hz197 hp197 => ?_)
            obtain ⟨eL, hC, er, hO1⟩ := hp197
            subst eL
            subst er
            have hO := hO.tr hO1
            refine W.widen (k := 8) (n := 60) (Nat.le_of_ble_eq_true rfl) (Nat.le_of_ble_eq_true rfl) ?_
            exact vx_ret (q_retMi C0 hret rfl hlk dX3_narrowView_131 hP hD hS (⟨by omega, by omega, (by unfold kR_narrowView; rw [if_pos (by unfold nRef; (repeat' split) <;> first | rfl | omega)]), O, G, CP_eq hC (by unfold kS_narrowView; rw [if_pos (by unfold nRef; (repeat' split) <;> first | rfl | omega)]), rfl, Ext0 hO⟩))
      · refine lv_aload hx hb dX3_narrowView_66 (lv_at hl 2 rfl) ?_
        refine lv_iload hx hb dX3_narrowView_68 (lv_at hl 1 rfl) ?_
        refine q_vS C0 lX3_191 (c_X1_isWithin l D y L F (gva G xv) (grh G (zvw σ xv)) (zvl σ xv) (zvh σ xv) (zvl σ xv) (CP_v hC hb_r1).1 (CP_v hC hb_r1).2 (by omega) (by omega) (by omega)) ⟨rfl, rfl⟩ rfl hP (CP_v hC hb_r1).1 (CP_v hC hb_r1).2 rfl rfl rfl hl rfl (Nat.le_of_ble_eq_true rfl) dX3_narrowView_70 ⟨Nat.le_of_ble_eq_true rfl, Nat.le_of_ble_eq_true rfl⟩ (fun r198 e_r198 => ?_)
        subst e_r198
        refine q_if_ne hx hb dX3_narrowView_73 (tgt := 80) (by decide) (by omega) (fun c199 => ?_) (fun c199 => ?_)
        · refine q_iconst hx hb dX3_narrowView_80 ?_
          refine lv_istore (lv' := [(8, .int (iI 0)), (7, .int (iI ((turn (zod σ (zvw σ xv)) xhigh)))), (6, .int (iI (zvl σ xv))), (5, .ref ((gva G xv))), (0, .ref ((gbg G))), (1, .int (iI xv)), (2, .int (iI xkind)), (3, .int (iI xlow)), (4, .int (iI xhigh))]) hx hb dX3_narrowView_81 hl (by decide) rfl (fun ls hl => ?_)
          refine lv_iload_n hx hb dX3_narrowView_83 rfl (lv_at hl 6 rfl) ?_
          refine q_iconst hx hb dX3_narrowView_84 ?_
          refine q_icmp_eq hx hb dX3_narrowView_85 (tgt := 102) (by decide) (by omega) (by omega) (fun c200 => ?_) (fun c200 => ?_)
          · refine q_iconst hx hb dX3_narrowView_102 ?_
            refine lv_istore (lv' := [(9, .int (iI 0)), (8, .int (iI 0)), (7, .int (iI ((turn (zod σ (zvw σ xv)) xhigh)))), (6, .int (iI (zvl σ xv))), (5, .ref ((gva G xv))), (0, .ref ((gbg G))), (1, .int (iI xv)), (2, .int (iI xkind)), (3, .int (iI xlow)), (4, .int (iI xhigh))]) hx hb dX3_narrowView_103 hl (by decide) rfl (fun ls hl => ?_)
            refine lv_iload hx hb dX3_narrowView_105 (lv_at hl 1 rfl) ?_
            refine q_if_ne hx hb dX3_narrowView_107 (tgt := 127) (by decide) (by omega) (fun c201 => absurd c201 (by omega)) (fun c201 => ?_)
            refine lv_iload hx hb dX3_narrowView_110 (lv_at hl 0 rfl) ?_
            refine q_if_ne hx hb dX3_narrowView_112 (tgt := 127) (by decide) (by omega) (fun c202 => absurd c202 (by omega)) (fun c202 => ?_)
            refine lv_iload_n hx hb dX3_narrowView_115 rfl (lv_at hl 7 rfl) ?_
            refine q_iconst hx hb dX3_narrowView_116 ?_
            refine q_icmp_ne hx hb dX3_narrowView_117 (tgt := 132) (by decide) (by omega) (by omega) (fun c203 => ?_) (fun c203 => ?_)
            · refine lv_aload hx hb dX3_narrowView_132 (lv_at hl 4 rfl) ?_
              refine lv_iload hx hb dX3_narrowView_134 (lv_at hl 3 rfl) ?_
              refine q_put C0 iX1 tyX1 tyX1_ok nmX1 hP hD hS (CP_v hC hb_r1).1 (CP_v hC hb_r1).2 rfl 1 (by decide) flX3_182 rfl rfl rfl rfl (Nat.le_of_ble_eq_true rfl) dX3_narrowView_136 (fun H locs hP hD hS => ?_)
              obtain ⟨F204, eF204⟩ : ∃ z, z = va_up F (gva G xv) (.inr (3, [.ref ((grh G (zvw σ xv))), .int (iI (zvl σ xv)), .int (iI (zvh σ xv))])) := ⟨_, rfl⟩
              have hP : va_P D vwCl (va_pl L F204) H := by rw [eF204]; exact hP
              have hD : va_D (AL L s.heap.size) (va_pl L F204) := by rw [eF204]; exact hD
              have hvF : F204 (gva G xv) = (.inr (3, [.ref ((grh G (zvw σ xv))), .int (iI (zvl σ xv)), .int (iI (zvh σ xv))])) := by rw [eF204]; exact va_up_self _ _ _
              have hO : OE O F F204 := by rw [eF204]; exact hO.tr (OE1 ((CP_O hC).2.2.2.2.2.1 _ hb_r1.1 hb_r1.2))
              have hC : CP y L F204 O G (sVw σ xv (zvw σ xv) (zvl σ xv) (zvh σ xv)) := by rw [eF204]; exact CP_vw hC hb_r1 (va_up_self _ _ _) (fun q hq => va_up_ne _ _ hq)
              refine lv_aload hx hb dX3_narrowView_139 (lv_at hl 4 rfl) ?_
              refine lv_iload hx hb dX3_narrowView_141 (lv_at hl 2 rfl) ?_
              refine q_put C0 iX1 tyX1 tyX1_ok nmX1 hP hD hS (CP_v hC hb_r1).1 hvF rfl 2 (by decide) flX3_185 rfl rfl rfl rfl (Nat.le_of_ble_eq_true rfl) dX3_narrowView_143 (fun H locs hP hD hS => ?_)
              obtain ⟨F205, eF205⟩ : ∃ z, z = va_up F204 (gva G xv) (.inr (3, [.ref ((grh G (zvw σ xv))), .int (iI (zvl σ xv)), .int (iI ((turn (zod σ (zvw σ xv)) xhigh)))])) := ⟨_, rfl⟩
              have hP : va_P D vwCl (va_pl L F205) H := by rw [eF205]; exact hP
              have hD : va_D (AL L s.heap.size) (va_pl L F205) := by rw [eF205]; exact hD
              have hvF : F205 (gva G xv) = (.inr (3, [.ref ((grh G (zvw σ xv))), .int (iI (zvl σ xv)), .int (iI ((turn (zod σ (zvw σ xv)) xhigh)))])) := by rw [eF205]; exact va_up_self _ _ _
              have hO : OE O F F205 := by rw [eF205]; exact hO.tr (OE1 ((CP_O hC).2.2.2.2.2.1 _ hb_r1.1 hb_r1.2))
              have hC : CP y L F205 O G (sVw (sVw σ xv (zvw σ xv) (zvl σ xv) (zvh σ xv)) xv (zvw σ xv) (zvl σ xv) (turn (zod σ (zvw σ xv)) xhigh)) := by rw [eF205]; exact CP_vw hC hb_r1 (va_up_self _ _ _) (fun q hq => va_up_ne _ _ hq)
              refine lv_aload hx hb dX3_narrowView_146 (lv_at hl 4 rfl) ?_
              refine q_get C0 iX1 hP (CP_v hC hb_r1).1 hvF rfl 0 (by decide) flX3_178 rfl rfl dX3_narrowView_148 ?_
              refine lv_aload hx hb dX3_narrowView_151 (lv_at hl 4 rfl) ?_
              refine q_get C0 iX1 hP (CP_v hC hb_r1).1 hvF rfl 1 (by decide) flX3_182 rfl rfl dX3_narrowView_153 ?_
              refine lv_aload hx hb dX3_narrowView_156 (lv_at hl 4 rfl) ?_
              refine q_get C0 iX1 hP (CP_v hC hb_r1).1 hvF rfl 2 (by decide) flX3_185 rfl rfl dX3_narrowView_158 ?_
              refine q_vS C0 lX3_188 (c_X0_countOfPart l D y L F205 (grh G (zvw σ xv)) (grw G (zvw σ xv)) (zod σ (zvw σ xv)) ((zst σ (zvw σ xv)).1) ((zst σ (zvw σ xv)).2.1) ((zst σ (zvw σ xv)).2.2) (zvl σ xv) (turn (zod σ (zvw σ xv)) xhigh) (CP_r hC (hW.2.2.1 xv)) (by omega) (by omega)) ⟨rfl, rfl⟩ rfl hP (CP_r hC (hW.2.2.1 xv)).1 (CP_r hC (hW.2.2.1 xv)).2.1 rfl rfl rfl hl rfl (Nat.le_of_ble_eq_true rfl) dX3_narrowView_161 ⟨Nat.le_of_ble_eq_true rfl, Nat.le_of_ble_eq_true rfl⟩ (fun r206 e_r206 => ?_)
              subst e_r206
              refine W.widen (k := 8) (n := 60) (Nat.le_of_ble_eq_true rfl) (Nat.le_of_ble_eq_true rfl) ?_
              exact vx_ret (q_retMi C0 hret rfl hlk dX3_narrowView_164 hP hD hS (⟨by omega, by omega, (by unfold kR_narrowView; rw [if_neg (by (unfold nRef; (repeat' split) <;> omega)), show nLo σ xv xkind xlow = zvl σ xv by (unfold nLo; (repeat' split) <;> first | rfl | omega), show nHi σ xv xkind xhigh = (turn (zod σ (zvw σ xv)) xhigh) by (unfold nHi; (repeat' split) <;> first | rfl | omega)]), O, G, CP_eq hC (by rw [sVw2]; unfold kS_narrowView; rw [if_neg (by (unfold nRef; (repeat' split) <;> omega)), show nLo σ xv xkind xlow = zvl σ xv by (unfold nLo; (repeat' split) <;> first | rfl | omega), show nHi σ xv xkind xhigh = (turn (zod σ (zvw σ xv)) xhigh) by (unfold nHi; (repeat' split) <;> first | rfl | omega)]), rfl, Ext0 hO⟩))
            · refine lv_iload hx hb dX3_narrowView_120 (lv_at hl 3 rfl) ?_
              refine lv_iload hx hb dX3_narrowView_122 (lv_at hl 2 rfl) ?_
              refine q_icmp_le hx hb dX3_narrowView_124 (tgt := 132) (by decide) (by omega) (by omega) (fun c207 => ?_) (fun c207 => ?_)
              · refine lv_aload hx hb dX3_narrowView_132 (lv_at hl 4 rfl) ?_
                refine lv_iload hx hb dX3_narrowView_134 (lv_at hl 3 rfl) ?_
                refine q_put C0 iX1 tyX1 tyX1_ok nmX1 hP hD hS (CP_v hC hb_r1).1 (CP_v hC hb_r1).2 rfl 1 (by decide) flX3_182 rfl rfl rfl rfl (Nat.le_of_ble_eq_true rfl) dX3_narrowView_136 (fun H locs hP hD hS => ?_)
                obtain ⟨F208, eF208⟩ : ∃ z, z = va_up F (gva G xv) (.inr (3, [.ref ((grh G (zvw σ xv))), .int (iI (zvl σ xv)), .int (iI (zvh σ xv))])) := ⟨_, rfl⟩
                have hP : va_P D vwCl (va_pl L F208) H := by rw [eF208]; exact hP
                have hD : va_D (AL L s.heap.size) (va_pl L F208) := by rw [eF208]; exact hD
                have hvF : F208 (gva G xv) = (.inr (3, [.ref ((grh G (zvw σ xv))), .int (iI (zvl σ xv)), .int (iI (zvh σ xv))])) := by rw [eF208]; exact va_up_self _ _ _
                have hO : OE O F F208 := by rw [eF208]; exact hO.tr (OE1 ((CP_O hC).2.2.2.2.2.1 _ hb_r1.1 hb_r1.2))
                have hC : CP y L F208 O G (sVw σ xv (zvw σ xv) (zvl σ xv) (zvh σ xv)) := by rw [eF208]; exact CP_vw hC hb_r1 (va_up_self _ _ _) (fun q hq => va_up_ne _ _ hq)
                refine lv_aload hx hb dX3_narrowView_139 (lv_at hl 4 rfl) ?_
                refine lv_iload hx hb dX3_narrowView_141 (lv_at hl 2 rfl) ?_
                refine q_put C0 iX1 tyX1 tyX1_ok nmX1 hP hD hS (CP_v hC hb_r1).1 hvF rfl 2 (by decide) flX3_185 rfl rfl rfl rfl (Nat.le_of_ble_eq_true rfl) dX3_narrowView_143 (fun H locs hP hD hS => ?_)
                obtain ⟨F209, eF209⟩ : ∃ z, z = va_up F208 (gva G xv) (.inr (3, [.ref ((grh G (zvw σ xv))), .int (iI (zvl σ xv)), .int (iI ((turn (zod σ (zvw σ xv)) xhigh)))])) := ⟨_, rfl⟩
                have hP : va_P D vwCl (va_pl L F209) H := by rw [eF209]; exact hP
                have hD : va_D (AL L s.heap.size) (va_pl L F209) := by rw [eF209]; exact hD
                have hvF : F209 (gva G xv) = (.inr (3, [.ref ((grh G (zvw σ xv))), .int (iI (zvl σ xv)), .int (iI ((turn (zod σ (zvw σ xv)) xhigh)))])) := by rw [eF209]; exact va_up_self _ _ _
                have hO : OE O F F209 := by rw [eF209]; exact hO.tr (OE1 ((CP_O hC).2.2.2.2.2.1 _ hb_r1.1 hb_r1.2))
                have hC : CP y L F209 O G (sVw (sVw σ xv (zvw σ xv) (zvl σ xv) (zvh σ xv)) xv (zvw σ xv) (zvl σ xv) (turn (zod σ (zvw σ xv)) xhigh)) := by rw [eF209]; exact CP_vw hC hb_r1 (va_up_self _ _ _) (fun q hq => va_up_ne _ _ hq)
                refine lv_aload hx hb dX3_narrowView_146 (lv_at hl 4 rfl) ?_
                refine q_get C0 iX1 hP (CP_v hC hb_r1).1 hvF rfl 0 (by decide) flX3_178 rfl rfl dX3_narrowView_148 ?_
                refine lv_aload hx hb dX3_narrowView_151 (lv_at hl 4 rfl) ?_
                refine q_get C0 iX1 hP (CP_v hC hb_r1).1 hvF rfl 1 (by decide) flX3_182 rfl rfl dX3_narrowView_153 ?_
                refine lv_aload hx hb dX3_narrowView_156 (lv_at hl 4 rfl) ?_
                refine q_get C0 iX1 hP (CP_v hC hb_r1).1 hvF rfl 2 (by decide) flX3_185 rfl rfl dX3_narrowView_158 ?_
                refine q_vS C0 lX3_188 (c_X0_countOfPart l D y L F209 (grh G (zvw σ xv)) (grw G (zvw σ xv)) (zod σ (zvw σ xv)) ((zst σ (zvw σ xv)).1) ((zst σ (zvw σ xv)).2.1) ((zst σ (zvw σ xv)).2.2) (zvl σ xv) (turn (zod σ (zvw σ xv)) xhigh) (CP_r hC (hW.2.2.1 xv)) (by omega) (by omega)) ⟨rfl, rfl⟩ rfl hP (CP_r hC (hW.2.2.1 xv)).1 (CP_r hC (hW.2.2.1 xv)).2.1 rfl rfl rfl hl rfl (Nat.le_of_ble_eq_true rfl) dX3_narrowView_161 ⟨Nat.le_of_ble_eq_true rfl, Nat.le_of_ble_eq_true rfl⟩ (fun r210 e_r210 => ?_)
                subst e_r210
                refine W.widen (k := 8) (n := 60) (Nat.le_of_ble_eq_true rfl) (Nat.le_of_ble_eq_true rfl) ?_
                exact vx_ret (q_retMi C0 hret rfl hlk dX3_narrowView_164 hP hD hS (⟨by omega, by omega, (by unfold kR_narrowView; rw [if_neg (by (unfold nRef; (repeat' split) <;> omega)), show nLo σ xv xkind xlow = zvl σ xv by (unfold nLo; (repeat' split) <;> first | rfl | omega), show nHi σ xv xkind xhigh = (turn (zod σ (zvw σ xv)) xhigh) by (unfold nHi; (repeat' split) <;> first | rfl | omega)]), O, G, CP_eq hC (by rw [sVw2]; unfold kS_narrowView; rw [if_neg (by (unfold nRef; (repeat' split) <;> omega)), show nLo σ xv xkind xlow = zvl σ xv by (unfold nLo; (repeat' split) <;> first | rfl | omega), show nHi σ xv xkind xhigh = (turn (zod σ (zvw σ xv)) xhigh) by (unfold nHi; (repeat' split) <;> first | rfl | omega)]), rfl, Ext0 hO⟩))
              · refine lv_aload_n hx hb dX3_narrowView_127 rfl (lv_at hl 5 rfl) ?_
                refine q_vMi C0 lX3_63 (c_X3_refuse l D y L F _ O G σ hC) ⟨rfl, rfl⟩ rfl hP hD hS hA hC.1.1 hC.1.2 rfl rfl rfl hl rfl (Nat.le_of_ble_eq_true rfl) dX3_narrowView_128 ⟨Nat.le_of_ble_eq_true rfl, Nat.le_of_ble_eq_true rfl⟩ (fun r211 H locs L212 F212 hP hD hS hz212 hp212 => ?_)
                obtain ⟨eL, hC, er, hO1⟩ := hp212
                subst eL
                subst er
                have hO := hO.tr hO1
                refine W.widen (k := 8) (n := 60) (Nat.le_of_ble_eq_true rfl) (Nat.le_of_ble_eq_true rfl) ?_
                exact vx_ret (q_retMi C0 hret rfl hlk dX3_narrowView_131 hP hD hS (⟨by omega, by omega, (by unfold kR_narrowView; rw [if_pos (by unfold nRef; (repeat' split) <;> first | rfl | omega)]), O, G, CP_eq hC (by unfold kS_narrowView; rw [if_pos (by unfold nRef; (repeat' split) <;> first | rfl | omega)]), rfl, Ext0 hO⟩))
          · refine lv_aload hx hb dX3_narrowView_88 (lv_at hl 3 rfl) ?_
            refine lv_iload hx hb dX3_narrowView_90 (lv_at hl 1 rfl) ?_
            refine q_vS C0 lX3_191 (c_X1_isWithin l D y L F (gva G xv) (grh G (zvw σ xv)) (zvl σ xv) (zvh σ xv) (turn (zod σ (zvw σ xv)) xhigh) (CP_v hC hb_r1).1 (CP_v hC hb_r1).2 (by omega) (by omega) (by omega)) ⟨rfl, rfl⟩ rfl hP (CP_v hC hb_r1).1 (CP_v hC hb_r1).2 rfl rfl rfl hl rfl (Nat.le_of_ble_eq_true rfl) dX3_narrowView_92 ⟨Nat.le_of_ble_eq_true rfl, Nat.le_of_ble_eq_true rfl⟩ (fun r213 e_r213 => ?_)
            subst e_r213
            refine q_if_ne hx hb dX3_narrowView_95 (tgt := 102) (by decide) (by omega) (fun c214 => ?_) (fun c214 => ?_)
            · refine q_iconst hx hb dX3_narrowView_102 ?_
              refine lv_istore (lv' := [(9, .int (iI 0)), (8, .int (iI 0)), (7, .int (iI ((turn (zod σ (zvw σ xv)) xhigh)))), (6, .int (iI (zvl σ xv))), (5, .ref ((gva G xv))), (0, .ref ((gbg G))), (1, .int (iI xv)), (2, .int (iI xkind)), (3, .int (iI xlow)), (4, .int (iI xhigh))]) hx hb dX3_narrowView_103 hl (by decide) rfl (fun ls hl => ?_)
              refine lv_iload hx hb dX3_narrowView_105 (lv_at hl 1 rfl) ?_
              refine q_if_ne hx hb dX3_narrowView_107 (tgt := 127) (by decide) (by omega) (fun c215 => absurd c215 (by omega)) (fun c215 => ?_)
              refine lv_iload hx hb dX3_narrowView_110 (lv_at hl 0 rfl) ?_
              refine q_if_ne hx hb dX3_narrowView_112 (tgt := 127) (by decide) (by omega) (fun c216 => absurd c216 (by omega)) (fun c216 => ?_)
              refine lv_iload_n hx hb dX3_narrowView_115 rfl (lv_at hl 7 rfl) ?_
              refine q_iconst hx hb dX3_narrowView_116 ?_
              refine q_icmp_ne hx hb dX3_narrowView_117 (tgt := 132) (by decide) (by omega) (by omega) (fun c217 => ?_) (fun c217 => ?_)
              · refine lv_aload hx hb dX3_narrowView_132 (lv_at hl 4 rfl) ?_
                refine lv_iload hx hb dX3_narrowView_134 (lv_at hl 3 rfl) ?_
                refine q_put C0 iX1 tyX1 tyX1_ok nmX1 hP hD hS (CP_v hC hb_r1).1 (CP_v hC hb_r1).2 rfl 1 (by decide) flX3_182 rfl rfl rfl rfl (Nat.le_of_ble_eq_true rfl) dX3_narrowView_136 (fun H locs hP hD hS => ?_)
                obtain ⟨F218, eF218⟩ : ∃ z, z = va_up F (gva G xv) (.inr (3, [.ref ((grh G (zvw σ xv))), .int (iI (zvl σ xv)), .int (iI (zvh σ xv))])) := ⟨_, rfl⟩
                have hP : va_P D vwCl (va_pl L F218) H := by rw [eF218]; exact hP
                have hD : va_D (AL L s.heap.size) (va_pl L F218) := by rw [eF218]; exact hD
                have hvF : F218 (gva G xv) = (.inr (3, [.ref ((grh G (zvw σ xv))), .int (iI (zvl σ xv)), .int (iI (zvh σ xv))])) := by rw [eF218]; exact va_up_self _ _ _
                have hO : OE O F F218 := by rw [eF218]; exact hO.tr (OE1 ((CP_O hC).2.2.2.2.2.1 _ hb_r1.1 hb_r1.2))
                have hC : CP y L F218 O G (sVw σ xv (zvw σ xv) (zvl σ xv) (zvh σ xv)) := by rw [eF218]; exact CP_vw hC hb_r1 (va_up_self _ _ _) (fun q hq => va_up_ne _ _ hq)
                refine lv_aload hx hb dX3_narrowView_139 (lv_at hl 4 rfl) ?_
                refine lv_iload hx hb dX3_narrowView_141 (lv_at hl 2 rfl) ?_
                refine q_put C0 iX1 tyX1 tyX1_ok nmX1 hP hD hS (CP_v hC hb_r1).1 hvF rfl 2 (by decide) flX3_185 rfl rfl rfl rfl (Nat.le_of_ble_eq_true rfl) dX3_narrowView_143 (fun H locs hP hD hS => ?_)
                obtain ⟨F219, eF219⟩ : ∃ z, z = va_up F218 (gva G xv) (.inr (3, [.ref ((grh G (zvw σ xv))), .int (iI (zvl σ xv)), .int (iI ((turn (zod σ (zvw σ xv)) xhigh)))])) := ⟨_, rfl⟩
                have hP : va_P D vwCl (va_pl L F219) H := by rw [eF219]; exact hP
                have hD : va_D (AL L s.heap.size) (va_pl L F219) := by rw [eF219]; exact hD
                have hvF : F219 (gva G xv) = (.inr (3, [.ref ((grh G (zvw σ xv))), .int (iI (zvl σ xv)), .int (iI ((turn (zod σ (zvw σ xv)) xhigh)))])) := by rw [eF219]; exact va_up_self _ _ _
                have hO : OE O F F219 := by rw [eF219]; exact hO.tr (OE1 ((CP_O hC).2.2.2.2.2.1 _ hb_r1.1 hb_r1.2))
                have hC : CP y L F219 O G (sVw (sVw σ xv (zvw σ xv) (zvl σ xv) (zvh σ xv)) xv (zvw σ xv) (zvl σ xv) (turn (zod σ (zvw σ xv)) xhigh)) := by rw [eF219]; exact CP_vw hC hb_r1 (va_up_self _ _ _) (fun q hq => va_up_ne _ _ hq)
                refine lv_aload hx hb dX3_narrowView_146 (lv_at hl 4 rfl) ?_
                refine q_get C0 iX1 hP (CP_v hC hb_r1).1 hvF rfl 0 (by decide) flX3_178 rfl rfl dX3_narrowView_148 ?_
                refine lv_aload hx hb dX3_narrowView_151 (lv_at hl 4 rfl) ?_
                refine q_get C0 iX1 hP (CP_v hC hb_r1).1 hvF rfl 1 (by decide) flX3_182 rfl rfl dX3_narrowView_153 ?_
                refine lv_aload hx hb dX3_narrowView_156 (lv_at hl 4 rfl) ?_
                refine q_get C0 iX1 hP (CP_v hC hb_r1).1 hvF rfl 2 (by decide) flX3_185 rfl rfl dX3_narrowView_158 ?_
                refine q_vS C0 lX3_188 (c_X0_countOfPart l D y L F219 (grh G (zvw σ xv)) (grw G (zvw σ xv)) (zod σ (zvw σ xv)) ((zst σ (zvw σ xv)).1) ((zst σ (zvw σ xv)).2.1) ((zst σ (zvw σ xv)).2.2) (zvl σ xv) (turn (zod σ (zvw σ xv)) xhigh) (CP_r hC (hW.2.2.1 xv)) (by omega) (by omega)) ⟨rfl, rfl⟩ rfl hP (CP_r hC (hW.2.2.1 xv)).1 (CP_r hC (hW.2.2.1 xv)).2.1 rfl rfl rfl hl rfl (Nat.le_of_ble_eq_true rfl) dX3_narrowView_161 ⟨Nat.le_of_ble_eq_true rfl, Nat.le_of_ble_eq_true rfl⟩ (fun r220 e_r220 => ?_)
                subst e_r220
                refine W.widen (k := 8) (n := 60) (Nat.le_of_ble_eq_true rfl) (Nat.le_of_ble_eq_true rfl) ?_
                exact vx_ret (q_retMi C0 hret rfl hlk dX3_narrowView_164 hP hD hS (⟨by omega, by omega, (by unfold kR_narrowView; rw [if_neg (by (unfold nRef; (repeat' split) <;> omega)), show nLo σ xv xkind xlow = zvl σ xv by (unfold nLo; (repeat' split) <;> first | rfl | omega), show nHi σ xv xkind xhigh = (turn (zod σ (zvw σ xv)) xhigh) by (unfold nHi; (repeat' split) <;> first | rfl | omega)]), O, G, CP_eq hC (by rw [sVw2]; unfold kS_narrowView; rw [if_neg (by (unfold nRef; (repeat' split) <;> omega)), show nLo σ xv xkind xlow = zvl σ xv by (unfold nLo; (repeat' split) <;> first | rfl | omega), show nHi σ xv xkind xhigh = (turn (zod σ (zvw σ xv)) xhigh) by (unfold nHi; (repeat' split) <;> first | rfl | omega)]), rfl, Ext0 hO⟩))
              · refine lv_iload hx hb dX3_narrowView_120 (lv_at hl 3 rfl) ?_
                refine lv_iload hx hb dX3_narrowView_122 (lv_at hl 2 rfl) ?_
                refine q_icmp_le hx hb dX3_narrowView_124 (tgt := 132) (by decide) (by omega) (by omega) (fun c221 => ?_) (fun c221 => ?_)
                · refine lv_aload hx hb dX3_narrowView_132 (lv_at hl 4 rfl) ?_
                  refine lv_iload hx hb dX3_narrowView_134 (lv_at hl 3 rfl) ?_
                  refine q_put C0 iX1 tyX1 tyX1_ok nmX1 hP hD hS (CP_v hC hb_r1).1 (CP_v hC hb_r1).2 rfl 1 (by decide) flX3_182 rfl rfl rfl rfl (Nat.le_of_ble_eq_true rfl) dX3_narrowView_136 (fun H locs hP hD hS => ?_)
                  obtain ⟨F222, eF222⟩ : ∃ z, z = va_up F (gva G xv) (.inr (3, [.ref ((grh G (zvw σ xv))), .int (iI (zvl σ xv)), .int (iI (zvh σ xv))])) := ⟨_, rfl⟩
                  have hP : va_P D vwCl (va_pl L F222) H := by rw [eF222]; exact hP
                  have hD : va_D (AL L s.heap.size) (va_pl L F222) := by rw [eF222]; exact hD
                  have hvF : F222 (gva G xv) = (.inr (3, [.ref ((grh G (zvw σ xv))), .int (iI (zvl σ xv)), .int (iI (zvh σ xv))])) := by rw [eF222]; exact va_up_self _ _ _
                  have hO : OE O F F222 := by rw [eF222]; exact hO.tr (OE1 ((CP_O hC).2.2.2.2.2.1 _ hb_r1.1 hb_r1.2))
                  have hC : CP y L F222 O G (sVw σ xv (zvw σ xv) (zvl σ xv) (zvh σ xv)) := by rw [eF222]; exact CP_vw hC hb_r1 (va_up_self _ _ _) (fun q hq => va_up_ne _ _ hq)
                  refine lv_aload hx hb dX3_narrowView_139 (lv_at hl 4 rfl) ?_
                  refine lv_iload hx hb dX3_narrowView_141 (lv_at hl 2 rfl) ?_
                  refine q_put C0 iX1 tyX1 tyX1_ok nmX1 hP hD hS (CP_v hC hb_r1).1 hvF rfl 2 (by decide) flX3_185 rfl rfl rfl rfl (Nat.le_of_ble_eq_true rfl) dX3_narrowView_143 (fun H locs hP hD hS => ?_)
                  obtain ⟨F223, eF223⟩ : ∃ z, z = va_up F222 (gva G xv) (.inr (3, [.ref ((grh G (zvw σ xv))), .int (iI (zvl σ xv)), .int (iI ((turn (zod σ (zvw σ xv)) xhigh)))])) := ⟨_, rfl⟩
                  have hP : va_P D vwCl (va_pl L F223) H := by rw [eF223]; exact hP
                  have hD : va_D (AL L s.heap.size) (va_pl L F223) := by rw [eF223]; exact hD
                  have hvF : F223 (gva G xv) = (.inr (3, [.ref ((grh G (zvw σ xv))), .int (iI (zvl σ xv)), .int (iI ((turn (zod σ (zvw σ xv)) xhigh)))])) := by rw [eF223]; exact va_up_self _ _ _
                  have hO : OE O F F223 := by rw [eF223]; exact hO.tr (OE1 ((CP_O hC).2.2.2.2.2.1 _ hb_r1.1 hb_r1.2))
                  have hC : CP y L F223 O G (sVw (sVw σ xv (zvw σ xv) (zvl σ xv) (zvh σ xv)) xv (zvw σ xv) (zvl σ xv) (turn (zod σ (zvw σ xv)) xhigh)) := by rw [eF223]; exact CP_vw hC hb_r1 (va_up_self _ _ _) (fun q hq => va_up_ne _ _ hq)
                  refine lv_aload hx hb dX3_narrowView_146 (lv_at hl 4 rfl) ?_
                  refine q_get C0 iX1 hP (CP_v hC hb_r1).1 hvF rfl 0 (by decide) flX3_178 rfl rfl dX3_narrowView_148 ?_
                  refine lv_aload hx hb dX3_narrowView_151 (lv_at hl 4 rfl) ?_
                  refine q_get C0 iX1 hP (CP_v hC hb_r1).1 hvF rfl 1 (by decide) flX3_182 rfl rfl dX3_narrowView_153 ?_
                  refine lv_aload hx hb dX3_narrowView_156 (lv_at hl 4 rfl) ?_
                  refine q_get C0 iX1 hP (CP_v hC hb_r1).1 hvF rfl 2 (by decide) flX3_185 rfl rfl dX3_narrowView_158 ?_
                  refine q_vS C0 lX3_188 (c_X0_countOfPart l D y L F223 (grh G (zvw σ xv)) (grw G (zvw σ xv)) (zod σ (zvw σ xv)) ((zst σ (zvw σ xv)).1) ((zst σ (zvw σ xv)).2.1) ((zst σ (zvw σ xv)).2.2) (zvl σ xv) (turn (zod σ (zvw σ xv)) xhigh) (CP_r hC (hW.2.2.1 xv)) (by omega) (by omega)) ⟨rfl, rfl⟩ rfl hP (CP_r hC (hW.2.2.1 xv)).1 (CP_r hC (hW.2.2.1 xv)).2.1 rfl rfl rfl hl rfl (Nat.le_of_ble_eq_true rfl) dX3_narrowView_161 ⟨Nat.le_of_ble_eq_true rfl, Nat.le_of_ble_eq_true rfl⟩ (fun r224 e_r224 => ?_)
                  subst e_r224
                  refine W.widen (k := 8) (n := 60) (Nat.le_of_ble_eq_true rfl) (Nat.le_of_ble_eq_true rfl) ?_
                  exact vx_ret (q_retMi C0 hret rfl hlk dX3_narrowView_164 hP hD hS (⟨by omega, by omega, (by unfold kR_narrowView; rw [if_neg (by (unfold nRef; (repeat' split) <;> omega)), show nLo σ xv xkind xlow = zvl σ xv by (unfold nLo; (repeat' split) <;> first | rfl | omega), show nHi σ xv xkind xhigh = (turn (zod σ (zvw σ xv)) xhigh) by (unfold nHi; (repeat' split) <;> first | rfl | omega)]), O, G, CP_eq hC (by rw [sVw2]; unfold kS_narrowView; rw [if_neg (by (unfold nRef; (repeat' split) <;> omega)), show nLo σ xv xkind xlow = zvl σ xv by (unfold nLo; (repeat' split) <;> first | rfl | omega), show nHi σ xv xkind xhigh = (turn (zod σ (zvw σ xv)) xhigh) by (unfold nHi; (repeat' split) <;> first | rfl | omega)]), rfl, Ext0 hO⟩))
                · refine lv_aload_n hx hb dX3_narrowView_127 rfl (lv_at hl 5 rfl) ?_
                  refine q_vMi C0 lX3_63 (c_X3_refuse l D y L F _ O G σ hC) ⟨rfl, rfl⟩ rfl hP hD hS hA hC.1.1 hC.1.2 rfl rfl rfl hl rfl (Nat.le_of_ble_eq_true rfl) dX3_narrowView_128 ⟨Nat.le_of_ble_eq_true rfl, Nat.le_of_ble_eq_true rfl⟩ (fun r225 H locs L226 F226 hP hD hS hz226 hp226 => ?_)
                  obtain ⟨eL, hC, er, hO1⟩ := hp226
                  subst eL
                  subst er
                  have hO := hO.tr hO1
                  refine W.widen (k := 8) (n := 60) (Nat.le_of_ble_eq_true rfl) (Nat.le_of_ble_eq_true rfl) ?_
                  exact vx_ret (q_retMi C0 hret rfl hlk dX3_narrowView_131 hP hD hS (⟨by omega, by omega, (by unfold kR_narrowView; rw [if_pos (by unfold nRef; (repeat' split) <;> first | rfl | omega)]), O, G, CP_eq hC (by unfold kS_narrowView; rw [if_pos (by unfold nRef; (repeat' split) <;> first | rfl | omega)]), rfl, Ext0 hO⟩))
            · refine q_iconst hx hb dX3_narrowView_98 ?_
              refine lv_goto (tgt := 103) hx hb dX3_narrowView_99 (by decide) ?_
              refine lv_istore (lv' := [(9, .int (iI 1)), (8, .int (iI 0)), (7, .int (iI ((turn (zod σ (zvw σ xv)) xhigh)))), (6, .int (iI (zvl σ xv))), (5, .ref ((gva G xv))), (0, .ref ((gbg G))), (1, .int (iI xv)), (2, .int (iI xkind)), (3, .int (iI xlow)), (4, .int (iI xhigh))]) hx hb dX3_narrowView_103 hl (by decide) rfl (fun ls hl => ?_)
              refine lv_iload hx hb dX3_narrowView_105 (lv_at hl 1 rfl) ?_
              refine q_if_ne hx hb dX3_narrowView_107 (tgt := 127) (by decide) (by omega) (fun c227 => absurd c227 (by omega)) (fun c227 => ?_)
              refine lv_iload hx hb dX3_narrowView_110 (lv_at hl 0 rfl) ?_
              refine q_if_ne hx hb dX3_narrowView_112 (tgt := 127) (by decide) (by omega) (fun c228 => ?_) (fun c228 => absurd c228 (by omega))
              refine lv_aload_n hx hb dX3_narrowView_127 rfl (lv_at hl 5 rfl) ?_
              refine q_vMi C0 lX3_63 (c_X3_refuse l D y L F _ O G σ hC) ⟨rfl, rfl⟩ rfl hP hD hS hA hC.1.1 hC.1.2 rfl rfl rfl hl rfl (Nat.le_of_ble_eq_true rfl) dX3_narrowView_128 ⟨Nat.le_of_ble_eq_true rfl, Nat.le_of_ble_eq_true rfl⟩ (fun r229 H locs L230 F230 hP hD hS hz230 hp230 => ?_)
              obtain ⟨eL, hC, er, hO1⟩ := hp230
              subst eL
              subst er
              have hO := hO.tr hO1
              refine W.widen (k := 8) (n := 60) (Nat.le_of_ble_eq_true rfl) (Nat.le_of_ble_eq_true rfl) ?_
              exact vx_ret (q_retMi C0 hret rfl hlk dX3_narrowView_131 hP hD hS (⟨by omega, by omega, (by unfold kR_narrowView; rw [if_pos (by unfold nRef; (repeat' split) <;> first | rfl | omega)]), O, G, CP_eq hC (by unfold kS_narrowView; rw [if_pos (by unfold nRef; (repeat' split) <;> first | rfl | omega)]), rfl, Ext0 hO⟩))
        · refine q_iconst hx hb dX3_narrowView_76 ?_
          refine lv_goto (tgt := 81) hx hb dX3_narrowView_77 (by decide) ?_
          refine lv_istore (lv' := [(8, .int (iI 1)), (7, .int (iI ((turn (zod σ (zvw σ xv)) xhigh)))), (6, .int (iI (zvl σ xv))), (5, .ref ((gva G xv))), (0, .ref ((gbg G))), (1, .int (iI xv)), (2, .int (iI xkind)), (3, .int (iI xlow)), (4, .int (iI xhigh))]) hx hb dX3_narrowView_81 hl (by decide) rfl (fun ls hl => ?_)
          refine lv_iload_n hx hb dX3_narrowView_83 rfl (lv_at hl 6 rfl) ?_
          refine q_iconst hx hb dX3_narrowView_84 ?_
          refine q_icmp_eq hx hb dX3_narrowView_85 (tgt := 102) (by decide) (by omega) (by omega) (fun c231 => ?_) (fun c231 => ?_)
          · refine q_iconst hx hb dX3_narrowView_102 ?_
            refine lv_istore (lv' := [(9, .int (iI 0)), (8, .int (iI 1)), (7, .int (iI ((turn (zod σ (zvw σ xv)) xhigh)))), (6, .int (iI (zvl σ xv))), (5, .ref ((gva G xv))), (0, .ref ((gbg G))), (1, .int (iI xv)), (2, .int (iI xkind)), (3, .int (iI xlow)), (4, .int (iI xhigh))]) hx hb dX3_narrowView_103 hl (by decide) rfl (fun ls hl => ?_)
            refine lv_iload hx hb dX3_narrowView_105 (lv_at hl 1 rfl) ?_
            refine q_if_ne hx hb dX3_narrowView_107 (tgt := 127) (by decide) (by omega) (fun c232 => ?_) (fun c232 => absurd c232 (by omega))
            refine lv_aload_n hx hb dX3_narrowView_127 rfl (lv_at hl 5 rfl) ?_
            refine q_vMi C0 lX3_63 (c_X3_refuse l D y L F _ O G σ hC) ⟨rfl, rfl⟩ rfl hP hD hS hA hC.1.1 hC.1.2 rfl rfl rfl hl rfl (Nat.le_of_ble_eq_true rfl) dX3_narrowView_128 ⟨Nat.le_of_ble_eq_true rfl, Nat.le_of_ble_eq_true rfl⟩ (fun r233 H locs L234 F234 hP hD hS hz234 hp234 => ?_)
            obtain ⟨eL, hC, er, hO1⟩ := hp234
            subst eL
            subst er
            have hO := hO.tr hO1
            refine W.widen (k := 8) (n := 60) (Nat.le_of_ble_eq_true rfl) (Nat.le_of_ble_eq_true rfl) ?_
            exact vx_ret (q_retMi C0 hret rfl hlk dX3_narrowView_131 hP hD hS (⟨by omega, by omega, (by unfold kR_narrowView; rw [if_pos (by unfold nRef; (repeat' split) <;> first | rfl | omega)]), O, G, CP_eq hC (by unfold kS_narrowView; rw [if_pos (by unfold nRef; (repeat' split) <;> first | rfl | omega)]), rfl, Ext0 hO⟩))
          · refine lv_aload hx hb dX3_narrowView_88 (lv_at hl 3 rfl) ?_
            refine lv_iload hx hb dX3_narrowView_90 (lv_at hl 1 rfl) ?_
            refine q_vS C0 lX3_191 (c_X1_isWithin l D y L F (gva G xv) (grh G (zvw σ xv)) (zvl σ xv) (zvh σ xv) (turn (zod σ (zvw σ xv)) xhigh) (CP_v hC hb_r1).1 (CP_v hC hb_r1).2 (by omega) (by omega) (by omega)) ⟨rfl, rfl⟩ rfl hP (CP_v hC hb_r1).1 (CP_v hC hb_r1).2 rfl rfl rfl hl rfl (Nat.le_of_ble_eq_true rfl) dX3_narrowView_92 ⟨Nat.le_of_ble_eq_true rfl, Nat.le_of_ble_eq_true rfl⟩ (fun r235 e_r235 => ?_)
            subst e_r235
            refine q_if_ne hx hb dX3_narrowView_95 (tgt := 102) (by decide) (by omega) (fun c236 => ?_) (fun c236 => ?_)
            · refine q_iconst hx hb dX3_narrowView_102 ?_
              refine lv_istore (lv' := [(9, .int (iI 0)), (8, .int (iI 1)), (7, .int (iI ((turn (zod σ (zvw σ xv)) xhigh)))), (6, .int (iI (zvl σ xv))), (5, .ref ((gva G xv))), (0, .ref ((gbg G))), (1, .int (iI xv)), (2, .int (iI xkind)), (3, .int (iI xlow)), (4, .int (iI xhigh))]) hx hb dX3_narrowView_103 hl (by decide) rfl (fun ls hl => ?_)
              refine lv_iload hx hb dX3_narrowView_105 (lv_at hl 1 rfl) ?_
              refine q_if_ne hx hb dX3_narrowView_107 (tgt := 127) (by decide) (by omega) (fun c237 => ?_) (fun c237 => absurd c237 (by omega))
              refine lv_aload_n hx hb dX3_narrowView_127 rfl (lv_at hl 5 rfl) ?_
              refine q_vMi C0 lX3_63 (c_X3_refuse l D y L F _ O G σ hC) ⟨rfl, rfl⟩ rfl hP hD hS hA hC.1.1 hC.1.2 rfl rfl rfl hl rfl (Nat.le_of_ble_eq_true rfl) dX3_narrowView_128 ⟨Nat.le_of_ble_eq_true rfl, Nat.le_of_ble_eq_true rfl⟩ (fun r238 H locs L239 F239 hP hD hS hz239 hp239 => ?_)
              obtain ⟨eL, hC, er, hO1⟩ := hp239
              subst eL
              subst er
              have hO := hO.tr hO1
              refine W.widen (k := 8) (n := 60) (Nat.le_of_ble_eq_true rfl) (Nat.le_of_ble_eq_true rfl) ?_
              exact vx_ret (q_retMi C0 hret rfl hlk dX3_narrowView_131 hP hD hS (⟨by omega, by omega, (by unfold kR_narrowView; rw [if_pos (by unfold nRef; (repeat' split) <;> first | rfl | omega)]), O, G, CP_eq hC (by unfold kS_narrowView; rw [if_pos (by unfold nRef; (repeat' split) <;> first | rfl | omega)]), rfl, Ext0 hO⟩))
            · refine q_iconst hx hb dX3_narrowView_98 ?_
              refine lv_goto (tgt := 103) hx hb dX3_narrowView_99 (by decide) ?_
              refine lv_istore (lv' := [(9, .int (iI 1)), (8, .int (iI 1)), (7, .int (iI ((turn (zod σ (zvw σ xv)) xhigh)))), (6, .int (iI (zvl σ xv))), (5, .ref ((gva G xv))), (0, .ref ((gbg G))), (1, .int (iI xv)), (2, .int (iI xkind)), (3, .int (iI xlow)), (4, .int (iI xhigh))]) hx hb dX3_narrowView_103 hl (by decide) rfl (fun ls hl => ?_)
              refine lv_iload hx hb dX3_narrowView_105 (lv_at hl 1 rfl) ?_
              refine q_if_ne hx hb dX3_narrowView_107 (tgt := 127) (by decide) (by omega) (fun c240 => ?_) (fun c240 => absurd c240 (by omega))
              refine lv_aload_n hx hb dX3_narrowView_127 rfl (lv_at hl 5 rfl) ?_
              refine q_vMi C0 lX3_63 (c_X3_refuse l D y L F _ O G σ hC) ⟨rfl, rfl⟩ rfl hP hD hS hA hC.1.1 hC.1.2 rfl rfl rfl hl rfl (Nat.le_of_ble_eq_true rfl) dX3_narrowView_128 ⟨Nat.le_of_ble_eq_true rfl, Nat.le_of_ble_eq_true rfl⟩ (fun r241 H locs L242 F242 hP hD hS hz242 hp242 => ?_)
              obtain ⟨eL, hC, er, hO1⟩ := hp242
              subst eL
              subst er
              have hO := hO.tr hO1
              refine W.widen (k := 8) (n := 60) (Nat.le_of_ble_eq_true rfl) (Nat.le_of_ble_eq_true rfl) ?_
              exact vx_ret (q_retMi C0 hret rfl hlk dX3_narrowView_131 hP hD hS (⟨by omega, by omega, (by unfold kR_narrowView; rw [if_pos (by unfold nRef; (repeat' split) <;> first | rfl | omega)]), O, G, CP_eq hC (by unfold kS_narrowView; rw [if_pos (by unfold nRef; (repeat' split) <;> first | rfl | omega)]), rfl, Ext0 hO⟩))
    · refine lv_aload hx hb dX3_narrowView_42 (lv_at hl 1 rfl) ?_
      refine q_get C0 iX1 hP (CP_v hC hb_r1).1 (CP_v hC hb_r1).2 rfl 2 (by decide) flX3_185 rfl rfl dX3_narrowView_44 ?_
      refine lv_goto (tgt := 60) hx hb dX3_narrowView_47 (by decide) ?_
      refine lv_istore (lv' := [(7, .int (iI (zvh σ xv))), (6, .int (iI (zvl σ xv))), (5, .ref ((gva G xv))), (0, .ref ((gbg G))), (1, .int (iI xv)), (2, .int (iI xkind)), (3, .int (iI xlow)), (4, .int (iI xhigh))]) hx hb dX3_narrowView_60 hl (by decide) rfl (fun ls hl => ?_)
      refine lv_iload_n hx hb dX3_narrowView_62 rfl (lv_at hl 5 rfl) ?_
      refine q_if_eq hx hb dX3_narrowView_63 (tgt := 80) (by decide) (by omega) (fun c243 => ?_) (fun c243 => ?_)
      · refine q_iconst hx hb dX3_narrowView_80 ?_
        refine lv_istore (lv' := [(8, .int (iI 0)), (7, .int (iI (zvh σ xv))), (6, .int (iI (zvl σ xv))), (5, .ref ((gva G xv))), (0, .ref ((gbg G))), (1, .int (iI xv)), (2, .int (iI xkind)), (3, .int (iI xlow)), (4, .int (iI xhigh))]) hx hb dX3_narrowView_81 hl (by decide) rfl (fun ls hl => ?_)
        refine lv_iload_n hx hb dX3_narrowView_83 rfl (lv_at hl 6 rfl) ?_
        refine q_iconst hx hb dX3_narrowView_84 ?_
        refine q_icmp_eq hx hb dX3_narrowView_85 (tgt := 102) (by decide) (by omega) (by omega) (fun c244 => ?_) (fun c244 => ?_)
        · refine q_iconst hx hb dX3_narrowView_102 ?_
          refine lv_istore (lv' := [(9, .int (iI 0)), (8, .int (iI 0)), (7, .int (iI (zvh σ xv))), (6, .int (iI (zvl σ xv))), (5, .ref ((gva G xv))), (0, .ref ((gbg G))), (1, .int (iI xv)), (2, .int (iI xkind)), (3, .int (iI xlow)), (4, .int (iI xhigh))]) hx hb dX3_narrowView_103 hl (by decide) rfl (fun ls hl => ?_)
          refine lv_iload hx hb dX3_narrowView_105 (lv_at hl 1 rfl) ?_
          refine q_if_ne hx hb dX3_narrowView_107 (tgt := 127) (by decide) (by omega) (fun c245 => absurd c245 (by omega)) (fun c245 => ?_)
          refine lv_iload hx hb dX3_narrowView_110 (lv_at hl 0 rfl) ?_
          refine q_if_ne hx hb dX3_narrowView_112 (tgt := 127) (by decide) (by omega) (fun c246 => absurd c246 (by omega)) (fun c246 => ?_)
          refine lv_iload_n hx hb dX3_narrowView_115 rfl (lv_at hl 7 rfl) ?_
          refine q_iconst hx hb dX3_narrowView_116 ?_
          refine q_icmp_ne hx hb dX3_narrowView_117 (tgt := 132) (by decide) (by omega) (by omega) (fun c247 => ?_) (fun c247 => ?_)
          · refine lv_aload hx hb dX3_narrowView_132 (lv_at hl 4 rfl) ?_
            refine lv_iload hx hb dX3_narrowView_134 (lv_at hl 3 rfl) ?_
            refine q_put C0 iX1 tyX1 tyX1_ok nmX1 hP hD hS (CP_v hC hb_r1).1 (CP_v hC hb_r1).2 rfl 1 (by decide) flX3_182 rfl rfl rfl rfl (Nat.le_of_ble_eq_true rfl) dX3_narrowView_136 (fun H locs hP hD hS => ?_)
            obtain ⟨F248, eF248⟩ : ∃ z, z = va_up F (gva G xv) (.inr (3, [.ref ((grh G (zvw σ xv))), .int (iI (zvl σ xv)), .int (iI (zvh σ xv))])) := ⟨_, rfl⟩
            have hP : va_P D vwCl (va_pl L F248) H := by rw [eF248]; exact hP
            have hD : va_D (AL L s.heap.size) (va_pl L F248) := by rw [eF248]; exact hD
            have hvF : F248 (gva G xv) = (.inr (3, [.ref ((grh G (zvw σ xv))), .int (iI (zvl σ xv)), .int (iI (zvh σ xv))])) := by rw [eF248]; exact va_up_self _ _ _
            have hO : OE O F F248 := by rw [eF248]; exact hO.tr (OE1 ((CP_O hC).2.2.2.2.2.1 _ hb_r1.1 hb_r1.2))
            have hC : CP y L F248 O G (sVw σ xv (zvw σ xv) (zvl σ xv) (zvh σ xv)) := by rw [eF248]; exact CP_vw hC hb_r1 (va_up_self _ _ _) (fun q hq => va_up_ne _ _ hq)
            refine lv_aload hx hb dX3_narrowView_139 (lv_at hl 4 rfl) ?_
            refine lv_iload hx hb dX3_narrowView_141 (lv_at hl 2 rfl) ?_
            refine q_put C0 iX1 tyX1 tyX1_ok nmX1 hP hD hS (CP_v hC hb_r1).1 hvF rfl 2 (by decide) flX3_185 rfl rfl rfl rfl (Nat.le_of_ble_eq_true rfl) dX3_narrowView_143 (fun H locs hP hD hS => ?_)
            obtain ⟨F249, eF249⟩ : ∃ z, z = va_up F248 (gva G xv) (.inr (3, [.ref ((grh G (zvw σ xv))), .int (iI (zvl σ xv)), .int (iI (zvh σ xv))])) := ⟨_, rfl⟩
            have hP : va_P D vwCl (va_pl L F249) H := by rw [eF249]; exact hP
            have hD : va_D (AL L s.heap.size) (va_pl L F249) := by rw [eF249]; exact hD
            have hvF : F249 (gva G xv) = (.inr (3, [.ref ((grh G (zvw σ xv))), .int (iI (zvl σ xv)), .int (iI (zvh σ xv))])) := by rw [eF249]; exact va_up_self _ _ _
            have hO : OE O F F249 := by rw [eF249]; exact hO.tr (OE1 ((CP_O hC).2.2.2.2.2.1 _ hb_r1.1 hb_r1.2))
            have hC : CP y L F249 O G (sVw (sVw σ xv (zvw σ xv) (zvl σ xv) (zvh σ xv)) xv (zvw σ xv) (zvl σ xv) (zvh σ xv)) := by rw [eF249]; exact CP_vw hC hb_r1 (va_up_self _ _ _) (fun q hq => va_up_ne _ _ hq)
            refine lv_aload hx hb dX3_narrowView_146 (lv_at hl 4 rfl) ?_
            refine q_get C0 iX1 hP (CP_v hC hb_r1).1 hvF rfl 0 (by decide) flX3_178 rfl rfl dX3_narrowView_148 ?_
            refine lv_aload hx hb dX3_narrowView_151 (lv_at hl 4 rfl) ?_
            refine q_get C0 iX1 hP (CP_v hC hb_r1).1 hvF rfl 1 (by decide) flX3_182 rfl rfl dX3_narrowView_153 ?_
            refine lv_aload hx hb dX3_narrowView_156 (lv_at hl 4 rfl) ?_
            refine q_get C0 iX1 hP (CP_v hC hb_r1).1 hvF rfl 2 (by decide) flX3_185 rfl rfl dX3_narrowView_158 ?_
            refine q_vS C0 lX3_188 (c_X0_countOfPart l D y L F249 (grh G (zvw σ xv)) (grw G (zvw σ xv)) (zod σ (zvw σ xv)) ((zst σ (zvw σ xv)).1) ((zst σ (zvw σ xv)).2.1) ((zst σ (zvw σ xv)).2.2) (zvl σ xv) (zvh σ xv) (CP_r hC (hW.2.2.1 xv)) (by omega) (by omega)) ⟨rfl, rfl⟩ rfl hP (CP_r hC (hW.2.2.1 xv)).1 (CP_r hC (hW.2.2.1 xv)).2.1 rfl rfl rfl hl rfl (Nat.le_of_ble_eq_true rfl) dX3_narrowView_161 ⟨Nat.le_of_ble_eq_true rfl, Nat.le_of_ble_eq_true rfl⟩ (fun r250 e_r250 => ?_)
            subst e_r250
            refine W.widen (k := 8) (n := 60) (Nat.le_of_ble_eq_true rfl) (Nat.le_of_ble_eq_true rfl) ?_
            exact vx_ret (q_retMi C0 hret rfl hlk dX3_narrowView_164 hP hD hS (⟨by omega, by omega, (by unfold kR_narrowView; rw [if_neg (by (unfold nRef; (repeat' split) <;> omega)), show nLo σ xv xkind xlow = zvl σ xv by (unfold nLo; (repeat' split) <;> first | rfl | omega), show nHi σ xv xkind xhigh = zvh σ xv by (unfold nHi; (repeat' split) <;> first | rfl | omega)]), O, G, CP_eq hC (by rw [sVw2]; unfold kS_narrowView; rw [if_neg (by (unfold nRef; (repeat' split) <;> omega)), show nLo σ xv xkind xlow = zvl σ xv by (unfold nLo; (repeat' split) <;> first | rfl | omega), show nHi σ xv xkind xhigh = zvh σ xv by (unfold nHi; (repeat' split) <;> first | rfl | omega)]), rfl, Ext0 hO⟩))
          · refine lv_iload hx hb dX3_narrowView_120 (lv_at hl 3 rfl) ?_
            refine lv_iload hx hb dX3_narrowView_122 (lv_at hl 2 rfl) ?_
            refine q_icmp_le hx hb dX3_narrowView_124 (tgt := 132) (by decide) (by omega) (by omega) (fun c251 => ?_) (fun c251 => ?_)
            · refine lv_aload hx hb dX3_narrowView_132 (lv_at hl 4 rfl) ?_
              refine lv_iload hx hb dX3_narrowView_134 (lv_at hl 3 rfl) ?_
              refine q_put C0 iX1 tyX1 tyX1_ok nmX1 hP hD hS (CP_v hC hb_r1).1 (CP_v hC hb_r1).2 rfl 1 (by decide) flX3_182 rfl rfl rfl rfl (Nat.le_of_ble_eq_true rfl) dX3_narrowView_136 (fun H locs hP hD hS => ?_)
              obtain ⟨F252, eF252⟩ : ∃ z, z = va_up F (gva G xv) (.inr (3, [.ref ((grh G (zvw σ xv))), .int (iI (zvl σ xv)), .int (iI (zvh σ xv))])) := ⟨_, rfl⟩
              have hP : va_P D vwCl (va_pl L F252) H := by rw [eF252]; exact hP
              have hD : va_D (AL L s.heap.size) (va_pl L F252) := by rw [eF252]; exact hD
              have hvF : F252 (gva G xv) = (.inr (3, [.ref ((grh G (zvw σ xv))), .int (iI (zvl σ xv)), .int (iI (zvh σ xv))])) := by rw [eF252]; exact va_up_self _ _ _
              have hO : OE O F F252 := by rw [eF252]; exact hO.tr (OE1 ((CP_O hC).2.2.2.2.2.1 _ hb_r1.1 hb_r1.2))
              have hC : CP y L F252 O G (sVw σ xv (zvw σ xv) (zvl σ xv) (zvh σ xv)) := by rw [eF252]; exact CP_vw hC hb_r1 (va_up_self _ _ _) (fun q hq => va_up_ne _ _ hq)
              refine lv_aload hx hb dX3_narrowView_139 (lv_at hl 4 rfl) ?_
              refine lv_iload hx hb dX3_narrowView_141 (lv_at hl 2 rfl) ?_
              refine q_put C0 iX1 tyX1 tyX1_ok nmX1 hP hD hS (CP_v hC hb_r1).1 hvF rfl 2 (by decide) flX3_185 rfl rfl rfl rfl (Nat.le_of_ble_eq_true rfl) dX3_narrowView_143 (fun H locs hP hD hS => ?_)
              obtain ⟨F253, eF253⟩ : ∃ z, z = va_up F252 (gva G xv) (.inr (3, [.ref ((grh G (zvw σ xv))), .int (iI (zvl σ xv)), .int (iI (zvh σ xv))])) := ⟨_, rfl⟩
              have hP : va_P D vwCl (va_pl L F253) H := by rw [eF253]; exact hP
              have hD : va_D (AL L s.heap.size) (va_pl L F253) := by rw [eF253]; exact hD
              have hvF : F253 (gva G xv) = (.inr (3, [.ref ((grh G (zvw σ xv))), .int (iI (zvl σ xv)), .int (iI (zvh σ xv))])) := by rw [eF253]; exact va_up_self _ _ _
              have hO : OE O F F253 := by rw [eF253]; exact hO.tr (OE1 ((CP_O hC).2.2.2.2.2.1 _ hb_r1.1 hb_r1.2))
              have hC : CP y L F253 O G (sVw (sVw σ xv (zvw σ xv) (zvl σ xv) (zvh σ xv)) xv (zvw σ xv) (zvl σ xv) (zvh σ xv)) := by rw [eF253]; exact CP_vw hC hb_r1 (va_up_self _ _ _) (fun q hq => va_up_ne _ _ hq)
              refine lv_aload hx hb dX3_narrowView_146 (lv_at hl 4 rfl) ?_
              refine q_get C0 iX1 hP (CP_v hC hb_r1).1 hvF rfl 0 (by decide) flX3_178 rfl rfl dX3_narrowView_148 ?_
              refine lv_aload hx hb dX3_narrowView_151 (lv_at hl 4 rfl) ?_
              refine q_get C0 iX1 hP (CP_v hC hb_r1).1 hvF rfl 1 (by decide) flX3_182 rfl rfl dX3_narrowView_153 ?_
              refine lv_aload hx hb dX3_narrowView_156 (lv_at hl 4 rfl) ?_
              refine q_get C0 iX1 hP (CP_v hC hb_r1).1 hvF rfl 2 (by decide) flX3_185 rfl rfl dX3_narrowView_158 ?_
              refine q_vS C0 lX3_188 (c_X0_countOfPart l D y L F253 (grh G (zvw σ xv)) (grw G (zvw σ xv)) (zod σ (zvw σ xv)) ((zst σ (zvw σ xv)).1) ((zst σ (zvw σ xv)).2.1) ((zst σ (zvw σ xv)).2.2) (zvl σ xv) (zvh σ xv) (CP_r hC (hW.2.2.1 xv)) (by omega) (by omega)) ⟨rfl, rfl⟩ rfl hP (CP_r hC (hW.2.2.1 xv)).1 (CP_r hC (hW.2.2.1 xv)).2.1 rfl rfl rfl hl rfl (Nat.le_of_ble_eq_true rfl) dX3_narrowView_161 ⟨Nat.le_of_ble_eq_true rfl, Nat.le_of_ble_eq_true rfl⟩ (fun r254 e_r254 => ?_)
              subst e_r254
              refine W.widen (k := 8) (n := 60) (Nat.le_of_ble_eq_true rfl) (Nat.le_of_ble_eq_true rfl) ?_
              exact vx_ret (q_retMi C0 hret rfl hlk dX3_narrowView_164 hP hD hS (⟨by omega, by omega, (by unfold kR_narrowView; rw [if_neg (by (unfold nRef; (repeat' split) <;> omega)), show nLo σ xv xkind xlow = zvl σ xv by (unfold nLo; (repeat' split) <;> first | rfl | omega), show nHi σ xv xkind xhigh = zvh σ xv by (unfold nHi; (repeat' split) <;> first | rfl | omega)]), O, G, CP_eq hC (by rw [sVw2]; unfold kS_narrowView; rw [if_neg (by (unfold nRef; (repeat' split) <;> omega)), show nLo σ xv xkind xlow = zvl σ xv by (unfold nLo; (repeat' split) <;> first | rfl | omega), show nHi σ xv xkind xhigh = zvh σ xv by (unfold nHi; (repeat' split) <;> first | rfl | omega)]), rfl, Ext0 hO⟩))
            · refine lv_aload_n hx hb dX3_narrowView_127 rfl (lv_at hl 5 rfl) ?_
              refine q_vMi C0 lX3_63 (c_X3_refuse l D y L F _ O G σ hC) ⟨rfl, rfl⟩ rfl hP hD hS hA hC.1.1 hC.1.2 rfl rfl rfl hl rfl (Nat.le_of_ble_eq_true rfl) dX3_narrowView_128 ⟨Nat.le_of_ble_eq_true rfl, Nat.le_of_ble_eq_true rfl⟩ (fun r255 H locs L256 F256 hP hD hS hz256 hp256 => ?_)
              obtain ⟨eL, hC, er, hO1⟩ := hp256
              subst eL
              subst er
              have hO := hO.tr hO1
              refine W.widen (k := 8) (n := 60) (Nat.le_of_ble_eq_true rfl) (Nat.le_of_ble_eq_true rfl) ?_
              exact vx_ret (q_retMi C0 hret rfl hlk dX3_narrowView_131 hP hD hS (⟨by omega, by omega, (by unfold kR_narrowView; rw [if_pos (by unfold nRef; (repeat' split) <;> first | rfl | omega)]), O, G, CP_eq hC (by unfold kS_narrowView; rw [if_pos (by unfold nRef; (repeat' split) <;> first | rfl | omega)]), rfl, Ext0 hO⟩))
        · refine lv_aload hx hb dX3_narrowView_88 (lv_at hl 3 rfl) ?_
          refine lv_iload hx hb dX3_narrowView_90 (lv_at hl 1 rfl) ?_
          refine q_vS C0 lX3_191 (c_X1_isWithin l D y L F (gva G xv) (grh G (zvw σ xv)) (zvl σ xv) (zvh σ xv) (zvh σ xv) (CP_v hC hb_r1).1 (CP_v hC hb_r1).2 (by omega) (by omega) (by omega)) ⟨rfl, rfl⟩ rfl hP (CP_v hC hb_r1).1 (CP_v hC hb_r1).2 rfl rfl rfl hl rfl (Nat.le_of_ble_eq_true rfl) dX3_narrowView_92 ⟨Nat.le_of_ble_eq_true rfl, Nat.le_of_ble_eq_true rfl⟩ (fun r257 e_r257 => ?_)
          subst e_r257
          refine q_if_ne hx hb dX3_narrowView_95 (tgt := 102) (by decide) (by omega) (fun c258 => ?_) (fun c258 => ?_)
          · refine q_iconst hx hb dX3_narrowView_102 ?_
            refine lv_istore (lv' := [(9, .int (iI 0)), (8, .int (iI 0)), (7, .int (iI (zvh σ xv))), (6, .int (iI (zvl σ xv))), (5, .ref ((gva G xv))), (0, .ref ((gbg G))), (1, .int (iI xv)), (2, .int (iI xkind)), (3, .int (iI xlow)), (4, .int (iI xhigh))]) hx hb dX3_narrowView_103 hl (by decide) rfl (fun ls hl => ?_)
            refine lv_iload hx hb dX3_narrowView_105 (lv_at hl 1 rfl) ?_
            refine q_if_ne hx hb dX3_narrowView_107 (tgt := 127) (by decide) (by omega) (fun c259 => absurd c259 (by omega)) (fun c259 => ?_)
            refine lv_iload hx hb dX3_narrowView_110 (lv_at hl 0 rfl) ?_
            refine q_if_ne hx hb dX3_narrowView_112 (tgt := 127) (by decide) (by omega) (fun c260 => absurd c260 (by omega)) (fun c260 => ?_)
            refine lv_iload_n hx hb dX3_narrowView_115 rfl (lv_at hl 7 rfl) ?_
            refine q_iconst hx hb dX3_narrowView_116 ?_
            refine q_icmp_ne hx hb dX3_narrowView_117 (tgt := 132) (by decide) (by omega) (by omega) (fun c261 => ?_) (fun c261 => ?_)
            · refine lv_aload hx hb dX3_narrowView_132 (lv_at hl 4 rfl) ?_
              refine lv_iload hx hb dX3_narrowView_134 (lv_at hl 3 rfl) ?_
              refine q_put C0 iX1 tyX1 tyX1_ok nmX1 hP hD hS (CP_v hC hb_r1).1 (CP_v hC hb_r1).2 rfl 1 (by decide) flX3_182 rfl rfl rfl rfl (Nat.le_of_ble_eq_true rfl) dX3_narrowView_136 (fun H locs hP hD hS => ?_)
              obtain ⟨F262, eF262⟩ : ∃ z, z = va_up F (gva G xv) (.inr (3, [.ref ((grh G (zvw σ xv))), .int (iI (zvl σ xv)), .int (iI (zvh σ xv))])) := ⟨_, rfl⟩
              have hP : va_P D vwCl (va_pl L F262) H := by rw [eF262]; exact hP
              have hD : va_D (AL L s.heap.size) (va_pl L F262) := by rw [eF262]; exact hD
              have hvF : F262 (gva G xv) = (.inr (3, [.ref ((grh G (zvw σ xv))), .int (iI (zvl σ xv)), .int (iI (zvh σ xv))])) := by rw [eF262]; exact va_up_self _ _ _
              have hO : OE O F F262 := by rw [eF262]; exact hO.tr (OE1 ((CP_O hC).2.2.2.2.2.1 _ hb_r1.1 hb_r1.2))
              have hC : CP y L F262 O G (sVw σ xv (zvw σ xv) (zvl σ xv) (zvh σ xv)) := by rw [eF262]; exact CP_vw hC hb_r1 (va_up_self _ _ _) (fun q hq => va_up_ne _ _ hq)
              refine lv_aload hx hb dX3_narrowView_139 (lv_at hl 4 rfl) ?_
              refine lv_iload hx hb dX3_narrowView_141 (lv_at hl 2 rfl) ?_
              refine q_put C0 iX1 tyX1 tyX1_ok nmX1 hP hD hS (CP_v hC hb_r1).1 hvF rfl 2 (by decide) flX3_185 rfl rfl rfl rfl (Nat.le_of_ble_eq_true rfl) dX3_narrowView_143 (fun H locs hP hD hS => ?_)
              obtain ⟨F263, eF263⟩ : ∃ z, z = va_up F262 (gva G xv) (.inr (3, [.ref ((grh G (zvw σ xv))), .int (iI (zvl σ xv)), .int (iI (zvh σ xv))])) := ⟨_, rfl⟩
              have hP : va_P D vwCl (va_pl L F263) H := by rw [eF263]; exact hP
              have hD : va_D (AL L s.heap.size) (va_pl L F263) := by rw [eF263]; exact hD
              have hvF : F263 (gva G xv) = (.inr (3, [.ref ((grh G (zvw σ xv))), .int (iI (zvl σ xv)), .int (iI (zvh σ xv))])) := by rw [eF263]; exact va_up_self _ _ _
              have hO : OE O F F263 := by rw [eF263]; exact hO.tr (OE1 ((CP_O hC).2.2.2.2.2.1 _ hb_r1.1 hb_r1.2))
              have hC : CP y L F263 O G (sVw (sVw σ xv (zvw σ xv) (zvl σ xv) (zvh σ xv)) xv (zvw σ xv) (zvl σ xv) (zvh σ xv)) := by rw [eF263]; exact CP_vw hC hb_r1 (va_up_self _ _ _) (fun q hq => va_up_ne _ _ hq)
              refine lv_aload hx hb dX3_narrowView_146 (lv_at hl 4 rfl) ?_
              refine q_get C0 iX1 hP (CP_v hC hb_r1).1 hvF rfl 0 (by decide) flX3_178 rfl rfl dX3_narrowView_148 ?_
              refine lv_aload hx hb dX3_narrowView_151 (lv_at hl 4 rfl) ?_
              refine q_get C0 iX1 hP (CP_v hC hb_r1).1 hvF rfl 1 (by decide) flX3_182 rfl rfl dX3_narrowView_153 ?_
              refine lv_aload hx hb dX3_narrowView_156 (lv_at hl 4 rfl) ?_
              refine q_get C0 iX1 hP (CP_v hC hb_r1).1 hvF rfl 2 (by decide) flX3_185 rfl rfl dX3_narrowView_158 ?_
              refine q_vS C0 lX3_188 (c_X0_countOfPart l D y L F263 (grh G (zvw σ xv)) (grw G (zvw σ xv)) (zod σ (zvw σ xv)) ((zst σ (zvw σ xv)).1) ((zst σ (zvw σ xv)).2.1) ((zst σ (zvw σ xv)).2.2) (zvl σ xv) (zvh σ xv) (CP_r hC (hW.2.2.1 xv)) (by omega) (by omega)) ⟨rfl, rfl⟩ rfl hP (CP_r hC (hW.2.2.1 xv)).1 (CP_r hC (hW.2.2.1 xv)).2.1 rfl rfl rfl hl rfl (Nat.le_of_ble_eq_true rfl) dX3_narrowView_161 ⟨Nat.le_of_ble_eq_true rfl, Nat.le_of_ble_eq_true rfl⟩ (fun r264 e_r264 => ?_)
              subst e_r264
              refine W.widen (k := 8) (n := 60) (Nat.le_of_ble_eq_true rfl) (Nat.le_of_ble_eq_true rfl) ?_
              exact vx_ret (q_retMi C0 hret rfl hlk dX3_narrowView_164 hP hD hS (⟨by omega, by omega, (by unfold kR_narrowView; rw [if_neg (by (unfold nRef; (repeat' split) <;> omega)), show nLo σ xv xkind xlow = zvl σ xv by (unfold nLo; (repeat' split) <;> first | rfl | omega), show nHi σ xv xkind xhigh = zvh σ xv by (unfold nHi; (repeat' split) <;> first | rfl | omega)]), O, G, CP_eq hC (by rw [sVw2]; unfold kS_narrowView; rw [if_neg (by (unfold nRef; (repeat' split) <;> omega)), show nLo σ xv xkind xlow = zvl σ xv by (unfold nLo; (repeat' split) <;> first | rfl | omega), show nHi σ xv xkind xhigh = zvh σ xv by (unfold nHi; (repeat' split) <;> first | rfl | omega)]), rfl, Ext0 hO⟩))
            · refine lv_iload hx hb dX3_narrowView_120 (lv_at hl 3 rfl) ?_
              refine lv_iload hx hb dX3_narrowView_122 (lv_at hl 2 rfl) ?_
              refine q_icmp_le hx hb dX3_narrowView_124 (tgt := 132) (by decide) (by omega) (by omega) (fun c265 => ?_) (fun c265 => ?_)
              · refine lv_aload hx hb dX3_narrowView_132 (lv_at hl 4 rfl) ?_
                refine lv_iload hx hb dX3_narrowView_134 (lv_at hl 3 rfl) ?_
                refine q_put C0 iX1 tyX1 tyX1_ok nmX1 hP hD hS (CP_v hC hb_r1).1 (CP_v hC hb_r1).2 rfl 1 (by decide) flX3_182 rfl rfl rfl rfl (Nat.le_of_ble_eq_true rfl) dX3_narrowView_136 (fun H locs hP hD hS => ?_)
                obtain ⟨F266, eF266⟩ : ∃ z, z = va_up F (gva G xv) (.inr (3, [.ref ((grh G (zvw σ xv))), .int (iI (zvl σ xv)), .int (iI (zvh σ xv))])) := ⟨_, rfl⟩
                have hP : va_P D vwCl (va_pl L F266) H := by rw [eF266]; exact hP
                have hD : va_D (AL L s.heap.size) (va_pl L F266) := by rw [eF266]; exact hD
                have hvF : F266 (gva G xv) = (.inr (3, [.ref ((grh G (zvw σ xv))), .int (iI (zvl σ xv)), .int (iI (zvh σ xv))])) := by rw [eF266]; exact va_up_self _ _ _
                have hO : OE O F F266 := by rw [eF266]; exact hO.tr (OE1 ((CP_O hC).2.2.2.2.2.1 _ hb_r1.1 hb_r1.2))
                have hC : CP y L F266 O G (sVw σ xv (zvw σ xv) (zvl σ xv) (zvh σ xv)) := by rw [eF266]; exact CP_vw hC hb_r1 (va_up_self _ _ _) (fun q hq => va_up_ne _ _ hq)
                refine lv_aload hx hb dX3_narrowView_139 (lv_at hl 4 rfl) ?_
                refine lv_iload hx hb dX3_narrowView_141 (lv_at hl 2 rfl) ?_
                refine q_put C0 iX1 tyX1 tyX1_ok nmX1 hP hD hS (CP_v hC hb_r1).1 hvF rfl 2 (by decide) flX3_185 rfl rfl rfl rfl (Nat.le_of_ble_eq_true rfl) dX3_narrowView_143 (fun H locs hP hD hS => ?_)
                obtain ⟨F267, eF267⟩ : ∃ z, z = va_up F266 (gva G xv) (.inr (3, [.ref ((grh G (zvw σ xv))), .int (iI (zvl σ xv)), .int (iI (zvh σ xv))])) := ⟨_, rfl⟩
                have hP : va_P D vwCl (va_pl L F267) H := by rw [eF267]; exact hP
                have hD : va_D (AL L s.heap.size) (va_pl L F267) := by rw [eF267]; exact hD
                have hvF : F267 (gva G xv) = (.inr (3, [.ref ((grh G (zvw σ xv))), .int (iI (zvl σ xv)), .int (iI (zvh σ xv))])) := by rw [eF267]; exact va_up_self _ _ _
                have hO : OE O F F267 := by rw [eF267]; exact hO.tr (OE1 ((CP_O hC).2.2.2.2.2.1 _ hb_r1.1 hb_r1.2))
                have hC : CP y L F267 O G (sVw (sVw σ xv (zvw σ xv) (zvl σ xv) (zvh σ xv)) xv (zvw σ xv) (zvl σ xv) (zvh σ xv)) := by rw [eF267]; exact CP_vw hC hb_r1 (va_up_self _ _ _) (fun q hq => va_up_ne _ _ hq)
                refine lv_aload hx hb dX3_narrowView_146 (lv_at hl 4 rfl) ?_
                refine q_get C0 iX1 hP (CP_v hC hb_r1).1 hvF rfl 0 (by decide) flX3_178 rfl rfl dX3_narrowView_148 ?_
                refine lv_aload hx hb dX3_narrowView_151 (lv_at hl 4 rfl) ?_
                refine q_get C0 iX1 hP (CP_v hC hb_r1).1 hvF rfl 1 (by decide) flX3_182 rfl rfl dX3_narrowView_153 ?_
                refine lv_aload hx hb dX3_narrowView_156 (lv_at hl 4 rfl) ?_
                refine q_get C0 iX1 hP (CP_v hC hb_r1).1 hvF rfl 2 (by decide) flX3_185 rfl rfl dX3_narrowView_158 ?_
                refine q_vS C0 lX3_188 (c_X0_countOfPart l D y L F267 (grh G (zvw σ xv)) (grw G (zvw σ xv)) (zod σ (zvw σ xv)) ((zst σ (zvw σ xv)).1) ((zst σ (zvw σ xv)).2.1) ((zst σ (zvw σ xv)).2.2) (zvl σ xv) (zvh σ xv) (CP_r hC (hW.2.2.1 xv)) (by omega) (by omega)) ⟨rfl, rfl⟩ rfl hP (CP_r hC (hW.2.2.1 xv)).1 (CP_r hC (hW.2.2.1 xv)).2.1 rfl rfl rfl hl rfl (Nat.le_of_ble_eq_true rfl) dX3_narrowView_161 ⟨Nat.le_of_ble_eq_true rfl, Nat.le_of_ble_eq_true rfl⟩ (fun r268 e_r268 => ?_)
                subst e_r268
                refine W.widen (k := 8) (n := 60) (Nat.le_of_ble_eq_true rfl) (Nat.le_of_ble_eq_true rfl) ?_
                exact vx_ret (q_retMi C0 hret rfl hlk dX3_narrowView_164 hP hD hS (⟨by omega, by omega, (by unfold kR_narrowView; rw [if_neg (by (unfold nRef; (repeat' split) <;> omega)), show nLo σ xv xkind xlow = zvl σ xv by (unfold nLo; (repeat' split) <;> first | rfl | omega), show nHi σ xv xkind xhigh = zvh σ xv by (unfold nHi; (repeat' split) <;> first | rfl | omega)]), O, G, CP_eq hC (by rw [sVw2]; unfold kS_narrowView; rw [if_neg (by (unfold nRef; (repeat' split) <;> omega)), show nLo σ xv xkind xlow = zvl σ xv by (unfold nLo; (repeat' split) <;> first | rfl | omega), show nHi σ xv xkind xhigh = zvh σ xv by (unfold nHi; (repeat' split) <;> first | rfl | omega)]), rfl, Ext0 hO⟩))
              · refine lv_aload_n hx hb dX3_narrowView_127 rfl (lv_at hl 5 rfl) ?_
                refine q_vMi C0 lX3_63 (c_X3_refuse l D y L F _ O G σ hC) ⟨rfl, rfl⟩ rfl hP hD hS hA hC.1.1 hC.1.2 rfl rfl rfl hl rfl (Nat.le_of_ble_eq_true rfl) dX3_narrowView_128 ⟨Nat.le_of_ble_eq_true rfl, Nat.le_of_ble_eq_true rfl⟩ (fun r269 H locs L270 F270 hP hD hS hz270 hp270 => ?_)
                obtain ⟨eL, hC, er, hO1⟩ := hp270
                subst eL
                subst er
                have hO := hO.tr hO1
                refine W.widen (k := 8) (n := 60) (Nat.le_of_ble_eq_true rfl) (Nat.le_of_ble_eq_true rfl) ?_
                exact vx_ret (q_retMi C0 hret rfl hlk dX3_narrowView_131 hP hD hS (⟨by omega, by omega, (by unfold kR_narrowView; rw [if_pos (by unfold nRef; (repeat' split) <;> first | rfl | omega)]), O, G, CP_eq hC (by unfold kS_narrowView; rw [if_pos (by unfold nRef; (repeat' split) <;> first | rfl | omega)]), rfl, Ext0 hO⟩))
          · refine q_iconst hx hb dX3_narrowView_98 ?_
            refine lv_goto (tgt := 103) hx hb dX3_narrowView_99 (by decide) ?_
            refine lv_istore (lv' := [(9, .int (iI 1)), (8, .int (iI 0)), (7, .int (iI (zvh σ xv))), (6, .int (iI (zvl σ xv))), (5, .ref ((gva G xv))), (0, .ref ((gbg G))), (1, .int (iI xv)), (2, .int (iI xkind)), (3, .int (iI xlow)), (4, .int (iI xhigh))]) hx hb dX3_narrowView_103 hl (by decide) rfl (fun ls hl => ?_)
            refine lv_iload hx hb dX3_narrowView_105 (lv_at hl 1 rfl) ?_
            refine q_if_ne hx hb dX3_narrowView_107 (tgt := 127) (by decide) (by omega) (fun c271 => absurd c271 (by omega)) (fun c271 => ?_)
            refine lv_iload hx hb dX3_narrowView_110 (lv_at hl 0 rfl) ?_
            refine q_if_ne hx hb dX3_narrowView_112 (tgt := 127) (by decide) (by omega) (fun c272 => ?_) (fun c272 => absurd c272 (by omega))
            refine lv_aload_n hx hb dX3_narrowView_127 rfl (lv_at hl 5 rfl) ?_
            refine q_vMi C0 lX3_63 (c_X3_refuse l D y L F _ O G σ hC) ⟨rfl, rfl⟩ rfl hP hD hS hA hC.1.1 hC.1.2 rfl rfl rfl hl rfl (Nat.le_of_ble_eq_true rfl) dX3_narrowView_128 ⟨Nat.le_of_ble_eq_true rfl, Nat.le_of_ble_eq_true rfl⟩ (fun r273 H locs L274 F274 hP hD hS hz274 hp274 => ?_)
            obtain ⟨eL, hC, er, hO1⟩ := hp274
            subst eL
            subst er
            have hO := hO.tr hO1
            refine W.widen (k := 8) (n := 60) (Nat.le_of_ble_eq_true rfl) (Nat.le_of_ble_eq_true rfl) ?_
            exact vx_ret (q_retMi C0 hret rfl hlk dX3_narrowView_131 hP hD hS (⟨by omega, by omega, (by unfold kR_narrowView; rw [if_pos (by unfold nRef; (repeat' split) <;> first | rfl | omega)]), O, G, CP_eq hC (by unfold kS_narrowView; rw [if_pos (by unfold nRef; (repeat' split) <;> first | rfl | omega)]), rfl, Ext0 hO⟩))
      · refine lv_aload hx hb dX3_narrowView_66 (lv_at hl 2 rfl) ?_
        refine lv_iload hx hb dX3_narrowView_68 (lv_at hl 1 rfl) ?_
        refine q_vS C0 lX3_191 (c_X1_isWithin l D y L F (gva G xv) (grh G (zvw σ xv)) (zvl σ xv) (zvh σ xv) (zvl σ xv) (CP_v hC hb_r1).1 (CP_v hC hb_r1).2 (by omega) (by omega) (by omega)) ⟨rfl, rfl⟩ rfl hP (CP_v hC hb_r1).1 (CP_v hC hb_r1).2 rfl rfl rfl hl rfl (Nat.le_of_ble_eq_true rfl) dX3_narrowView_70 ⟨Nat.le_of_ble_eq_true rfl, Nat.le_of_ble_eq_true rfl⟩ (fun r275 e_r275 => ?_)
        subst e_r275
        refine q_if_ne hx hb dX3_narrowView_73 (tgt := 80) (by decide) (by omega) (fun c276 => ?_) (fun c276 => ?_)
        · refine q_iconst hx hb dX3_narrowView_80 ?_
          refine lv_istore (lv' := [(8, .int (iI 0)), (7, .int (iI (zvh σ xv))), (6, .int (iI (zvl σ xv))), (5, .ref ((gva G xv))), (0, .ref ((gbg G))), (1, .int (iI xv)), (2, .int (iI xkind)), (3, .int (iI xlow)), (4, .int (iI xhigh))]) hx hb dX3_narrowView_81 hl (by decide) rfl (fun ls hl => ?_)
          refine lv_iload_n hx hb dX3_narrowView_83 rfl (lv_at hl 6 rfl) ?_
          refine q_iconst hx hb dX3_narrowView_84 ?_
          refine q_icmp_eq hx hb dX3_narrowView_85 (tgt := 102) (by decide) (by omega) (by omega) (fun c277 => ?_) (fun c277 => ?_)
          · refine q_iconst hx hb dX3_narrowView_102 ?_
            refine lv_istore (lv' := [(9, .int (iI 0)), (8, .int (iI 0)), (7, .int (iI (zvh σ xv))), (6, .int (iI (zvl σ xv))), (5, .ref ((gva G xv))), (0, .ref ((gbg G))), (1, .int (iI xv)), (2, .int (iI xkind)), (3, .int (iI xlow)), (4, .int (iI xhigh))]) hx hb dX3_narrowView_103 hl (by decide) rfl (fun ls hl => ?_)
            refine lv_iload hx hb dX3_narrowView_105 (lv_at hl 1 rfl) ?_
            refine q_if_ne hx hb dX3_narrowView_107 (tgt := 127) (by decide) (by omega) (fun c278 => absurd c278 (by omega)) (fun c278 => ?_)
            refine lv_iload hx hb dX3_narrowView_110 (lv_at hl 0 rfl) ?_
            refine q_if_ne hx hb dX3_narrowView_112 (tgt := 127) (by decide) (by omega) (fun c279 => absurd c279 (by omega)) (fun c279 => ?_)
            refine lv_iload_n hx hb dX3_narrowView_115 rfl (lv_at hl 7 rfl) ?_
            refine q_iconst hx hb dX3_narrowView_116 ?_
            refine q_icmp_ne hx hb dX3_narrowView_117 (tgt := 132) (by decide) (by omega) (by omega) (fun c280 => ?_) (fun c280 => ?_)
            · refine lv_aload hx hb dX3_narrowView_132 (lv_at hl 4 rfl) ?_
              refine lv_iload hx hb dX3_narrowView_134 (lv_at hl 3 rfl) ?_
              refine q_put C0 iX1 tyX1 tyX1_ok nmX1 hP hD hS (CP_v hC hb_r1).1 (CP_v hC hb_r1).2 rfl 1 (by decide) flX3_182 rfl rfl rfl rfl (Nat.le_of_ble_eq_true rfl) dX3_narrowView_136 (fun H locs hP hD hS => ?_)
              obtain ⟨F281, eF281⟩ : ∃ z, z = va_up F (gva G xv) (.inr (3, [.ref ((grh G (zvw σ xv))), .int (iI (zvl σ xv)), .int (iI (zvh σ xv))])) := ⟨_, rfl⟩
              have hP : va_P D vwCl (va_pl L F281) H := by rw [eF281]; exact hP
              have hD : va_D (AL L s.heap.size) (va_pl L F281) := by rw [eF281]; exact hD
              have hvF : F281 (gva G xv) = (.inr (3, [.ref ((grh G (zvw σ xv))), .int (iI (zvl σ xv)), .int (iI (zvh σ xv))])) := by rw [eF281]; exact va_up_self _ _ _
              have hO : OE O F F281 := by rw [eF281]; exact hO.tr (OE1 ((CP_O hC).2.2.2.2.2.1 _ hb_r1.1 hb_r1.2))
              have hC : CP y L F281 O G (sVw σ xv (zvw σ xv) (zvl σ xv) (zvh σ xv)) := by rw [eF281]; exact CP_vw hC hb_r1 (va_up_self _ _ _) (fun q hq => va_up_ne _ _ hq)
              refine lv_aload hx hb dX3_narrowView_139 (lv_at hl 4 rfl) ?_
              refine lv_iload hx hb dX3_narrowView_141 (lv_at hl 2 rfl) ?_
              refine q_put C0 iX1 tyX1 tyX1_ok nmX1 hP hD hS (CP_v hC hb_r1).1 hvF rfl 2 (by decide) flX3_185 rfl rfl rfl rfl (Nat.le_of_ble_eq_true rfl) dX3_narrowView_143 (fun H locs hP hD hS => ?_)
              obtain ⟨F282, eF282⟩ : ∃ z, z = va_up F281 (gva G xv) (.inr (3, [.ref ((grh G (zvw σ xv))), .int (iI (zvl σ xv)), .int (iI (zvh σ xv))])) := ⟨_, rfl⟩
              have hP : va_P D vwCl (va_pl L F282) H := by rw [eF282]; exact hP
              have hD : va_D (AL L s.heap.size) (va_pl L F282) := by rw [eF282]; exact hD
              have hvF : F282 (gva G xv) = (.inr (3, [.ref ((grh G (zvw σ xv))), .int (iI (zvl σ xv)), .int (iI (zvh σ xv))])) := by rw [eF282]; exact va_up_self _ _ _
              have hO : OE O F F282 := by rw [eF282]; exact hO.tr (OE1 ((CP_O hC).2.2.2.2.2.1 _ hb_r1.1 hb_r1.2))
              have hC : CP y L F282 O G (sVw (sVw σ xv (zvw σ xv) (zvl σ xv) (zvh σ xv)) xv (zvw σ xv) (zvl σ xv) (zvh σ xv)) := by rw [eF282]; exact CP_vw hC hb_r1 (va_up_self _ _ _) (fun q hq => va_up_ne _ _ hq)
              refine lv_aload hx hb dX3_narrowView_146 (lv_at hl 4 rfl) ?_
              refine q_get C0 iX1 hP (CP_v hC hb_r1).1 hvF rfl 0 (by decide) flX3_178 rfl rfl dX3_narrowView_148 ?_
              refine lv_aload hx hb dX3_narrowView_151 (lv_at hl 4 rfl) ?_
              refine q_get C0 iX1 hP (CP_v hC hb_r1).1 hvF rfl 1 (by decide) flX3_182 rfl rfl dX3_narrowView_153 ?_
              refine lv_aload hx hb dX3_narrowView_156 (lv_at hl 4 rfl) ?_
              refine q_get C0 iX1 hP (CP_v hC hb_r1).1 hvF rfl 2 (by decide) flX3_185 rfl rfl dX3_narrowView_158 ?_
              refine q_vS C0 lX3_188 (c_X0_countOfPart l D y L F282 (grh G (zvw σ xv)) (grw G (zvw σ xv)) (zod σ (zvw σ xv)) ((zst σ (zvw σ xv)).1) ((zst σ (zvw σ xv)).2.1) ((zst σ (zvw σ xv)).2.2) (zvl σ xv) (zvh σ xv) (CP_r hC (hW.2.2.1 xv)) (by omega) (by omega)) ⟨rfl, rfl⟩ rfl hP (CP_r hC (hW.2.2.1 xv)).1 (CP_r hC (hW.2.2.1 xv)).2.1 rfl rfl rfl hl rfl (Nat.le_of_ble_eq_true rfl) dX3_narrowView_161 ⟨Nat.le_of_ble_eq_true rfl, Nat.le_of_ble_eq_true rfl⟩ (fun r283 e_r283 => ?_)
              subst e_r283
              refine W.widen (k := 8) (n := 60) (Nat.le_of_ble_eq_true rfl) (Nat.le_of_ble_eq_true rfl) ?_
              exact vx_ret (q_retMi C0 hret rfl hlk dX3_narrowView_164 hP hD hS (⟨by omega, by omega, (by unfold kR_narrowView; rw [if_neg (by (unfold nRef; (repeat' split) <;> omega)), show nLo σ xv xkind xlow = zvl σ xv by (unfold nLo; (repeat' split) <;> first | rfl | omega), show nHi σ xv xkind xhigh = zvh σ xv by (unfold nHi; (repeat' split) <;> first | rfl | omega)]), O, G, CP_eq hC (by rw [sVw2]; unfold kS_narrowView; rw [if_neg (by (unfold nRef; (repeat' split) <;> omega)), show nLo σ xv xkind xlow = zvl σ xv by (unfold nLo; (repeat' split) <;> first | rfl | omega), show nHi σ xv xkind xhigh = zvh σ xv by (unfold nHi; (repeat' split) <;> first | rfl | omega)]), rfl, Ext0 hO⟩))
            · refine lv_iload hx hb dX3_narrowView_120 (lv_at hl 3 rfl) ?_
              refine lv_iload hx hb dX3_narrowView_122 (lv_at hl 2 rfl) ?_
              refine q_icmp_le hx hb dX3_narrowView_124 (tgt := 132) (by decide) (by omega) (by omega) (fun c284 => ?_) (fun c284 => ?_)
              · refine lv_aload hx hb dX3_narrowView_132 (lv_at hl 4 rfl) ?_
                refine lv_iload hx hb dX3_narrowView_134 (lv_at hl 3 rfl) ?_
                refine q_put C0 iX1 tyX1 tyX1_ok nmX1 hP hD hS (CP_v hC hb_r1).1 (CP_v hC hb_r1).2 rfl 1 (by decide) flX3_182 rfl rfl rfl rfl (Nat.le_of_ble_eq_true rfl) dX3_narrowView_136 (fun H locs hP hD hS => ?_)
                obtain ⟨F285, eF285⟩ : ∃ z, z = va_up F (gva G xv) (.inr (3, [.ref ((grh G (zvw σ xv))), .int (iI (zvl σ xv)), .int (iI (zvh σ xv))])) := ⟨_, rfl⟩
                have hP : va_P D vwCl (va_pl L F285) H := by rw [eF285]; exact hP
                have hD : va_D (AL L s.heap.size) (va_pl L F285) := by rw [eF285]; exact hD
                have hvF : F285 (gva G xv) = (.inr (3, [.ref ((grh G (zvw σ xv))), .int (iI (zvl σ xv)), .int (iI (zvh σ xv))])) := by rw [eF285]; exact va_up_self _ _ _
                have hO : OE O F F285 := by rw [eF285]; exact hO.tr (OE1 ((CP_O hC).2.2.2.2.2.1 _ hb_r1.1 hb_r1.2))
                have hC : CP y L F285 O G (sVw σ xv (zvw σ xv) (zvl σ xv) (zvh σ xv)) := by rw [eF285]; exact CP_vw hC hb_r1 (va_up_self _ _ _) (fun q hq => va_up_ne _ _ hq)
                refine lv_aload hx hb dX3_narrowView_139 (lv_at hl 4 rfl) ?_
                refine lv_iload hx hb dX3_narrowView_141 (lv_at hl 2 rfl) ?_
                refine q_put C0 iX1 tyX1 tyX1_ok nmX1 hP hD hS (CP_v hC hb_r1).1 hvF rfl 2 (by decide) flX3_185 rfl rfl rfl rfl (Nat.le_of_ble_eq_true rfl) dX3_narrowView_143 (fun H locs hP hD hS => ?_)
                obtain ⟨F286, eF286⟩ : ∃ z, z = va_up F285 (gva G xv) (.inr (3, [.ref ((grh G (zvw σ xv))), .int (iI (zvl σ xv)), .int (iI (zvh σ xv))])) := ⟨_, rfl⟩
                have hP : va_P D vwCl (va_pl L F286) H := by rw [eF286]; exact hP
                have hD : va_D (AL L s.heap.size) (va_pl L F286) := by rw [eF286]; exact hD
                have hvF : F286 (gva G xv) = (.inr (3, [.ref ((grh G (zvw σ xv))), .int (iI (zvl σ xv)), .int (iI (zvh σ xv))])) := by rw [eF286]; exact va_up_self _ _ _
                have hO : OE O F F286 := by rw [eF286]; exact hO.tr (OE1 ((CP_O hC).2.2.2.2.2.1 _ hb_r1.1 hb_r1.2))
                have hC : CP y L F286 O G (sVw (sVw σ xv (zvw σ xv) (zvl σ xv) (zvh σ xv)) xv (zvw σ xv) (zvl σ xv) (zvh σ xv)) := by rw [eF286]; exact CP_vw hC hb_r1 (va_up_self _ _ _) (fun q hq => va_up_ne _ _ hq)
                refine lv_aload hx hb dX3_narrowView_146 (lv_at hl 4 rfl) ?_
                refine q_get C0 iX1 hP (CP_v hC hb_r1).1 hvF rfl 0 (by decide) flX3_178 rfl rfl dX3_narrowView_148 ?_
                refine lv_aload hx hb dX3_narrowView_151 (lv_at hl 4 rfl) ?_
                refine q_get C0 iX1 hP (CP_v hC hb_r1).1 hvF rfl 1 (by decide) flX3_182 rfl rfl dX3_narrowView_153 ?_
                refine lv_aload hx hb dX3_narrowView_156 (lv_at hl 4 rfl) ?_
                refine q_get C0 iX1 hP (CP_v hC hb_r1).1 hvF rfl 2 (by decide) flX3_185 rfl rfl dX3_narrowView_158 ?_
                refine q_vS C0 lX3_188 (c_X0_countOfPart l D y L F286 (grh G (zvw σ xv)) (grw G (zvw σ xv)) (zod σ (zvw σ xv)) ((zst σ (zvw σ xv)).1) ((zst σ (zvw σ xv)).2.1) ((zst σ (zvw σ xv)).2.2) (zvl σ xv) (zvh σ xv) (CP_r hC (hW.2.2.1 xv)) (by omega) (by omega)) ⟨rfl, rfl⟩ rfl hP (CP_r hC (hW.2.2.1 xv)).1 (CP_r hC (hW.2.2.1 xv)).2.1 rfl rfl rfl hl rfl (Nat.le_of_ble_eq_true rfl) dX3_narrowView_161 ⟨Nat.le_of_ble_eq_true rfl, Nat.le_of_ble_eq_true rfl⟩ (fun r287 e_r287 => ?_)
                subst e_r287
                refine W.widen (k := 8) (n := 60) (Nat.le_of_ble_eq_true rfl) (Nat.le_of_ble_eq_true rfl) ?_
                exact vx_ret (q_retMi C0 hret rfl hlk dX3_narrowView_164 hP hD hS (⟨by omega, by omega, (by unfold kR_narrowView; rw [if_neg (by (unfold nRef; (repeat' split) <;> omega)), show nLo σ xv xkind xlow = zvl σ xv by (unfold nLo; (repeat' split) <;> first | rfl | omega), show nHi σ xv xkind xhigh = zvh σ xv by (unfold nHi; (repeat' split) <;> first | rfl | omega)]), O, G, CP_eq hC (by rw [sVw2]; unfold kS_narrowView; rw [if_neg (by (unfold nRef; (repeat' split) <;> omega)), show nLo σ xv xkind xlow = zvl σ xv by (unfold nLo; (repeat' split) <;> first | rfl | omega), show nHi σ xv xkind xhigh = zvh σ xv by (unfold nHi; (repeat' split) <;> first | rfl | omega)]), rfl, Ext0 hO⟩))
              · refine lv_aload_n hx hb dX3_narrowView_127 rfl (lv_at hl 5 rfl) ?_
                refine q_vMi C0 lX3_63 (c_X3_refuse l D y L F _ O G σ hC) ⟨rfl, rfl⟩ rfl hP hD hS hA hC.1.1 hC.1.2 rfl rfl rfl hl rfl (Nat.le_of_ble_eq_true rfl) dX3_narrowView_128 ⟨Nat.le_of_ble_eq_true rfl, Nat.le_of_ble_eq_true rfl⟩ (fun r288 H locs L289 F289 hP hD hS hz289 hp289 => ?_)
                obtain ⟨eL, hC, er, hO1⟩ := hp289
                subst eL
                subst er
                have hO := hO.tr hO1
                refine W.widen (k := 8) (n := 60) (Nat.le_of_ble_eq_true rfl) (Nat.le_of_ble_eq_true rfl) ?_
                exact vx_ret (q_retMi C0 hret rfl hlk dX3_narrowView_131 hP hD hS (⟨by omega, by omega, (by unfold kR_narrowView; rw [if_pos (by unfold nRef; (repeat' split) <;> first | rfl | omega)]), O, G, CP_eq hC (by unfold kS_narrowView; rw [if_pos (by unfold nRef; (repeat' split) <;> first | rfl | omega)]), rfl, Ext0 hO⟩))
          · refine lv_aload hx hb dX3_narrowView_88 (lv_at hl 3 rfl) ?_
            refine lv_iload hx hb dX3_narrowView_90 (lv_at hl 1 rfl) ?_
            refine q_vS C0 lX3_191 (c_X1_isWithin l D y L F (gva G xv) (grh G (zvw σ xv)) (zvl σ xv) (zvh σ xv) (zvh σ xv) (CP_v hC hb_r1).1 (CP_v hC hb_r1).2 (by omega) (by omega) (by omega)) ⟨rfl, rfl⟩ rfl hP (CP_v hC hb_r1).1 (CP_v hC hb_r1).2 rfl rfl rfl hl rfl (Nat.le_of_ble_eq_true rfl) dX3_narrowView_92 ⟨Nat.le_of_ble_eq_true rfl, Nat.le_of_ble_eq_true rfl⟩ (fun r290 e_r290 => ?_)
            subst e_r290
            refine q_if_ne hx hb dX3_narrowView_95 (tgt := 102) (by decide) (by omega) (fun c291 => ?_) (fun c291 => ?_)
            · refine q_iconst hx hb dX3_narrowView_102 ?_
              refine lv_istore (lv' := [(9, .int (iI 0)), (8, .int (iI 0)), (7, .int (iI (zvh σ xv))), (6, .int (iI (zvl σ xv))), (5, .ref ((gva G xv))), (0, .ref ((gbg G))), (1, .int (iI xv)), (2, .int (iI xkind)), (3, .int (iI xlow)), (4, .int (iI xhigh))]) hx hb dX3_narrowView_103 hl (by decide) rfl (fun ls hl => ?_)
              refine lv_iload hx hb dX3_narrowView_105 (lv_at hl 1 rfl) ?_
              refine q_if_ne hx hb dX3_narrowView_107 (tgt := 127) (by decide) (by omega) (fun c292 => absurd c292 (by omega)) (fun c292 => ?_)
              refine lv_iload hx hb dX3_narrowView_110 (lv_at hl 0 rfl) ?_
              refine q_if_ne hx hb dX3_narrowView_112 (tgt := 127) (by decide) (by omega) (fun c293 => absurd c293 (by omega)) (fun c293 => ?_)
              refine lv_iload_n hx hb dX3_narrowView_115 rfl (lv_at hl 7 rfl) ?_
              refine q_iconst hx hb dX3_narrowView_116 ?_
              refine q_icmp_ne hx hb dX3_narrowView_117 (tgt := 132) (by decide) (by omega) (by omega) (fun c294 => ?_) (fun c294 => ?_)
              · refine lv_aload hx hb dX3_narrowView_132 (lv_at hl 4 rfl) ?_
                refine lv_iload hx hb dX3_narrowView_134 (lv_at hl 3 rfl) ?_
                refine q_put C0 iX1 tyX1 tyX1_ok nmX1 hP hD hS (CP_v hC hb_r1).1 (CP_v hC hb_r1).2 rfl 1 (by decide) flX3_182 rfl rfl rfl rfl (Nat.le_of_ble_eq_true rfl) dX3_narrowView_136 (fun H locs hP hD hS => ?_)
                obtain ⟨F295, eF295⟩ : ∃ z, z = va_up F (gva G xv) (.inr (3, [.ref ((grh G (zvw σ xv))), .int (iI (zvl σ xv)), .int (iI (zvh σ xv))])) := ⟨_, rfl⟩
                have hP : va_P D vwCl (va_pl L F295) H := by rw [eF295]; exact hP
                have hD : va_D (AL L s.heap.size) (va_pl L F295) := by rw [eF295]; exact hD
                have hvF : F295 (gva G xv) = (.inr (3, [.ref ((grh G (zvw σ xv))), .int (iI (zvl σ xv)), .int (iI (zvh σ xv))])) := by rw [eF295]; exact va_up_self _ _ _
                have hO : OE O F F295 := by rw [eF295]; exact hO.tr (OE1 ((CP_O hC).2.2.2.2.2.1 _ hb_r1.1 hb_r1.2))
                have hC : CP y L F295 O G (sVw σ xv (zvw σ xv) (zvl σ xv) (zvh σ xv)) := by rw [eF295]; exact CP_vw hC hb_r1 (va_up_self _ _ _) (fun q hq => va_up_ne _ _ hq)
                refine lv_aload hx hb dX3_narrowView_139 (lv_at hl 4 rfl) ?_
                refine lv_iload hx hb dX3_narrowView_141 (lv_at hl 2 rfl) ?_
                refine q_put C0 iX1 tyX1 tyX1_ok nmX1 hP hD hS (CP_v hC hb_r1).1 hvF rfl 2 (by decide) flX3_185 rfl rfl rfl rfl (Nat.le_of_ble_eq_true rfl) dX3_narrowView_143 (fun H locs hP hD hS => ?_)
                obtain ⟨F296, eF296⟩ : ∃ z, z = va_up F295 (gva G xv) (.inr (3, [.ref ((grh G (zvw σ xv))), .int (iI (zvl σ xv)), .int (iI (zvh σ xv))])) := ⟨_, rfl⟩
                have hP : va_P D vwCl (va_pl L F296) H := by rw [eF296]; exact hP
                have hD : va_D (AL L s.heap.size) (va_pl L F296) := by rw [eF296]; exact hD
                have hvF : F296 (gva G xv) = (.inr (3, [.ref ((grh G (zvw σ xv))), .int (iI (zvl σ xv)), .int (iI (zvh σ xv))])) := by rw [eF296]; exact va_up_self _ _ _
                have hO : OE O F F296 := by rw [eF296]; exact hO.tr (OE1 ((CP_O hC).2.2.2.2.2.1 _ hb_r1.1 hb_r1.2))
                have hC : CP y L F296 O G (sVw (sVw σ xv (zvw σ xv) (zvl σ xv) (zvh σ xv)) xv (zvw σ xv) (zvl σ xv) (zvh σ xv)) := by rw [eF296]; exact CP_vw hC hb_r1 (va_up_self _ _ _) (fun q hq => va_up_ne _ _ hq)
                refine lv_aload hx hb dX3_narrowView_146 (lv_at hl 4 rfl) ?_
                refine q_get C0 iX1 hP (CP_v hC hb_r1).1 hvF rfl 0 (by decide) flX3_178 rfl rfl dX3_narrowView_148 ?_
                refine lv_aload hx hb dX3_narrowView_151 (lv_at hl 4 rfl) ?_
                refine q_get C0 iX1 hP (CP_v hC hb_r1).1 hvF rfl 1 (by decide) flX3_182 rfl rfl dX3_narrowView_153 ?_
                refine lv_aload hx hb dX3_narrowView_156 (lv_at hl 4 rfl) ?_
                refine q_get C0 iX1 hP (CP_v hC hb_r1).1 hvF rfl 2 (by decide) flX3_185 rfl rfl dX3_narrowView_158 ?_
                refine q_vS C0 lX3_188 (c_X0_countOfPart l D y L F296 (grh G (zvw σ xv)) (grw G (zvw σ xv)) (zod σ (zvw σ xv)) ((zst σ (zvw σ xv)).1) ((zst σ (zvw σ xv)).2.1) ((zst σ (zvw σ xv)).2.2) (zvl σ xv) (zvh σ xv) (CP_r hC (hW.2.2.1 xv)) (by omega) (by omega)) ⟨rfl, rfl⟩ rfl hP (CP_r hC (hW.2.2.1 xv)).1 (CP_r hC (hW.2.2.1 xv)).2.1 rfl rfl rfl hl rfl (Nat.le_of_ble_eq_true rfl) dX3_narrowView_161 ⟨Nat.le_of_ble_eq_true rfl, Nat.le_of_ble_eq_true rfl⟩ (fun r297 e_r297 => ?_)
                subst e_r297
                refine W.widen (k := 8) (n := 60) (Nat.le_of_ble_eq_true rfl) (Nat.le_of_ble_eq_true rfl) ?_
                exact vx_ret (q_retMi C0 hret rfl hlk dX3_narrowView_164 hP hD hS (⟨by omega, by omega, (by unfold kR_narrowView; rw [if_neg (by (unfold nRef; (repeat' split) <;> omega)), show nLo σ xv xkind xlow = zvl σ xv by (unfold nLo; (repeat' split) <;> first | rfl | omega), show nHi σ xv xkind xhigh = zvh σ xv by (unfold nHi; (repeat' split) <;> first | rfl | omega)]), O, G, CP_eq hC (by rw [sVw2]; unfold kS_narrowView; rw [if_neg (by (unfold nRef; (repeat' split) <;> omega)), show nLo σ xv xkind xlow = zvl σ xv by (unfold nLo; (repeat' split) <;> first | rfl | omega), show nHi σ xv xkind xhigh = zvh σ xv by (unfold nHi; (repeat' split) <;> first | rfl | omega)]), rfl, Ext0 hO⟩))
              · refine lv_iload hx hb dX3_narrowView_120 (lv_at hl 3 rfl) ?_
                refine lv_iload hx hb dX3_narrowView_122 (lv_at hl 2 rfl) ?_
                refine q_icmp_le hx hb dX3_narrowView_124 (tgt := 132) (by decide) (by omega) (by omega) (fun c298 => ?_) (fun c298 => ?_)
                · refine lv_aload hx hb dX3_narrowView_132 (lv_at hl 4 rfl) ?_
                  refine lv_iload hx hb dX3_narrowView_134 (lv_at hl 3 rfl) ?_
                  refine q_put C0 iX1 tyX1 tyX1_ok nmX1 hP hD hS (CP_v hC hb_r1).1 (CP_v hC hb_r1).2 rfl 1 (by decide) flX3_182 rfl rfl rfl rfl (Nat.le_of_ble_eq_true rfl) dX3_narrowView_136 (fun H locs hP hD hS => ?_)
                  obtain ⟨F299, eF299⟩ : ∃ z, z = va_up F (gva G xv) (.inr (3, [.ref ((grh G (zvw σ xv))), .int (iI (zvl σ xv)), .int (iI (zvh σ xv))])) := ⟨_, rfl⟩
                  have hP : va_P D vwCl (va_pl L F299) H := by rw [eF299]; exact hP
                  have hD : va_D (AL L s.heap.size) (va_pl L F299) := by rw [eF299]; exact hD
                  have hvF : F299 (gva G xv) = (.inr (3, [.ref ((grh G (zvw σ xv))), .int (iI (zvl σ xv)), .int (iI (zvh σ xv))])) := by rw [eF299]; exact va_up_self _ _ _
                  have hO : OE O F F299 := by rw [eF299]; exact hO.tr (OE1 ((CP_O hC).2.2.2.2.2.1 _ hb_r1.1 hb_r1.2))
                  have hC : CP y L F299 O G (sVw σ xv (zvw σ xv) (zvl σ xv) (zvh σ xv)) := by rw [eF299]; exact CP_vw hC hb_r1 (va_up_self _ _ _) (fun q hq => va_up_ne _ _ hq)
                  refine lv_aload hx hb dX3_narrowView_139 (lv_at hl 4 rfl) ?_
                  refine lv_iload hx hb dX3_narrowView_141 (lv_at hl 2 rfl) ?_
                  refine q_put C0 iX1 tyX1 tyX1_ok nmX1 hP hD hS (CP_v hC hb_r1).1 hvF rfl 2 (by decide) flX3_185 rfl rfl rfl rfl (Nat.le_of_ble_eq_true rfl) dX3_narrowView_143 (fun H locs hP hD hS => ?_)
                  obtain ⟨F300, eF300⟩ : ∃ z, z = va_up F299 (gva G xv) (.inr (3, [.ref ((grh G (zvw σ xv))), .int (iI (zvl σ xv)), .int (iI (zvh σ xv))])) := ⟨_, rfl⟩
                  have hP : va_P D vwCl (va_pl L F300) H := by rw [eF300]; exact hP
                  have hD : va_D (AL L s.heap.size) (va_pl L F300) := by rw [eF300]; exact hD
                  have hvF : F300 (gva G xv) = (.inr (3, [.ref ((grh G (zvw σ xv))), .int (iI (zvl σ xv)), .int (iI (zvh σ xv))])) := by rw [eF300]; exact va_up_self _ _ _
                  have hO : OE O F F300 := by rw [eF300]; exact hO.tr (OE1 ((CP_O hC).2.2.2.2.2.1 _ hb_r1.1 hb_r1.2))
                  have hC : CP y L F300 O G (sVw (sVw σ xv (zvw σ xv) (zvl σ xv) (zvh σ xv)) xv (zvw σ xv) (zvl σ xv) (zvh σ xv)) := by rw [eF300]; exact CP_vw hC hb_r1 (va_up_self _ _ _) (fun q hq => va_up_ne _ _ hq)
                  refine lv_aload hx hb dX3_narrowView_146 (lv_at hl 4 rfl) ?_
                  refine q_get C0 iX1 hP (CP_v hC hb_r1).1 hvF rfl 0 (by decide) flX3_178 rfl rfl dX3_narrowView_148 ?_
                  refine lv_aload hx hb dX3_narrowView_151 (lv_at hl 4 rfl) ?_
                  refine q_get C0 iX1 hP (CP_v hC hb_r1).1 hvF rfl 1 (by decide) flX3_182 rfl rfl dX3_narrowView_153 ?_
                  refine lv_aload hx hb dX3_narrowView_156 (lv_at hl 4 rfl) ?_
                  refine q_get C0 iX1 hP (CP_v hC hb_r1).1 hvF rfl 2 (by decide) flX3_185 rfl rfl dX3_narrowView_158 ?_
                  refine q_vS C0 lX3_188 (c_X0_countOfPart l D y L F300 (grh G (zvw σ xv)) (grw G (zvw σ xv)) (zod σ (zvw σ xv)) ((zst σ (zvw σ xv)).1) ((zst σ (zvw σ xv)).2.1) ((zst σ (zvw σ xv)).2.2) (zvl σ xv) (zvh σ xv) (CP_r hC (hW.2.2.1 xv)) (by omega) (by omega)) ⟨rfl, rfl⟩ rfl hP (CP_r hC (hW.2.2.1 xv)).1 (CP_r hC (hW.2.2.1 xv)).2.1 rfl rfl rfl hl rfl (Nat.le_of_ble_eq_true rfl) dX3_narrowView_161 ⟨Nat.le_of_ble_eq_true rfl, Nat.le_of_ble_eq_true rfl⟩ (fun r301 e_r301 => ?_)
                  subst e_r301
                  refine W.widen (k := 8) (n := 60) (Nat.le_of_ble_eq_true rfl) (Nat.le_of_ble_eq_true rfl) ?_
                  exact vx_ret (q_retMi C0 hret rfl hlk dX3_narrowView_164 hP hD hS (⟨by omega, by omega, (by unfold kR_narrowView; rw [if_neg (by (unfold nRef; (repeat' split) <;> omega)), show nLo σ xv xkind xlow = zvl σ xv by (unfold nLo; (repeat' split) <;> first | rfl | omega), show nHi σ xv xkind xhigh = zvh σ xv by (unfold nHi; (repeat' split) <;> first | rfl | omega)]), O, G, CP_eq hC (by rw [sVw2]; unfold kS_narrowView; rw [if_neg (by (unfold nRef; (repeat' split) <;> omega)), show nLo σ xv xkind xlow = zvl σ xv by (unfold nLo; (repeat' split) <;> first | rfl | omega), show nHi σ xv xkind xhigh = zvh σ xv by (unfold nHi; (repeat' split) <;> first | rfl | omega)]), rfl, Ext0 hO⟩))
                · refine lv_aload_n hx hb dX3_narrowView_127 rfl (lv_at hl 5 rfl) ?_
                  refine q_vMi C0 lX3_63 (c_X3_refuse l D y L F _ O G σ hC) ⟨rfl, rfl⟩ rfl hP hD hS hA hC.1.1 hC.1.2 rfl rfl rfl hl rfl (Nat.le_of_ble_eq_true rfl) dX3_narrowView_128 ⟨Nat.le_of_ble_eq_true rfl, Nat.le_of_ble_eq_true rfl⟩ (fun r302 H locs L303 F303 hP hD hS hz303 hp303 => ?_)
                  obtain ⟨eL, hC, er, hO1⟩ := hp303
                  subst eL
                  subst er
                  have hO := hO.tr hO1
                  refine W.widen (k := 8) (n := 60) (Nat.le_of_ble_eq_true rfl) (Nat.le_of_ble_eq_true rfl) ?_
                  exact vx_ret (q_retMi C0 hret rfl hlk dX3_narrowView_131 hP hD hS (⟨by omega, by omega, (by unfold kR_narrowView; rw [if_pos (by unfold nRef; (repeat' split) <;> first | rfl | omega)]), O, G, CP_eq hC (by unfold kS_narrowView; rw [if_pos (by unfold nRef; (repeat' split) <;> first | rfl | omega)]), rfl, Ext0 hO⟩))
            · refine q_iconst hx hb dX3_narrowView_98 ?_
              refine lv_goto (tgt := 103) hx hb dX3_narrowView_99 (by decide) ?_
              refine lv_istore (lv' := [(9, .int (iI 1)), (8, .int (iI 0)), (7, .int (iI (zvh σ xv))), (6, .int (iI (zvl σ xv))), (5, .ref ((gva G xv))), (0, .ref ((gbg G))), (1, .int (iI xv)), (2, .int (iI xkind)), (3, .int (iI xlow)), (4, .int (iI xhigh))]) hx hb dX3_narrowView_103 hl (by decide) rfl (fun ls hl => ?_)
              refine lv_iload hx hb dX3_narrowView_105 (lv_at hl 1 rfl) ?_
              refine q_if_ne hx hb dX3_narrowView_107 (tgt := 127) (by decide) (by omega) (fun c304 => absurd c304 (by omega)) (fun c304 => ?_)
              refine lv_iload hx hb dX3_narrowView_110 (lv_at hl 0 rfl) ?_
              refine q_if_ne hx hb dX3_narrowView_112 (tgt := 127) (by decide) (by omega) (fun c305 => ?_) (fun c305 => absurd c305 (by omega))
              refine lv_aload_n hx hb dX3_narrowView_127 rfl (lv_at hl 5 rfl) ?_
              refine q_vMi C0 lX3_63 (c_X3_refuse l D y L F _ O G σ hC) ⟨rfl, rfl⟩ rfl hP hD hS hA hC.1.1 hC.1.2 rfl rfl rfl hl rfl (Nat.le_of_ble_eq_true rfl) dX3_narrowView_128 ⟨Nat.le_of_ble_eq_true rfl, Nat.le_of_ble_eq_true rfl⟩ (fun r306 H locs L307 F307 hP hD hS hz307 hp307 => ?_)
              obtain ⟨eL, hC, er, hO1⟩ := hp307
              subst eL
              subst er
              have hO := hO.tr hO1
              refine W.widen (k := 8) (n := 60) (Nat.le_of_ble_eq_true rfl) (Nat.le_of_ble_eq_true rfl) ?_
              exact vx_ret (q_retMi C0 hret rfl hlk dX3_narrowView_131 hP hD hS (⟨by omega, by omega, (by unfold kR_narrowView; rw [if_pos (by unfold nRef; (repeat' split) <;> first | rfl | omega)]), O, G, CP_eq hC (by unfold kS_narrowView; rw [if_pos (by unfold nRef; (repeat' split) <;> first | rfl | omega)]), rfl, Ext0 hO⟩))
        · refine q_iconst hx hb dX3_narrowView_76 ?_
          refine lv_goto (tgt := 81) hx hb dX3_narrowView_77 (by decide) ?_
          refine lv_istore (lv' := [(8, .int (iI 1)), (7, .int (iI (zvh σ xv))), (6, .int (iI (zvl σ xv))), (5, .ref ((gva G xv))), (0, .ref ((gbg G))), (1, .int (iI xv)), (2, .int (iI xkind)), (3, .int (iI xlow)), (4, .int (iI xhigh))]) hx hb dX3_narrowView_81 hl (by decide) rfl (fun ls hl => ?_)
          refine lv_iload_n hx hb dX3_narrowView_83 rfl (lv_at hl 6 rfl) ?_
          refine q_iconst hx hb dX3_narrowView_84 ?_
          refine q_icmp_eq hx hb dX3_narrowView_85 (tgt := 102) (by decide) (by omega) (by omega) (fun c308 => ?_) (fun c308 => ?_)
          · refine q_iconst hx hb dX3_narrowView_102 ?_
            refine lv_istore (lv' := [(9, .int (iI 0)), (8, .int (iI 1)), (7, .int (iI (zvh σ xv))), (6, .int (iI (zvl σ xv))), (5, .ref ((gva G xv))), (0, .ref ((gbg G))), (1, .int (iI xv)), (2, .int (iI xkind)), (3, .int (iI xlow)), (4, .int (iI xhigh))]) hx hb dX3_narrowView_103 hl (by decide) rfl (fun ls hl => ?_)
            refine lv_iload hx hb dX3_narrowView_105 (lv_at hl 1 rfl) ?_
            refine q_if_ne hx hb dX3_narrowView_107 (tgt := 127) (by decide) (by omega) (fun c309 => ?_) (fun c309 => absurd c309 (by omega))
            refine lv_aload_n hx hb dX3_narrowView_127 rfl (lv_at hl 5 rfl) ?_
            refine q_vMi C0 lX3_63 (c_X3_refuse l D y L F _ O G σ hC) ⟨rfl, rfl⟩ rfl hP hD hS hA hC.1.1 hC.1.2 rfl rfl rfl hl rfl (Nat.le_of_ble_eq_true rfl) dX3_narrowView_128 ⟨Nat.le_of_ble_eq_true rfl, Nat.le_of_ble_eq_true rfl⟩ (fun r310 H locs L311 F311 hP hD hS hz311 hp311 => ?_)
            obtain ⟨eL, hC, er, hO1⟩ := hp311
            subst eL
            subst er
            have hO := hO.tr hO1
            refine W.widen (k := 8) (n := 60) (Nat.le_of_ble_eq_true rfl) (Nat.le_of_ble_eq_true rfl) ?_
            exact vx_ret (q_retMi C0 hret rfl hlk dX3_narrowView_131 hP hD hS (⟨by omega, by omega, (by unfold kR_narrowView; rw [if_pos (by unfold nRef; (repeat' split) <;> first | rfl | omega)]), O, G, CP_eq hC (by unfold kS_narrowView; rw [if_pos (by unfold nRef; (repeat' split) <;> first | rfl | omega)]), rfl, Ext0 hO⟩))
          · refine lv_aload hx hb dX3_narrowView_88 (lv_at hl 3 rfl) ?_
            refine lv_iload hx hb dX3_narrowView_90 (lv_at hl 1 rfl) ?_
            refine q_vS C0 lX3_191 (c_X1_isWithin l D y L F (gva G xv) (grh G (zvw σ xv)) (zvl σ xv) (zvh σ xv) (zvh σ xv) (CP_v hC hb_r1).1 (CP_v hC hb_r1).2 (by omega) (by omega) (by omega)) ⟨rfl, rfl⟩ rfl hP (CP_v hC hb_r1).1 (CP_v hC hb_r1).2 rfl rfl rfl hl rfl (Nat.le_of_ble_eq_true rfl) dX3_narrowView_92 ⟨Nat.le_of_ble_eq_true rfl, Nat.le_of_ble_eq_true rfl⟩ (fun r312 e_r312 => ?_)
            subst e_r312
            refine q_if_ne hx hb dX3_narrowView_95 (tgt := 102) (by decide) (by omega) (fun c313 => ?_) (fun c313 => ?_)
            · refine q_iconst hx hb dX3_narrowView_102 ?_
              refine lv_istore (lv' := [(9, .int (iI 0)), (8, .int (iI 1)), (7, .int (iI (zvh σ xv))), (6, .int (iI (zvl σ xv))), (5, .ref ((gva G xv))), (0, .ref ((gbg G))), (1, .int (iI xv)), (2, .int (iI xkind)), (3, .int (iI xlow)), (4, .int (iI xhigh))]) hx hb dX3_narrowView_103 hl (by decide) rfl (fun ls hl => ?_)
              refine lv_iload hx hb dX3_narrowView_105 (lv_at hl 1 rfl) ?_
              refine q_if_ne hx hb dX3_narrowView_107 (tgt := 127) (by decide) (by omega) (fun c314 => ?_) (fun c314 => absurd c314 (by omega))
              refine lv_aload_n hx hb dX3_narrowView_127 rfl (lv_at hl 5 rfl) ?_
              refine q_vMi C0 lX3_63 (c_X3_refuse l D y L F _ O G σ hC) ⟨rfl, rfl⟩ rfl hP hD hS hA hC.1.1 hC.1.2 rfl rfl rfl hl rfl (Nat.le_of_ble_eq_true rfl) dX3_narrowView_128 ⟨Nat.le_of_ble_eq_true rfl, Nat.le_of_ble_eq_true rfl⟩ (fun r315 H locs L316 F316 hP hD hS hz316 hp316 => ?_)
              obtain ⟨eL, hC, er, hO1⟩ := hp316
              subst eL
              subst er
              have hO := hO.tr hO1
              refine W.widen (k := 8) (n := 60) (Nat.le_of_ble_eq_true rfl) (Nat.le_of_ble_eq_true rfl) ?_
              exact vx_ret (q_retMi C0 hret rfl hlk dX3_narrowView_131 hP hD hS (⟨by omega, by omega, (by unfold kR_narrowView; rw [if_pos (by unfold nRef; (repeat' split) <;> first | rfl | omega)]), O, G, CP_eq hC (by unfold kS_narrowView; rw [if_pos (by unfold nRef; (repeat' split) <;> first | rfl | omega)]), rfl, Ext0 hO⟩))
            · refine q_iconst hx hb dX3_narrowView_98 ?_
              refine lv_goto (tgt := 103) hx hb dX3_narrowView_99 (by decide) ?_
              refine lv_istore (lv' := [(9, .int (iI 1)), (8, .int (iI 1)), (7, .int (iI (zvh σ xv))), (6, .int (iI (zvl σ xv))), (5, .ref ((gva G xv))), (0, .ref ((gbg G))), (1, .int (iI xv)), (2, .int (iI xkind)), (3, .int (iI xlow)), (4, .int (iI xhigh))]) hx hb dX3_narrowView_103 hl (by decide) rfl (fun ls hl => ?_)
              refine lv_iload hx hb dX3_narrowView_105 (lv_at hl 1 rfl) ?_
              refine q_if_ne hx hb dX3_narrowView_107 (tgt := 127) (by decide) (by omega) (fun c317 => ?_) (fun c317 => absurd c317 (by omega))
              refine lv_aload_n hx hb dX3_narrowView_127 rfl (lv_at hl 5 rfl) ?_
              refine q_vMi C0 lX3_63 (c_X3_refuse l D y L F _ O G σ hC) ⟨rfl, rfl⟩ rfl hP hD hS hA hC.1.1 hC.1.2 rfl rfl rfl hl rfl (Nat.le_of_ble_eq_true rfl) dX3_narrowView_128 ⟨Nat.le_of_ble_eq_true rfl, Nat.le_of_ble_eq_true rfl⟩ (fun r318 H locs L319 F319 hP hD hS hz319 hp319 => ?_)
              obtain ⟨eL, hC, er, hO1⟩ := hp319
              subst eL
              subst er
              have hO := hO.tr hO1
              refine W.widen (k := 8) (n := 60) (Nat.le_of_ble_eq_true rfl) (Nat.le_of_ble_eq_true rfl) ?_
              exact vx_ret (q_retMi C0 hret rfl hlk dX3_narrowView_131 hP hD hS (⟨by omega, by omega, (by unfold kR_narrowView; rw [if_pos (by unfold nRef; (repeat' split) <;> first | rfl | omega)]), O, G, CP_eq hC (by unfold kS_narrowView; rw [if_pos (by unfold nRef; (repeat' split) <;> first | rfl | omega)]), rfl, Ext0 hO⟩))
