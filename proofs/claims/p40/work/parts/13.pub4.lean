set_option maxHeartbeats 800000 in
set_option maxRecDepth 100000 in
theorem c_X3_splitBook (l : Launch) (hfl : l.stackTraces = false) (D : va_G) (y : Nat → ClassId) (L : List Nat) (F : Nat → va_E) (sz : Nat) (O : Nat → Prop) (G : CG) (σ : CS) (xb : Int) (xk : Int) (xc : Int) (hC : CP y L F O G σ) (hW : CW σ) (h_xb : -2147483648 ≤ xb ∧ xb ≤ 2147483647) (h_xk : -2147483648 ≤ xk ∧ xk ≤ 2147483647) (h_xc : -2147483648 ≤ xc ∧ xc ≤ 2147483647) : vx_Met l yX3_splitBook (.code yX3_splitBook cX3_splitBook 6 (some .int) :: Tt) ({ frames := 7, cells := 6, slots := 124, locals := 103 }) (PcX D y L F sz [.ref ((gbg G)), .int (iI xb), .int (iI xk), .int (iI xc)]) (cMi D (AL L sz) (fun r L1 F1 => ((0 ≤ xb ∧ xb ≤ 3) ∧ (0 ≤ xc ∧ xc ≤ 3)) ∧ ((0 ≤ xk ∧ xk ≤ 99)) ∧ r = kR_splitBook σ xb xk xc ∧ ∃ O1 G1, CP y L1 F1 O1 G1 (kS_splitBook σ xb xk xc) ∧ gbg G1 = gbg G ∧ Ext O O1 L L1 F F1)) (XC (pX ((0 ≤ xb ∧ xb ≤ 3) ∧ (0 ≤ xc ∧ xc ≤ 3)) ((0 ≤ xk ∧ xk ≤ 99)))) 6 124 (AL L sz) := by
  have ho_ := (CP_r hC (hW.1 xb)).2.2.2.2.1
  have hO : OE O F F := fun _ _ => rfl
  have hw4 := hW.2.2.2.2.2.1
  have hw5 := hW.2.2.2.2.2.2.1
  have hw6 := hW.2.2.2.2.2.2.2.2.2.2
  refine q_ofX (lv := [(0, .ref ((gbg G))), (1, .int (iI xb)), (2, .int (iI xk)), (3, .int (iI xc))]) (by decide) (Nat.le_of_ble_eq_true rfl) rfl (fun p e s m below meth c C0 hret hlk hout hsz hA hP hD hS hX ls hl => ?_)
  subst hsz
  have hx := C0.1.1
  have hb := C0.1.2.1
  have hts := C0.1.2.2.2.2
  refine lv_aload_n hx hb dX3_splitBook_0 rfl (lv_at hl 0 rfl) ?_
  refine lv_iload_n hx hb dX3_splitBook_1 rfl (lv_at hl 1 rfl) ?_
  refine q_vXa C0 lX3_37 (c_X3_bookAt l hfl D y L F _ O G σ xb hC (by omega)) ⟨rfl, rfl⟩ rfl hP hD hX hout hlk hC.1.1 hC.1.2 rfl rfl rfl hl rfl (Nat.le_of_ble_eq_true rfl) dX3_splitBook_2 ⟨Nat.le_of_ble_eq_true rfl, Nat.le_of_ble_eq_true rfl⟩ ⟨Nat.le_of_ble_eq_true rfl, Nat.le_of_ble_eq_true rfl⟩ (fun E h => Or.inl ⟨h.1, fun q => h.2 (by omega)⟩) (fun r1 e_r1 => ?_)
  refine W.widen (k := 1) (n := 6) (Nat.le_of_ble_eq_true rfl) (Nat.le_of_ble_eq_true rfl) ?_
  obtain ⟨hb_r1, e_r1⟩ := e_r1
  subst e_r1
  refine lv_astore (lv' := [(4, .ref ((grh G (zbk σ xb)))), (0, .ref ((gbg G))), (1, .int (iI xb)), (2, .int (iI xk)), (3, .int (iI xc))]) hx hb dX3_splitBook_5 hl (by decide) rfl (fun ls hl => ?_)
  refine lv_aload_n hx hb dX3_splitBook_7 rfl (lv_at hl 1 rfl) ?_
  refine lv_iload_n hx hb dX3_splitBook_8 rfl (lv_at hl 4 rfl) ?_
  refine q_vXa C0 lX3_37 (c_X3_bookAt l hfl D y L F _ O G σ xc hC (by omega)) ⟨rfl, rfl⟩ rfl hP hD hX hout hlk hC.1.1 hC.1.2 rfl rfl rfl hl rfl (Nat.le_of_ble_eq_true rfl) dX3_splitBook_9 ⟨Nat.le_of_ble_eq_true rfl, Nat.le_of_ble_eq_true rfl⟩ ⟨Nat.le_of_ble_eq_true rfl, Nat.le_of_ble_eq_true rfl⟩ (fun E h => Or.inl ⟨h.1, fun q => h.2 (by omega)⟩) (fun r2 e_r2 => ?_)
  refine W.widen (k := 2) (n := 12) (Nat.le_of_ble_eq_true rfl) (Nat.le_of_ble_eq_true rfl) ?_
  obtain ⟨hb_r2, e_r2⟩ := e_r2
  subst e_r2
  refine lv_pop hx hb dX3_splitBook_12 rfl ?_
  refine lv_iload_n hx hb dX3_splitBook_13 rfl (lv_at hl 3 rfl) ?_
  refine q_sXv C0 lX3_60 (c_X3_checkKey l hfl D y L F _ xk (by omega)) ⟨rfl, rfl⟩ rfl hP hD hX hout hlk rfl hl rfl (Nat.le_of_ble_eq_true rfl) dX3_splitBook_14 ⟨Nat.le_of_ble_eq_true rfl, Nat.le_of_ble_eq_true rfl⟩ ⟨Nat.le_of_ble_eq_true rfl, Nat.le_of_ble_eq_true rfl⟩ (fun E h => Or.inr ⟨h.1, by first | trivial | omega, fun q => h.2 (by omega)⟩) (fun _ e_r3 => ?_)
  refine W.widen (k := 3) (n := 18) (Nat.le_of_ble_eq_true rfl) (Nat.le_of_ble_eq_true rfl) ?_
  refine lv_iload_n hx hb dX3_splitBook_17 rfl (lv_at hl 2 rfl) ?_
  refine lv_iload_n hx hb dX3_splitBook_18 rfl (lv_at hl 4 rfl) ?_
  refine q_icmp_ne hx hb dX3_splitBook_19 (tgt := 27) (by decide) (by omega) (by omega) (fun c4 => ?_) (fun c4 => ?_)
  · refine lv_aload_n hx hb dX3_splitBook_27 rfl (lv_at hl 1 rfl) ?_
    refine lv_aload hx hb dX3_splitBook_28 (lv_at hl 0 rfl) ?_
    refine q_vMv C0 lX3_67 (c_X3_write l D y L F _ O G σ (zbk σ xb) hC (hW.1 xb) hW.2.2.2.1) ⟨rfl, rfl⟩ rfl hP hD hS hA hC.1.1 hC.1.2 rfl rfl rfl hl rfl (Nat.le_of_ble_eq_true rfl) dX3_splitBook_30 ⟨Nat.le_of_ble_eq_true rfl, Nat.le_of_ble_eq_true rfl⟩ (fun _ H locs L6 F6 hP hD hS hz6 hp6 => ?_)
    obtain ⟨eL, hC, er, hO1⟩ := hp6
    subst eL
    have hO := hO.tr hO1
    refine lv_aload hx hb dX3_splitBook_33 (lv_at hl 0 rfl) ?_
    refine lv_iload_n hx hb dX3_splitBook_35 rfl (lv_at hl 3 rfl) ?_
    refine q_vS C0 lX3_70 (c_X0_rankOf l D y L F6 (grh G (zbk σ xb)) (grw G (zbk σ xb)) (zod σ (zbk σ xb)) ((zst σ (zbk σ xb)).1) ((zst σ (zbk σ xb)).2.1) ((zst σ (zbk σ xb)).2.2) xk (CP_r hC (hW.1 xb)) (by omega)) ⟨rfl, rfl⟩ rfl hP (CP_r hC (hW.1 xb)).1 (CP_r hC (hW.1 xb)).2.1 rfl rfl rfl hl rfl (Nat.le_of_ble_eq_true rfl) dX3_splitBook_36 ⟨Nat.le_of_ble_eq_true rfl, Nat.le_of_ble_eq_true rfl⟩ (fun r7 e_r7 => ?_)
    subst e_r7
    have b_8 := @turn_b (zod σ (zbk σ xb)) xk (by omega)
    refine lv_istore (lv' := [(5, .int (iI ((turn (zod σ (zbk σ xb)) xk)))), (4, .ref ((grh G (zbk σ xb)))), (0, .ref ((gbg G))), (1, .int (iI xb)), (2, .int (iI xk)), (3, .int (iI xc))]) hx hb dX3_splitBook_39 hl (by decide) rfl (fun ls hl => ?_)
    refine lv_aload_n hx hb dX3_splitBook_41 rfl (lv_at hl 2 rfl) ?_
    refine q_get C0 iX3 hP hC.1.1 hC.1.2 rfl 0 (by decide) flX3_11 rfl rfl dX3_splitBook_42 ?_
    refine lv_iload_n hx hb dX3_splitBook_45 rfl (lv_at hl 5 rfl) ?_
    refine lv_aload hx hb dX3_splitBook_46 (lv_at hl 1 rfl) ?_
    refine lv_iload hx hb dX3_splitBook_48 (lv_at hl 0 rfl) ?_
    refine q_bipush hx hb dX3_splitBook_50 (by decide) ?_
    refine lv_aload hx hb dX3_splitBook_52 (lv_at hl 1 rfl) ?_
    refine q_get C0 iX0 hP (CP_r hC (hW.1 xb)).1 (CP_r hC (hW.1 xb)).2.1 rfl 0 (by decide) flX3_74 rfl rfl dX3_splitBook_54 ?_
    refine q_vMa C0 lX3_56 (c_X0_copyOfPart l D y L F6 _ (grh G (zbk σ xb)) (grw G (zbk σ xb)) (zod σ (zbk σ xb)) ((zst σ (zbk σ xb)).1) ((zst σ (zbk σ xb)).2.1) ((zst σ (zbk σ xb)).2.2) (turn (zod σ (zbk σ xb)) xk) 99 (zod σ (zbk σ xb)) (CP_r hC (hW.1 xb)) (by omega) (by omega) (by omega)) ⟨rfl, rfl⟩ rfl hP hD hS hA (CP_r hC (hW.1 xb)).1 (CP_r hC (hW.1 xb)).2.1 rfl rfl rfl hl rfl (Nat.le_of_ble_eq_true rfl) dX3_splitBook_57 ⟨Nat.le_of_ble_eq_true rfl, Nat.le_of_ble_eq_true rfl⟩ (fun r9 H locs L10 F10 hP hD hS hz10 hp10 => ?_)
    refine W.widen (k := 5) (n := 122) (Nat.le_of_ble_eq_true rfl) (Nat.le_of_ble_eq_true rfl) ?_
    obtain ⟨r9q, eL, hr_, hq_, hrq_, hRn, hfn⟩ := hp10
    subst eL
    have hRo11 := Rw_mono (CP_r hC (hW.1 xb)) (L1 := ((L ++ [r9]) ++ [r9q])) (F1 := F10) (fun a h1 => List.mem_append_left _ (List.mem_append_left _ h1)) hfn
    have hR9 : RwS y ((L ++ [r9]) ++ [r9q]) F10 r9 r9q (zod σ (zbk σ xb)) (addS (zod σ (zbk σ xb)) (zod σ (zbk σ xb)) ((zst σ (zbk σ xb)).2.2) (turn (zod σ (zbk σ xb)) xk) 99 (0, 0, emp)) := hRn
    have hwf9 : (∀ i, zbk (wrt σ (zbk σ xb)) i < zn (wrt σ (zbk σ xb))) ∧ (∀ i, zsh (wrt σ (zbk σ xb)) i < zn (wrt σ (zbk σ xb))) ∧ (∀ i, zvw (wrt σ (zbk σ xb)) i < zn (wrt σ (zbk σ xb))) ∧ ∀ i, zwk (wrt σ (zbk σ xb)) = some i → i < zn (wrt σ (zbk σ xb)) := ⟨hW.1, hW.2.1, hW.2.2.1, hW.2.2.2.1⟩
    have hC : CP y ((L ++ [r9]) ++ [r9q]) F10 (fun a => O a ∨ a ∉ L) (gNw G (zn σ) r9 r9q) (sNw (wrt σ (zbk σ xb)) (zod σ (zbk σ xb)) (addS (zod σ (zbk σ xb)) (zod σ (zbk σ xb)) ((zst σ (zbk σ xb)).2.2) (turn (zod σ (zbk σ xb)) xk) 99 (0, 0, emp))) := CP_new (σ := (wrt σ (zbk σ xb))) (G := G) (o := (zod σ (zbk σ xb))) (S := (addS (zod σ (zbk σ xb)) (zod σ (zbk σ xb)) ((zst σ (zbk σ xb)).2.2) (turn (zod σ (zbk σ xb)) xk) 99 (0, 0, emp))) (F1 := F10) hC rfl hr_ hq_ hR9 hfn hwf9
    have hE : ∀ q ∈ L, ¬ O q → F10 q = F q := fun q h1 h2 => (hfn q h1).trans (hO q h2)
    have hO : OE (fun a => O a ∨ a ∉ L) F10 F10 := fun _ _ => rfl
    have er : grh (gNw G (zn σ) r9 r9q) (zn σ) = r9 := va_up_self _ _ _
    refine q_aast C0 hP hD hS hC.2.1.1 hC.2.1.2 (t := 1) (r := (RX0, TX0, 4)) rfl hRn.1 hRn.2.1 rfl (by omega) (by decide) dX3_splitBook_60 (fun H locs hP hD hS => ?_)
    have hoo := hC.2.1.2
    obtain ⟨F12, eF12⟩ : ∃ z, z = va_up F10 (gab (gNw G (zn σ) r9 r9q)) (arrQ (y 1) 4 (iu (fun i => some (grh (gNw G (zn σ) r9 r9q) (zbk (sNw (wrt σ (zbk σ xb)) (zod σ (zbk σ xb)) (addS (zod σ (zbk σ xb)) (zod σ (zbk σ xb)) ((zst σ (zbk σ xb)).2.2) (turn (zod σ (zbk σ xb)) xk) 99 (0, 0, emp))) i))) xc (some r9))) := ⟨_, rfl⟩
    have hP : va_P D vwCl (va_pl ((L ++ [r9]) ++ [r9q]) F12) H := by rw [eF12]; exact hP
    have hD : va_D (AL L s.heap.size) (va_pl ((L ++ [r9]) ++ [r9q]) F12) := by rw [eF12]; exact hD
    have hO : OE (fun a => O a ∨ a ∉ L) F10 F12 := by rw [eF12]; exact hO.tr (OE1 (CP_O hC).2.1)
    have hKF12_0 : Rw y ((L ++ [r9]) ++ [r9q]) F12 (grh G (zbk σ xb)) (grw G (zbk σ xb)) (zod σ (zbk σ xb)) ((zst σ (zbk σ xb)).1) ((zst σ (zbk σ xb)).2.1) ((zst σ (zbk σ xb)).2.2) := by rw [eF12]; exact Rw_q hRo11 hoo
    have hKF12_1 : Rw y ((L ++ [r9]) ++ [r9q]) F12 r9 r9q (zod σ (zbk σ xb)) ((addS (zod σ (zbk σ xb)) (zod σ (zbk σ xb)) ((zst σ (zbk σ xb)).2.2) (turn (zod σ (zbk σ xb)) xk) 99 (0, 0, emp)).1) ((addS (zod σ (zbk σ xb)) (zod σ (zbk σ xb)) ((zst σ (zbk σ xb)).2.2) (turn (zod σ (zbk σ xb)) xk) 99 (0, 0, emp)).2.1) ((addS (zod σ (zbk σ xb)) (zod σ (zbk σ xb)) ((zst σ (zbk σ xb)).2.2) (turn (zod σ (zbk σ xb)) xk) 99 (0, 0, emp)).2.2) := by rw [eF12]; exact Rw_q hRn hoo
    have hC : CP y ((L ++ [r9]) ++ [r9q]) F12 (fun a => O a ∨ a ∉ L) (gNw G (zn σ) r9 r9q) (sBk (sNw (wrt σ (zbk σ xb)) (zod σ (zbk σ xb)) (addS (zod σ (zbk σ xb)) (zod σ (zbk σ xb)) ((zst σ (zbk σ xb)).2.2) (turn (zod σ (zbk σ xb)) xk) 99 (0, 0, emp))) xc (zn σ)) := by rw [eF12]; exact CP_bk hC (by rw [er]; exact va_up_self _ _ _) (fun q hq => va_up_ne _ _ hq)
    refine lv_aload hx hb dX3_splitBook_61 (lv_at hl 1 rfl) ?_
    refine lv_iload hx hb dX3_splitBook_63 (lv_at hl 0 rfl) ?_
    refine q_bipush hx hb dX3_splitBook_65 (by decide) ?_
    refine q_vMi C0 lX3_77 (c_X0_clearPart l D y ((L ++ [r9]) ++ [r9q]) F12 _ (grh G (zbk σ xb)) (grw G (zbk σ xb)) (zod σ (zbk σ xb)) (zst σ (zbk σ xb)) (turn (zod σ (zbk σ xb)) xk) 99 hKF12_0 (by omega) (by omega)) ⟨rfl, rfl⟩ rfl hP hD hS hA hKF12_0.1 hKF12_0.2.1 rfl rfl rfl hl rfl (Nat.le_of_ble_eq_true rfl) dX3_splitBook_67 ⟨Nat.le_of_ble_eq_true rfl, Nat.le_of_ble_eq_true rfl⟩ (fun r13 H locs L14 F14 hP hD hS hz14 hp14 => ?_)
    obtain ⟨eL, er, hRn, hfr1⟩ := hp14
    subst eL
    subst er
    obtain ⟨hC9, hO9⟩ := CP_rowN (σ1 := (wrt σ (zbk σ xb))) (n := zn σ) (i := (zbk σ xb)) rfl (hW.1 xb) hC hRn hfr1
    have hO := hO.tr hO9
    have hC := hC9
    refine W.widen (k := 6) (n := 124) (Nat.le_of_ble_eq_true rfl) (Nat.le_of_ble_eq_true rfl) ?_
    exact vx_ret (q_retMi C0 hret rfl hlk dX3_splitBook_70 hP hD hS (⟨by first | trivial | omega, by first | trivial | omega, (by unfold kR_splitBook; (repeat' split) <;> first | rfl | (exfalso; omega)), (fun a => O a ∨ a ∉ L), (gNw G (zn σ) r9 r9q), CP_eq hC (by unfold kS_splitBook; (repeat' split) <;> first | rfl | (exfalso; omega)), rfl, ⟨fun q h => List.mem_append_left _ (List.mem_append_left _ h), fun q h1 h2 => (hO q (fun z => z.elim h2 (fun w => w h1))).trans (hE q h1 h2), fun q h => h⟩⟩))
  · refine lv_aload_n hx hb dX3_splitBook_22 rfl (lv_at hl 1 rfl) ?_
    refine q_vMi C0 lX3_63 (c_X3_refuse l D y L F _ O G σ hC) ⟨rfl, rfl⟩ rfl hP hD hS hA hC.1.1 hC.1.2 rfl rfl rfl hl rfl (Nat.le_of_ble_eq_true rfl) dX3_splitBook_23 ⟨Nat.le_of_ble_eq_true rfl, Nat.le_of_ble_eq_true rfl⟩ (fun r15 H locs L16 F16 hP hD hS hz16 hp16 => ?_)
    obtain ⟨eL, hC, er, hO1⟩ := hp16
    subst eL
    subst er
    have hO := hO.tr hO1
    refine W.widen (k := 6) (n := 124) (Nat.le_of_ble_eq_true rfl) (Nat.le_of_ble_eq_true rfl) ?_
    exact vx_ret (q_retMi C0 hret rfl hlk dX3_splitBook_26 hP hD hS (⟨by first | trivial | omega, by first | trivial | omega, (by unfold kR_splitBook; (repeat' split) <;> first | rfl | (exfalso; omega)), O, G, CP_eq hC (by unfold kS_splitBook; (repeat' split) <;> first | rfl | (exfalso; omega)), rfl, Ext0 hO⟩))
