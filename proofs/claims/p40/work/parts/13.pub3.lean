set_option maxHeartbeats 800000 in
set_option maxRecDepth 100000 in
theorem c_X3_buildBook (l : Launch) (hfl : l.stackTraces = false) (D : va_G) (y : Nat → ClassId) (L : List Nat) (F : Nat → va_E) (sz : Nat) (O : Nat → Prop) (G : CG) (σ : CS) (xb : Int) (xa : Int) (xw : Int) (hC : CP y L F O G σ) (hW : CW σ) (h_xb : -2147483648 ≤ xb ∧ xb ≤ 2147483647) (h_xa : -2147483648 ≤ xa ∧ xa ≤ 2147483647) (h_xw : -2147483648 ≤ xw ∧ xw ≤ 2147483647) : vx_Met l yX3_buildBook (.code yX3_buildBook cX3_buildBook 5 (some .int) :: Tt) ({ frames := 7, cells := 6, slots := 124, locals := 103 }) (PcX D y L F sz [.ref ((gbg G)), .int (iI xb), .int (iI xa), .int (iI xw)]) (cMi D (AL L sz) (fun r L1 F1 => ((0 ≤ xb ∧ xb ≤ 3) ∧ (0 ≤ xa ∧ xa ≤ 3)) ∧ ((0 ≤ xw ∧ xw ≤ 6)) ∧ r = kR_buildBook σ xb xa xw ∧ ∃ O1 G1, CP y L1 F1 O1 G1 (kS_buildBook σ xb xa xw) ∧ gbg G1 = gbg G ∧ Ext O O1 L L1 F F1)) (XC (pX ((0 ≤ xb ∧ xb ≤ 3) ∧ (0 ≤ xa ∧ xa ≤ 3)) ((0 ≤ xw ∧ xw ≤ 6)))) 6 124 (AL L sz) := by
  have ho_ := (CP_r hC (hW.1 xa)).2.2.2.2.1
  have hO : OE O F F := fun _ _ => rfl
  have hw4 := hW.2.2.2.2.2.1
  have hw5 := hW.2.2.2.2.2.2.1
  have hw6 := hW.2.2.2.2.2.2.2.2.2.2
  refine q_ofX (lv := [(0, .ref ((gbg G))), (1, .int (iI xb)), (2, .int (iI xa)), (3, .int (iI xw))]) (by decide) (Nat.le_of_ble_eq_true rfl) rfl (fun p e s m below meth c C0 hret hlk hout hsz hA hP hD hS hX ls hl => ?_)
  subst hsz
  have hx := C0.1.1
  have hb := C0.1.2.1
  have hts := C0.1.2.2.2.2
  refine lv_aload_n hx hb dX3_buildBook_0 rfl (lv_at hl 0 rfl) ?_
  refine lv_iload_n hx hb dX3_buildBook_1 rfl (lv_at hl 1 rfl) ?_
  refine q_vXa C0 lX3_37 (c_X3_bookAt l hfl D y L F _ O G σ xb hC (by omega)) ⟨rfl, rfl⟩ rfl hP hD hX hout hlk hC.1.1 hC.1.2 rfl rfl rfl hl rfl (Nat.le_of_ble_eq_true rfl) dX3_buildBook_2 ⟨Nat.le_of_ble_eq_true rfl, Nat.le_of_ble_eq_true rfl⟩ ⟨Nat.le_of_ble_eq_true rfl, Nat.le_of_ble_eq_true rfl⟩ (fun E h => Or.inl ⟨h.1, fun q => h.2 (by omega)⟩) (fun r1 e_r1 => ?_)
  refine W.widen (k := 1) (n := 6) (Nat.le_of_ble_eq_true rfl) (Nat.le_of_ble_eq_true rfl) ?_
  obtain ⟨hb_r1, e_r1⟩ := e_r1
  subst e_r1
  refine lv_pop hx hb dX3_buildBook_5 rfl ?_
  refine lv_aload_n hx hb dX3_buildBook_6 rfl (lv_at hl 0 rfl) ?_
  refine lv_iload_n hx hb dX3_buildBook_7 rfl (lv_at hl 2 rfl) ?_
  refine q_vXa C0 lX3_37 (c_X3_bookAt l hfl D y L F _ O G σ xa hC (by omega)) ⟨rfl, rfl⟩ rfl hP hD hX hout hlk hC.1.1 hC.1.2 rfl rfl rfl hl rfl (Nat.le_of_ble_eq_true rfl) dX3_buildBook_8 ⟨Nat.le_of_ble_eq_true rfl, Nat.le_of_ble_eq_true rfl⟩ ⟨Nat.le_of_ble_eq_true rfl, Nat.le_of_ble_eq_true rfl⟩ (fun E h => Or.inl ⟨h.1, fun q => h.2 (by omega)⟩) (fun r2 e_r2 => ?_)
  refine W.widen (k := 2) (n := 12) (Nat.le_of_ble_eq_true rfl) (Nat.le_of_ble_eq_true rfl) ?_
  obtain ⟨hb_r2, e_r2⟩ := e_r2
  subst e_r2
  refine lv_astore (lv' := [(4, .ref ((grh G (zbk σ xa)))), (0, .ref ((gbg G))), (1, .int (iI xb)), (2, .int (iI xa)), (3, .int (iI xw))]) hx hb dX3_buildBook_11 hl (by decide) rfl (fun ls hl => ?_)
  refine lv_iload_n hx hb dX3_buildBook_13 rfl (lv_at hl 4 rfl) ?_
  refine q_bipush hx hb dX3_buildBook_14 (by decide) ?_
  refine q_sXv C0 lX3_41 (c_X3_checkUpTo l hfl D y L F _ xw 6 (by omega) (by omega)) ⟨rfl, rfl⟩ rfl hP hD hX hout hlk rfl hl rfl (Nat.le_of_ble_eq_true rfl) dX3_buildBook_16 ⟨Nat.le_of_ble_eq_true rfl, Nat.le_of_ble_eq_true rfl⟩ ⟨Nat.le_of_ble_eq_true rfl, Nat.le_of_ble_eq_true rfl⟩ (fun E h => Or.inr ⟨h.1, by first | trivial | omega, fun q => h.2 (by omega)⟩) (fun _ e_r3 => ?_)
  refine W.widen (k := 3) (n := 18) (Nat.le_of_ble_eq_true rfl) (Nat.le_of_ble_eq_true rfl) ?_
  refine lv_aload_n hx hb dX3_buildBook_19 rfl (lv_at hl 1 rfl) ?_
  refine lv_dup hx hb dX3_buildBook_20 rfl ?_
  refine q_get C0 iX3 hP hC.1.1 hC.1.2 rfl 4 (by decide) flX3_45 rfl rfl dX3_buildBook_21 ?_
  refine q_iconst hx hb dX3_buildBook_24 ?_
  refine q_iadd hx hb dX3_buildBook_25 ?_
  refine q_put C0 iX3 tyX3 tyX3_ok nmX3 hP hD hS hC.1.1 hC.1.2 rfl 4 (by decide) flX3_45 rfl rfl rfl rfl (Nat.le_of_ble_eq_true rfl) dX3_buildBook_26 (fun H locs hP hD hS => ?_)
  obtain ⟨F4, eF4⟩ : ∃ z, z = va_up F (gbg G) (.inr (5, [.ref ((gab G)), .ref ((gas G)), .ref ((gav G)), .ref ((gkk G)), .int (iI ((z0 σ + 1))), .int (iI (z1 σ)), .int (iI (z2 σ)), .int (iI (z3 σ))])) := ⟨_, rfl⟩
  have hP : va_P D vwCl (va_pl L F4) H := by rw [eF4]; exact hP
  have hD : va_D (AL L s.heap.size) (va_pl L F4) := by rw [eF4]; exact hD
  have hO : OE O F F4 := by rw [eF4]; exact hO.tr (OE1 (CP_O hC).1)
  have hC : CP y L F4 O G (sCt σ (z0 σ + 1) (z1 σ) (z2 σ) (z3 σ)) := by rw [eF4]; exact CP_ct hC (va_up_self _ _ _) (fun q hq => va_up_ne _ _ hq)
  refine lv_aload_n hx hb dX3_buildBook_29 rfl (lv_at hl 1 rfl) ?_
  refine q_get C0 iX3 hP hC.1.1 hC.1.2 rfl 0 (by decide) flX3_11 rfl rfl dX3_buildBook_30 ?_
  refine lv_iload_n hx hb dX3_buildBook_33 rfl (lv_at hl 2 rfl) ?_
  refine lv_aload hx hb dX3_buildBook_34 (lv_at hl 0 rfl) ?_
  refine q_iconst hx hb dX3_buildBook_36 ?_
  refine q_bipush hx hb dX3_buildBook_37 (by decide) ?_
  refine lv_aload hx hb dX3_buildBook_39 (lv_at hl 0 rfl) ?_
  refine lv_iload_n hx hb dX3_buildBook_41 rfl (lv_at hl 4 rfl) ?_
  refine q_sS C0 lX3_52 (c_X3_builtOrder l D y L F4 (grh G (zbk σ xa)) (grw G (zbk σ xa)) (zod σ (zbk σ xa)) ((zst σ (zbk σ xa)).1) ((zst σ (zbk σ xa)).2.1) ((zst σ (zbk σ xa)).2.2) xw (CP_r hC (hW.1 xa)) (by omega)) ⟨rfl, rfl⟩ rfl hP rfl hl rfl (Nat.le_of_ble_eq_true rfl) dX3_buildBook_42 ⟨Nat.le_of_ble_eq_true rfl, Nat.le_of_ble_eq_true rfl⟩ (fun r5 e_r5 => ?_)
  subst e_r5
  have b_6 := @bo_b xw (zod σ (zbk σ xa)) (by omega) (by omega)
  refine q_vMa C0 lX3_56 (c_X0_copyOfPart l D y L F4 _ (grh G (zbk σ xa)) (grw G (zbk σ xa)) (zod σ (zbk σ xa)) ((zst σ (zbk σ xa)).1) ((zst σ (zbk σ xa)).2.1) ((zst σ (zbk σ xa)).2.2) 0 99 (bo xw (zod σ (zbk σ xa))) (CP_r hC (hW.1 xa)) (by omega) (by omega) (by omega)) ⟨rfl, rfl⟩ rfl hP hD hS hA (CP_r hC (hW.1 xa)).1 (CP_r hC (hW.1 xa)).2.1 rfl rfl rfl hl rfl (Nat.le_of_ble_eq_true rfl) dX3_buildBook_45 ⟨Nat.le_of_ble_eq_true rfl, Nat.le_of_ble_eq_true rfl⟩ (fun r7 H locs L8 F8 hP hD hS hz8 hp8 => ?_)
  refine W.widen (k := 5) (n := 122) (Nat.le_of_ble_eq_true rfl) (Nat.le_of_ble_eq_true rfl) ?_
  obtain ⟨r7q, eL, hr_, hq_, hrq_, hRn, hfn⟩ := hp8
  subst eL
  have hRo9 := Rw_mono (CP_r hC (hW.1 xa)) (L1 := ((L ++ [r7]) ++ [r7q])) (F1 := F8) (fun a h1 => List.mem_append_left _ (List.mem_append_left _ h1)) hfn
  have hR9 : RwS y ((L ++ [r7]) ++ [r7q]) F8 r7 r7q (bo xw (zod σ (zbk σ xa))) (addS (bo xw (zod σ (zbk σ xa))) (zod σ (zbk σ xa)) ((zst σ (zbk σ xa)).2.2) 0 99 (0, 0, emp)) := hRn
  have hwf9 : (∀ i, zbk (sCt σ (z0 σ + 1) (z1 σ) (z2 σ) (z3 σ)) i < zn (sCt σ (z0 σ + 1) (z1 σ) (z2 σ) (z3 σ))) ∧ (∀ i, zsh (sCt σ (z0 σ + 1) (z1 σ) (z2 σ) (z3 σ)) i < zn (sCt σ (z0 σ + 1) (z1 σ) (z2 σ) (z3 σ))) ∧ (∀ i, zvw (sCt σ (z0 σ + 1) (z1 σ) (z2 σ) (z3 σ)) i < zn (sCt σ (z0 σ + 1) (z1 σ) (z2 σ) (z3 σ))) ∧ ∀ i, zwk (sCt σ (z0 σ + 1) (z1 σ) (z2 σ) (z3 σ)) = some i → i < zn (sCt σ (z0 σ + 1) (z1 σ) (z2 σ) (z3 σ)) := ⟨hW.1, hW.2.1, hW.2.2.1, hW.2.2.2.1⟩
  have hC : CP y ((L ++ [r7]) ++ [r7q]) F8 (fun a => O a ∨ a ∉ L) (gNw G (zn σ) r7 r7q) (sNw (sCt σ (z0 σ + 1) (z1 σ) (z2 σ) (z3 σ)) (bo xw (zod σ (zbk σ xa))) (addS (bo xw (zod σ (zbk σ xa))) (zod σ (zbk σ xa)) ((zst σ (zbk σ xa)).2.2) 0 99 (0, 0, emp))) := CP_new (σ := (sCt σ (z0 σ + 1) (z1 σ) (z2 σ) (z3 σ))) (G := G) (o := (bo xw (zod σ (zbk σ xa)))) (S := (addS (bo xw (zod σ (zbk σ xa))) (zod σ (zbk σ xa)) ((zst σ (zbk σ xa)).2.2) 0 99 (0, 0, emp))) (F1 := F8) hC rfl hr_ hq_ hR9 hfn hwf9
  have hE : ∀ q ∈ L, ¬ O q → F8 q = F q := fun q h1 h2 => (hfn q h1).trans (hO q h2)
  have hO : OE (fun a => O a ∨ a ∉ L) F8 F8 := fun _ _ => rfl
  have er : grh (gNw G (zn σ) r7 r7q) (zn σ) = r7 := va_up_self _ _ _
  refine q_aast C0 hP hD hS hC.2.1.1 hC.2.1.2 (t := 1) (r := (RX0, TX0, 4)) rfl hRn.1 hRn.2.1 rfl (by omega) (by decide) dX3_buildBook_48 (fun H locs hP hD hS => ?_)
  have hoo := hC.2.1.2
  obtain ⟨F10, eF10⟩ : ∃ z, z = va_up F8 (gab (gNw G (zn σ) r7 r7q)) (arrQ (y 1) 4 (iu (fun i => some (grh (gNw G (zn σ) r7 r7q) (zbk (sNw (sCt σ (z0 σ + 1) (z1 σ) (z2 σ) (z3 σ)) (bo xw (zod σ (zbk σ xa))) (addS (bo xw (zod σ (zbk σ xa))) (zod σ (zbk σ xa)) ((zst σ (zbk σ xa)).2.2) 0 99 (0, 0, emp))) i))) xb (some r7))) := ⟨_, rfl⟩
  have hP : va_P D vwCl (va_pl ((L ++ [r7]) ++ [r7q]) F10) H := by rw [eF10]; exact hP
  have hD : va_D (AL L s.heap.size) (va_pl ((L ++ [r7]) ++ [r7q]) F10) := by rw [eF10]; exact hD
  have hO : OE (fun a => O a ∨ a ∉ L) F8 F10 := by rw [eF10]; exact hO.tr (OE1 (CP_O hC).2.1)
  have hKF10_0 : Rw y ((L ++ [r7]) ++ [r7q]) F10 (grh G (zbk σ xa)) (grw G (zbk σ xa)) (zod σ (zbk σ xa)) ((zst σ (zbk σ xa)).1) ((zst σ (zbk σ xa)).2.1) ((zst σ (zbk σ xa)).2.2) := by rw [eF10]; exact Rw_q hRo9 hoo
  have hKF10_1 : Rw y ((L ++ [r7]) ++ [r7q]) F10 r7 r7q (bo xw (zod σ (zbk σ xa))) ((addS (bo xw (zod σ (zbk σ xa))) (zod σ (zbk σ xa)) ((zst σ (zbk σ xa)).2.2) 0 99 (0, 0, emp)).1) ((addS (bo xw (zod σ (zbk σ xa))) (zod σ (zbk σ xa)) ((zst σ (zbk σ xa)).2.2) 0 99 (0, 0, emp)).2.1) ((addS (bo xw (zod σ (zbk σ xa))) (zod σ (zbk σ xa)) ((zst σ (zbk σ xa)).2.2) 0 99 (0, 0, emp)).2.2) := by rw [eF10]; exact Rw_q hRn hoo
  have hC : CP y ((L ++ [r7]) ++ [r7q]) F10 (fun a => O a ∨ a ∉ L) (gNw G (zn σ) r7 r7q) (sBk (sNw (sCt σ (z0 σ + 1) (z1 σ) (z2 σ) (z3 σ)) (bo xw (zod σ (zbk σ xa))) (addS (bo xw (zod σ (zbk σ xa))) (zod σ (zbk σ xa)) ((zst σ (zbk σ xa)).2.2) 0 99 (0, 0, emp))) xb (zn σ)) := by rw [eF10]; exact CP_bk hC (by rw [er]; exact va_up_self _ _ _) (fun q hq => va_up_ne _ _ hq)
  refine lv_aload_n hx hb dX3_buildBook_49 rfl (lv_at hl 1 rfl) ?_
  refine q_get C0 iX3 hP hC.1.1 hC.1.2 rfl 0 (by decide) flX3_11 rfl rfl dX3_buildBook_50 ?_
  refine lv_iload_n hx hb dX3_buildBook_53 rfl (lv_at hl 2 rfl) ?_
  refine q_aald C0 hP hC.2.1.1 hC.2.1.2 (t := 1) rfl (by omega) (by decide) (v := .ref r7) (by show va_rf (some (grh (gNw G (zn σ) r7 r7q) (iu _ xb (zn σ) xb))) = .ref r7; rw [iu_s, er]; rfl) dX3_buildBook_54 ?_
  refine q_get C0 iX0 hP hKF10_1.1 hKF10_1.2.1 rfl 2 (by decide) flX3_49 rfl rfl dX3_buildBook_55 ?_
  refine W.widen (k := 6) (n := 124) (Nat.le_of_ble_eq_true rfl) (Nat.le_of_ble_eq_true rfl) ?_
  exact vx_ret (q_retMi C0 hret rfl hlk dX3_buildBook_58 hP hD hS (⟨by first | trivial | omega, by first | trivial | omega, (by unfold kR_buildBook; (repeat' split) <;> first | rfl | (exfalso; omega)), (fun a => O a ∨ a ∉ L), (gNw G (zn σ) r7 r7q), CP_eq hC (by unfold kS_buildBook; (repeat' split) <;> first | rfl | (exfalso; omega)), rfl, ⟨fun q h => List.mem_append_left _ (List.mem_append_left _ h), fun q h1 h2 => (hO q (fun z => z.elim h2 (fun w => w h1))).trans (hE q h1 h2), fun q h => h⟩⟩))
set_option maxHeartbeats 800000 in
set_option maxRecDepth 100000 in
theorem c_X3_buildFromView (l : Launch) (hfl : l.stackTraces = false) (D : va_G) (y : Nat → ClassId) (L : List Nat) (F : Nat → va_E) (sz : Nat) (O : Nat → Prop) (G : CG) (σ : CS) (xb : Int) (xv : Int) (xw : Int) (hC : CP y L F O G σ) (hW : CW σ) (h_xb : -2147483648 ≤ xb ∧ xb ≤ 2147483647) (h_xv : -2147483648 ≤ xv ∧ xv ≤ 2147483647) (h_xw : -2147483648 ≤ xw ∧ xw ≤ 2147483647) : vx_Met l yX3_buildFromView (.code yX3_buildFromView cX3_buildFromView 5 (some .int) :: Tt) ({ frames := 7, cells := 6, slots := 124, locals := 103 }) (PcX D y L F sz [.ref ((gbg G)), .int (iI xb), .int (iI xv), .int (iI xw)]) (cMi D (AL L sz) (fun r L1 F1 => ((0 ≤ xb ∧ xb ≤ 3) ∧ (0 ≤ xv ∧ xv ≤ 1)) ∧ ((0 ≤ xw ∧ xw ≤ 1)) ∧ r = kR_buildFromView σ xb xv xw ∧ ∃ O1 G1, CP y L1 F1 O1 G1 (kS_buildFromView σ xb xv xw) ∧ gbg G1 = gbg G ∧ Ext O O1 L L1 F F1)) (XC (pX ((0 ≤ xb ∧ xb ≤ 3) ∧ (0 ≤ xv ∧ xv ≤ 1)) ((0 ≤ xw ∧ xw ≤ 1)))) 6 124 (AL L sz) := by
  have vb_ := hW.2.2.2.2.1 xv
  have ho_ := (CP_r hC (hW.2.2.1 xv)).2.2.2.2.1
  have hO : OE O F F := fun _ _ => rfl
  have hw4 := hW.2.2.2.2.2.1
  have hw5 := hW.2.2.2.2.2.2.1
  have hw6 := hW.2.2.2.2.2.2.2.2.2.2
  refine q_ofX (lv := [(0, .ref ((gbg G))), (1, .int (iI xb)), (2, .int (iI xv)), (3, .int (iI xw))]) (by decide) (Nat.le_of_ble_eq_true rfl) rfl (fun p e s m below meth c C0 hret hlk hout hsz hA hP hD hS hX ls hl => ?_)
  subst hsz
  have hx := C0.1.1
  have hb := C0.1.2.1
  have hts := C0.1.2.2.2.2
  refine lv_aload_n hx hb dX3_buildFromView_0 rfl (lv_at hl 0 rfl) ?_
  refine lv_iload_n hx hb dX3_buildFromView_1 rfl (lv_at hl 1 rfl) ?_
  refine q_vXa C0 lX3_37 (c_X3_bookAt l hfl D y L F _ O G σ xb hC (by omega)) ⟨rfl, rfl⟩ rfl hP hD hX hout hlk hC.1.1 hC.1.2 rfl rfl rfl hl rfl (Nat.le_of_ble_eq_true rfl) dX3_buildFromView_2 ⟨Nat.le_of_ble_eq_true rfl, Nat.le_of_ble_eq_true rfl⟩ ⟨Nat.le_of_ble_eq_true rfl, Nat.le_of_ble_eq_true rfl⟩ (fun E h => Or.inl ⟨h.1, fun q => h.2 (by omega)⟩) (fun r1 e_r1 => ?_)
  refine W.widen (k := 1) (n := 6) (Nat.le_of_ble_eq_true rfl) (Nat.le_of_ble_eq_true rfl) ?_
  obtain ⟨hb_r1, e_r1⟩ := e_r1
  subst e_r1
  refine lv_pop hx hb dX3_buildFromView_5 rfl ?_
  refine lv_aload_n hx hb dX3_buildFromView_6 rfl (lv_at hl 0 rfl) ?_
  refine lv_iload_n hx hb dX3_buildFromView_7 rfl (lv_at hl 2 rfl) ?_
  refine q_vXa C0 lX3_171 (c_X3_viewAt l hfl D y L F _ O G σ xv hC (by omega)) ⟨rfl, rfl⟩ rfl hP hD hX hout hlk hC.1.1 hC.1.2 rfl rfl rfl hl rfl (Nat.le_of_ble_eq_true rfl) dX3_buildFromView_8 ⟨Nat.le_of_ble_eq_true rfl, Nat.le_of_ble_eq_true rfl⟩ ⟨Nat.le_of_ble_eq_true rfl, Nat.le_of_ble_eq_true rfl⟩ (fun E h => Or.inl ⟨h.1, fun q => h.2 (by omega)⟩) (fun r2 e_r2 => ?_)
  refine W.widen (k := 2) (n := 12) (Nat.le_of_ble_eq_true rfl) (Nat.le_of_ble_eq_true rfl) ?_
  obtain ⟨hb_r2, e_r2⟩ := e_r2
  subst e_r2
  have hv_r2 := hW.2.2.2.2.1 xv
  refine lv_astore (lv' := [(4, .ref ((gva G xv))), (0, .ref ((gbg G))), (1, .int (iI xb)), (2, .int (iI xv)), (3, .int (iI xw))]) hx hb dX3_buildFromView_11 hl (by decide) rfl (fun ls hl => ?_)
  refine lv_iload_n hx hb dX3_buildFromView_13 rfl (lv_at hl 4 rfl) ?_
  refine q_iconst hx hb dX3_buildFromView_14 ?_
  refine q_sXv C0 lX3_41 (c_X3_checkUpTo l hfl D y L F _ xw 1 (by omega) (by omega)) ⟨rfl, rfl⟩ rfl hP hD hX hout hlk rfl hl rfl (Nat.le_of_ble_eq_true rfl) dX3_buildFromView_15 ⟨Nat.le_of_ble_eq_true rfl, Nat.le_of_ble_eq_true rfl⟩ ⟨Nat.le_of_ble_eq_true rfl, Nat.le_of_ble_eq_true rfl⟩ (fun E h => Or.inr ⟨h.1, by first | trivial | omega, fun q => h.2 (by omega)⟩) (fun _ e_r3 => ?_)
  refine W.widen (k := 3) (n := 18) (Nat.le_of_ble_eq_true rfl) (Nat.le_of_ble_eq_true rfl) ?_
  refine lv_aload_n hx hb dX3_buildFromView_18 rfl (lv_at hl 1 rfl) ?_
  refine lv_dup hx hb dX3_buildFromView_19 rfl ?_
  refine q_get C0 iX3 hP hC.1.1 hC.1.2 rfl 4 (by decide) flX3_45 rfl rfl dX3_buildFromView_20 ?_
  refine q_iconst hx hb dX3_buildFromView_23 ?_
  refine q_iadd hx hb dX3_buildFromView_24 ?_
  refine q_put C0 iX3 tyX3 tyX3_ok nmX3 hP hD hS hC.1.1 hC.1.2 rfl 4 (by decide) flX3_45 rfl rfl rfl rfl (Nat.le_of_ble_eq_true rfl) dX3_buildFromView_25 (fun H locs hP hD hS => ?_)
  obtain ⟨F4, eF4⟩ : ∃ z, z = va_up F (gbg G) (.inr (5, [.ref ((gab G)), .ref ((gas G)), .ref ((gav G)), .ref ((gkk G)), .int (iI ((z0 σ + 1))), .int (iI (z1 σ)), .int (iI (z2 σ)), .int (iI (z3 σ))])) := ⟨_, rfl⟩
  have hP : va_P D vwCl (va_pl L F4) H := by rw [eF4]; exact hP
  have hD : va_D (AL L s.heap.size) (va_pl L F4) := by rw [eF4]; exact hD
  have hO : OE O F F4 := by rw [eF4]; exact hO.tr (OE1 (CP_O hC).1)
  have hC : CP y L F4 O G (sCt σ (z0 σ + 1) (z1 σ) (z2 σ) (z3 σ)) := by rw [eF4]; exact CP_ct hC (va_up_self _ _ _) (fun q hq => va_up_ne _ _ hq)
  refine lv_aload_n hx hb dX3_buildFromView_28 rfl (lv_at hl 1 rfl) ?_
  refine q_get C0 iX3 hP hC.1.1 hC.1.2 rfl 0 (by decide) flX3_11 rfl rfl dX3_buildFromView_29 ?_
  refine lv_iload_n hx hb dX3_buildFromView_32 rfl (lv_at hl 2 rfl) ?_
  refine lv_aload hx hb dX3_buildFromView_33 (lv_at hl 0 rfl) ?_
  refine q_get C0 iX1 hP (CP_v hC hb_r2).1 (CP_v hC hb_r2).2 rfl 0 (by decide) flX3_178 rfl rfl dX3_buildFromView_35 ?_
  refine lv_aload hx hb dX3_buildFromView_38 (lv_at hl 0 rfl) ?_
  refine q_get C0 iX1 hP (CP_v hC hb_r2).1 (CP_v hC hb_r2).2 rfl 1 (by decide) flX3_182 rfl rfl dX3_buildFromView_40 ?_
  refine lv_aload hx hb dX3_buildFromView_43 (lv_at hl 0 rfl) ?_
  refine q_get C0 iX1 hP (CP_v hC hb_r2).1 (CP_v hC hb_r2).2 rfl 2 (by decide) flX3_185 rfl rfl dX3_buildFromView_45 ?_
  refine lv_aload hx hb dX3_buildFromView_48 (lv_at hl 0 rfl) ?_
  refine q_get C0 iX1 hP (CP_v hC hb_r2).1 (CP_v hC hb_r2).2 rfl 0 (by decide) flX3_178 rfl rfl dX3_buildFromView_50 ?_
  refine q_get C0 iX0 hP (CP_r hC (hW.2.2.1 xv)).1 (CP_r hC (hW.2.2.1 xv)).2.1 rfl 0 (by decide) flX3_74 rfl rfl dX3_buildFromView_53 ?_
  refine q_vMa C0 lX3_56 (c_X0_copyOfPart l D y L F4 _ (grh G (zvw σ xv)) (grw G (zvw σ xv)) (zod σ (zvw σ xv)) ((zst σ (zvw σ xv)).1) ((zst σ (zvw σ xv)).2.1) ((zst σ (zvw σ xv)).2.2) (zvl σ xv) (zvh σ xv) (zod σ (zvw σ xv)) (CP_r hC (hW.2.2.1 xv)) (by omega) (by omega) (by omega)) ⟨rfl, rfl⟩ rfl hP hD hS hA (CP_r hC (hW.2.2.1 xv)).1 (CP_r hC (hW.2.2.1 xv)).2.1 rfl rfl rfl hl rfl (Nat.le_of_ble_eq_true rfl) dX3_buildFromView_56 ⟨Nat.le_of_ble_eq_true rfl, Nat.le_of_ble_eq_true rfl⟩ (fun r5 H locs L6 F6 hP hD hS hz6 hp6 => ?_)
  refine W.widen (k := 5) (n := 122) (Nat.le_of_ble_eq_true rfl) (Nat.le_of_ble_eq_true rfl) ?_
  obtain ⟨r5q, eL, hr_, hq_, hrq_, hRn, hfn⟩ := hp6
  subst eL
  have hR9 : RwS y ((L ++ [r5]) ++ [r5q]) F6 r5 r5q (zod σ (zvw σ xv)) (addS (zod σ (zvw σ xv)) (zod σ (zvw σ xv)) ((zst σ (zvw σ xv)).2.2) (zvl σ xv) (zvh σ xv) (0, 0, emp)) := hRn
  have hwf9 : (∀ i, zbk (sCt σ (z0 σ + 1) (z1 σ) (z2 σ) (z3 σ)) i < zn (sCt σ (z0 σ + 1) (z1 σ) (z2 σ) (z3 σ))) ∧ (∀ i, zsh (sCt σ (z0 σ + 1) (z1 σ) (z2 σ) (z3 σ)) i < zn (sCt σ (z0 σ + 1) (z1 σ) (z2 σ) (z3 σ))) ∧ (∀ i, zvw (sCt σ (z0 σ + 1) (z1 σ) (z2 σ) (z3 σ)) i < zn (sCt σ (z0 σ + 1) (z1 σ) (z2 σ) (z3 σ))) ∧ ∀ i, zwk (sCt σ (z0 σ + 1) (z1 σ) (z2 σ) (z3 σ)) = some i → i < zn (sCt σ (z0 σ + 1) (z1 σ) (z2 σ) (z3 σ)) := ⟨hW.1, hW.2.1, hW.2.2.1, hW.2.2.2.1⟩
  have hC : CP y ((L ++ [r5]) ++ [r5q]) F6 (fun a => O a ∨ a ∉ L) (gNw G (zn σ) r5 r5q) (sNw (sCt σ (z0 σ + 1) (z1 σ) (z2 σ) (z3 σ)) (zod σ (zvw σ xv)) (addS (zod σ (zvw σ xv)) (zod σ (zvw σ xv)) ((zst σ (zvw σ xv)).2.2) (zvl σ xv) (zvh σ xv) (0, 0, emp))) := CP_new (σ := (sCt σ (z0 σ + 1) (z1 σ) (z2 σ) (z3 σ))) (G := G) (o := (zod σ (zvw σ xv))) (S := (addS (zod σ (zvw σ xv)) (zod σ (zvw σ xv)) ((zst σ (zvw σ xv)).2.2) (zvl σ xv) (zvh σ xv) (0, 0, emp))) (F1 := F6) hC rfl hr_ hq_ hR9 hfn hwf9
  have hE : ∀ q ∈ L, ¬ O q → F6 q = F q := fun q h1 h2 => (hfn q h1).trans (hO q h2)
  have hO : OE (fun a => O a ∨ a ∉ L) F6 F6 := fun _ _ => rfl
  have er : grh (gNw G (zn σ) r5 r5q) (zn σ) = r5 := va_up_self _ _ _
  refine q_aast C0 hP hD hS hC.2.1.1 hC.2.1.2 (t := 1) (r := (RX0, TX0, 4)) rfl hRn.1 hRn.2.1 rfl (by omega) (by decide) dX3_buildFromView_59 (fun H locs hP hD hS => ?_)
  have hoo := hC.2.1.2
  obtain ⟨F7, eF7⟩ : ∃ z, z = va_up F6 (gab (gNw G (zn σ) r5 r5q)) (arrQ (y 1) 4 (iu (fun i => some (grh (gNw G (zn σ) r5 r5q) (zbk (sNw (sCt σ (z0 σ + 1) (z1 σ) (z2 σ) (z3 σ)) (zod σ (zvw σ xv)) (addS (zod σ (zvw σ xv)) (zod σ (zvw σ xv)) ((zst σ (zvw σ xv)).2.2) (zvl σ xv) (zvh σ xv) (0, 0, emp))) i))) xb (some r5))) := ⟨_, rfl⟩
  have hP : va_P D vwCl (va_pl ((L ++ [r5]) ++ [r5q]) F7) H := by rw [eF7]; exact hP
  have hD : va_D (AL L s.heap.size) (va_pl ((L ++ [r5]) ++ [r5q]) F7) := by rw [eF7]; exact hD
  have hO : OE (fun a => O a ∨ a ∉ L) F6 F7 := by rw [eF7]; exact hO.tr (OE1 (CP_O hC).2.1)
  have hKF7_0 : Rw y ((L ++ [r5]) ++ [r5q]) F7 r5 r5q (zod σ (zvw σ xv)) ((addS (zod σ (zvw σ xv)) (zod σ (zvw σ xv)) ((zst σ (zvw σ xv)).2.2) (zvl σ xv) (zvh σ xv) (0, 0, emp)).1) ((addS (zod σ (zvw σ xv)) (zod σ (zvw σ xv)) ((zst σ (zvw σ xv)).2.2) (zvl σ xv) (zvh σ xv) (0, 0, emp)).2.1) ((addS (zod σ (zvw σ xv)) (zod σ (zvw σ xv)) ((zst σ (zvw σ xv)).2.2) (zvl σ xv) (zvh σ xv) (0, 0, emp)).2.2) := by rw [eF7]; exact Rw_q hRn hoo
  have hC : CP y ((L ++ [r5]) ++ [r5q]) F7 (fun a => O a ∨ a ∉ L) (gNw G (zn σ) r5 r5q) (sBk (sNw (sCt σ (z0 σ + 1) (z1 σ) (z2 σ) (z3 σ)) (zod σ (zvw σ xv)) (addS (zod σ (zvw σ xv)) (zod σ (zvw σ xv)) ((zst σ (zvw σ xv)).2.2) (zvl σ xv) (zvh σ xv) (0, 0, emp))) xb (zn σ)) := by rw [eF7]; exact CP_bk hC (by rw [er]; exact va_up_self _ _ _) (fun q hq => va_up_ne _ _ hq)
  refine lv_aload_n hx hb dX3_buildFromView_60 rfl (lv_at hl 1 rfl) ?_
  refine q_get C0 iX3 hP hC.1.1 hC.1.2 rfl 0 (by decide) flX3_11 rfl rfl dX3_buildFromView_61 ?_
  refine lv_iload_n hx hb dX3_buildFromView_64 rfl (lv_at hl 2 rfl) ?_
  refine q_aald C0 hP hC.2.1.1 hC.2.1.2 (t := 1) rfl (by omega) (by decide) (v := .ref r5) (by show va_rf (some (grh (gNw G (zn σ) r5 r5q) (iu _ xb (zn σ) xb))) = .ref r5; rw [iu_s, er]; rfl) dX3_buildFromView_65 ?_
  refine q_get C0 iX0 hP hKF7_0.1 hKF7_0.2.1 rfl 2 (by decide) flX3_49 rfl rfl dX3_buildFromView_66 ?_
  refine W.widen (k := 6) (n := 124) (Nat.le_of_ble_eq_true rfl) (Nat.le_of_ble_eq_true rfl) ?_
  exact vx_ret (q_retMi C0 hret rfl hlk dX3_buildFromView_69 hP hD hS (⟨by first | trivial | omega, by first | trivial | omega, (by unfold kR_buildFromView; (repeat' split) <;> first | rfl | (exfalso; omega)), (fun a => O a ∨ a ∉ L), (gNw G (zn σ) r5 r5q), CP_eq hC (by unfold kS_buildFromView; (repeat' split) <;> first | rfl | (exfalso; omega)), rfl, ⟨fun q h => List.mem_append_left _ (List.mem_append_left _ h), fun q h1 h2 => (hO q (fun z => z.elim h2 (fun w => w h1))).trans (hE q h1 h2), fun q h => h⟩⟩))
set_option maxHeartbeats 800000 in
set_option maxRecDepth 100000 in
theorem c_X3_freshShelf (l : Launch) (hfl : l.stackTraces = false) (D : va_G) (y : Nat → ClassId) (L : List Nat) (F : Nat → va_E) (sz : Nat) (O : Nat → Prop) (G : CG) (σ : CS) (xb : Int) (xo : Int) (hC : CP y L F O G σ) (hW : CW σ) (h_xb : -2147483648 ≤ xb ∧ xb ≤ 2147483647) (h_xo : -2147483648 ≤ xo ∧ xo ≤ 2147483647) : vx_Met l yX3_freshShelf (.code yX3_freshShelf cX3_freshShelf 4 (some .int) :: Tt) ({ frames := 7, cells := 6, slots := 124, locals := 103 }) (PcX D y L F sz [.ref ((gbg G)), .int (iI xb), .int (iI xo)]) (cMi D (AL L sz) (fun r L1 F1 => ((0 ≤ xb ∧ xb ≤ 2)) ∧ ((0 ≤ xo ∧ xo ≤ 2)) ∧ r = kR_freshShelf σ xb xo ∧ ∃ O1 G1, CP y L1 F1 O1 G1 (kS_freshShelf σ xb xo) ∧ gbg G1 = gbg G ∧ Ext O O1 L L1 F F1)) (XC (pX ((0 ≤ xb ∧ xb ≤ 2)) ((0 ≤ xo ∧ xo ≤ 2)))) 6 124 (AL L sz) := by
  have hO : OE O F F := fun _ _ => rfl
  have hw4 := hW.2.2.2.2.2.1
  have hw5 := hW.2.2.2.2.2.2.1
  have hw6 := hW.2.2.2.2.2.2.2.2.2.2
  refine q_ofX (lv := [(0, .ref ((gbg G))), (1, .int (iI xb)), (2, .int (iI xo))]) (by decide) (Nat.le_of_ble_eq_true rfl) rfl (fun p e s m below meth c C0 hret hlk hout hsz hA hP hD hS hX ls hl => ?_)
  subst hsz
  have hx := C0.1.1
  have hb := C0.1.2.1
  have hts := C0.1.2.2.2.2
  refine lv_aload_n hx hb dX3_freshShelf_0 rfl (lv_at hl 0 rfl) ?_
  refine lv_iload_n hx hb dX3_freshShelf_1 rfl (lv_at hl 1 rfl) ?_
  refine q_vXa C0 lX3_216 (c_X3_shelfAt l hfl D y L F _ O G σ xb hC (by omega)) ⟨rfl, rfl⟩ rfl hP hD hX hout hlk hC.1.1 hC.1.2 rfl rfl rfl hl rfl (Nat.le_of_ble_eq_true rfl) dX3_freshShelf_2 ⟨Nat.le_of_ble_eq_true rfl, Nat.le_of_ble_eq_true rfl⟩ ⟨Nat.le_of_ble_eq_true rfl, Nat.le_of_ble_eq_true rfl⟩ (fun E h => Or.inl ⟨h.1, fun q => h.2 (by omega)⟩) (fun r1 e_r1 => ?_)
  refine W.widen (k := 1) (n := 6) (Nat.le_of_ble_eq_true rfl) (Nat.le_of_ble_eq_true rfl) ?_
  obtain ⟨hb_r1, e_r1⟩ := e_r1
  subst e_r1
  refine lv_astore_n (lv' := [(3, .ref ((grh G (zsh σ xb)))), (0, .ref ((gbg G))), (1, .int (iI xb)), (2, .int (iI xo))]) hx hb dX3_freshShelf_5 rfl hl (by decide) rfl (fun ls hl => ?_)
  refine lv_iload_n hx hb dX3_freshShelf_6 rfl (lv_at hl 3 rfl) ?_
  refine q_iconst hx hb dX3_freshShelf_7 ?_
  refine q_sXv C0 lX3_41 (c_X3_checkUpTo l hfl D y L F _ xo 2 (by omega) (by omega)) ⟨rfl, rfl⟩ rfl hP hD hX hout hlk rfl hl rfl (Nat.le_of_ble_eq_true rfl) dX3_freshShelf_8 ⟨Nat.le_of_ble_eq_true rfl, Nat.le_of_ble_eq_true rfl⟩ ⟨Nat.le_of_ble_eq_true rfl, Nat.le_of_ble_eq_true rfl⟩ (fun E h => Or.inr ⟨h.1, by first | trivial | omega, fun q => h.2 (by omega)⟩) (fun _ e_r2 => ?_)
  refine W.widen (k := 2) (n := 12) (Nat.le_of_ble_eq_true rfl) (Nat.le_of_ble_eq_true rfl) ?_
  refine lv_aload_n hx hb dX3_freshShelf_11 rfl (lv_at hl 1 rfl) ?_
  refine lv_dup hx hb dX3_freshShelf_12 rfl ?_
  refine q_get C0 iX3 hP hC.1.1 hC.1.2 rfl 5 (by decide) flX3_219 rfl rfl dX3_freshShelf_13 ?_
  refine q_iconst hx hb dX3_freshShelf_16 ?_
  refine q_iadd hx hb dX3_freshShelf_17 ?_
  refine q_put C0 iX3 tyX3 tyX3_ok nmX3 hP hD hS hC.1.1 hC.1.2 rfl 5 (by decide) flX3_219 rfl rfl rfl rfl (Nat.le_of_ble_eq_true rfl) dX3_freshShelf_18 (fun H locs hP hD hS => ?_)
  obtain ⟨F3, eF3⟩ : ∃ z, z = va_up F (gbg G) (.inr (5, [.ref ((gab G)), .ref ((gas G)), .ref ((gav G)), .ref ((gkk G)), .int (iI (z0 σ)), .int (iI ((z1 σ + 1))), .int (iI (z2 σ)), .int (iI (z3 σ))])) := ⟨_, rfl⟩
  have hP : va_P D vwCl (va_pl L F3) H := by rw [eF3]; exact hP
  have hD : va_D (AL L s.heap.size) (va_pl L F3) := by rw [eF3]; exact hD
  have hO : OE O F F3 := by rw [eF3]; exact hO.tr (OE1 (CP_O hC).1)
  have hC : CP y L F3 O G (sCt σ (z0 σ) (z1 σ + 1) (z2 σ) (z3 σ)) := by rw [eF3]; exact CP_ct hC (va_up_self _ _ _) (fun q hq => va_up_ne _ _ hq)
  refine lv_aload_n hx hb dX3_freshShelf_21 rfl (lv_at hl 1 rfl) ?_
  refine q_get C0 iX3 hP hC.1.1 hC.1.2 rfl 1 (by decide) flX3_18 rfl rfl dX3_freshShelf_22 ?_
  refine lv_iload_n hx hb dX3_freshShelf_25 rfl (lv_at hl 2 rfl) ?_
  refine q_new C0 iX0 tyX0 tyX0_ok klX3_9 insX0 iniX0 hP hD hS hA (ci := 2) rfl (fs := [.int (iI 0), .null, .int (iI 0), .int (iI 0)]) (fun j hj => by rcases (show j = 0 ∨ j = 1 ∨ j = 2 ∨ j = 3 by omega) with rfl | rfl | rfl | rfl <;> rfl) (Nat.le_of_ble_eq_true rfl) (Nat.le_of_ble_eq_true rfl) dX3_freshShelf_26 (fun q4 H hq4 hP hD hS => ?_)
  refine W.widen (k := 3) (n := 16) (Nat.le_of_ble_eq_true rfl) (Nat.le_of_ble_eq_true rfl) ?_
  obtain ⟨F5, eF5⟩ : ∃ z, z = va_up F3 q4 (.inr (2, [.int (iI 0), .null, .int (iI 0), .int (iI 0)])) := ⟨_, rfl⟩
  have hP : va_P D vwCl (va_pl (L ++ [q4]) F5) H := by rw [eF5]; exact hP
  have hD : va_D (AL L s.heap.size) (va_pl (L ++ [q4]) F5) := by rw [eF5]; exact hD
  have hfn : ∀ a ∈ L, F5 a = F3 a := by rw [eF5]; exact fun a h1 => va_up_ne _ _ (ne_in h1 hq4)
  have hFq4 : F5 q4 = .inr (2, [.int (iI 0), .null, .int (iI 0), .int (iI 0)]) := by rw [eF5]; exact va_up_self _ _ _
  refine lv_dup hx hb dX3_freshShelf_29 rfl ?_
  refine lv_iload_n hx hb dX3_freshShelf_30 rfl (lv_at hl 3 rfl) ?_
  refine q_iMv C0 lX3_15 (c_X0_init l D y (L ++ [q4]) F5 _ q4 xo (List.mem_append_right _ List.mem_cons_self) hFq4 (by omega)) ⟨rfl, rfl⟩ rfl hP hD hS hA rfl hl rfl (Nat.le_of_ble_eq_true rfl) dX3_freshShelf_31 ⟨Nat.le_of_ble_eq_true rfl, Nat.le_of_ble_eq_true rfl⟩ (fun _ H locs L7 F7 hP hD hS hz7 hp7 => ?_)
  refine W.widen (k := 4) (n := 116) (Nat.le_of_ble_eq_true rfl) (Nat.le_of_ble_eq_true rfl) ?_
  obtain ⟨q4w, hqq4w, eL, hRn, hfr1⟩ := hp7
  subst eL
  have hfn : ∀ a ∈ L, F7 a = F3 a := fun a h1 => (hfr1 a (List.mem_append_left _ h1) (ne_in h1 hq4)).trans (hfn a h1)
  have hRo8 := Rw_mono (CP_r hC (hW.2.1 xb)) (L1 := ((L ++ [q4]) ++ [q4w])) (F1 := F7) (fun a h1 => List.mem_append_left _ (List.mem_append_left _ h1)) hfn
  have hC : CP y ((L ++ [q4]) ++ [q4w]) F7 (fun a => O a ∨ a ∉ L) (gNw G (zn σ) q4 q4w) (sNw (sCt σ (z0 σ) (z1 σ + 1) (z2 σ) (z3 σ)) xo R0) := CP_new (σ := (sCt σ (z0 σ) (z1 σ + 1) (z2 σ) (z3 σ))) (G := G) (o := xo) (S := R0) (F1 := F7) hC rfl hq4 (fun h1 => hqq4w (List.mem_append_left _ h1)) hRn hfn ⟨hW.1, hW.2.1, hW.2.2.1, hW.2.2.2.1⟩
  have hE : ∀ q ∈ L, ¬ O q → F7 q = F q := fun q h1 h2 => (hfn q h1).trans (hO q h2)
  have hO : OE (fun a => O a ∨ a ∉ L) F7 F7 := fun _ _ => rfl
  have er : grh (gNw G (zn σ) q4 q4w) (zn σ) = q4 := va_up_self _ _ _
  refine q_aast C0 hP hD hS hC.2.2.1.1 hC.2.2.1.2 (t := 1) (r := (RX0, TX0, 4)) rfl hRn.1 hRn.2.1 rfl (by omega) (by decide) dX3_freshShelf_34 (fun H locs hP hD hS => ?_)
  have hoo := hC.2.2.1.2
  obtain ⟨F9, eF9⟩ : ∃ z, z = va_up F7 (gas (gNw G (zn σ) q4 q4w)) (arrQ (y 1) 3 (iu (fun i => some (grh (gNw G (zn σ) q4 q4w) (zsh (sNw (sCt σ (z0 σ) (z1 σ + 1) (z2 σ) (z3 σ)) xo R0) i))) xb (some q4))) := ⟨_, rfl⟩
  have hP : va_P D vwCl (va_pl ((L ++ [q4]) ++ [q4w]) F9) H := by rw [eF9]; exact hP
  have hD : va_D (AL L s.heap.size) (va_pl ((L ++ [q4]) ++ [q4w]) F9) := by rw [eF9]; exact hD
  have hO : OE (fun a => O a ∨ a ∉ L) F7 F9 := by rw [eF9]; exact hO.tr (OE1 (CP_O hC).2.2.1)
  have hKF9_0 : Rw y ((L ++ [q4]) ++ [q4w]) F9 (grh G (zsh σ xb)) (grw G (zsh σ xb)) (zod σ (zsh σ xb)) ((zst σ (zsh σ xb)).1) ((zst σ (zsh σ xb)).2.1) ((zst σ (zsh σ xb)).2.2) := by rw [eF9]; exact Rw_q hRo8 hoo
  have hKF9_1 : Rw y ((L ++ [q4]) ++ [q4w]) F9 q4 q4w xo R0.1 R0.2.1 R0.2.2 := by rw [eF9]; exact Rw_q hRn hoo
  have hC : CP y ((L ++ [q4]) ++ [q4w]) F9 (fun a => O a ∨ a ∉ L) (gNw G (zn σ) q4 q4w) (sSh (sNw (sCt σ (z0 σ) (z1 σ + 1) (z2 σ) (z3 σ)) xo R0) xb (zn σ)) := by rw [eF9]; exact CP_sh hC (by rw [er]; exact va_up_self _ _ _) (fun q hq => va_up_ne _ _ hq)
  refine lv_aload_n hx hb dX3_freshShelf_35 rfl (lv_at hl 0 rfl) ?_
  refine q_get C0 iX0 hP hKF9_0.1 hKF9_0.2.1 rfl 2 (by decide) flX3_49 rfl rfl dX3_freshShelf_36 ?_
  refine W.widen (k := 6) (n := 124) (Nat.le_of_ble_eq_true rfl) (Nat.le_of_ble_eq_true rfl) ?_
  exact vx_ret (q_retMi C0 hret rfl hlk dX3_freshShelf_39 hP hD hS (⟨by first | trivial | omega, by first | trivial | omega, (by unfold kR_freshShelf; (repeat' split) <;> first | rfl | (exfalso; omega)), (fun a => O a ∨ a ∉ L), (gNw G (zn σ) q4 q4w), CP_eq hC (by unfold kS_freshShelf; (repeat' split) <;> first | rfl | (exfalso; omega)), rfl, ⟨fun q h => List.mem_append_left _ (List.mem_append_left _ h), fun q h1 h2 => (hO q (fun z => z.elim h2 (fun w => w h1))).trans (hE q h1 h2), fun q h => h⟩⟩))
set_option maxHeartbeats 800000 in
set_option maxRecDepth 100000 in
theorem c_X3_buildShelf (l : Launch) (hfl : l.stackTraces = false) (D : va_G) (y : Nat → ClassId) (L : List Nat) (F : Nat → va_E) (sz : Nat) (O : Nat → Prop) (G : CG) (σ : CS) (xb : Int) (xa : Int) (xw : Int) (hC : CP y L F O G σ) (hW : CW σ) (h_xb : -2147483648 ≤ xb ∧ xb ≤ 2147483647) (h_xa : -2147483648 ≤ xa ∧ xa ≤ 2147483647) (h_xw : -2147483648 ≤ xw ∧ xw ≤ 2147483647) : vx_Met l yX3_buildShelf (.code yX3_buildShelf cX3_buildShelf 5 (some .int) :: Tt) ({ frames := 7, cells := 6, slots := 124, locals := 103 }) (PcX D y L F sz [.ref ((gbg G)), .int (iI xb), .int (iI xa), .int (iI xw)]) (cMi D (AL L sz) (fun r L1 F1 => ((0 ≤ xb ∧ xb ≤ 2) ∧ (0 ≤ xa ∧ xa ≤ 2)) ∧ ((0 ≤ xw ∧ xw ≤ 6)) ∧ r = kR_buildShelf σ xb xa xw ∧ ∃ O1 G1, CP y L1 F1 O1 G1 (kS_buildShelf σ xb xa xw) ∧ gbg G1 = gbg G ∧ Ext O O1 L L1 F F1)) (XC (pX ((0 ≤ xb ∧ xb ≤ 2) ∧ (0 ≤ xa ∧ xa ≤ 2)) ((0 ≤ xw ∧ xw ≤ 6)))) 6 124 (AL L sz) := by
  have ho_ := (CP_r hC (hW.2.1 xa)).2.2.2.2.1
  have hO : OE O F F := fun _ _ => rfl
  have hw4 := hW.2.2.2.2.2.1
  have hw5 := hW.2.2.2.2.2.2.1
  have hw6 := hW.2.2.2.2.2.2.2.2.2.2
  refine q_ofX (lv := [(0, .ref ((gbg G))), (1, .int (iI xb)), (2, .int (iI xa)), (3, .int (iI xw))]) (by decide) (Nat.le_of_ble_eq_true rfl) rfl (fun p e s m below meth c C0 hret hlk hout hsz hA hP hD hS hX ls hl => ?_)
  subst hsz
  have hx := C0.1.1
  have hb := C0.1.2.1
  have hts := C0.1.2.2.2.2
  refine lv_aload_n hx hb dX3_buildShelf_0 rfl (lv_at hl 0 rfl) ?_
  refine lv_iload_n hx hb dX3_buildShelf_1 rfl (lv_at hl 1 rfl) ?_
  refine q_vXa C0 lX3_216 (c_X3_shelfAt l hfl D y L F _ O G σ xb hC (by omega)) ⟨rfl, rfl⟩ rfl hP hD hX hout hlk hC.1.1 hC.1.2 rfl rfl rfl hl rfl (Nat.le_of_ble_eq_true rfl) dX3_buildShelf_2 ⟨Nat.le_of_ble_eq_true rfl, Nat.le_of_ble_eq_true rfl⟩ ⟨Nat.le_of_ble_eq_true rfl, Nat.le_of_ble_eq_true rfl⟩ (fun E h => Or.inl ⟨h.1, fun q => h.2 (by omega)⟩) (fun r1 e_r1 => ?_)
  refine W.widen (k := 1) (n := 6) (Nat.le_of_ble_eq_true rfl) (Nat.le_of_ble_eq_true rfl) ?_
  obtain ⟨hb_r1, e_r1⟩ := e_r1
  subst e_r1
  refine lv_pop hx hb dX3_buildShelf_5 rfl ?_
  refine lv_aload_n hx hb dX3_buildShelf_6 rfl (lv_at hl 0 rfl) ?_
  refine lv_iload_n hx hb dX3_buildShelf_7 rfl (lv_at hl 2 rfl) ?_
  refine q_vXa C0 lX3_216 (c_X3_shelfAt l hfl D y L F _ O G σ xa hC (by omega)) ⟨rfl, rfl⟩ rfl hP hD hX hout hlk hC.1.1 hC.1.2 rfl rfl rfl hl rfl (Nat.le_of_ble_eq_true rfl) dX3_buildShelf_8 ⟨Nat.le_of_ble_eq_true rfl, Nat.le_of_ble_eq_true rfl⟩ ⟨Nat.le_of_ble_eq_true rfl, Nat.le_of_ble_eq_true rfl⟩ (fun E h => Or.inl ⟨h.1, fun q => h.2 (by omega)⟩) (fun r2 e_r2 => ?_)
  refine W.widen (k := 2) (n := 12) (Nat.le_of_ble_eq_true rfl) (Nat.le_of_ble_eq_true rfl) ?_
  obtain ⟨hb_r2, e_r2⟩ := e_r2
  subst e_r2
  refine lv_astore (lv' := [(4, .ref ((grh G (zsh σ xa)))), (0, .ref ((gbg G))), (1, .int (iI xb)), (2, .int (iI xa)), (3, .int (iI xw))]) hx hb dX3_buildShelf_11 hl (by decide) rfl (fun ls hl => ?_)
  refine lv_iload_n hx hb dX3_buildShelf_13 rfl (lv_at hl 4 rfl) ?_
  refine q_bipush hx hb dX3_buildShelf_14 (by decide) ?_
  refine q_sXv C0 lX3_41 (c_X3_checkUpTo l hfl D y L F _ xw 6 (by omega) (by omega)) ⟨rfl, rfl⟩ rfl hP hD hX hout hlk rfl hl rfl (Nat.le_of_ble_eq_true rfl) dX3_buildShelf_16 ⟨Nat.le_of_ble_eq_true rfl, Nat.le_of_ble_eq_true rfl⟩ ⟨Nat.le_of_ble_eq_true rfl, Nat.le_of_ble_eq_true rfl⟩ (fun E h => Or.inr ⟨h.1, by first | trivial | omega, fun q => h.2 (by omega)⟩) (fun _ e_r3 => ?_)
  refine W.widen (k := 3) (n := 18) (Nat.le_of_ble_eq_true rfl) (Nat.le_of_ble_eq_true rfl) ?_
  refine lv_aload_n hx hb dX3_buildShelf_19 rfl (lv_at hl 1 rfl) ?_
  refine lv_dup hx hb dX3_buildShelf_20 rfl ?_
  refine q_get C0 iX3 hP hC.1.1 hC.1.2 rfl 5 (by decide) flX3_219 rfl rfl dX3_buildShelf_21 ?_
  refine q_iconst hx hb dX3_buildShelf_24 ?_
  refine q_iadd hx hb dX3_buildShelf_25 ?_
  refine q_put C0 iX3 tyX3 tyX3_ok nmX3 hP hD hS hC.1.1 hC.1.2 rfl 5 (by decide) flX3_219 rfl rfl rfl rfl (Nat.le_of_ble_eq_true rfl) dX3_buildShelf_26 (fun H locs hP hD hS => ?_)
  obtain ⟨F4, eF4⟩ : ∃ z, z = va_up F (gbg G) (.inr (5, [.ref ((gab G)), .ref ((gas G)), .ref ((gav G)), .ref ((gkk G)), .int (iI (z0 σ)), .int (iI ((z1 σ + 1))), .int (iI (z2 σ)), .int (iI (z3 σ))])) := ⟨_, rfl⟩
  have hP : va_P D vwCl (va_pl L F4) H := by rw [eF4]; exact hP
  have hD : va_D (AL L s.heap.size) (va_pl L F4) := by rw [eF4]; exact hD
  have hO : OE O F F4 := by rw [eF4]; exact hO.tr (OE1 (CP_O hC).1)
  have hC : CP y L F4 O G (sCt σ (z0 σ) (z1 σ + 1) (z2 σ) (z3 σ)) := by rw [eF4]; exact CP_ct hC (va_up_self _ _ _) (fun q hq => va_up_ne _ _ hq)
  refine lv_aload_n hx hb dX3_buildShelf_29 rfl (lv_at hl 1 rfl) ?_
  refine q_get C0 iX3 hP hC.1.1 hC.1.2 rfl 1 (by decide) flX3_18 rfl rfl dX3_buildShelf_30 ?_
  refine lv_iload_n hx hb dX3_buildShelf_33 rfl (lv_at hl 2 rfl) ?_
  refine lv_aload hx hb dX3_buildShelf_34 (lv_at hl 0 rfl) ?_
  refine q_iconst hx hb dX3_buildShelf_36 ?_
  refine q_bipush hx hb dX3_buildShelf_37 (by decide) ?_
  refine lv_aload hx hb dX3_buildShelf_39 (lv_at hl 0 rfl) ?_
  refine lv_iload_n hx hb dX3_buildShelf_41 rfl (lv_at hl 4 rfl) ?_
  refine q_sS C0 lX3_52 (c_X3_builtOrder l D y L F4 (grh G (zsh σ xa)) (grw G (zsh σ xa)) (zod σ (zsh σ xa)) ((zst σ (zsh σ xa)).1) ((zst σ (zsh σ xa)).2.1) ((zst σ (zsh σ xa)).2.2) xw (CP_r hC (hW.2.1 xa)) (by omega)) ⟨rfl, rfl⟩ rfl hP rfl hl rfl (Nat.le_of_ble_eq_true rfl) dX3_buildShelf_42 ⟨Nat.le_of_ble_eq_true rfl, Nat.le_of_ble_eq_true rfl⟩ (fun r5 e_r5 => ?_)
  subst e_r5
  have b_6 := @bo_b xw (zod σ (zsh σ xa)) (by omega) (by omega)
  refine q_vMa C0 lX3_56 (c_X0_copyOfPart l D y L F4 _ (grh G (zsh σ xa)) (grw G (zsh σ xa)) (zod σ (zsh σ xa)) ((zst σ (zsh σ xa)).1) ((zst σ (zsh σ xa)).2.1) ((zst σ (zsh σ xa)).2.2) 0 99 (bo xw (zod σ (zsh σ xa))) (CP_r hC (hW.2.1 xa)) (by omega) (by omega) (by omega)) ⟨rfl, rfl⟩ rfl hP hD hS hA (CP_r hC (hW.2.1 xa)).1 (CP_r hC (hW.2.1 xa)).2.1 rfl rfl rfl hl rfl (Nat.le_of_ble_eq_true rfl) dX3_buildShelf_45 ⟨Nat.le_of_ble_eq_true rfl, Nat.le_of_ble_eq_true rfl⟩ (fun r7 H locs L8 F8 hP hD hS hz8 hp8 => ?_)
  refine W.widen (k := 5) (n := 122) (Nat.le_of_ble_eq_true rfl) (Nat.le_of_ble_eq_true rfl) ?_
  obtain ⟨r7q, eL, hr_, hq_, hrq_, hRn, hfn⟩ := hp8
  subst eL
  have hRo9 := Rw_mono (CP_r hC (hW.2.1 xa)) (L1 := ((L ++ [r7]) ++ [r7q])) (F1 := F8) (fun a h1 => List.mem_append_left _ (List.mem_append_left _ h1)) hfn
  have hR9 : RwS y ((L ++ [r7]) ++ [r7q]) F8 r7 r7q (bo xw (zod σ (zsh σ xa))) (addS (bo xw (zod σ (zsh σ xa))) (zod σ (zsh σ xa)) ((zst σ (zsh σ xa)).2.2) 0 99 (0, 0, emp)) := hRn
  have hwf9 : (∀ i, zbk (sCt σ (z0 σ) (z1 σ + 1) (z2 σ) (z3 σ)) i < zn (sCt σ (z0 σ) (z1 σ + 1) (z2 σ) (z3 σ))) ∧ (∀ i, zsh (sCt σ (z0 σ) (z1 σ + 1) (z2 σ) (z3 σ)) i < zn (sCt σ (z0 σ) (z1 σ + 1) (z2 σ) (z3 σ))) ∧ (∀ i, zvw (sCt σ (z0 σ) (z1 σ + 1) (z2 σ) (z3 σ)) i < zn (sCt σ (z0 σ) (z1 σ + 1) (z2 σ) (z3 σ))) ∧ ∀ i, zwk (sCt σ (z0 σ) (z1 σ + 1) (z2 σ) (z3 σ)) = some i → i < zn (sCt σ (z0 σ) (z1 σ + 1) (z2 σ) (z3 σ)) := ⟨hW.1, hW.2.1, hW.2.2.1, hW.2.2.2.1⟩
  have hC : CP y ((L ++ [r7]) ++ [r7q]) F8 (fun a => O a ∨ a ∉ L) (gNw G (zn σ) r7 r7q) (sNw (sCt σ (z0 σ) (z1 σ + 1) (z2 σ) (z3 σ)) (bo xw (zod σ (zsh σ xa))) (addS (bo xw (zod σ (zsh σ xa))) (zod σ (zsh σ xa)) ((zst σ (zsh σ xa)).2.2) 0 99 (0, 0, emp))) := CP_new (σ := (sCt σ (z0 σ) (z1 σ + 1) (z2 σ) (z3 σ))) (G := G) (o := (bo xw (zod σ (zsh σ xa)))) (S := (addS (bo xw (zod σ (zsh σ xa))) (zod σ (zsh σ xa)) ((zst σ (zsh σ xa)).2.2) 0 99 (0, 0, emp))) (F1 := F8) hC rfl hr_ hq_ hR9 hfn hwf9
  have hE : ∀ q ∈ L, ¬ O q → F8 q = F q := fun q h1 h2 => (hfn q h1).trans (hO q h2)
  have hO : OE (fun a => O a ∨ a ∉ L) F8 F8 := fun _ _ => rfl
  have er : grh (gNw G (zn σ) r7 r7q) (zn σ) = r7 := va_up_self _ _ _
  refine q_aast C0 hP hD hS hC.2.2.1.1 hC.2.2.1.2 (t := 1) (r := (RX0, TX0, 4)) rfl hRn.1 hRn.2.1 rfl (by omega) (by decide) dX3_buildShelf_48 (fun H locs hP hD hS => ?_)
  have hoo := hC.2.2.1.2
  obtain ⟨F10, eF10⟩ : ∃ z, z = va_up F8 (gas (gNw G (zn σ) r7 r7q)) (arrQ (y 1) 3 (iu (fun i => some (grh (gNw G (zn σ) r7 r7q) (zsh (sNw (sCt σ (z0 σ) (z1 σ + 1) (z2 σ) (z3 σ)) (bo xw (zod σ (zsh σ xa))) (addS (bo xw (zod σ (zsh σ xa))) (zod σ (zsh σ xa)) ((zst σ (zsh σ xa)).2.2) 0 99 (0, 0, emp))) i))) xb (some r7))) := ⟨_, rfl⟩
  have hP : va_P D vwCl (va_pl ((L ++ [r7]) ++ [r7q]) F10) H := by rw [eF10]; exact hP
  have hD : va_D (AL L s.heap.size) (va_pl ((L ++ [r7]) ++ [r7q]) F10) := by rw [eF10]; exact hD
  have hO : OE (fun a => O a ∨ a ∉ L) F8 F10 := by rw [eF10]; exact hO.tr (OE1 (CP_O hC).2.2.1)
  have hKF10_0 : Rw y ((L ++ [r7]) ++ [r7q]) F10 (grh G (zsh σ xa)) (grw G (zsh σ xa)) (zod σ (zsh σ xa)) ((zst σ (zsh σ xa)).1) ((zst σ (zsh σ xa)).2.1) ((zst σ (zsh σ xa)).2.2) := by rw [eF10]; exact Rw_q hRo9 hoo
  have hKF10_1 : Rw y ((L ++ [r7]) ++ [r7q]) F10 r7 r7q (bo xw (zod σ (zsh σ xa))) ((addS (bo xw (zod σ (zsh σ xa))) (zod σ (zsh σ xa)) ((zst σ (zsh σ xa)).2.2) 0 99 (0, 0, emp)).1) ((addS (bo xw (zod σ (zsh σ xa))) (zod σ (zsh σ xa)) ((zst σ (zsh σ xa)).2.2) 0 99 (0, 0, emp)).2.1) ((addS (bo xw (zod σ (zsh σ xa))) (zod σ (zsh σ xa)) ((zst σ (zsh σ xa)).2.2) 0 99 (0, 0, emp)).2.2) := by rw [eF10]; exact Rw_q hRn hoo
  have hC : CP y ((L ++ [r7]) ++ [r7q]) F10 (fun a => O a ∨ a ∉ L) (gNw G (zn σ) r7 r7q) (sSh (sNw (sCt σ (z0 σ) (z1 σ + 1) (z2 σ) (z3 σ)) (bo xw (zod σ (zsh σ xa))) (addS (bo xw (zod σ (zsh σ xa))) (zod σ (zsh σ xa)) ((zst σ (zsh σ xa)).2.2) 0 99 (0, 0, emp))) xb (zn σ)) := by rw [eF10]; exact CP_sh hC (by rw [er]; exact va_up_self _ _ _) (fun q hq => va_up_ne _ _ hq)
  refine lv_aload_n hx hb dX3_buildShelf_49 rfl (lv_at hl 1 rfl) ?_
  refine q_get C0 iX3 hP hC.1.1 hC.1.2 rfl 1 (by decide) flX3_18 rfl rfl dX3_buildShelf_50 ?_
  refine lv_iload_n hx hb dX3_buildShelf_53 rfl (lv_at hl 2 rfl) ?_
  refine q_aald C0 hP hC.2.2.1.1 hC.2.2.1.2 (t := 1) rfl (by omega) (by decide) (v := .ref r7) (by show va_rf (some (grh (gNw G (zn σ) r7 r7q) (iu _ xb (zn σ) xb))) = .ref r7; rw [iu_s, er]; rfl) dX3_buildShelf_54 ?_
  refine q_get C0 iX0 hP hKF10_1.1 hKF10_1.2.1 rfl 2 (by decide) flX3_49 rfl rfl dX3_buildShelf_55 ?_
  refine W.widen (k := 6) (n := 124) (Nat.le_of_ble_eq_true rfl) (Nat.le_of_ble_eq_true rfl) ?_
  exact vx_ret (q_retMi C0 hret rfl hlk dX3_buildShelf_58 hP hD hS (⟨by first | trivial | omega, by first | trivial | omega, (by unfold kR_buildShelf; (repeat' split) <;> first | rfl | (exfalso; omega)), (fun a => O a ∨ a ∉ L), (gNw G (zn σ) r7 r7q), CP_eq hC (by unfold kS_buildShelf; (repeat' split) <;> first | rfl | (exfalso; omega)), rfl, ⟨fun q h => List.mem_append_left _ (List.mem_append_left _ h), fun q h1 h2 => (hO q (fun z => z.elim h2 (fun w => w h1))).trans (hE q h1 h2), fun q h => h⟩⟩))
set_option maxHeartbeats 800000 in
set_option maxRecDepth 100000 in
theorem c_X3_keysOf (l : Launch) (hfl : l.stackTraces = false) (D : va_G) (y : Nat → ClassId) (L : List Nat) (F : Nat → va_E) (sz : Nat) (O : Nat → Prop) (G : CG) (σ : CS) (xb : Int) (xa : Int) (hC : CP y L F O G σ) (hW : CW σ) (h_xb : -2147483648 ≤ xb ∧ xb ≤ 2147483647) (h_xa : -2147483648 ≤ xa ∧ xa ≤ 2147483647) : vx_Met l yX3_keysOf (.code yX3_keysOf cX3_keysOf 4 (some .int) :: Tt) ({ frames := 7, cells := 6, slots := 124, locals := 103 }) (PcX D y L F sz [.ref ((gbg G)), .int (iI xb), .int (iI xa)]) (cMi D (AL L sz) (fun r L1 F1 => ((0 ≤ xb ∧ xb ≤ 2) ∧ (0 ≤ xa ∧ xa ≤ 3)) ∧ (True) ∧ r = kR_keysOf σ xb xa ∧ ∃ O1 G1, CP y L1 F1 O1 G1 (kS_keysOf σ xb xa) ∧ gbg G1 = gbg G ∧ Ext O O1 L L1 F F1)) (XC (pX ((0 ≤ xb ∧ xb ≤ 2) ∧ (0 ≤ xa ∧ xa ≤ 3)) (True))) 6 124 (AL L sz) := by
  have hO : OE O F F := fun _ _ => rfl
  have hw4 := hW.2.2.2.2.2.1
  have hw5 := hW.2.2.2.2.2.2.1
  have hw6 := hW.2.2.2.2.2.2.2.2.2.2
  refine q_ofX (lv := [(0, .ref ((gbg G))), (1, .int (iI xb)), (2, .int (iI xa))]) (by decide) (Nat.le_of_ble_eq_true rfl) rfl (fun p e s m below meth c C0 hret hlk hout hsz hA hP hD hS hX ls hl => ?_)
  subst hsz
  have hx := C0.1.1
  have hb := C0.1.2.1
  have hts := C0.1.2.2.2.2
  refine lv_aload_n hx hb dX3_keysOf_0 rfl (lv_at hl 0 rfl) ?_
  refine lv_iload_n hx hb dX3_keysOf_1 rfl (lv_at hl 1 rfl) ?_
  refine q_vXa C0 lX3_216 (c_X3_shelfAt l hfl D y L F _ O G σ xb hC (by omega)) ⟨rfl, rfl⟩ rfl hP hD hX hout hlk hC.1.1 hC.1.2 rfl rfl rfl hl rfl (Nat.le_of_ble_eq_true rfl) dX3_keysOf_2 ⟨Nat.le_of_ble_eq_true rfl, Nat.le_of_ble_eq_true rfl⟩ ⟨Nat.le_of_ble_eq_true rfl, Nat.le_of_ble_eq_true rfl⟩ (fun E h => Or.inl ⟨h.1, fun q => h.2 (by omega)⟩) (fun r1 e_r1 => ?_)
  refine W.widen (k := 1) (n := 6) (Nat.le_of_ble_eq_true rfl) (Nat.le_of_ble_eq_true rfl) ?_
  obtain ⟨hb_r1, e_r1⟩ := e_r1
  subst e_r1
  refine lv_pop hx hb dX3_keysOf_5 rfl ?_
  refine lv_aload_n hx hb dX3_keysOf_6 rfl (lv_at hl 0 rfl) ?_
  refine lv_iload_n hx hb dX3_keysOf_7 rfl (lv_at hl 2 rfl) ?_
  refine q_vXa C0 lX3_37 (c_X3_bookAt l hfl D y L F _ O G σ xa hC (by omega)) ⟨rfl, rfl⟩ rfl hP hD hX hout hlk hC.1.1 hC.1.2 rfl rfl rfl hl rfl (Nat.le_of_ble_eq_true rfl) dX3_keysOf_8 ⟨Nat.le_of_ble_eq_true rfl, Nat.le_of_ble_eq_true rfl⟩ ⟨Nat.le_of_ble_eq_true rfl, Nat.le_of_ble_eq_true rfl⟩ (fun E h => Or.inl ⟨h.1, fun q => h.2 (by omega)⟩) (fun r2 e_r2 => ?_)
  refine W.widen (k := 2) (n := 12) (Nat.le_of_ble_eq_true rfl) (Nat.le_of_ble_eq_true rfl) ?_
  obtain ⟨hb_r2, e_r2⟩ := e_r2
  subst e_r2
  refine lv_astore_n (lv' := [(3, .ref ((grh G (zbk σ xa)))), (0, .ref ((gbg G))), (1, .int (iI xb)), (2, .int (iI xa))]) hx hb dX3_keysOf_11 rfl hl (by decide) rfl (fun ls hl => ?_)
  refine lv_aload_n hx hb dX3_keysOf_12 rfl (lv_at hl 1 rfl) ?_
  refine lv_dup hx hb dX3_keysOf_13 rfl ?_
  refine q_get C0 iX3 hP hC.1.1 hC.1.2 rfl 5 (by decide) flX3_219 rfl rfl dX3_keysOf_14 ?_
  refine q_iconst hx hb dX3_keysOf_17 ?_
  refine q_iadd hx hb dX3_keysOf_18 ?_
  refine q_put C0 iX3 tyX3 tyX3_ok nmX3 hP hD hS hC.1.1 hC.1.2 rfl 5 (by decide) flX3_219 rfl rfl rfl rfl (Nat.le_of_ble_eq_true rfl) dX3_keysOf_19 (fun H locs hP hD hS => ?_)
  obtain ⟨F3, eF3⟩ : ∃ z, z = va_up F (gbg G) (.inr (5, [.ref ((gab G)), .ref ((gas G)), .ref ((gav G)), .ref ((gkk G)), .int (iI (z0 σ)), .int (iI ((z1 σ + 1))), .int (iI (z2 σ)), .int (iI (z3 σ))])) := ⟨_, rfl⟩
  have hP : va_P D vwCl (va_pl L F3) H := by rw [eF3]; exact hP
  have hD : va_D (AL L s.heap.size) (va_pl L F3) := by rw [eF3]; exact hD
  have hO : OE O F F3 := by rw [eF3]; exact hO.tr (OE1 (CP_O hC).1)
  have hC : CP y L F3 O G (sCt σ (z0 σ) (z1 σ + 1) (z2 σ) (z3 σ)) := by rw [eF3]; exact CP_ct hC (va_up_self _ _ _) (fun q hq => va_up_ne _ _ hq)
  refine lv_aload_n hx hb dX3_keysOf_22 rfl (lv_at hl 1 rfl) ?_
  refine q_get C0 iX3 hP hC.1.1 hC.1.2 rfl 1 (by decide) flX3_18 rfl rfl dX3_keysOf_23 ?_
  refine lv_iload_n hx hb dX3_keysOf_26 rfl (lv_at hl 2 rfl) ?_
  refine lv_aload_n hx hb dX3_keysOf_27 rfl (lv_at hl 0 rfl) ?_
  refine q_vMa C0 lX3_222 (c_X0_copyOfKeys l D y L F3 _ (grh G (zbk σ xa)) (grw G (zbk σ xa)) (zod σ (zbk σ xa)) ((zst σ (zbk σ xa)).1) ((zst σ (zbk σ xa)).2.1) ((zst σ (zbk σ xa)).2.2) (CP_r hC (hW.1 xa))) ⟨rfl, rfl⟩ rfl hP hD hS hA (CP_r hC (hW.1 xa)).1 (CP_r hC (hW.1 xa)).2.1 rfl rfl rfl hl rfl (Nat.le_of_ble_eq_true rfl) dX3_keysOf_28 ⟨Nat.le_of_ble_eq_true rfl, Nat.le_of_ble_eq_true rfl⟩ (fun r4 H locs L5 F5 hP hD hS hz5 hp5 => ?_)
  refine W.widen (k := 4) (n := 116) (Nat.le_of_ble_eq_true rfl) (Nat.le_of_ble_eq_true rfl) ?_
  obtain ⟨r4q, eL, hr_, hq_, hrq_, hRn, hfn⟩ := hp5
  subst eL
  have hRo6 := Rw_mono (CP_r hC (hW.1 xa)) (L1 := ((L ++ [r4]) ++ [r4q])) (F1 := F5) (fun a h1 => List.mem_append_left _ (List.mem_append_left _ h1)) hfn
  have hR9 : RwS y ((L ++ [r4]) ++ [r4q]) F5 r4 r4q 0 (ckS (zod σ (zbk σ xa)) ((zst σ (zbk σ xa)).2.2)) := hRn
  have hwf9 : (∀ i, zbk (sCt σ (z0 σ) (z1 σ + 1) (z2 σ) (z3 σ)) i < zn (sCt σ (z0 σ) (z1 σ + 1) (z2 σ) (z3 σ))) ∧ (∀ i, zsh (sCt σ (z0 σ) (z1 σ + 1) (z2 σ) (z3 σ)) i < zn (sCt σ (z0 σ) (z1 σ + 1) (z2 σ) (z3 σ))) ∧ (∀ i, zvw (sCt σ (z0 σ) (z1 σ + 1) (z2 σ) (z3 σ)) i < zn (sCt σ (z0 σ) (z1 σ + 1) (z2 σ) (z3 σ))) ∧ ∀ i, zwk (sCt σ (z0 σ) (z1 σ + 1) (z2 σ) (z3 σ)) = some i → i < zn (sCt σ (z0 σ) (z1 σ + 1) (z2 σ) (z3 σ)) := ⟨hW.1, hW.2.1, hW.2.2.1, hW.2.2.2.1⟩
  have hC : CP y ((L ++ [r4]) ++ [r4q]) F5 (fun a => O a ∨ a ∉ L) (gNw G (zn σ) r4 r4q) (sNw (sCt σ (z0 σ) (z1 σ + 1) (z2 σ) (z3 σ)) 0 (ckS (zod σ (zbk σ xa)) ((zst σ (zbk σ xa)).2.2))) := CP_new (σ := (sCt σ (z0 σ) (z1 σ + 1) (z2 σ) (z3 σ))) (G := G) (o := 0) (S := (ckS (zod σ (zbk σ xa)) ((zst σ (zbk σ xa)).2.2))) (F1 := F5) hC rfl hr_ hq_ hR9 hfn hwf9
  have hE : ∀ q ∈ L, ¬ O q → F5 q = F q := fun q h1 h2 => (hfn q h1).trans (hO q h2)
  have hO : OE (fun a => O a ∨ a ∉ L) F5 F5 := fun _ _ => rfl
  have er : grh (gNw G (zn σ) r4 r4q) (zn σ) = r4 := va_up_self _ _ _
  refine q_aast C0 hP hD hS hC.2.2.1.1 hC.2.2.1.2 (t := 1) (r := (RX0, TX0, 4)) rfl hRn.1 hRn.2.1 rfl (by omega) (by decide) dX3_keysOf_31 (fun H locs hP hD hS => ?_)
  have hoo := hC.2.2.1.2
  obtain ⟨F7, eF7⟩ : ∃ z, z = va_up F5 (gas (gNw G (zn σ) r4 r4q)) (arrQ (y 1) 3 (iu (fun i => some (grh (gNw G (zn σ) r4 r4q) (zsh (sNw (sCt σ (z0 σ) (z1 σ + 1) (z2 σ) (z3 σ)) 0 (ckS (zod σ (zbk σ xa)) ((zst σ (zbk σ xa)).2.2))) i))) xb (some r4))) := ⟨_, rfl⟩
  have hP : va_P D vwCl (va_pl ((L ++ [r4]) ++ [r4q]) F7) H := by rw [eF7]; exact hP
  have hD : va_D (AL L s.heap.size) (va_pl ((L ++ [r4]) ++ [r4q]) F7) := by rw [eF7]; exact hD
  have hO : OE (fun a => O a ∨ a ∉ L) F5 F7 := by rw [eF7]; exact hO.tr (OE1 (CP_O hC).2.2.1)
  have hKF7_0 : Rw y ((L ++ [r4]) ++ [r4q]) F7 (grh G (zbk σ xa)) (grw G (zbk σ xa)) (zod σ (zbk σ xa)) ((zst σ (zbk σ xa)).1) ((zst σ (zbk σ xa)).2.1) ((zst σ (zbk σ xa)).2.2) := by rw [eF7]; exact Rw_q hRo6 hoo
  have hKF7_1 : Rw y ((L ++ [r4]) ++ [r4q]) F7 r4 r4q 0 ((ckS (zod σ (zbk σ xa)) ((zst σ (zbk σ xa)).2.2)).1) ((ckS (zod σ (zbk σ xa)) ((zst σ (zbk σ xa)).2.2)).2.1) ((ckS (zod σ (zbk σ xa)) ((zst σ (zbk σ xa)).2.2)).2.2) := by rw [eF7]; exact Rw_q hRn hoo
  have hC : CP y ((L ++ [r4]) ++ [r4q]) F7 (fun a => O a ∨ a ∉ L) (gNw G (zn σ) r4 r4q) (sSh (sNw (sCt σ (z0 σ) (z1 σ + 1) (z2 σ) (z3 σ)) 0 (ckS (zod σ (zbk σ xa)) ((zst σ (zbk σ xa)).2.2))) xb (zn σ)) := by rw [eF7]; exact CP_sh hC (by rw [er]; exact va_up_self _ _ _) (fun q hq => va_up_ne _ _ hq)
  refine lv_aload_n hx hb dX3_keysOf_32 rfl (lv_at hl 1 rfl) ?_
  refine q_get C0 iX3 hP hC.1.1 hC.1.2 rfl 1 (by decide) flX3_18 rfl rfl dX3_keysOf_33 ?_
  refine lv_iload_n hx hb dX3_keysOf_36 rfl (lv_at hl 2 rfl) ?_
  refine q_aald C0 hP hC.2.2.1.1 hC.2.2.1.2 (t := 1) rfl (by omega) (by decide) (v := .ref r4) (by show va_rf (some (grh (gNw G (zn σ) r4 r4q) (iu _ xb (zn σ) xb))) = .ref r4; rw [iu_s, er]; rfl) dX3_keysOf_37 ?_
  refine q_get C0 iX0 hP hKF7_1.1 hKF7_1.2.1 rfl 2 (by decide) flX3_49 rfl rfl dX3_keysOf_38 ?_
  refine W.widen (k := 6) (n := 124) (Nat.le_of_ble_eq_true rfl) (Nat.le_of_ble_eq_true rfl) ?_
  exact vx_ret (q_retMi C0 hret rfl hlk dX3_keysOf_41 hP hD hS (⟨by first | trivial | omega, by first | trivial | omega, (by unfold kR_keysOf; (repeat' split) <;> first | rfl | (exfalso; omega)), (fun a => O a ∨ a ∉ L), (gNw G (zn σ) r4 r4q), CP_eq hC (by unfold kS_keysOf; (repeat' split) <;> first | rfl | (exfalso; omega)), rfl, ⟨fun q h => List.mem_append_left _ (List.mem_append_left _ h), fun q h1 h2 => (hO q (fun z => z.elim h2 (fun w => w h1))).trans (hE q h1 h2), fun q h => h⟩⟩))
set_option maxHeartbeats 800000 in
set_option maxRecDepth 100000 in
theorem c_X3_lay (l : Launch) (hfl : l.stackTraces = false) (D : va_G) (y : Nat → ClassId) (L : List Nat) (F : Nat → va_E) (sz : Nat) (O : Nat → Prop) (G : CG) (σ : CS) (xb : Int) (xf : Int) (xs : Int) (xn : Int) (xw : Int) (hC : CP y L F O G σ) (hW : CW σ) (h_xb : -2147483648 ≤ xb ∧ xb ≤ 2147483647) (h_xf : -2147483648 ≤ xf ∧ xf ≤ 2147483647) (h_xs : -2147483648 ≤ xs ∧ xs ≤ 2147483647) (h_xn : -2147483648 ≤ xn ∧ xn ≤ 2147483647) (h_xw : 0 ≤ xw ∧ xw ≤ 1) : vx_Met l yX3_lay (.code yX3_lay cX3_lay 7 (some .int) :: Tt) ({ frames := 8, cells := 8, slots := 60, locals := 125 }) (PcX D y L F sz [.ref ((gbg G)), .int (iI xb), .int (iI xf), .int (iI xs), .int (iI xn), .int (iI xw)]) (cMi D (AL L sz) (fun r L1 F1 => ((0 ≤ xb ∧ xb ≤ 2)) ∧ ((0 ≤ xf ∧ xf ≤ 99) ∧ (0 ≤ xs ∧ xs ≤ 99) ∧ (0 ≤ xn ∧ xn ≤ 100)) ∧ r = kR_lay σ xb xf xs xn xw ∧ ∃ O1 G1, CP y L1 F1 O1 G1 (kS_lay σ xb xf xs xn xw) ∧ gbg G1 = gbg G ∧ Ext O O1 L L1 F F1)) (XC (pX ((0 ≤ xb ∧ xb ≤ 2)) ((0 ≤ xf ∧ xf ≤ 99) ∧ (0 ≤ xs ∧ xs ≤ 99) ∧ (0 ≤ xn ∧ xn ≤ 100)))) 8 60 (AL L sz) := by
  have hO : OE O F F := fun _ _ => rfl
  have hw4 := hW.2.2.2.2.2.1
  have hw5 := hW.2.2.2.2.2.2.1
  have hw6 := hW.2.2.2.2.2.2.2.2.2.2
  refine q_ofX (lv := [(0, .ref ((gbg G))), (1, .int (iI xb)), (2, .int (iI xf)), (3, .int (iI xs)), (4, .int (iI xn)), (5, .int (iI xw))]) (by decide) (Nat.le_of_ble_eq_true rfl) rfl (fun p e s m below meth c C0 hret hlk hout hsz hA hP hD hS hX ls hl => ?_)
  subst hsz
  have hx := C0.1.1
  have hb := C0.1.2.1
  have hts := C0.1.2.2.2.2
  refine lv_aload_n hx hb dX3_lay_0 rfl (lv_at hl 0 rfl) ?_
  refine lv_iload_n hx hb dX3_lay_1 rfl (lv_at hl 1 rfl) ?_
  refine q_vXa C0 lX3_216 (c_X3_shelfAt l hfl D y L F _ O G σ xb hC (by omega)) ⟨rfl, rfl⟩ rfl hP hD hX hout hlk hC.1.1 hC.1.2 rfl rfl rfl hl rfl (Nat.le_of_ble_eq_true rfl) dX3_lay_2 ⟨Nat.le_of_ble_eq_true rfl, Nat.le_of_ble_eq_true rfl⟩ ⟨Nat.le_of_ble_eq_true rfl, Nat.le_of_ble_eq_true rfl⟩ (fun E h => Or.inl ⟨h.1, fun q => h.2 (by omega)⟩) (fun r1 e_r1 => ?_)
  refine W.widen (k := 1) (n := 6) (Nat.le_of_ble_eq_true rfl) (Nat.le_of_ble_eq_true rfl) ?_
  obtain ⟨hb_r1, e_r1⟩ := e_r1
  subst e_r1
  refine lv_astore (lv' := [(6, .ref ((grh G (zsh σ xb)))), (0, .ref ((gbg G))), (1, .int (iI xb)), (2, .int (iI xf)), (3, .int (iI xs)), (4, .int (iI xn)), (5, .int (iI xw))]) hx hb dX3_lay_5 hl (by decide) rfl (fun ls hl => ?_)
  refine lv_iload_n hx hb dX3_lay_7 rfl (lv_at hl 3 rfl) ?_
  refine lv_iload_n hx hb dX3_lay_8 rfl (lv_at hl 4 rfl) ?_
  refine lv_iload hx hb dX3_lay_9 (lv_at hl 5 rfl) ?_
  refine q_sXv C0 lX3_81 (c_X3_checkSteps l hfl D y L F _ xf xs xn (by omega) (by omega) (by omega)) ⟨rfl, rfl⟩ rfl hP hD hX hout hlk rfl hl rfl (Nat.le_of_ble_eq_true rfl) dX3_lay_11 ⟨Nat.le_of_ble_eq_true rfl, Nat.le_of_ble_eq_true rfl⟩ ⟨Nat.le_of_ble_eq_true rfl, Nat.le_of_ble_eq_true rfl⟩ (fun E h => Or.inr ⟨h.1, by first | trivial | omega, fun q => h.2 (by omega)⟩) (fun _ e_r2 => ?_)
  refine W.widen (k := 4) (n := 24) (Nat.le_of_ble_eq_true rfl) (Nat.le_of_ble_eq_true rfl) ?_
  refine lv_aload_n hx hb dX3_lay_14 rfl (lv_at hl 1 rfl) ?_
  refine lv_dup hx hb dX3_lay_15 rfl ?_
  refine q_get C0 iX3 hP hC.1.1 hC.1.2 rfl 5 (by decide) flX3_219 rfl rfl dX3_lay_16 ?_
  refine q_iconst hx hb dX3_lay_19 ?_
  refine q_iadd hx hb dX3_lay_20 ?_
  refine q_put C0 iX3 tyX3 tyX3_ok nmX3 hP hD hS hC.1.1 hC.1.2 rfl 5 (by decide) flX3_219 rfl rfl rfl rfl (Nat.le_of_ble_eq_true rfl) dX3_lay_21 (fun H locs hP hD hS => ?_)
  obtain ⟨F3, eF3⟩ : ∃ z, z = va_up F (gbg G) (.inr (5, [.ref ((gab G)), .ref ((gas G)), .ref ((gav G)), .ref ((gkk G)), .int (iI (z0 σ)), .int (iI ((z1 σ + 1))), .int (iI (z2 σ)), .int (iI (z3 σ))])) := ⟨_, rfl⟩
  have hP : va_P D vwCl (va_pl L F3) H := by rw [eF3]; exact hP
  have hD : va_D (AL L s.heap.size) (va_pl L F3) := by rw [eF3]; exact hD
  have hO : OE O F F3 := by rw [eF3]; exact hO.tr (OE1 (CP_O hC).1)
  have hC : CP y L F3 O G (sCt σ (z0 σ) (z1 σ + 1) (z2 σ) (z3 σ)) := by rw [eF3]; exact CP_ct hC (va_up_self _ _ _) (fun q hq => va_up_ne _ _ hq)
  refine lv_iload hx hb dX3_lay_24 (lv_at hl 6 rfl) ?_
  refine q_if_eq hx hb dX3_lay_26 (tgt := 41) (by decide) (by omega) (fun c4 => ?_) (fun c4 => ?_)
  · refine lv_aload hx hb dX3_lay_41 (lv_at hl 0 rfl) ?_
    refine lv_iload_n hx hb dX3_lay_43 rfl (lv_at hl 3 rfl) ?_
    refine lv_iload_n hx hb dX3_lay_44 rfl (lv_at hl 4 rfl) ?_
    refine lv_iload hx hb dX3_lay_45 (lv_at hl 5 rfl) ?_
    refine q_vMi C0 lX3_88 (c_X0_removeSteps l D y L F3 _ (grh G (zsh σ xb)) (grw G (zsh σ xb)) (zod σ (zsh σ xb)) (zst σ (zsh σ xb)) xf xs xn (CP_r hC (hW.2.1 xb)) (by omega) (by omega) (by omega)) ⟨rfl, rfl⟩ rfl hP hD hS hA (CP_r hC (hW.2.1 xb)).1 (CP_r hC (hW.2.1 xb)).2.1 rfl rfl rfl hl rfl (Nat.le_of_ble_eq_true rfl) dX3_lay_47 ⟨Nat.le_of_ble_eq_true rfl, Nat.le_of_ble_eq_true rfl⟩ (fun r5 H locs L6 F6 hP hD hS hz6 hp6 => ?_)
    obtain ⟨eL, er, hRn, hfr1⟩ := hp6
    subst eL
    subst er
    have hO := hO.tr (OEf hC (hW.2.1 xb) hfr1)
    have hC := CP_row hC (hW.2.1 xb) hRn hfr1
    refine W.widen (k := 8) (n := 60) (Nat.le_of_ble_eq_true rfl) (Nat.le_of_ble_eq_true rfl) ?_
    exact vx_ret (q_retMi C0 hret rfl hlk dX3_lay_50 hP hD hS (⟨by first | trivial | omega, by first | trivial | omega, (by unfold kR_lay; (repeat' split) <;> first | rfl | (exfalso; omega)), O, G, CP_eq hC (by unfold kS_lay; (repeat' split) <;> first | rfl | (exfalso; omega)), rfl, Ext0 hO⟩))
  · refine lv_aload hx hb dX3_lay_29 (lv_at hl 0 rfl) ?_
    refine lv_iload_n hx hb dX3_lay_31 rfl (lv_at hl 3 rfl) ?_
    refine lv_iload_n hx hb dX3_lay_32 rfl (lv_at hl 4 rfl) ?_
    refine lv_iload hx hb dX3_lay_33 (lv_at hl 5 rfl) ?_
    refine q_vMi C0 lX3_226 (c_X0_addKeySteps l D y L F3 _ (grh G (zsh σ xb)) (grw G (zsh σ xb)) (zod σ (zsh σ xb)) (zst σ (zsh σ xb)) xf xs xn (CP_r hC (hW.2.1 xb)) (by omega) (by omega) (by omega)) ⟨rfl, rfl⟩ rfl hP hD hS hA (CP_r hC (hW.2.1 xb)).1 (CP_r hC (hW.2.1 xb)).2.1 rfl rfl rfl hl rfl (Nat.le_of_ble_eq_true rfl) dX3_lay_35 ⟨Nat.le_of_ble_eq_true rfl, Nat.le_of_ble_eq_true rfl⟩ (fun r7 H locs L8 F8 hP hD hS hz8 hp8 => ?_)
    obtain ⟨eL, er, hRn, hfr1⟩ := hp8
    subst eL
    subst er
    have hO := hO.tr (OEf hC (hW.2.1 xb) hfr1)
    have hC := CP_row hC (hW.2.1 xb) hRn hfr1
    refine lv_goto (tgt := 50) hx hb dX3_lay_38 (by decide) ?_
    refine W.widen (k := 8) (n := 60) (Nat.le_of_ble_eq_true rfl) (Nat.le_of_ble_eq_true rfl) ?_
    exact vx_ret (q_retMi C0 hret rfl hlk dX3_lay_50 hP hD hS (⟨by first | trivial | omega, by first | trivial | omega, (by unfold kR_lay; (repeat' split) <;> first | rfl | (exfalso; omega)), O, G, CP_eq hC (by unfold kS_lay; (repeat' split) <;> first | rfl | (exfalso; omega)), rfl, Ext0 hO⟩))
set_option maxHeartbeats 800000 in
set_option maxRecDepth 100000 in
theorem c_X3_shelfBoth (l : Launch) (hfl : l.stackTraces = false) (D : va_G) (y : Nat → ClassId) (L : List Nat) (F : Nat → va_E) (sz : Nat) (O : Nat → Prop) (G : CG) (σ : CS) (xb : Int) (xc : Int) (xt : Int) (hC : CP y L F O G σ) (hW : CW σ) (h_xb : -2147483648 ≤ xb ∧ xb ≤ 2147483647) (h_xc : -2147483648 ≤ xc ∧ xc ≤ 2147483647) (h_xt : -2147483648 ≤ xt ∧ xt ≤ 2147483647) : vx_Met l yX3_shelfBoth (.code yX3_shelfBoth cX3_shelfBoth 6 (some .int) :: Tt) ({ frames := 7, cells := 8, slots := 60, locals := 103 }) (PcX D y L F sz [.ref ((gbg G)), .int (iI xb), .int (iI xc), .int (iI xt)]) (cMi D (AL L sz) (fun r L1 F1 => ((0 ≤ xb ∧ xb ≤ 2) ∧ (0 ≤ xc ∧ xc ≤ 2)) ∧ ((0 ≤ xt ∧ xt ≤ 2)) ∧ r = kR_shelfBoth σ xb xc xt ∧ ∃ O1 G1, CP y L1 F1 O1 G1 (kS_shelfBoth σ xb xc xt) ∧ gbg G1 = gbg G ∧ Ext O O1 L L1 F F1)) (XC (pX ((0 ≤ xb ∧ xb ≤ 2) ∧ (0 ≤ xc ∧ xc ≤ 2)) ((0 ≤ xt ∧ xt ≤ 2)))) 8 60 (AL L sz) := by
  have hO : OE O F F := fun _ _ => rfl
  have hw4 := hW.2.2.2.2.2.1
  have hw5 := hW.2.2.2.2.2.2.1
  have hw6 := hW.2.2.2.2.2.2.2.2.2.2
  refine q_ofX (lv := [(0, .ref ((gbg G))), (1, .int (iI xb)), (2, .int (iI xc)), (3, .int (iI xt))]) (by decide) (Nat.le_of_ble_eq_true rfl) rfl (fun p e s m below meth c C0 hret hlk hout hsz hA hP hD hS hX ls hl => ?_)
  subst hsz
  have hx := C0.1.1
  have hb := C0.1.2.1
  have hts := C0.1.2.2.2.2
  refine lv_aload_n hx hb dX3_shelfBoth_0 rfl (lv_at hl 0 rfl) ?_
  refine lv_iload_n hx hb dX3_shelfBoth_1 rfl (lv_at hl 1 rfl) ?_
  refine q_vXa C0 lX3_216 (c_X3_shelfAt l hfl D y L F _ O G σ xb hC (by omega)) ⟨rfl, rfl⟩ rfl hP hD hX hout hlk hC.1.1 hC.1.2 rfl rfl rfl hl rfl (Nat.le_of_ble_eq_true rfl) dX3_shelfBoth_2 ⟨Nat.le_of_ble_eq_true rfl, Nat.le_of_ble_eq_true rfl⟩ ⟨Nat.le_of_ble_eq_true rfl, Nat.le_of_ble_eq_true rfl⟩ (fun E h => Or.inl ⟨h.1, fun q => h.2 (by omega)⟩) (fun r1 e_r1 => ?_)
  refine W.widen (k := 1) (n := 6) (Nat.le_of_ble_eq_true rfl) (Nat.le_of_ble_eq_true rfl) ?_
  obtain ⟨hb_r1, e_r1⟩ := e_r1
  subst e_r1
  refine lv_astore (lv' := [(4, .ref ((grh G (zsh σ xb)))), (0, .ref ((gbg G))), (1, .int (iI xb)), (2, .int (iI xc)), (3, .int (iI xt))]) hx hb dX3_shelfBoth_5 hl (by decide) rfl (fun ls hl => ?_)
  refine lv_aload_n hx hb dX3_shelfBoth_7 rfl (lv_at hl 1 rfl) ?_
  refine lv_iload_n hx hb dX3_shelfBoth_8 rfl (lv_at hl 3 rfl) ?_
  refine q_vXa C0 lX3_216 (c_X3_shelfAt l hfl D y L F _ O G σ xc hC (by omega)) ⟨rfl, rfl⟩ rfl hP hD hX hout hlk hC.1.1 hC.1.2 rfl rfl rfl hl rfl (Nat.le_of_ble_eq_true rfl) dX3_shelfBoth_9 ⟨Nat.le_of_ble_eq_true rfl, Nat.le_of_ble_eq_true rfl⟩ ⟨Nat.le_of_ble_eq_true rfl, Nat.le_of_ble_eq_true rfl⟩ (fun E h => Or.inl ⟨h.1, fun q => h.2 (by omega)⟩) (fun r2 e_r2 => ?_)
  refine W.widen (k := 2) (n := 12) (Nat.le_of_ble_eq_true rfl) (Nat.le_of_ble_eq_true rfl) ?_
  obtain ⟨hb_r2, e_r2⟩ := e_r2
  subst e_r2
  refine lv_astore (lv' := [(5, .ref ((grh G (zsh σ xc)))), (4, .ref ((grh G (zsh σ xb)))), (0, .ref ((gbg G))), (1, .int (iI xb)), (2, .int (iI xc)), (3, .int (iI xt))]) hx hb dX3_shelfBoth_12 hl (by decide) rfl (fun ls hl => ?_)
  refine lv_iload_n hx hb dX3_shelfBoth_14 rfl (lv_at hl 5 rfl) ?_
  refine q_iconst hx hb dX3_shelfBoth_15 ?_
  refine q_sXv C0 lX3_41 (c_X3_checkUpTo l hfl D y L F _ xt 2 (by omega) (by omega)) ⟨rfl, rfl⟩ rfl hP hD hX hout hlk rfl hl rfl (Nat.le_of_ble_eq_true rfl) dX3_shelfBoth_16 ⟨Nat.le_of_ble_eq_true rfl, Nat.le_of_ble_eq_true rfl⟩ ⟨Nat.le_of_ble_eq_true rfl, Nat.le_of_ble_eq_true rfl⟩ (fun E h => Or.inr ⟨h.1, by first | trivial | omega, fun q => h.2 (by omega)⟩) (fun _ e_r3 => ?_)
  refine W.widen (k := 3) (n := 18) (Nat.le_of_ble_eq_true rfl) (Nat.le_of_ble_eq_true rfl) ?_
  refine lv_iload_n hx hb dX3_shelfBoth_19 rfl (lv_at hl 3 rfl) ?_
  refine lv_iload_n hx hb dX3_shelfBoth_20 rfl (lv_at hl 4 rfl) ?_
  refine q_icmp_ne hx hb dX3_shelfBoth_21 (tgt := 29) (by decide) (by omega) (by omega) (fun c4 => ?_) (fun c4 => ?_)
  · refine lv_aload_n hx hb dX3_shelfBoth_29 rfl (lv_at hl 2 rfl) ?_
    refine lv_dup hx hb dX3_shelfBoth_30 rfl ?_
    refine q_get C0 iX3 hP hC.1.1 hC.1.2 rfl 5 (by decide) flX3_219 rfl rfl dX3_shelfBoth_31 ?_
    refine q_iconst hx hb dX3_shelfBoth_34 ?_
    refine q_iadd hx hb dX3_shelfBoth_35 ?_
    refine q_put C0 iX3 tyX3 tyX3_ok nmX3 hP hD hS hC.1.1 hC.1.2 rfl 5 (by decide) flX3_219 rfl rfl rfl rfl (Nat.le_of_ble_eq_true rfl) dX3_shelfBoth_36 (fun H locs hP hD hS => ?_)
    obtain ⟨F5, eF5⟩ : ∃ z, z = va_up F (gbg G) (.inr (5, [.ref ((gab G)), .ref ((gas G)), .ref ((gav G)), .ref ((gkk G)), .int (iI (z0 σ)), .int (iI ((z1 σ + 1))), .int (iI (z2 σ)), .int (iI (z3 σ))])) := ⟨_, rfl⟩
    have hP : va_P D vwCl (va_pl L F5) H := by rw [eF5]; exact hP
    have hD : va_D (AL L s.heap.size) (va_pl L F5) := by rw [eF5]; exact hD
    have hO : OE O F F5 := by rw [eF5]; exact hO.tr (OE1 (CP_O hC).1)
    have hC : CP y L F5 O G (sCt σ (z0 σ) (z1 σ + 1) (z2 σ) (z3 σ)) := by rw [eF5]; exact CP_ct hC (va_up_self _ _ _) (fun q hq => va_up_ne _ _ hq)
    refine lv_iload_n hx hb dX3_shelfBoth_39 rfl (lv_at hl 5 rfl) ?_
    refine q_if_ne hx hb dX3_shelfBoth_40 (tgt := 56) (by decide) (by omega) (fun c6 => ?_) (fun c6 => ?_)
    · refine lv_aload hx hb dX3_shelfBoth_56 (lv_at hl 1 rfl) ?_
      refine lv_aload hx hb dX3_shelfBoth_58 (lv_at hl 0 rfl) ?_
      refine lv_iload_n hx hb dX3_shelfBoth_60 rfl (lv_at hl 5 rfl) ?_
      refine q_iconst hx hb dX3_shelfBoth_61 ?_
      refine q_icmp_ne hx hb dX3_shelfBoth_62 (tgt := 69) (by decide) (by omega) (by omega) (fun c7 => ?_) (fun c7 => ?_)
      · refine q_iconst hx hb dX3_shelfBoth_69 ?_
        refine q_vMi C0 lX3_100 (c_X0_retain l D y L F5 _ (grh G (zsh σ xb)) (grw G (zsh σ xb)) (zod σ (zsh σ xb)) (zst σ (zsh σ xb)) (grh G (zsh σ xc)) (grw G (zsh σ xc)) (zod σ (zsh σ xc)) ((zst σ (zsh σ xc)).1) ((zst σ (zsh σ xc)).2.1) ((zst σ (zsh σ xc)).2.2) 0 (CP_r hC (hW.2.1 xb)) (CP_r hC (hW.2.1 xc)) (fun e => absurd (hW.2.2.2.2.2.2.2.2.1 xc xb (by omega) (by omega) (by omega) (by omega) (CP_ri hC (hW.2.1 xc) (hW.2.1 xb) e)) (by omega)) (fun e => absurd (hW.2.2.2.2.2.2.2.2.1 xc xb (by omega) (by omega) (by omega) (by omega) (CP_wi hC (hW.2.1 xc) (hW.2.1 xb) e)) (by omega)) (by omega)) ⟨rfl, rfl⟩ rfl hP hD hS hA (CP_r hC (hW.2.1 xb)).1 (CP_r hC (hW.2.1 xb)).2.1 rfl rfl rfl hl rfl (Nat.le_of_ble_eq_true rfl) dX3_shelfBoth_70 ⟨Nat.le_of_ble_eq_true rfl, Nat.le_of_ble_eq_true rfl⟩ (fun r8 H locs L9 F9 hP hD hS hz9 hp9 => ?_)
        obtain ⟨eL, er, hRn, hfr1⟩ := hp9
        subst eL
        subst er
        have hO := hO.tr (OEf hC (hW.2.1 xb) hfr1)
        have hC := CP_row hC (hW.2.1 xb) hRn hfr1
        refine W.widen (k := 8) (n := 60) (Nat.le_of_ble_eq_true rfl) (Nat.le_of_ble_eq_true rfl) ?_
        exact vx_ret (q_retMi C0 hret rfl hlk dX3_shelfBoth_73 hP hD hS (⟨by first | trivial | omega, by first | trivial | omega, (by unfold kR_shelfBoth; (repeat' split) <;> first | rfl | (exfalso; omega)), O, G, CP_eq hC (by unfold kS_shelfBoth; (repeat' split) <;> first | rfl | (exfalso; omega)), rfl, Ext0 hO⟩))
      · refine q_iconst hx hb dX3_shelfBoth_65 ?_
        refine lv_goto (tgt := 70) hx hb dX3_shelfBoth_66 (by decide) ?_
        refine q_vMi C0 lX3_100 (c_X0_retain l D y L F5 _ (grh G (zsh σ xb)) (grw G (zsh σ xb)) (zod σ (zsh σ xb)) (zst σ (zsh σ xb)) (grh G (zsh σ xc)) (grw G (zsh σ xc)) (zod σ (zsh σ xc)) ((zst σ (zsh σ xc)).1) ((zst σ (zsh σ xc)).2.1) ((zst σ (zsh σ xc)).2.2) 1 (CP_r hC (hW.2.1 xb)) (CP_r hC (hW.2.1 xc)) (fun e => absurd (hW.2.2.2.2.2.2.2.2.1 xc xb (by omega) (by omega) (by omega) (by omega) (CP_ri hC (hW.2.1 xc) (hW.2.1 xb) e)) (by omega)) (fun e => absurd (hW.2.2.2.2.2.2.2.2.1 xc xb (by omega) (by omega) (by omega) (by omega) (CP_wi hC (hW.2.1 xc) (hW.2.1 xb) e)) (by omega)) (by omega)) ⟨rfl, rfl⟩ rfl hP hD hS hA (CP_r hC (hW.2.1 xb)).1 (CP_r hC (hW.2.1 xb)).2.1 rfl rfl rfl hl rfl (Nat.le_of_ble_eq_true rfl) dX3_shelfBoth_70 ⟨Nat.le_of_ble_eq_true rfl, Nat.le_of_ble_eq_true rfl⟩ (fun r10 H locs L11 F11 hP hD hS hz11 hp11 => ?_)
        obtain ⟨eL, er, hRn, hfr1⟩ := hp11
        subst eL
        subst er
        have hO := hO.tr (OEf hC (hW.2.1 xb) hfr1)
        have hC := CP_row hC (hW.2.1 xb) hRn hfr1
        refine W.widen (k := 8) (n := 60) (Nat.le_of_ble_eq_true rfl) (Nat.le_of_ble_eq_true rfl) ?_
        exact vx_ret (q_retMi C0 hret rfl hlk dX3_shelfBoth_73 hP hD hS (⟨by first | trivial | omega, by first | trivial | omega, (by unfold kR_shelfBoth; (repeat' split) <;> first | rfl | (exfalso; omega)), O, G, CP_eq hC (by unfold kS_shelfBoth; (repeat' split) <;> first | rfl | (exfalso; omega)), rfl, Ext0 hO⟩))
    · refine lv_aload hx hb dX3_shelfBoth_43 (lv_at hl 1 rfl) ?_
      refine lv_aload hx hb dX3_shelfBoth_45 (lv_at hl 0 rfl) ?_
      refine q_iconst hx hb dX3_shelfBoth_47 ?_
      refine q_bipush hx hb dX3_shelfBoth_48 (by decide) ?_
      refine q_vMi C0 lX3_96 (c_X0_addPart l D y L F5 _ (grh G (zsh σ xb)) (grw G (zsh σ xb)) (zod σ (zsh σ xb)) (zst σ (zsh σ xb)) (grh G (zsh σ xc)) (grw G (zsh σ xc)) (zod σ (zsh σ xc)) ((zst σ (zsh σ xc)).1) ((zst σ (zsh σ xc)).2.1) ((zst σ (zsh σ xc)).2.2) 0 99 (CP_r hC (hW.2.1 xb)) (CP_r hC (hW.2.1 xc)) (fun e => absurd (hW.2.2.2.2.2.2.2.2.1 xc xb (by omega) (by omega) (by omega) (by omega) (CP_ri hC (hW.2.1 xc) (hW.2.1 xb) e)) (by omega)) (fun e => absurd (hW.2.2.2.2.2.2.2.2.1 xc xb (by omega) (by omega) (by omega) (by omega) (CP_wi hC (hW.2.1 xc) (hW.2.1 xb) e)) (by omega)) (by omega) (by omega)) ⟨rfl, rfl⟩ rfl hP hD hS hA (CP_r hC (hW.2.1 xb)).1 (CP_r hC (hW.2.1 xb)).2.1 rfl rfl rfl hl rfl (Nat.le_of_ble_eq_true rfl) dX3_shelfBoth_50 ⟨Nat.le_of_ble_eq_true rfl, Nat.le_of_ble_eq_true rfl⟩ (fun r12 H locs L13 F13 hP hD hS hz13 hp13 => ?_)
      obtain ⟨eL, er, hRn, hfr1⟩ := hp13
      subst eL
      subst er
      have hO := hO.tr (OEf hC (hW.2.1 xb) hfr1)
      have hC := CP_row hC (hW.2.1 xb) hRn hfr1
      refine lv_goto (tgt := 73) hx hb dX3_shelfBoth_53 (by decide) ?_
      refine W.widen (k := 8) (n := 60) (Nat.le_of_ble_eq_true rfl) (Nat.le_of_ble_eq_true rfl) ?_
      exact vx_ret (q_retMi C0 hret rfl hlk dX3_shelfBoth_73 hP hD hS (⟨by first | trivial | omega, by first | trivial | omega, (by unfold kR_shelfBoth; (repeat' split) <;> first | rfl | (exfalso; omega)), O, G, CP_eq hC (by unfold kS_shelfBoth; (repeat' split) <;> first | rfl | (exfalso; omega)), rfl, Ext0 hO⟩))
  · refine lv_aload_n hx hb dX3_shelfBoth_24 rfl (lv_at hl 2 rfl) ?_
    refine q_vMi C0 lX3_63 (c_X3_refuse l D y L F _ O G σ hC) ⟨rfl, rfl⟩ rfl hP hD hS hA hC.1.1 hC.1.2 rfl rfl rfl hl rfl (Nat.le_of_ble_eq_true rfl) dX3_shelfBoth_25 ⟨Nat.le_of_ble_eq_true rfl, Nat.le_of_ble_eq_true rfl⟩ (fun r14 H locs L15 F15 hP hD hS hz15 hp15 => ?_)
    obtain ⟨eL, hC, er, hO1⟩ := hp15
    subst eL
    subst er
    have hO := hO.tr hO1
    refine W.widen (k := 8) (n := 60) (Nat.le_of_ble_eq_true rfl) (Nat.le_of_ble_eq_true rfl) ?_
    exact vx_ret (q_retMi C0 hret rfl hlk dX3_shelfBoth_28 hP hD hS (⟨by first | trivial | omega, by first | trivial | omega, (by unfold kR_shelfBoth; (repeat' split) <;> first | rfl | (exfalso; omega)), O, G, CP_eq hC (by unfold kS_shelfBoth; (repeat' split) <;> first | rfl | (exfalso; omega)), rfl, Ext0 hO⟩))
set_option maxHeartbeats 800000 in
set_option maxRecDepth 100000 in
theorem c_X3_shelfDrop (l : Launch) (hfl : l.stackTraces = false) (D : va_G) (y : Nat → ClassId) (L : List Nat) (F : Nat → va_E) (sz : Nat) (O : Nat → Prop) (G : CG) (σ : CS) (xb : Int) (xt : Int) (hC : CP y L F O G σ) (hW : CW σ) (h_xb : -2147483648 ≤ xb ∧ xb ≤ 2147483647) (h_xt : -2147483648 ≤ xt ∧ xt ≤ 2147483647) : vx_Met l yX3_shelfDrop (.code yX3_shelfDrop cX3_shelfDrop 4 (some .int) :: Tt) ({ frames := 7, cells := 8, slots := 60, locals := 103 }) (PcX D y L F sz [.ref ((gbg G)), .int (iI xb), .int (iI xt)]) (cMi D (AL L sz) (fun r L1 F1 => ((0 ≤ xb ∧ xb ≤ 2)) ∧ ((0 ≤ xt ∧ xt ≤ 2)) ∧ r = kR_shelfDrop σ xb xt ∧ ∃ O1 G1, CP y L1 F1 O1 G1 (kS_shelfDrop σ xb xt) ∧ gbg G1 = gbg G ∧ Ext O O1 L L1 F F1)) (XC (pX ((0 ≤ xb ∧ xb ≤ 2)) ((0 ≤ xt ∧ xt ≤ 2)))) 8 60 (AL L sz) := by
  have hO : OE O F F := fun _ _ => rfl
  have hw4 := hW.2.2.2.2.2.1
  have hw5 := hW.2.2.2.2.2.2.1
  have hw6 := hW.2.2.2.2.2.2.2.2.2.2
  refine q_ofX (lv := [(0, .ref ((gbg G))), (1, .int (iI xb)), (2, .int (iI xt))]) (by decide) (Nat.le_of_ble_eq_true rfl) rfl (fun p e s m below meth c C0 hret hlk hout hsz hA hP hD hS hX ls hl => ?_)
  subst hsz
  have hx := C0.1.1
  have hb := C0.1.2.1
  have hts := C0.1.2.2.2.2
  refine lv_aload_n hx hb dX3_shelfDrop_0 rfl (lv_at hl 0 rfl) ?_
  refine lv_iload_n hx hb dX3_shelfDrop_1 rfl (lv_at hl 1 rfl) ?_
  refine q_vXa C0 lX3_216 (c_X3_shelfAt l hfl D y L F _ O G σ xb hC (by omega)) ⟨rfl, rfl⟩ rfl hP hD hX hout hlk hC.1.1 hC.1.2 rfl rfl rfl hl rfl (Nat.le_of_ble_eq_true rfl) dX3_shelfDrop_2 ⟨Nat.le_of_ble_eq_true rfl, Nat.le_of_ble_eq_true rfl⟩ ⟨Nat.le_of_ble_eq_true rfl, Nat.le_of_ble_eq_true rfl⟩ (fun E h => Or.inl ⟨h.1, fun q => h.2 (by omega)⟩) (fun r1 e_r1 => ?_)
  refine W.widen (k := 1) (n := 6) (Nat.le_of_ble_eq_true rfl) (Nat.le_of_ble_eq_true rfl) ?_
  obtain ⟨hb_r1, e_r1⟩ := e_r1
  subst e_r1
  refine lv_astore_n (lv' := [(3, .ref ((grh G (zsh σ xb)))), (0, .ref ((gbg G))), (1, .int (iI xb)), (2, .int (iI xt))]) hx hb dX3_shelfDrop_5 rfl hl (by decide) rfl (fun ls hl => ?_)
  refine lv_iload_n hx hb dX3_shelfDrop_6 rfl (lv_at hl 3 rfl) ?_
  refine q_iconst hx hb dX3_shelfDrop_7 ?_
  refine q_sXv C0 lX3_41 (c_X3_checkUpTo l hfl D y L F _ xt 2 (by omega) (by omega)) ⟨rfl, rfl⟩ rfl hP hD hX hout hlk rfl hl rfl (Nat.le_of_ble_eq_true rfl) dX3_shelfDrop_8 ⟨Nat.le_of_ble_eq_true rfl, Nat.le_of_ble_eq_true rfl⟩ ⟨Nat.le_of_ble_eq_true rfl, Nat.le_of_ble_eq_true rfl⟩ (fun E h => Or.inr ⟨h.1, by first | trivial | omega, fun q => h.2 (by omega)⟩) (fun _ e_r2 => ?_)
  refine W.widen (k := 2) (n := 12) (Nat.le_of_ble_eq_true rfl) (Nat.le_of_ble_eq_true rfl) ?_
  refine lv_aload_n hx hb dX3_shelfDrop_11 rfl (lv_at hl 1 rfl) ?_
  refine lv_dup hx hb dX3_shelfDrop_12 rfl ?_
  refine q_get C0 iX3 hP hC.1.1 hC.1.2 rfl 5 (by decide) flX3_219 rfl rfl dX3_shelfDrop_13 ?_
  refine q_iconst hx hb dX3_shelfDrop_16 ?_
  refine q_iadd hx hb dX3_shelfDrop_17 ?_
  refine q_put C0 iX3 tyX3 tyX3_ok nmX3 hP hD hS hC.1.1 hC.1.2 rfl 5 (by decide) flX3_219 rfl rfl rfl rfl (Nat.le_of_ble_eq_true rfl) dX3_shelfDrop_18 (fun H locs hP hD hS => ?_)
  obtain ⟨F3, eF3⟩ : ∃ z, z = va_up F (gbg G) (.inr (5, [.ref ((gab G)), .ref ((gas G)), .ref ((gav G)), .ref ((gkk G)), .int (iI (z0 σ)), .int (iI ((z1 σ + 1))), .int (iI (z2 σ)), .int (iI (z3 σ))])) := ⟨_, rfl⟩
  have hP : va_P D vwCl (va_pl L F3) H := by rw [eF3]; exact hP
  have hD : va_D (AL L s.heap.size) (va_pl L F3) := by rw [eF3]; exact hD
  have hO : OE O F F3 := by rw [eF3]; exact hO.tr (OE1 (CP_O hC).1)
  have hC : CP y L F3 O G (sCt σ (z0 σ) (z1 σ + 1) (z2 σ) (z3 σ)) := by rw [eF3]; exact CP_ct hC (va_up_self _ _ _) (fun q hq => va_up_ne _ _ hq)
  refine lv_iload_n hx hb dX3_shelfDrop_21 rfl (lv_at hl 3 rfl) ?_
  refine q_iconst hx hb dX3_shelfDrop_22 ?_
  refine q_icmp_ne hx hb dX3_shelfDrop_23 (tgt := 36) (by decide) (by omega) (by omega) (fun c4 => ?_) (fun c4 => ?_)
  · refine lv_aload_n hx hb dX3_shelfDrop_36 rfl (lv_at hl 0 rfl) ?_
    refine q_iconst hx hb dX3_shelfDrop_37 ?_
    refine q_bipush hx hb dX3_shelfDrop_38 (by decide) ?_
    refine lv_iload_n hx hb dX3_shelfDrop_40 rfl (lv_at hl 3 rfl) ?_
    refine q_iconst hx hb dX3_shelfDrop_41 ?_
    refine q_icmp_ne hx hb dX3_shelfDrop_42 (tgt := 49) (by decide) (by omega) (by omega) (fun c5 => ?_) (fun c5 => ?_)
    · refine q_iconst hx hb dX3_shelfDrop_49 ?_
      refine q_vMi C0 lX3_229 (c_X0_dropKeyOfPart l D y L F3 _ (grh G (zsh σ xb)) (grw G (zsh σ xb)) (zod σ (zsh σ xb)) (zst σ (zsh σ xb)) 0 99 0 (CP_r hC (hW.2.1 xb)) (by omega) (by omega) (by omega)) ⟨rfl, rfl⟩ rfl hP hD hS hA (CP_r hC (hW.2.1 xb)).1 (CP_r hC (hW.2.1 xb)).2.1 rfl rfl rfl hl rfl (Nat.le_of_ble_eq_true rfl) dX3_shelfDrop_50 ⟨Nat.le_of_ble_eq_true rfl, Nat.le_of_ble_eq_true rfl⟩ (fun r6 H locs L7 F7 hP hD hS hz7 hp7 => ?_)
      obtain ⟨eL, er, hRn, hfr1⟩ := hp7
      subst eL
      subst er
      have hO := hO.tr (OEf hC (hW.2.1 xb) hfr1)
      have hC := CP_row hC (hW.2.1 xb) hRn hfr1
      refine W.widen (k := 8) (n := 60) (Nat.le_of_ble_eq_true rfl) (Nat.le_of_ble_eq_true rfl) ?_
      exact vx_ret (q_retMi C0 hret rfl hlk dX3_shelfDrop_53 hP hD hS (⟨by first | trivial | omega, by first | trivial | omega, (by unfold kR_shelfDrop; (repeat' split) <;> first | rfl | (exfalso; omega)), O, G, CP_eq hC (by unfold kS_shelfDrop; (repeat' split) <;> first | rfl | (exfalso; omega)), rfl, Ext0 hO⟩))
    · refine q_iconst hx hb dX3_shelfDrop_45 ?_
      refine lv_goto (tgt := 50) hx hb dX3_shelfDrop_46 (by decide) ?_
      refine q_vMi C0 lX3_229 (c_X0_dropKeyOfPart l D y L F3 _ (grh G (zsh σ xb)) (grw G (zsh σ xb)) (zod σ (zsh σ xb)) (zst σ (zsh σ xb)) 0 99 1 (CP_r hC (hW.2.1 xb)) (by omega) (by omega) (by omega)) ⟨rfl, rfl⟩ rfl hP hD hS hA (CP_r hC (hW.2.1 xb)).1 (CP_r hC (hW.2.1 xb)).2.1 rfl rfl rfl hl rfl (Nat.le_of_ble_eq_true rfl) dX3_shelfDrop_50 ⟨Nat.le_of_ble_eq_true rfl, Nat.le_of_ble_eq_true rfl⟩ (fun r8 H locs L9 F9 hP hD hS hz9 hp9 => ?_)
      obtain ⟨eL, er, hRn, hfr1⟩ := hp9
      subst eL
      subst er
      have hO := hO.tr (OEf hC (hW.2.1 xb) hfr1)
      have hC := CP_row hC (hW.2.1 xb) hRn hfr1
      refine W.widen (k := 8) (n := 60) (Nat.le_of_ble_eq_true rfl) (Nat.le_of_ble_eq_true rfl) ?_
      exact vx_ret (q_retMi C0 hret rfl hlk dX3_shelfDrop_53 hP hD hS (⟨by first | trivial | omega, by first | trivial | omega, (by unfold kR_shelfDrop; (repeat' split) <;> first | rfl | (exfalso; omega)), O, G, CP_eq hC (by unfold kS_shelfDrop; (repeat' split) <;> first | rfl | (exfalso; omega)), rfl, Ext0 hO⟩))
  · refine lv_aload_n hx hb dX3_shelfDrop_26 rfl (lv_at hl 0 rfl) ?_
    refine q_iconst hx hb dX3_shelfDrop_27 ?_
    refine q_bipush hx hb dX3_shelfDrop_28 (by decide) ?_
    refine q_vMi C0 lX3_77 (c_X0_clearPart l D y L F3 _ (grh G (zsh σ xb)) (grw G (zsh σ xb)) (zod σ (zsh σ xb)) (zst σ (zsh σ xb)) 0 99 (CP_r hC (hW.2.1 xb)) (by omega) (by omega)) ⟨rfl, rfl⟩ rfl hP hD hS hA (CP_r hC (hW.2.1 xb)).1 (CP_r hC (hW.2.1 xb)).2.1 rfl rfl rfl hl rfl (Nat.le_of_ble_eq_true rfl) dX3_shelfDrop_30 ⟨Nat.le_of_ble_eq_true rfl, Nat.le_of_ble_eq_true rfl⟩ (fun r10 H locs L11 F11 hP hD hS hz11 hp11 => ?_)
    obtain ⟨eL, er, hRn, hfr1⟩ := hp11
    subst eL
    subst er
    have hO := hO.tr (OEf hC (hW.2.1 xb) hfr1)
    have hC := CP_row hC (hW.2.1 xb) hRn hfr1
    refine lv_goto (tgt := 53) hx hb dX3_shelfDrop_33 (by decide) ?_
    refine W.widen (k := 8) (n := 60) (Nat.le_of_ble_eq_true rfl) (Nat.le_of_ble_eq_true rfl) ?_
    exact vx_ret (q_retMi C0 hret rfl hlk dX3_shelfDrop_53 hP hD hS (⟨by first | trivial | omega, by first | trivial | omega, (by unfold kR_shelfDrop; (repeat' split) <;> first | rfl | (exfalso; omega)), O, G, CP_eq hC (by unfold kS_shelfDrop; (repeat' split) <;> first | rfl | (exfalso; omega)), rfl, Ext0 hO⟩))
set_option maxHeartbeats 800000 in
set_option maxRecDepth 100000 in
theorem c_X3_shelfNear (l : Launch) (hfl : l.stackTraces = false) (D : va_G) (y : Nat → ClassId) (L : List Nat) (F : Nat → va_E) (sz : Nat) (O : Nat → Prop) (G : CG) (σ : CS) (xb : Int) (xk : Int) (xt : Int) (hC : CP y L F O G σ) (hW : CW σ) (h_xb : -2147483648 ≤ xb ∧ xb ≤ 2147483647) (h_xk : -2147483648 ≤ xk ∧ xk ≤ 2147483647) (h_xt : -2147483648 ≤ xt ∧ xt ≤ 2147483647) : vx_Met l yX3_shelfNear (.code yX3_shelfNear cX3_shelfNear 5 (some .int) :: Tt) ({ frames := 7, cells := 8, slots := 60, locals := 103 }) (PcX D y L F sz [.ref ((gbg G)), .int (iI xb), .int (iI xk), .int (iI xt)]) (cMi D (AL L sz) (fun r L1 F1 => ((0 ≤ xb ∧ xb ≤ 2)) ∧ ((0 ≤ xk ∧ xk ≤ 99) ∧ (0 ≤ xt ∧ xt ≤ 4)) ∧ r = kR_shelfNear σ xb xk xt ∧ ∃ O1 G1, CP y L1 F1 O1 G1 (kS_shelfNear σ xb xk xt) ∧ gbg G1 = gbg G ∧ Ext O O1 L L1 F F1)) (XC (pX ((0 ≤ xb ∧ xb ≤ 2)) ((0 ≤ xk ∧ xk ≤ 99) ∧ (0 ≤ xt ∧ xt ≤ 4)))) 8 60 (AL L sz) := by
  have hO : OE O F F := fun _ _ => rfl
  have hw4 := hW.2.2.2.2.2.1
  have hw5 := hW.2.2.2.2.2.2.1
  have hw6 := hW.2.2.2.2.2.2.2.2.2.2
  refine q_ofX (lv := [(0, .ref ((gbg G))), (1, .int (iI xb)), (2, .int (iI xk)), (3, .int (iI xt))]) (by decide) (Nat.le_of_ble_eq_true rfl) rfl (fun p e s m below meth c C0 hret hlk hout hsz hA hP hD hS hX ls hl => ?_)
  subst hsz
  have hx := C0.1.1
  have hb := C0.1.2.1
  have hts := C0.1.2.2.2.2
  refine lv_aload_n hx hb dX3_shelfNear_0 rfl (lv_at hl 0 rfl) ?_
  refine lv_iload_n hx hb dX3_shelfNear_1 rfl (lv_at hl 1 rfl) ?_
  refine q_vXa C0 lX3_216 (c_X3_shelfAt l hfl D y L F _ O G σ xb hC (by omega)) ⟨rfl, rfl⟩ rfl hP hD hX hout hlk hC.1.1 hC.1.2 rfl rfl rfl hl rfl (Nat.le_of_ble_eq_true rfl) dX3_shelfNear_2 ⟨Nat.le_of_ble_eq_true rfl, Nat.le_of_ble_eq_true rfl⟩ ⟨Nat.le_of_ble_eq_true rfl, Nat.le_of_ble_eq_true rfl⟩ (fun E h => Or.inl ⟨h.1, fun q => h.2 (by omega)⟩) (fun r1 e_r1 => ?_)
  refine W.widen (k := 1) (n := 6) (Nat.le_of_ble_eq_true rfl) (Nat.le_of_ble_eq_true rfl) ?_
  obtain ⟨hb_r1, e_r1⟩ := e_r1
  subst e_r1
  refine lv_astore (lv' := [(4, .ref ((grh G (zsh σ xb)))), (0, .ref ((gbg G))), (1, .int (iI xb)), (2, .int (iI xk)), (3, .int (iI xt))]) hx hb dX3_shelfNear_5 hl (by decide) rfl (fun ls hl => ?_)
  refine lv_iload_n hx hb dX3_shelfNear_7 rfl (lv_at hl 3 rfl) ?_
  refine q_sXv C0 lX3_60 (c_X3_checkKey l hfl D y L F _ xk (by omega)) ⟨rfl, rfl⟩ rfl hP hD hX hout hlk rfl hl rfl (Nat.le_of_ble_eq_true rfl) dX3_shelfNear_8 ⟨Nat.le_of_ble_eq_true rfl, Nat.le_of_ble_eq_true rfl⟩ ⟨Nat.le_of_ble_eq_true rfl, Nat.le_of_ble_eq_true rfl⟩ (fun E h => Or.inr ⟨h.1, by first | trivial | omega, fun q => h.2 (by omega)⟩) (fun _ e_r2 => ?_)
  refine W.widen (k := 2) (n := 12) (Nat.le_of_ble_eq_true rfl) (Nat.le_of_ble_eq_true rfl) ?_
  refine lv_iload_n hx hb dX3_shelfNear_11 rfl (lv_at hl 4 rfl) ?_
  refine q_iconst hx hb dX3_shelfNear_12 ?_
  refine q_sXv C0 lX3_41 (c_X3_checkUpTo l hfl D y L F _ xt 4 (by omega) (by omega)) ⟨rfl, rfl⟩ rfl hP hD hX hout hlk rfl hl rfl (Nat.le_of_ble_eq_true rfl) dX3_shelfNear_13 ⟨Nat.le_of_ble_eq_true rfl, Nat.le_of_ble_eq_true rfl⟩ ⟨Nat.le_of_ble_eq_true rfl, Nat.le_of_ble_eq_true rfl⟩ (fun E h => Or.inr ⟨h.1, by first | trivial | omega, fun q => h.2 (by omega)⟩) (fun _ e_r3 => ?_)
  refine W.widen (k := 3) (n := 18) (Nat.le_of_ble_eq_true rfl) (Nat.le_of_ble_eq_true rfl) ?_
  refine lv_aload hx hb dX3_shelfNear_16 (lv_at hl 0 rfl) ?_
  refine lv_aload hx hb dX3_shelfNear_18 (lv_at hl 0 rfl) ?_
  refine q_iconst hx hb dX3_shelfNear_20 ?_
  refine q_bipush hx hb dX3_shelfNear_21 (by decide) ?_
  refine lv_iload_n hx hb dX3_shelfNear_23 rfl (lv_at hl 3 rfl) ?_
  refine lv_iload_n hx hb dX3_shelfNear_24 rfl (lv_at hl 4 rfl) ?_
  refine q_vS C0 lX3_126 (c_X0_nearInPart l D y L F (grh G (zsh σ xb)) (grw G (zsh σ xb)) (zod σ (zsh σ xb)) ((zst σ (zsh σ xb)).1) ((zst σ (zsh σ xb)).2.1) ((zst σ (zsh σ xb)).2.2) 0 99 xk xt (CP_r hC (hW.2.1 xb)) (by omega) (by omega) (by omega) (by omega)) ⟨rfl, rfl⟩ rfl hP (CP_r hC (hW.2.1 xb)).1 (CP_r hC (hW.2.1 xb)).2.1 rfl rfl rfl hl rfl (Nat.le_of_ble_eq_true rfl) dX3_shelfNear_25 ⟨Nat.le_of_ble_eq_true rfl, Nat.le_of_ble_eq_true rfl⟩ (fun r4 e_r4 => ?_)
  subst e_r4
  have b_5 := nearP_r (zod σ (zsh σ xb)) ((zst σ (zsh σ xb)).2.2) 0 99 xk xt
  refine q_vS C0 lX3_132 (c_X0_keyOf l D y L F (grh G (zsh σ xb)) (grw G (zsh σ xb)) (zod σ (zsh σ xb)) ((zst σ (zsh σ xb)).1) ((zst σ (zsh σ xb)).2.1) ((zst σ (zsh σ xb)).2.2) (nearP (zod σ (zsh σ xb)) ((zst σ (zsh σ xb)).2.2) 0 99 xk xt) (CP_r hC (hW.2.1 xb)) (by omega)) ⟨rfl, rfl⟩ rfl hP (CP_r hC (hW.2.1 xb)).1 (CP_r hC (hW.2.1 xb)).2.1 rfl rfl rfl hl rfl (Nat.le_of_ble_eq_true rfl) dX3_shelfNear_28 ⟨Nat.le_of_ble_eq_true rfl, Nat.le_of_ble_eq_true rfl⟩ (fun r6 e_r6 => ?_)
  subst e_r6
  have b_7 := @keyR_b (zod σ (zsh σ xb)) (nearP (zod σ (zsh σ xb)) ((zst σ (zsh σ xb)).2.2) 0 99 xk xt) (by omega)
  refine W.widen (k := 8) (n := 60) (Nat.le_of_ble_eq_true rfl) (Nat.le_of_ble_eq_true rfl) ?_
  exact vx_ret (q_retMi C0 hret rfl hlk dX3_shelfNear_31 hP hD hS (⟨by first | trivial | omega, by first | trivial | omega, (by unfold kR_shelfNear; (repeat' split) <;> first | rfl | (exfalso; omega)), O, G, CP_eq hC (by unfold kS_shelfNear; (repeat' split) <;> first | rfl | (exfalso; omega)), rfl, Ext0 hO⟩))
set_option maxHeartbeats 800000 in
set_option maxRecDepth 100000 in
theorem c_X3_shelfTell (l : Launch) (hfl : l.stackTraces = false) (D : va_G) (y : Nat → ClassId) (L : List Nat) (F : Nat → va_E) (sz : Nat) (O : Nat → Prop) (G : CG) (σ : CS) (xb : Int) (xt : Int) (hC : CP y L F O G σ) (hW : CW σ) (h_xb : -2147483648 ≤ xb ∧ xb ≤ 2147483647) (h_xt : -2147483648 ≤ xt ∧ xt ≤ 2147483647) : vx_Met l yX3_shelfTell (.code yX3_shelfTell cX3_shelfTell 4 (some .int) :: Tt) ({ frames := 7, cells := 8, slots := 60, locals := 103 }) (PcX D y L F sz [.ref ((gbg G)), .int (iI xb), .int (iI xt)]) (cMi D (AL L sz) (fun r L1 F1 => ((0 ≤ xb ∧ xb ≤ 2)) ∧ ((0 ≤ xt ∧ xt ≤ 4)) ∧ r = kR_shelfTell σ xb xt ∧ ∃ O1 G1, CP y L1 F1 O1 G1 (kS_shelfTell σ xb xt) ∧ gbg G1 = gbg G ∧ Ext O O1 L L1 F F1)) (XC (pX ((0 ≤ xb ∧ xb ≤ 2)) ((0 ≤ xt ∧ xt ≤ 4)))) 8 60 (AL L sz) := by
  have hO : OE O F F := fun _ _ => rfl
  have hw4 := hW.2.2.2.2.2.1
  have hw5 := hW.2.2.2.2.2.2.1
  have hw6 := hW.2.2.2.2.2.2.2.2.2.2
  refine q_ofX (lv := [(0, .ref ((gbg G))), (1, .int (iI xb)), (2, .int (iI xt))]) (by decide) (Nat.le_of_ble_eq_true rfl) rfl (fun p e s m below meth c C0 hret hlk hout hsz hA hP hD hS hX ls hl => ?_)
  subst hsz
  have hx := C0.1.1
  have hb := C0.1.2.1
  have hts := C0.1.2.2.2.2
  refine lv_aload_n hx hb dX3_shelfTell_0 rfl (lv_at hl 0 rfl) ?_
  refine lv_iload_n hx hb dX3_shelfTell_1 rfl (lv_at hl 1 rfl) ?_
  refine q_vXa C0 lX3_216 (c_X3_shelfAt l hfl D y L F _ O G σ xb hC (by omega)) ⟨rfl, rfl⟩ rfl hP hD hX hout hlk hC.1.1 hC.1.2 rfl rfl rfl hl rfl (Nat.le_of_ble_eq_true rfl) dX3_shelfTell_2 ⟨Nat.le_of_ble_eq_true rfl, Nat.le_of_ble_eq_true rfl⟩ ⟨Nat.le_of_ble_eq_true rfl, Nat.le_of_ble_eq_true rfl⟩ (fun E h => Or.inl ⟨h.1, fun q => h.2 (by omega)⟩) (fun r1 e_r1 => ?_)
  refine W.widen (k := 1) (n := 6) (Nat.le_of_ble_eq_true rfl) (Nat.le_of_ble_eq_true rfl) ?_
  obtain ⟨hb_r1, e_r1⟩ := e_r1
  subst e_r1
  refine lv_astore_n (lv' := [(3, .ref ((grh G (zsh σ xb)))), (0, .ref ((gbg G))), (1, .int (iI xb)), (2, .int (iI xt))]) hx hb dX3_shelfTell_5 rfl hl (by decide) rfl (fun ls hl => ?_)
  refine lv_iload_n hx hb dX3_shelfTell_6 rfl (lv_at hl 3 rfl) ?_
  refine q_iconst hx hb dX3_shelfTell_7 ?_
  refine q_sXv C0 lX3_41 (c_X3_checkUpTo l hfl D y L F _ xt 4 (by omega) (by omega)) ⟨rfl, rfl⟩ rfl hP hD hX hout hlk rfl hl rfl (Nat.le_of_ble_eq_true rfl) dX3_shelfTell_8 ⟨Nat.le_of_ble_eq_true rfl, Nat.le_of_ble_eq_true rfl⟩ ⟨Nat.le_of_ble_eq_true rfl, Nat.le_of_ble_eq_true rfl⟩ (fun E h => Or.inr ⟨h.1, by first | trivial | omega, fun q => h.2 (by omega)⟩) (fun _ e_r2 => ?_)
  refine W.widen (k := 2) (n := 12) (Nat.le_of_ble_eq_true rfl) (Nat.le_of_ble_eq_true rfl) ?_
  refine lv_iload_n hx hb dX3_shelfTell_11 rfl (lv_at hl 3 rfl) ?_
  refine q_iconst hx hb dX3_shelfTell_12 ?_
  refine q_icmp_gt hx hb dX3_shelfTell_13 (tgt := 22) (by decide) (by omega) (by omega) (fun c3 => ?_) (fun c3 => ?_)
  · refine lv_aload_n hx hb dX3_shelfTell_22 rfl (lv_at hl 1 rfl) ?_
    refine lv_aload_n hx hb dX3_shelfTell_23 rfl (lv_at hl 0 rfl) ?_
    refine lv_aload_n hx hb dX3_shelfTell_24 rfl (lv_at hl 0 rfl) ?_
    refine q_iconst hx hb dX3_shelfTell_25 ?_
    refine q_bipush hx hb dX3_shelfTell_26 (by decide) ?_
    refine lv_iload_n hx hb dX3_shelfTell_28 rfl (lv_at hl 3 rfl) ?_
    refine q_iconst hx hb dX3_shelfTell_29 ?_
    refine q_icmp_ne hx hb dX3_shelfTell_30 (tgt := 37) (by decide) (by omega) (by omega) (fun c4 => ?_) (fun c4 => ?_)
    · refine q_iconst hx hb dX3_shelfTell_37 ?_
      refine q_vS C0 lX3_135 (c_X0_endOfPart l D y L F (grh G (zsh σ xb)) (grw G (zsh σ xb)) (zod σ (zsh σ xb)) ((zst σ (zsh σ xb)).1) ((zst σ (zsh σ xb)).2.1) ((zst σ (zsh σ xb)).2.2) 0 99 0 (CP_r hC (hW.2.1 xb)) (by omega) (by omega) (by omega)) ⟨rfl, rfl⟩ rfl hP (CP_r hC (hW.2.1 xb)).1 (CP_r hC (hW.2.1 xb)).2.1 rfl rfl rfl hl rfl (Nat.le_of_ble_eq_true rfl) dX3_shelfTell_38 ⟨Nat.le_of_ble_eq_true rfl, Nat.le_of_ble_eq_true rfl⟩ (fun r5 e_r5 => ?_)
      subst e_r5
      have b_6 := endP_r ((zst σ (zsh σ xb)).2.2) 0 99 0
      refine q_vMi C0 lX3_139 (c_X3_keyOrRefuse l D y L F _ O G σ (zsh σ xb) (endP ((zst σ (zsh σ xb)).2.2) 0 99 0) hC (hW.2.1 xb) (by omega)) ⟨rfl, rfl⟩ rfl hP hD hS hA hC.1.1 hC.1.2 rfl rfl rfl hl rfl (Nat.le_of_ble_eq_true rfl) dX3_shelfTell_41 ⟨Nat.le_of_ble_eq_true rfl, Nat.le_of_ble_eq_true rfl⟩ (fun r7 H locs L8 F8 hP hD hS hz8 hp8 => ?_)
      obtain ⟨eL, hC, er, hO1⟩ := hp8
      subst eL
      subst er
      have hO := hO.tr hO1
      refine W.widen (k := 8) (n := 60) (Nat.le_of_ble_eq_true rfl) (Nat.le_of_ble_eq_true rfl) ?_
      exact vx_ret (q_retMi C0 hret rfl hlk dX3_shelfTell_44 hP hD hS (⟨by first | trivial | omega, by first | trivial | omega, (by unfold kR_shelfTell; (repeat' split) <;> first | rfl | (exfalso; omega)), O, G, CP_eq hC (by unfold kS_shelfTell; (repeat' split) <;> first | rfl | (exfalso; omega)), rfl, Ext0 hO⟩))
    · refine q_iconst hx hb dX3_shelfTell_33 ?_
      refine lv_goto (tgt := 38) hx hb dX3_shelfTell_34 (by decide) ?_
      refine q_vS C0 lX3_135 (c_X0_endOfPart l D y L F (grh G (zsh σ xb)) (grw G (zsh σ xb)) (zod σ (zsh σ xb)) ((zst σ (zsh σ xb)).1) ((zst σ (zsh σ xb)).2.1) ((zst σ (zsh σ xb)).2.2) 0 99 1 (CP_r hC (hW.2.1 xb)) (by omega) (by omega) (by omega)) ⟨rfl, rfl⟩ rfl hP (CP_r hC (hW.2.1 xb)).1 (CP_r hC (hW.2.1 xb)).2.1 rfl rfl rfl hl rfl (Nat.le_of_ble_eq_true rfl) dX3_shelfTell_38 ⟨Nat.le_of_ble_eq_true rfl, Nat.le_of_ble_eq_true rfl⟩ (fun r9 e_r9 => ?_)
      subst e_r9
      have b_10 := endP_r ((zst σ (zsh σ xb)).2.2) 0 99 1
      refine q_vMi C0 lX3_139 (c_X3_keyOrRefuse l D y L F _ O G σ (zsh σ xb) (endP ((zst σ (zsh σ xb)).2.2) 0 99 1) hC (hW.2.1 xb) (by omega)) ⟨rfl, rfl⟩ rfl hP hD hS hA hC.1.1 hC.1.2 rfl rfl rfl hl rfl (Nat.le_of_ble_eq_true rfl) dX3_shelfTell_41 ⟨Nat.le_of_ble_eq_true rfl, Nat.le_of_ble_eq_true rfl⟩ (fun r11 H locs L12 F12 hP hD hS hz12 hp12 => ?_)
      obtain ⟨eL, hC, er, hO1⟩ := hp12
      subst eL
      subst er
      have hO := hO.tr hO1
      refine W.widen (k := 8) (n := 60) (Nat.le_of_ble_eq_true rfl) (Nat.le_of_ble_eq_true rfl) ?_
      exact vx_ret (q_retMi C0 hret rfl hlk dX3_shelfTell_44 hP hD hS (⟨by first | trivial | omega, by first | trivial | omega, (by unfold kR_shelfTell; (repeat' split) <;> first | rfl | (exfalso; omega)), O, G, CP_eq hC (by unfold kS_shelfTell; (repeat' split) <;> first | rfl | (exfalso; omega)), rfl, Ext0 hO⟩))
  · refine lv_aload_n hx hb dX3_shelfTell_16 rfl (lv_at hl 0 rfl) ?_
    refine lv_iload_n hx hb dX3_shelfTell_17 rfl (lv_at hl 3 rfl) ?_
    refine q_sS C0 lX3_232 (c_X3_shelfFact l D y L F (grh G (zsh σ xb)) (grw G (zsh σ xb)) (zod σ (zsh σ xb)) ((zst σ (zsh σ xb)).1) ((zst σ (zsh σ xb)).2.1) ((zst σ (zsh σ xb)).2.2) xt (CP_r hC (hW.2.1 xb)) (by omega)) ⟨rfl, rfl⟩ rfl hP rfl hl rfl (Nat.le_of_ble_eq_true rfl) dX3_shelfTell_18 ⟨Nat.le_of_ble_eq_true rfl, Nat.le_of_ble_eq_true rfl⟩ (fun r13 e_r13 => ?_)
    subst e_r13
    refine W.widen (k := 8) (n := 60) (Nat.le_of_ble_eq_true rfl) (Nat.le_of_ble_eq_true rfl) ?_
    exact vx_ret (q_retMi C0 hret rfl hlk dX3_shelfTell_21 hP hD hS (⟨by first | trivial | omega, by first | trivial | omega, (by unfold kR_shelfTell; (repeat' split) <;> first | rfl | (exfalso; omega)), O, G, CP_eq hC (by unfold kS_shelfTell; (repeat' split) <;> first | rfl | (exfalso; omega)), rfl, Ext0 hO⟩))
set_option maxHeartbeats 800000 in
set_option maxRecDepth 100000 in
theorem c_X3_sameShelves (l : Launch) (hfl : l.stackTraces = false) (D : va_G) (y : Nat → ClassId) (L : List Nat) (F : Nat → va_E) (sz : Nat) (O : Nat → Prop) (G : CG) (σ : CS) (xb : Int) (xc : Int) (xt : Int) (hC : CP y L F O G σ) (hW : CW σ) (h_xb : -2147483648 ≤ xb ∧ xb ≤ 2147483647) (h_xc : -2147483648 ≤ xc ∧ xc ≤ 2147483647) (h_xt : -2147483648 ≤ xt ∧ xt ≤ 2147483647) : vx_Met l yX3_sameShelves (.code yX3_sameShelves cX3_sameShelves 6 (some .boolean) :: Tt) ({ frames := 7, cells := 8, slots := 60, locals := 103 }) (PcX D y L F sz [.ref ((gbg G)), .int (iI xb), .int (iI xc), .int (iI xt)]) (cMi D (AL L sz) (fun r L1 F1 => ((0 ≤ xb ∧ xb ≤ 2) ∧ (0 ≤ xc ∧ xc ≤ 2)) ∧ ((0 ≤ xt ∧ xt ≤ 1)) ∧ r = kR_sameShelves σ xb xc xt ∧ ∃ O1 G1, CP y L1 F1 O1 G1 (kS_sameShelves σ xb xc xt) ∧ gbg G1 = gbg G ∧ Ext O O1 L L1 F F1)) (XC (pX ((0 ≤ xb ∧ xb ≤ 2) ∧ (0 ≤ xc ∧ xc ≤ 2)) ((0 ≤ xt ∧ xt ≤ 1)))) 8 60 (AL L sz) := by
  have hO : OE O F F := fun _ _ => rfl
  have hw4 := hW.2.2.2.2.2.1
  have hw5 := hW.2.2.2.2.2.2.1
  have hw6 := hW.2.2.2.2.2.2.2.2.2.2
  refine q_ofX (lv := [(0, .ref ((gbg G))), (1, .int (iI xb)), (2, .int (iI xc)), (3, .int (iI xt))]) (by decide) (Nat.le_of_ble_eq_true rfl) rfl (fun p e s m below meth c C0 hret hlk hout hsz hA hP hD hS hX ls hl => ?_)
  subst hsz
  have hx := C0.1.1
  have hb := C0.1.2.1
  have hts := C0.1.2.2.2.2
  refine lv_aload_n hx hb dX3_sameShelves_0 rfl (lv_at hl 0 rfl) ?_
  refine lv_iload_n hx hb dX3_sameShelves_1 rfl (lv_at hl 1 rfl) ?_
  refine q_vXa C0 lX3_216 (c_X3_shelfAt l hfl D y L F _ O G σ xb hC (by omega)) ⟨rfl, rfl⟩ rfl hP hD hX hout hlk hC.1.1 hC.1.2 rfl rfl rfl hl rfl (Nat.le_of_ble_eq_true rfl) dX3_sameShelves_2 ⟨Nat.le_of_ble_eq_true rfl, Nat.le_of_ble_eq_true rfl⟩ ⟨Nat.le_of_ble_eq_true rfl, Nat.le_of_ble_eq_true rfl⟩ (fun E h => Or.inl ⟨h.1, fun q => h.2 (by omega)⟩) (fun r1 e_r1 => ?_)
  refine W.widen (k := 1) (n := 6) (Nat.le_of_ble_eq_true rfl) (Nat.le_of_ble_eq_true rfl) ?_
  obtain ⟨hb_r1, e_r1⟩ := e_r1
  subst e_r1
  refine lv_astore (lv' := [(4, .ref ((grh G (zsh σ xb)))), (0, .ref ((gbg G))), (1, .int (iI xb)), (2, .int (iI xc)), (3, .int (iI xt))]) hx hb dX3_sameShelves_5 hl (by decide) rfl (fun ls hl => ?_)
  refine lv_aload_n hx hb dX3_sameShelves_7 rfl (lv_at hl 1 rfl) ?_
  refine lv_iload_n hx hb dX3_sameShelves_8 rfl (lv_at hl 3 rfl) ?_
  refine q_vXa C0 lX3_216 (c_X3_shelfAt l hfl D y L F _ O G σ xc hC (by omega)) ⟨rfl, rfl⟩ rfl hP hD hX hout hlk hC.1.1 hC.1.2 rfl rfl rfl hl rfl (Nat.le_of_ble_eq_true rfl) dX3_sameShelves_9 ⟨Nat.le_of_ble_eq_true rfl, Nat.le_of_ble_eq_true rfl⟩ ⟨Nat.le_of_ble_eq_true rfl, Nat.le_of_ble_eq_true rfl⟩ (fun E h => Or.inl ⟨h.1, fun q => h.2 (by omega)⟩) (fun r2 e_r2 => ?_)
  refine W.widen (k := 2) (n := 12) (Nat.le_of_ble_eq_true rfl) (Nat.le_of_ble_eq_true rfl) ?_
  obtain ⟨hb_r2, e_r2⟩ := e_r2
  subst e_r2
  refine lv_astore (lv' := [(5, .ref ((grh G (zsh σ xc)))), (4, .ref ((grh G (zsh σ xb)))), (0, .ref ((gbg G))), (1, .int (iI xb)), (2, .int (iI xc)), (3, .int (iI xt))]) hx hb dX3_sameShelves_12 hl (by decide) rfl (fun ls hl => ?_)
  refine lv_iload_n hx hb dX3_sameShelves_14 rfl (lv_at hl 5 rfl) ?_
  refine q_iconst hx hb dX3_sameShelves_15 ?_
  refine q_sXv C0 lX3_41 (c_X3_checkUpTo l hfl D y L F _ xt 1 (by omega) (by omega)) ⟨rfl, rfl⟩ rfl hP hD hX hout hlk rfl hl rfl (Nat.le_of_ble_eq_true rfl) dX3_sameShelves_16 ⟨Nat.le_of_ble_eq_true rfl, Nat.le_of_ble_eq_true rfl⟩ ⟨Nat.le_of_ble_eq_true rfl, Nat.le_of_ble_eq_true rfl⟩ (fun E h => Or.inr ⟨h.1, by first | trivial | omega, fun q => h.2 (by omega)⟩) (fun _ e_r3 => ?_)
  refine W.widen (k := 3) (n := 18) (Nat.le_of_ble_eq_true rfl) (Nat.le_of_ble_eq_true rfl) ?_
  refine lv_iload_n hx hb dX3_sameShelves_19 rfl (lv_at hl 5 rfl) ?_
  refine q_if_ne hx hb dX3_sameShelves_20 (tgt := 33) (by decide) (by omega) (fun c4 => ?_) (fun c4 => ?_)
  · refine lv_aload hx hb dX3_sameShelves_33 (lv_at hl 1 rfl) ?_
    refine lv_aload hx hb dX3_sameShelves_35 (lv_at hl 0 rfl) ?_
    refine q_vS C0 lX3_235 (c_X0_hasKeysOf l D y L F (grh G (zsh σ xb)) (grw G (zsh σ xb)) (zod σ (zsh σ xb)) ((zst σ (zsh σ xb)).1) ((zst σ (zsh σ xb)).2.1) ((zst σ (zsh σ xb)).2.2) (grh G (zsh σ xc)) (grw G (zsh σ xc)) (zod σ (zsh σ xc)) ((zst σ (zsh σ xc)).1) ((zst σ (zsh σ xc)).2.1) ((zst σ (zsh σ xc)).2.2) (CP_r hC (hW.2.1 xb)) (CP_r hC (hW.2.1 xc))) ⟨rfl, rfl⟩ rfl hP (CP_r hC (hW.2.1 xb)).1 (CP_r hC (hW.2.1 xb)).2.1 rfl rfl rfl hl rfl (Nat.le_of_ble_eq_true rfl) dX3_sameShelves_37 ⟨Nat.le_of_ble_eq_true rfl, Nat.le_of_ble_eq_true rfl⟩ (fun r5 e_r5 => ?_)
    subst e_r5
    have b_6 := hasK_b (zod σ (zsh σ xb)) (zod σ (zsh σ xc)) ((zst σ (zsh σ xb)).2.2) ((zst σ (zsh σ xc)).2.2)
    refine W.widen (k := 8) (n := 60) (Nat.le_of_ble_eq_true rfl) (Nat.le_of_ble_eq_true rfl) ?_
    exact vx_ret (q_retMi C0 hret (narB (by omega)) hlk dX3_sameShelves_40 hP hD hS (⟨by first | trivial | omega, by first | trivial | omega, (by unfold kR_sameShelves; (repeat' split) <;> first | rfl | (exfalso; omega)), O, G, CP_eq hC (by unfold kS_sameShelves; (repeat' split) <;> first | rfl | (exfalso; omega)), rfl, Ext0 hO⟩))
  · refine lv_aload hx hb dX3_sameShelves_23 (lv_at hl 1 rfl) ?_
    refine lv_aload hx hb dX3_sameShelves_25 (lv_at hl 0 rfl) ?_
    refine q_vS C0 lX3_167 (c_X0_isSameAs l D y L F (grh G (zsh σ xb)) (grw G (zsh σ xb)) (zod σ (zsh σ xb)) ((zst σ (zsh σ xb)).1) ((zst σ (zsh σ xb)).2.1) ((zst σ (zsh σ xb)).2.2) (grh G (zsh σ xc)) (grw G (zsh σ xc)) (zod σ (zsh σ xc)) ((zst σ (zsh σ xc)).1) ((zst σ (zsh σ xc)).2.1) ((zst σ (zsh σ xc)).2.2) (CP_r hC (hW.2.1 xb)) (CP_r hC (hW.2.1 xc))) ⟨rfl, rfl⟩ rfl hP (CP_r hC (hW.2.1 xb)).1 (CP_r hC (hW.2.1 xb)).2.1 rfl rfl rfl hl rfl (Nat.le_of_ble_eq_true rfl) dX3_sameShelves_27 ⟨Nat.le_of_ble_eq_true rfl, Nat.le_of_ble_eq_true rfl⟩ (fun r7 e_r7 => ?_)
    subst e_r7
    have b_8 := sameR_b (zod σ (zsh σ xb)) (zod σ (zsh σ xc)) ((zst σ (zsh σ xb)).2.2) ((zst σ (zsh σ xc)).2.2)
    refine lv_goto (tgt := 40) hx hb dX3_sameShelves_30 (by decide) ?_
    refine W.widen (k := 8) (n := 60) (Nat.le_of_ble_eq_true rfl) (Nat.le_of_ble_eq_true rfl) ?_
    exact vx_ret (q_retMi C0 hret (narB (by omega)) hlk dX3_sameShelves_40 hP hD hS (⟨by first | trivial | omega, by first | trivial | omega, (by unfold kR_sameShelves; (repeat' split) <;> first | rfl | (exfalso; omega)), O, G, CP_eq hC (by unfold kS_sameShelves; (repeat' split) <;> first | rfl | (exfalso; omega)), rfl, Ext0 hO⟩))
set_option maxHeartbeats 800000 in
set_option maxRecDepth 100000 in
theorem c_X3_house (l : Launch) (hfl : l.stackTraces = false) (D : va_G) (y : Nat → ClassId) (L : List Nat) (F : Nat → va_E) (sz : Nat) (O : Nat → Prop) (G : CG) (σ : CS) (xt : Int) (hC : CP y L F O G σ) (hW : CW σ) (h_xt : -2147483648 ≤ xt ∧ xt ≤ 2147483647) : vx_Met l yX3_house (.code yX3_house cX3_house 2 (some .int) :: Tt) ({ frames := 7, cells := 8, slots := 60, locals := 103 }) (PcX D y L F sz [.ref ((gbg G)), .int (iI xt)]) (cMi D (AL L sz) (fun r L1 F1 => (True) ∧ ((0 ≤ xt ∧ xt ≤ 3)) ∧ r = kR_house σ xt ∧ ∃ O1 G1, CP y L1 F1 O1 G1 (kS_house σ xt) ∧ gbg G1 = gbg G ∧ Ext O O1 L L1 F F1)) (XC (pX (True) ((0 ≤ xt ∧ xt ≤ 3)))) 8 60 (AL L sz) := by
  have hO : OE O F F := fun _ _ => rfl
  have hw4 := hW.2.2.2.2.2.1
  have hw5 := hW.2.2.2.2.2.2.1
  have hw6 := hW.2.2.2.2.2.2.2.2.2.2
  refine q_ofX (lv := [(0, .ref ((gbg G))), (1, .int (iI xt))]) (by decide) (Nat.le_of_ble_eq_true rfl) rfl (fun p e s m below meth c C0 hret hlk hout hsz hA hP hD hS hX ls hl => ?_)
  subst hsz
  have hx := C0.1.1
  have hb := C0.1.2.1
  have hts := C0.1.2.2.2.2
  refine lv_iload_n hx hb dX3_house_0 rfl (lv_at hl 1 rfl) ?_
  refine q_iconst hx hb dX3_house_1 ?_
  refine q_sXv C0 lX3_41 (c_X3_checkUpTo l hfl D y L F _ xt 3 (by omega) (by omega)) ⟨rfl, rfl⟩ rfl hP hD hX hout hlk rfl hl rfl (Nat.le_of_ble_eq_true rfl) dX3_house_2 ⟨Nat.le_of_ble_eq_true rfl, Nat.le_of_ble_eq_true rfl⟩ ⟨Nat.le_of_ble_eq_true rfl, Nat.le_of_ble_eq_true rfl⟩ (fun E h => Or.inr ⟨h.1, by first | trivial | omega, fun q => h.2 (by omega)⟩) (fun _ e_r1 => ?_)
  refine W.widen (k := 1) (n := 6) (Nat.le_of_ble_eq_true rfl) (Nat.le_of_ble_eq_true rfl) ?_
  refine lv_aload_n hx hb dX3_house_5 rfl (lv_at hl 0 rfl) ?_
  refine lv_iload_n hx hb dX3_house_6 rfl (lv_at hl 1 rfl) ?_
  refine q_vS C0 lX3_238 (c_X3_houseFact l D y L F O G σ xt hC (by omega)) ⟨rfl, rfl⟩ rfl hP hC.1.1 hC.1.2 rfl rfl rfl hl rfl (Nat.le_of_ble_eq_true rfl) dX3_house_7 ⟨Nat.le_of_ble_eq_true rfl, Nat.le_of_ble_eq_true rfl⟩ (fun r2 e_r2 => ?_)
  subst e_r2
  refine W.widen (k := 8) (n := 60) (Nat.le_of_ble_eq_true rfl) (Nat.le_of_ble_eq_true rfl) ?_
  exact vx_ret (q_retMi C0 hret rfl hlk dX3_house_10 hP hD hS (⟨by first | trivial | omega, by first | trivial | omega, (by unfold kR_house; (repeat' split) <;> first | rfl | (exfalso; omega)), O, G, CP_eq hC (by unfold kS_house; (repeat' split) <;> first | rfl | (exfalso; omega)), rfl, Ext0 hO⟩))
