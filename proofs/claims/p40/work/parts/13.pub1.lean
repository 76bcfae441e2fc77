set_option maxHeartbeats 800000 in
set_option maxRecDepth 100000 in
theorem c_X3_freshBook (l : Launch) (hfl : l.stackTraces = false) (D : va_G) (y : Nat → ClassId) (L : List Nat) (F : Nat → va_E) (sz : Nat) (O : Nat → Prop) (G : CG) (σ : CS) (xb : Int) (xo : Int) (hC : CP y L F O G σ) (hW : CW σ) (h_xb : -2147483648 ≤ xb ∧ xb ≤ 2147483647) (h_xo : -2147483648 ≤ xo ∧ xo ≤ 2147483647) : vx_Met l yX3_freshBook (.code yX3_freshBook cX3_freshBook 4 (some .int) :: Tt) ({ frames := 7, cells := 6, slots := 124, locals := 103 }) (PcX D y L F sz [.ref ((gbg G)), .int (iI xb), .int (iI xo)]) (cMi D (AL L sz) (fun r L1 F1 => ((0 ≤ xb ∧ xb ≤ 3)) ∧ ((0 ≤ xo ∧ xo ≤ 2)) ∧ r = kR_freshBook σ xb xo ∧ ∃ O1 G1, CP y L1 F1 O1 G1 (kS_freshBook σ xb xo) ∧ gbg G1 = gbg G ∧ Ext O O1 L L1 F F1)) (XC (pX ((0 ≤ xb ∧ xb ≤ 3)) ((0 ≤ xo ∧ xo ≤ 2)))) 6 124 (AL L sz) := by
  have hO : OE O F F := fun _ _ => rfl
  have hw4 := hW.2.2.2.2.2.1
  have hw5 := hW.2.2.2.2.2.2.1
  have hw6 := hW.2.2.2.2.2.2.2.2.2.2
  refine q_ofX (lv := [(0, .ref ((gbg G))), (1, .int (iI xb)), (2, .int (iI xo))]) (by decide) (Nat.le_of_ble_eq_true rfl) rfl (fun p e s m below meth c C0 hret hlk hout hsz hA hP hD hS hX ls hl => ?_)
  subst hsz
  have hx := C0.1.1
  have hb := C0.1.2.1
  have hts := C0.1.2.2.2.2
  refine lv_aload_n hx hb dX3_freshBook_0 rfl (lv_at hl 0 rfl) ?_
  refine lv_iload_n hx hb dX3_freshBook_1 rfl (lv_at hl 1 rfl) ?_
  refine q_vXa C0 lX3_37 (c_X3_bookAt l hfl D y L F _ O G σ xb hC (by omega)) ⟨rfl, rfl⟩ rfl hP hD hX hout hlk hC.1.1 hC.1.2 rfl rfl rfl hl rfl (Nat.le_of_ble_eq_true rfl) dX3_freshBook_2 ⟨Nat.le_of_ble_eq_true rfl, Nat.le_of_ble_eq_true rfl⟩ ⟨Nat.le_of_ble_eq_true rfl, Nat.le_of_ble_eq_true rfl⟩ (fun E h => Or.inl ⟨h.1, fun q => h.2 (by omega)⟩) (fun r1 e_r1 => ?_)
  refine W.widen (k := 1) (n := 6) (Nat.le_of_ble_eq_true rfl) (Nat.le_of_ble_eq_true rfl) ?_
  obtain ⟨hb_r1, e_r1⟩ := e_r1
  subst e_r1
  refine lv_astore_n (lv' := [(3, .ref ((grh G (zbk σ xb)))), (0, .ref ((gbg G))), (1, .int (iI xb)), (2, .int (iI xo))]) hx hb dX3_freshBook_5 rfl hl (by decide) rfl (fun ls hl => ?_)
  refine lv_iload_n hx hb dX3_freshBook_6 rfl (lv_at hl 3 rfl) ?_
  refine q_iconst hx hb dX3_freshBook_7 ?_
  refine q_sXv C0 lX3_41 (c_X3_checkUpTo l hfl D y L F _ xo 2 (by omega) (by omega)) ⟨rfl, rfl⟩ rfl hP hD hX hout hlk rfl hl rfl (Nat.le_of_ble_eq_true rfl) dX3_freshBook_8 ⟨Nat.le_of_ble_eq_true rfl, Nat.le_of_ble_eq_true rfl⟩ ⟨Nat.le_of_ble_eq_true rfl, Nat.le_of_ble_eq_true rfl⟩ (fun E h => Or.inr ⟨h.1, by first | trivial | omega, fun q => h.2 (by omega)⟩) (fun _ e_r2 => ?_)
  refine W.widen (k := 2) (n := 12) (Nat.le_of_ble_eq_true rfl) (Nat.le_of_ble_eq_true rfl) ?_
  refine lv_aload_n hx hb dX3_freshBook_11 rfl (lv_at hl 1 rfl) ?_
  refine lv_dup hx hb dX3_freshBook_12 rfl ?_
  refine q_get C0 iX3 hP hC.1.1 hC.1.2 rfl 4 (by decide) flX3_45 rfl rfl dX3_freshBook_13 ?_
  refine q_iconst hx hb dX3_freshBook_16 ?_
  refine q_iadd hx hb dX3_freshBook_17 ?_
  refine q_put C0 iX3 tyX3 tyX3_ok nmX3 hP hD hS hC.1.1 hC.1.2 rfl 4 (by decide) flX3_45 rfl rfl rfl rfl (Nat.le_of_ble_eq_true rfl) dX3_freshBook_18 (fun H locs hP hD hS => ?_)
  obtain ⟨F3, eF3⟩ : ∃ z, z = va_up F (gbg G) (.inr (5, [.ref ((gab G)), .ref ((gas G)), .ref ((gav G)), .ref ((gkk G)), .int (iI ((z0 σ + 1))), .int (iI (z1 σ)), .int (iI (z2 σ)), .int (iI (z3 σ))])) := ⟨_, rfl⟩
  have hP : va_P D vwCl (va_pl L F3) H := by rw [eF3]; exact hP
  have hD : va_D (AL L s.heap.size) (va_pl L F3) := by rw [eF3]; exact hD
  have hO : OE O F F3 := by rw [eF3]; exact hO.tr (OE1 (CP_O hC).1)
  have hC : CP y L F3 O G (sCt σ (z0 σ + 1) (z1 σ) (z2 σ) (z3 σ)) := by rw [eF3]; exact CP_ct hC (va_up_self _ _ _) (fun q hq => va_up_ne _ _ hq)
  refine lv_aload_n hx hb dX3_freshBook_21 rfl (lv_at hl 1 rfl) ?_
  refine q_get C0 iX3 hP hC.1.1 hC.1.2 rfl 0 (by decide) flX3_11 rfl rfl dX3_freshBook_22 ?_
  refine lv_iload_n hx hb dX3_freshBook_25 rfl (lv_at hl 2 rfl) ?_
  refine q_new C0 iX0 tyX0 tyX0_ok klX3_9 insX0 iniX0 hP hD hS hA (ci := 2) rfl (fs := [.int (iI 0), .null, .int (iI 0), .int (iI 0)]) (fun j hj => by rcases (show j = 0 ∨ j = 1 ∨ j = 2 ∨ j = 3 by omega) with rfl | rfl | rfl | rfl <;> rfl) (Nat.le_of_ble_eq_true rfl) (Nat.le_of_ble_eq_true rfl) dX3_freshBook_26 (fun q4 H hq4 hP hD hS => ?_)
  refine W.widen (k := 3) (n := 16) (Nat.le_of_ble_eq_true rfl) (Nat.le_of_ble_eq_true rfl) ?_
  obtain ⟨F5, eF5⟩ : ∃ z, z = va_up F3 q4 (.inr (2, [.int (iI 0), .null, .int (iI 0), .int (iI 0)])) := ⟨_, rfl⟩
  have hP : va_P D vwCl (va_pl (L ++ [q4]) F5) H := by rw [eF5]; exact hP
  have hD : va_D (AL L s.heap.size) (va_pl (L ++ [q4]) F5) := by rw [eF5]; exact hD
  have hfn : ∀ a ∈ L, F5 a = F3 a := by rw [eF5]; exact fun a h1 => va_up_ne _ _ (ne_in h1 hq4)
  have hFq4 : F5 q4 = .inr (2, [.int (iI 0), .null, .int (iI 0), .int (iI 0)]) := by rw [eF5]; exact va_up_self _ _ _
  refine lv_dup hx hb dX3_freshBook_29 rfl ?_
  refine lv_iload_n hx hb dX3_freshBook_30 rfl (lv_at hl 3 rfl) ?_
  refine q_iMv C0 lX3_15 (c_X0_init l D y (L ++ [q4]) F5 _ q4 xo (List.mem_append_right _ List.mem_cons_self) hFq4 (by omega)) ⟨rfl, rfl⟩ rfl hP hD hS hA rfl hl rfl (Nat.le_of_ble_eq_true rfl) dX3_freshBook_31 ⟨Nat.le_of_ble_eq_true rfl, Nat.le_of_ble_eq_true rfl⟩ (fun _ H locs L7 F7 hP hD hS hz7 hp7 => ?_)
  refine W.widen (k := 4) (n := 116) (Nat.le_of_ble_eq_true rfl) (Nat.le_of_ble_eq_true rfl) ?_
  obtain ⟨q4w, hqq4w, eL, hRn, hfr1⟩ := hp7
  subst eL
  have hfn : ∀ a ∈ L, F7 a = F3 a := fun a h1 => (hfr1 a (List.mem_append_left _ h1) (ne_in h1 hq4)).trans (hfn a h1)
  have hRo8 := Rw_mono (CP_r hC (hW.1 xb)) (L1 := ((L ++ [q4]) ++ [q4w])) (F1 := F7) (fun a h1 => List.mem_append_left _ (List.mem_append_left _ h1)) hfn
  have hC : CP y ((L ++ [q4]) ++ [q4w]) F7 (fun a => O a ∨ a ∉ L) (gNw G (zn σ) q4 q4w) (sNw (sCt σ (z0 σ + 1) (z1 σ) (z2 σ) (z3 σ)) xo R0) := CP_new (σ := (sCt σ (z0 σ + 1) (z1 σ) (z2 σ) (z3 σ))) (G := G) (o := xo) (S := R0) (F1 := F7) hC rfl hq4 (fun h1 => hqq4w (List.mem_append_left _ h1)) hRn hfn ⟨hW.1, hW.2.1, hW.2.2.1, hW.2.2.2.1⟩
  have hE : ∀ q ∈ L, ¬ O q → F7 q = F q := fun q h1 h2 => (hfn q h1).trans (hO q h2)
  have hO : OE (fun a => O a ∨ a ∉ L) F7 F7 := fun _ _ => rfl
  have er : grh (gNw G (zn σ) q4 q4w) (zn σ) = q4 := va_up_self _ _ _
  refine q_aast C0 hP hD hS hC.2.1.1 hC.2.1.2 (t := 1) (r := (RX0, TX0, 4)) rfl hRn.1 hRn.2.1 rfl (by omega) (by decide) dX3_freshBook_34 (fun H locs hP hD hS => ?_)
  have hoo := hC.2.1.2
  obtain ⟨F9, eF9⟩ : ∃ z, z = va_up F7 (gab (gNw G (zn σ) q4 q4w)) (arrQ (y 1) 4 (iu (fun i => some (grh (gNw G (zn σ) q4 q4w) (zbk (sNw (sCt σ (z0 σ + 1) (z1 σ) (z2 σ) (z3 σ)) xo R0) i))) xb (some q4))) := ⟨_, rfl⟩
  have hP : va_P D vwCl (va_pl ((L ++ [q4]) ++ [q4w]) F9) H := by rw [eF9]; exact hP
  have hD : va_D (AL L s.heap.size) (va_pl ((L ++ [q4]) ++ [q4w]) F9) := by rw [eF9]; exact hD
  have hO : OE (fun a => O a ∨ a ∉ L) F7 F9 := by rw [eF9]; exact hO.tr (OE1 (CP_O hC).2.1)
  have hKF9_0 : Rw y ((L ++ [q4]) ++ [q4w]) F9 (grh G (zbk σ xb)) (grw G (zbk σ xb)) (zod σ (zbk σ xb)) ((zst σ (zbk σ xb)).1) ((zst σ (zbk σ xb)).2.1) ((zst σ (zbk σ xb)).2.2) := by rw [eF9]; exact Rw_q hRo8 hoo
  have hKF9_1 : Rw y ((L ++ [q4]) ++ [q4w]) F9 q4 q4w xo R0.1 R0.2.1 R0.2.2 := by rw [eF9]; exact Rw_q hRn hoo
  have hC : CP y ((L ++ [q4]) ++ [q4w]) F9 (fun a => O a ∨ a ∉ L) (gNw G (zn σ) q4 q4w) (sBk (sNw (sCt σ (z0 σ + 1) (z1 σ) (z2 σ) (z3 σ)) xo R0) xb (zn σ)) := by rw [eF9]; exact CP_bk hC (by rw [er]; exact va_up_self _ _ _) (fun q hq => va_up_ne _ _ hq)
  refine lv_aload_n hx hb dX3_freshBook_35 rfl (lv_at hl 0 rfl) ?_
  refine q_get C0 iX0 hP hKF9_0.1 hKF9_0.2.1 rfl 2 (by decide) flX3_49 rfl rfl dX3_freshBook_36 ?_
  refine W.widen (k := 6) (n := 124) (Nat.le_of_ble_eq_true rfl) (Nat.le_of_ble_eq_true rfl) ?_
  exact vx_ret (q_retMi C0 hret rfl hlk dX3_freshBook_39 hP hD hS (⟨by first | trivial | omega, by first | trivial | omega, (by unfold kR_freshBook; (repeat' split) <;> first | rfl | (exfalso; omega)), (fun a => O a ∨ a ∉ L), (gNw G (zn σ) q4 q4w), CP_eq hC (by unfold kS_freshBook; (repeat' split) <;> first | rfl | (exfalso; omega)), rfl, ⟨fun q h => List.mem_append_left _ (List.mem_append_left _ h), fun q h1 h2 => (hO q (fun z => z.elim h2 (fun w => w h1))).trans (hE q h1 h2), fun q h => h⟩⟩))
set_option maxHeartbeats 800000 in
set_option maxRecDepth 100000 in
theorem c_X3_fill (l : Launch) (hfl : l.stackTraces = false) (D : va_G) (y : Nat → ClassId) (L : List Nat) (F : Nat → va_E) (sz : Nat) (O : Nat → Prop) (G : CG) (σ : CS) (xb : Int) (xf : Int) (xs : Int) (xn : Int) (xw : Int) (hC : CP y L F O G σ) (hW : CW σ) (h_xb : -2147483648 ≤ xb ∧ xb ≤ 2147483647) (h_xf : -2147483648 ≤ xf ∧ xf ≤ 2147483647) (h_xs : -2147483648 ≤ xs ∧ xs ≤ 2147483647) (h_xn : -2147483648 ≤ xn ∧ xn ≤ 2147483647) (h_xw : -2147483648 ≤ xw ∧ xw ≤ 2147483647) : vx_Met l yX3_fill (.code yX3_fill cX3_fill 7 (some .int) :: Tt) ({ frames := 8, cells := 8, slots := 60, locals := 125 }) (PcX D y L F sz [.ref ((gbg G)), .int (iI xb), .int (iI xf), .int (iI xs), .int (iI xn), .int (iI xw)]) (cMi D (AL L sz) (fun r L1 F1 => ((0 ≤ xb ∧ xb ≤ 3)) ∧ ((0 ≤ xf ∧ xf ≤ 99) ∧ (0 ≤ xs ∧ xs ≤ 99) ∧ (0 ≤ xn ∧ xn ≤ 100) ∧ (-1 ≤ xw ∧ xw ≤ 99)) ∧ r = kR_fill σ xb xf xs xn xw ∧ ∃ O1 G1, CP y L1 F1 O1 G1 (kS_fill σ xb xf xs xn xw) ∧ gbg G1 = gbg G ∧ Ext O O1 L L1 F F1)) (XC (pX ((0 ≤ xb ∧ xb ≤ 3)) ((0 ≤ xf ∧ xf ≤ 99) ∧ (0 ≤ xs ∧ xs ≤ 99) ∧ (0 ≤ xn ∧ xn ≤ 100) ∧ (-1 ≤ xw ∧ xw ≤ 99)))) 8 60 (AL L sz) := by
  have hO : OE O F F := fun _ _ => rfl
  have hw4 := hW.2.2.2.2.2.1
  have hw5 := hW.2.2.2.2.2.2.1
  have hw6 := hW.2.2.2.2.2.2.2.2.2.2
  refine q_ofX (lv := [(0, .ref ((gbg G))), (1, .int (iI xb)), (2, .int (iI xf)), (3, .int (iI xs)), (4, .int (iI xn)), (5, .int (iI xw))]) (by decide) (Nat.le_of_ble_eq_true rfl) rfl (fun p e s m below meth c C0 hret hlk hout hsz hA hP hD hS hX ls hl => ?_)
  subst hsz
  have hx := C0.1.1
  have hb := C0.1.2.1
  have hts := C0.1.2.2.2.2
  refine lv_aload_n hx hb dX3_fill_0 rfl (lv_at hl 0 rfl) ?_
  refine lv_iload_n hx hb dX3_fill_1 rfl (lv_at hl 1 rfl) ?_
  refine q_vXa C0 lX3_37 (c_X3_bookAt l hfl D y L F _ O G σ xb hC (by omega)) ⟨rfl, rfl⟩ rfl hP hD hX hout hlk hC.1.1 hC.1.2 rfl rfl rfl hl rfl (Nat.le_of_ble_eq_true rfl) dX3_fill_2 ⟨Nat.le_of_ble_eq_true rfl, Nat.le_of_ble_eq_true rfl⟩ ⟨Nat.le_of_ble_eq_true rfl, Nat.le_of_ble_eq_true rfl⟩ (fun E h => Or.inl ⟨h.1, fun q => h.2 (by omega)⟩) (fun r1 e_r1 => ?_)
  refine W.widen (k := 1) (n := 6) (Nat.le_of_ble_eq_true rfl) (Nat.le_of_ble_eq_true rfl) ?_
  obtain ⟨hb_r1, e_r1⟩ := e_r1
  subst e_r1
  refine lv_astore (lv' := [(6, .ref ((grh G (zbk σ xb)))), (0, .ref ((gbg G))), (1, .int (iI xb)), (2, .int (iI xf)), (3, .int (iI xs)), (4, .int (iI xn)), (5, .int (iI xw))]) hx hb dX3_fill_5 hl (by decide) rfl (fun ls hl => ?_)
  refine lv_iload_n hx hb dX3_fill_7 rfl (lv_at hl 3 rfl) ?_
  refine lv_iload_n hx hb dX3_fill_8 rfl (lv_at hl 4 rfl) ?_
  refine lv_iload hx hb dX3_fill_9 (lv_at hl 5 rfl) ?_
  refine q_sXv C0 lX3_81 (c_X3_checkSteps l hfl D y L F _ xf xs xn (by omega) (by omega) (by omega)) ⟨rfl, rfl⟩ rfl hP hD hX hout hlk rfl hl rfl (Nat.le_of_ble_eq_true rfl) dX3_fill_11 ⟨Nat.le_of_ble_eq_true rfl, Nat.le_of_ble_eq_true rfl⟩ ⟨Nat.le_of_ble_eq_true rfl, Nat.le_of_ble_eq_true rfl⟩ (fun E h => Or.inr ⟨h.1, by first | trivial | omega, fun q => h.2 (by omega)⟩) (fun _ e_r2 => ?_)
  refine W.widen (k := 4) (n := 24) (Nat.le_of_ble_eq_true rfl) (Nat.le_of_ble_eq_true rfl) ?_
  refine lv_iload hx hb dX3_fill_14 (lv_at hl 6 rfl) ?_
  refine q_sXv C0 lX3_85 (c_X3_checkWorthOrNone l hfl D y L F _ xw (by omega)) ⟨rfl, rfl⟩ rfl hP hD hX hout hlk rfl hl rfl (Nat.le_of_ble_eq_true rfl) dX3_fill_16 ⟨Nat.le_of_ble_eq_true rfl, Nat.le_of_ble_eq_true rfl⟩ ⟨Nat.le_of_ble_eq_true rfl, Nat.le_of_ble_eq_true rfl⟩ (fun E h => Or.inr ⟨h.1, by first | trivial | omega, fun q => h.2 (by omega)⟩) (fun _ e_r3 => ?_)
  refine W.widen (k := 5) (n := 30) (Nat.le_of_ble_eq_true rfl) (Nat.le_of_ble_eq_true rfl) ?_
  refine lv_aload_n hx hb dX3_fill_19 rfl (lv_at hl 1 rfl) ?_
  refine lv_aload hx hb dX3_fill_20 (lv_at hl 0 rfl) ?_
  refine q_vMv C0 lX3_67 (c_X3_write l D y L F _ O G σ (zbk σ xb) hC (hW.1 xb) hW.2.2.2.1) ⟨rfl, rfl⟩ rfl hP hD hS hA hC.1.1 hC.1.2 rfl rfl rfl hl rfl (Nat.le_of_ble_eq_true rfl) dX3_fill_22 ⟨Nat.le_of_ble_eq_true rfl, Nat.le_of_ble_eq_true rfl⟩ (fun _ H locs L5 F5 hP hD hS hz5 hp5 => ?_)
  obtain ⟨eL, hC, er, hO1⟩ := hp5
  subst eL
  have hO := hO.tr hO1
  refine lv_iload hx hb dX3_fill_25 (lv_at hl 6 rfl) ?_
  refine q_iconst hx hb dX3_fill_27 ?_
  refine q_icmp_ne hx hb dX3_fill_28 (tgt := 43) (by decide) (by omega) (by omega) (fun c6 => ?_) (fun c6 => ?_)
  · refine lv_aload hx hb dX3_fill_43 (lv_at hl 0 rfl) ?_
    refine lv_iload_n hx hb dX3_fill_45 rfl (lv_at hl 3 rfl) ?_
    refine lv_iload_n hx hb dX3_fill_46 rfl (lv_at hl 4 rfl) ?_
    refine lv_iload hx hb dX3_fill_47 (lv_at hl 5 rfl) ?_
    refine lv_iload hx hb dX3_fill_49 (lv_at hl 6 rfl) ?_
    refine q_vMi C0 lX3_92 (c_X0_addSteps l D y L F5 _ (grh G (zbk σ xb)) (grw G (zbk σ xb)) (zod σ (zbk σ xb)) (zst σ (zbk σ xb)) xf xs xn xw (CP_r hC (hW.1 xb)) (by omega) (by omega) (by omega) (by omega)) ⟨rfl, rfl⟩ rfl hP hD hS hA (CP_r hC (hW.1 xb)).1 (CP_r hC (hW.1 xb)).2.1 rfl rfl rfl hl rfl (Nat.le_of_ble_eq_true rfl) dX3_fill_51 ⟨Nat.le_of_ble_eq_true rfl, Nat.le_of_ble_eq_true rfl⟩ (fun r7 H locs L8 F8 hP hD hS hz8 hp8 => ?_)
    obtain ⟨eL, er, hRn, hfr1⟩ := hp8
    subst eL
    subst er
    have hO := hO.tr (OEf hC (hW.1 xb) hfr1)
    have hC := CP_row hC (hW.1 xb) hRn hfr1
    refine W.widen (k := 8) (n := 60) (Nat.le_of_ble_eq_true rfl) (Nat.le_of_ble_eq_true rfl) ?_
    exact vx_ret (q_retMi C0 hret rfl hlk dX3_fill_54 hP hD hS (⟨by first | trivial | omega, by first | trivial | omega, (by unfold kR_fill; (repeat' split) <;> first | rfl | (exfalso; omega)), O, G, CP_eq hC (by unfold kS_fill; (repeat' split) <;> first | rfl | (exfalso; omega)), rfl, Ext0 hO⟩))
  · refine lv_aload hx hb dX3_fill_31 (lv_at hl 0 rfl) ?_
    refine lv_iload_n hx hb dX3_fill_33 rfl (lv_at hl 3 rfl) ?_
    refine lv_iload_n hx hb dX3_fill_34 rfl (lv_at hl 4 rfl) ?_
    refine lv_iload hx hb dX3_fill_35 (lv_at hl 5 rfl) ?_
    refine q_vMi C0 lX3_88 (c_X0_removeSteps l D y L F5 _ (grh G (zbk σ xb)) (grw G (zbk σ xb)) (zod σ (zbk σ xb)) (zst σ (zbk σ xb)) xf xs xn (CP_r hC (hW.1 xb)) (by omega) (by omega) (by omega)) ⟨rfl, rfl⟩ rfl hP hD hS hA (CP_r hC (hW.1 xb)).1 (CP_r hC (hW.1 xb)).2.1 rfl rfl rfl hl rfl (Nat.le_of_ble_eq_true rfl) dX3_fill_37 ⟨Nat.le_of_ble_eq_true rfl, Nat.le_of_ble_eq_true rfl⟩ (fun r9 H locs L10 F10 hP hD hS hz10 hp10 => ?_)
    obtain ⟨eL, er, hRn, hfr1⟩ := hp10
    subst eL
    subst er
    have hO := hO.tr (OEf hC (hW.1 xb) hfr1)
    have hC := CP_row hC (hW.1 xb) hRn hfr1
    refine lv_goto (tgt := 54) hx hb dX3_fill_40 (by decide) ?_
    refine W.widen (k := 8) (n := 60) (Nat.le_of_ble_eq_true rfl) (Nat.le_of_ble_eq_true rfl) ?_
    exact vx_ret (q_retMi C0 hret rfl hlk dX3_fill_54 hP hD hS (⟨by first | trivial | omega, by first | trivial | omega, (by unfold kR_fill; (repeat' split) <;> first | rfl | (exfalso; omega)), O, G, CP_eq hC (by unfold kS_fill; (repeat' split) <;> first | rfl | (exfalso; omega)), rfl, Ext0 hO⟩))
set_option maxHeartbeats 800000 in
set_option maxRecDepth 100000 in
theorem c_X3_pour (l : Launch) (hfl : l.stackTraces = false) (D : va_G) (y : Nat → ClassId) (L : List Nat) (F : Nat → va_E) (sz : Nat) (O : Nat → Prop) (G : CG) (σ : CS) (xb : Int) (xc : Int) (hC : CP y L F O G σ) (hW : CW σ) (h_xb : -2147483648 ≤ xb ∧ xb ≤ 2147483647) (h_xc : -2147483648 ≤ xc ∧ xc ≤ 2147483647) : vx_Met l yX3_pour (.code yX3_pour cX3_pour 5 (some .int) :: Tt) ({ frames := 7, cells := 8, slots := 60, locals := 103 }) (PcX D y L F sz [.ref ((gbg G)), .int (iI xb), .int (iI xc)]) (cMi D (AL L sz) (fun r L1 F1 => ((0 ≤ xb ∧ xb ≤ 3) ∧ (0 ≤ xc ∧ xc ≤ 3)) ∧ (True) ∧ r = kR_pour σ xb xc ∧ ∃ O1 G1, CP y L1 F1 O1 G1 (kS_pour σ xb xc) ∧ gbg G1 = gbg G ∧ Ext O O1 L L1 F F1)) (XC (pX ((0 ≤ xb ∧ xb ≤ 3) ∧ (0 ≤ xc ∧ xc ≤ 3)) (True))) 8 60 (AL L sz) := by
  have hO : OE O F F := fun _ _ => rfl
  have hw4 := hW.2.2.2.2.2.1
  have hw5 := hW.2.2.2.2.2.2.1
  have hw6 := hW.2.2.2.2.2.2.2.2.2.2
  refine q_ofX (lv := [(0, .ref ((gbg G))), (1, .int (iI xb)), (2, .int (iI xc))]) (by decide) (Nat.le_of_ble_eq_true rfl) rfl (fun p e s m below meth c C0 hret hlk hout hsz hA hP hD hS hX ls hl => ?_)
  subst hsz
  have hx := C0.1.1
  have hb := C0.1.2.1
  have hts := C0.1.2.2.2.2
  refine lv_aload_n hx hb dX3_pour_0 rfl (lv_at hl 0 rfl) ?_
  refine lv_iload_n hx hb dX3_pour_1 rfl (lv_at hl 1 rfl) ?_
  refine q_vXa C0 lX3_37 (c_X3_bookAt l hfl D y L F _ O G σ xb hC (by omega)) ⟨rfl, rfl⟩ rfl hP hD hX hout hlk hC.1.1 hC.1.2 rfl rfl rfl hl rfl (Nat.le_of_ble_eq_true rfl) dX3_pour_2 ⟨Nat.le_of_ble_eq_true rfl, Nat.le_of_ble_eq_true rfl⟩ ⟨Nat.le_of_ble_eq_true rfl, Nat.le_of_ble_eq_true rfl⟩ (fun E h => Or.inl ⟨h.1, fun q => h.2 (by omega)⟩) (fun r1 e_r1 => ?_)
  refine W.widen (k := 1) (n := 6) (Nat.le_of_ble_eq_true rfl) (Nat.le_of_ble_eq_true rfl) ?_
  obtain ⟨hb_r1, e_r1⟩ := e_r1
  subst e_r1
  refine lv_astore_n (lv' := [(3, .ref ((grh G (zbk σ xb)))), (0, .ref ((gbg G))), (1, .int (iI xb)), (2, .int (iI xc))]) hx hb dX3_pour_5 rfl hl (by decide) rfl (fun ls hl => ?_)
  refine lv_aload_n hx hb dX3_pour_6 rfl (lv_at hl 1 rfl) ?_
  refine lv_iload_n hx hb dX3_pour_7 rfl (lv_at hl 3 rfl) ?_
  refine q_vXa C0 lX3_37 (c_X3_bookAt l hfl D y L F _ O G σ xc hC (by omega)) ⟨rfl, rfl⟩ rfl hP hD hX hout hlk hC.1.1 hC.1.2 rfl rfl rfl hl rfl (Nat.le_of_ble_eq_true rfl) dX3_pour_8 ⟨Nat.le_of_ble_eq_true rfl, Nat.le_of_ble_eq_true rfl⟩ ⟨Nat.le_of_ble_eq_true rfl, Nat.le_of_ble_eq_true rfl⟩ (fun E h => Or.inl ⟨h.1, fun q => h.2 (by omega)⟩) (fun r2 e_r2 => ?_)
  refine W.widen (k := 2) (n := 12) (Nat.le_of_ble_eq_true rfl) (Nat.le_of_ble_eq_true rfl) ?_
  obtain ⟨hb_r2, e_r2⟩ := e_r2
  subst e_r2
  refine lv_astore (lv' := [(4, .ref ((grh G (zbk σ xc)))), (3, .ref ((grh G (zbk σ xb)))), (0, .ref ((gbg G))), (1, .int (iI xb)), (2, .int (iI xc))]) hx hb dX3_pour_11 hl (by decide) rfl (fun ls hl => ?_)
  refine lv_iload_n hx hb dX3_pour_13 rfl (lv_at hl 3 rfl) ?_
  refine lv_iload_n hx hb dX3_pour_14 rfl (lv_at hl 4 rfl) ?_
  refine q_icmp_ne hx hb dX3_pour_15 (tgt := 23) (by decide) (by omega) (by omega) (fun c3 => ?_) (fun c3 => ?_)
  · refine lv_aload_n hx hb dX3_pour_23 rfl (lv_at hl 2 rfl) ?_
    refine lv_aload_n hx hb dX3_pour_24 rfl (lv_at hl 1 rfl) ?_
    refine q_vMv C0 lX3_67 (c_X3_write l D y L F _ O G σ (zbk σ xb) hC (hW.1 xb) hW.2.2.2.1) ⟨rfl, rfl⟩ rfl hP hD hS hA hC.1.1 hC.1.2 rfl rfl rfl hl rfl (Nat.le_of_ble_eq_true rfl) dX3_pour_25 ⟨Nat.le_of_ble_eq_true rfl, Nat.le_of_ble_eq_true rfl⟩ (fun _ H locs L5 F5 hP hD hS hz5 hp5 => ?_)
    obtain ⟨eL, hC, er, hO1⟩ := hp5
    subst eL
    have hO := hO.tr hO1
    refine lv_aload_n hx hb dX3_pour_28 rfl (lv_at hl 1 rfl) ?_
    refine lv_aload hx hb dX3_pour_29 (lv_at hl 0 rfl) ?_
    refine q_iconst hx hb dX3_pour_31 ?_
    refine q_bipush hx hb dX3_pour_32 (by decide) ?_
    refine q_vMi C0 lX3_96 (c_X0_addPart l D y L F5 _ (grh G (zbk σ xb)) (grw G (zbk σ xb)) (zod σ (zbk σ xb)) (zst σ (zbk σ xb)) (grh G (zbk σ xc)) (grw G (zbk σ xc)) (zod σ (zbk σ xc)) ((zst σ (zbk σ xc)).1) ((zst σ (zbk σ xc)).2.1) ((zst σ (zbk σ xc)).2.2) 0 99 (CP_r hC (hW.1 xb)) (CP_r hC (hW.1 xc)) (fun e => absurd (hW.2.2.2.2.2.2.2.1 xc xb (by omega) (by omega) (by omega) (by omega) (CP_ri hC (hW.1 xc) (hW.1 xb) e)) (by omega)) (fun e => absurd (hW.2.2.2.2.2.2.2.1 xc xb (by omega) (by omega) (by omega) (by omega) (CP_wi hC (hW.1 xc) (hW.1 xb) e)) (by omega)) (by omega) (by omega)) ⟨rfl, rfl⟩ rfl hP hD hS hA (CP_r hC (hW.1 xb)).1 (CP_r hC (hW.1 xb)).2.1 rfl rfl rfl hl rfl (Nat.le_of_ble_eq_true rfl) dX3_pour_34 ⟨Nat.le_of_ble_eq_true rfl, Nat.le_of_ble_eq_true rfl⟩ (fun r6 H locs L7 F7 hP hD hS hz7 hp7 => ?_)
    obtain ⟨eL, er, hRn, hfr1⟩ := hp7
    subst eL
    subst er
    have hO := hO.tr (OEf hC (hW.1 xb) hfr1)
    have hC := CP_row hC (hW.1 xb) hRn hfr1
    refine W.widen (k := 8) (n := 60) (Nat.le_of_ble_eq_true rfl) (Nat.le_of_ble_eq_true rfl) ?_
    exact vx_ret (q_retMi C0 hret rfl hlk dX3_pour_37 hP hD hS (⟨by first | trivial | omega, by first | trivial | omega, (by unfold kR_pour; (repeat' split) <;> first | rfl | (exfalso; omega)), O, G, CP_eq hC (by unfold kS_pour; (repeat' split) <;> first | rfl | (exfalso; omega)), rfl, Ext0 hO⟩))
  · refine lv_aload_n hx hb dX3_pour_18 rfl (lv_at hl 2 rfl) ?_
    refine q_vMi C0 lX3_63 (c_X3_refuse l D y L F _ O G σ hC) ⟨rfl, rfl⟩ rfl hP hD hS hA hC.1.1 hC.1.2 rfl rfl rfl hl rfl (Nat.le_of_ble_eq_true rfl) dX3_pour_19 ⟨Nat.le_of_ble_eq_true rfl, Nat.le_of_ble_eq_true rfl⟩ (fun r8 H locs L9 F9 hP hD hS hz9 hp9 => ?_)
    obtain ⟨eL, hC, er, hO1⟩ := hp9
    subst eL
    subst er
    have hO := hO.tr hO1
    refine W.widen (k := 8) (n := 60) (Nat.le_of_ble_eq_true rfl) (Nat.le_of_ble_eq_true rfl) ?_
    exact vx_ret (q_retMi C0 hret rfl hlk dX3_pour_22 hP hD hS (⟨by first | trivial | omega, by first | trivial | omega, (by unfold kR_pour; (repeat' split) <;> first | rfl | (exfalso; omega)), O, G, CP_eq hC (by unfold kS_pour; (repeat' split) <;> first | rfl | (exfalso; omega)), rfl, Ext0 hO⟩))
set_option maxHeartbeats 800000 in
set_option maxRecDepth 100000 in
theorem c_X3_keep (l : Launch) (hfl : l.stackTraces = false) (D : va_G) (y : Nat → ClassId) (L : List Nat) (F : Nat → va_E) (sz : Nat) (O : Nat → Prop) (G : CG) (σ : CS) (xb : Int) (xc : Int) (xw : Int) (hC : CP y L F O G σ) (hW : CW σ) (h_xb : -2147483648 ≤ xb ∧ xb ≤ 2147483647) (h_xc : -2147483648 ≤ xc ∧ xc ≤ 2147483647) (h_xw : 0 ≤ xw ∧ xw ≤ 1) : vx_Met l yX3_keep (.code yX3_keep cX3_keep 6 (some .int) :: Tt) ({ frames := 7, cells := 8, slots := 60, locals := 103 }) (PcX D y L F sz [.ref ((gbg G)), .int (iI xb), .int (iI xc), .int (iI xw)]) (cMi D (AL L sz) (fun r L1 F1 => ((0 ≤ xb ∧ xb ≤ 3) ∧ (0 ≤ xc ∧ xc ≤ 3)) ∧ (True) ∧ r = kR_keep σ xb xc xw ∧ ∃ O1 G1, CP y L1 F1 O1 G1 (kS_keep σ xb xc xw) ∧ gbg G1 = gbg G ∧ Ext O O1 L L1 F F1)) (XC (pX ((0 ≤ xb ∧ xb ≤ 3) ∧ (0 ≤ xc ∧ xc ≤ 3)) (True))) 8 60 (AL L sz) := by
  have hO : OE O F F := fun _ _ => rfl
  have hw4 := hW.2.2.2.2.2.1
  have hw5 := hW.2.2.2.2.2.2.1
  have hw6 := hW.2.2.2.2.2.2.2.2.2.2
  refine q_ofX (lv := [(0, .ref ((gbg G))), (1, .int (iI xb)), (2, .int (iI xc)), (3, .int (iI xw))]) (by decide) (Nat.le_of_ble_eq_true rfl) rfl (fun p e s m below meth c C0 hret hlk hout hsz hA hP hD hS hX ls hl => ?_)
  subst hsz
  have hx := C0.1.1
  have hb := C0.1.2.1
  have hts := C0.1.2.2.2.2
  refine lv_aload_n hx hb dX3_keep_0 rfl (lv_at hl 0 rfl) ?_
  refine lv_iload_n hx hb dX3_keep_1 rfl (lv_at hl 1 rfl) ?_
  refine q_vXa C0 lX3_37 (c_X3_bookAt l hfl D y L F _ O G σ xb hC (by omega)) ⟨rfl, rfl⟩ rfl hP hD hX hout hlk hC.1.1 hC.1.2 rfl rfl rfl hl rfl (Nat.le_of_ble_eq_true rfl) dX3_keep_2 ⟨Nat.le_of_ble_eq_true rfl, Nat.le_of_ble_eq_true rfl⟩ ⟨Nat.le_of_ble_eq_true rfl, Nat.le_of_ble_eq_true rfl⟩ (fun E h => Or.inl ⟨h.1, fun q => h.2 (by omega)⟩) (fun r1 e_r1 => ?_)
  refine W.widen (k := 1) (n := 6) (Nat.le_of_ble_eq_true rfl) (Nat.le_of_ble_eq_true rfl) ?_
  obtain ⟨hb_r1, e_r1⟩ := e_r1
  subst e_r1
  refine lv_astore (lv' := [(4, .ref ((grh G (zbk σ xb)))), (0, .ref ((gbg G))), (1, .int (iI xb)), (2, .int (iI xc)), (3, .int (iI xw))]) hx hb dX3_keep_5 hl (by decide) rfl (fun ls hl => ?_)
  refine lv_aload_n hx hb dX3_keep_7 rfl (lv_at hl 1 rfl) ?_
  refine lv_iload_n hx hb dX3_keep_8 rfl (lv_at hl 3 rfl) ?_
  refine q_vXa C0 lX3_37 (c_X3_bookAt l hfl D y L F _ O G σ xc hC (by omega)) ⟨rfl, rfl⟩ rfl hP hD hX hout hlk hC.1.1 hC.1.2 rfl rfl rfl hl rfl (Nat.le_of_ble_eq_true rfl) dX3_keep_9 ⟨Nat.le_of_ble_eq_true rfl, Nat.le_of_ble_eq_true rfl⟩ ⟨Nat.le_of_ble_eq_true rfl, Nat.le_of_ble_eq_true rfl⟩ (fun E h => Or.inl ⟨h.1, fun q => h.2 (by omega)⟩) (fun r2 e_r2 => ?_)
  refine W.widen (k := 2) (n := 12) (Nat.le_of_ble_eq_true rfl) (Nat.le_of_ble_eq_true rfl) ?_
  obtain ⟨hb_r2, e_r2⟩ := e_r2
  subst e_r2
  refine lv_astore (lv' := [(5, .ref ((grh G (zbk σ xc)))), (4, .ref ((grh G (zbk σ xb)))), (0, .ref ((gbg G))), (1, .int (iI xb)), (2, .int (iI xc)), (3, .int (iI xw))]) hx hb dX3_keep_12 hl (by decide) rfl (fun ls hl => ?_)
  refine lv_iload_n hx hb dX3_keep_14 rfl (lv_at hl 3 rfl) ?_
  refine lv_iload_n hx hb dX3_keep_15 rfl (lv_at hl 4 rfl) ?_
  refine q_icmp_ne hx hb dX3_keep_16 (tgt := 24) (by decide) (by omega) (by omega) (fun c3 => ?_) (fun c3 => ?_)
  · refine lv_aload_n hx hb dX3_keep_24 rfl (lv_at hl 2 rfl) ?_
    refine lv_aload hx hb dX3_keep_25 (lv_at hl 1 rfl) ?_
    refine q_vMv C0 lX3_67 (c_X3_write l D y L F _ O G σ (zbk σ xb) hC (hW.1 xb) hW.2.2.2.1) ⟨rfl, rfl⟩ rfl hP hD hS hA hC.1.1 hC.1.2 rfl rfl rfl hl rfl (Nat.le_of_ble_eq_true rfl) dX3_keep_27 ⟨Nat.le_of_ble_eq_true rfl, Nat.le_of_ble_eq_true rfl⟩ (fun _ H locs L5 F5 hP hD hS hz5 hp5 => ?_)
    obtain ⟨eL, hC, er, hO1⟩ := hp5
    subst eL
    have hO := hO.tr hO1
    refine lv_aload hx hb dX3_keep_30 (lv_at hl 1 rfl) ?_
    refine lv_aload hx hb dX3_keep_32 (lv_at hl 0 rfl) ?_
    refine lv_iload_n hx hb dX3_keep_34 rfl (lv_at hl 5 rfl) ?_
    refine q_vMi C0 lX3_100 (c_X0_retain l D y L F5 _ (grh G (zbk σ xb)) (grw G (zbk σ xb)) (zod σ (zbk σ xb)) (zst σ (zbk σ xb)) (grh G (zbk σ xc)) (grw G (zbk σ xc)) (zod σ (zbk σ xc)) ((zst σ (zbk σ xc)).1) ((zst σ (zbk σ xc)).2.1) ((zst σ (zbk σ xc)).2.2) xw (CP_r hC (hW.1 xb)) (CP_r hC (hW.1 xc)) (fun e => absurd (hW.2.2.2.2.2.2.2.1 xc xb (by omega) (by omega) (by omega) (by omega) (CP_ri hC (hW.1 xc) (hW.1 xb) e)) (by omega)) (fun e => absurd (hW.2.2.2.2.2.2.2.1 xc xb (by omega) (by omega) (by omega) (by omega) (CP_wi hC (hW.1 xc) (hW.1 xb) e)) (by omega)) (by omega)) ⟨rfl, rfl⟩ rfl hP hD hS hA (CP_r hC (hW.1 xb)).1 (CP_r hC (hW.1 xb)).2.1 rfl rfl rfl hl rfl (Nat.le_of_ble_eq_true rfl) dX3_keep_35 ⟨Nat.le_of_ble_eq_true rfl, Nat.le_of_ble_eq_true rfl⟩ (fun r6 H locs L7 F7 hP hD hS hz7 hp7 => ?_)
    obtain ⟨eL, er, hRn, hfr1⟩ := hp7
    subst eL
    subst er
    have hO := hO.tr (OEf hC (hW.1 xb) hfr1)
    have hC := CP_row hC (hW.1 xb) hRn hfr1
    refine W.widen (k := 8) (n := 60) (Nat.le_of_ble_eq_true rfl) (Nat.le_of_ble_eq_true rfl) ?_
    exact vx_ret (q_retMi C0 hret rfl hlk dX3_keep_38 hP hD hS (⟨by first | trivial | omega, by first | trivial | omega, (by unfold kR_keep; (repeat' split) <;> first | rfl | (exfalso; omega)), O, G, CP_eq hC (by unfold kS_keep; (repeat' split) <;> first | rfl | (exfalso; omega)), rfl, Ext0 hO⟩))
  · refine lv_aload_n hx hb dX3_keep_19 rfl (lv_at hl 2 rfl) ?_
    refine q_vMi C0 lX3_63 (c_X3_refuse l D y L F _ O G σ hC) ⟨rfl, rfl⟩ rfl hP hD hS hA hC.1.1 hC.1.2 rfl rfl rfl hl rfl (Nat.le_of_ble_eq_true rfl) dX3_keep_20 ⟨Nat.le_of_ble_eq_true rfl, Nat.le_of_ble_eq_true rfl⟩ (fun r8 H locs L9 F9 hP hD hS hz9 hp9 => ?_)
    obtain ⟨eL, hC, er, hO1⟩ := hp9
    subst eL
    subst er
    have hO := hO.tr hO1
    refine W.widen (k := 8) (n := 60) (Nat.le_of_ble_eq_true rfl) (Nat.le_of_ble_eq_true rfl) ?_
    exact vx_ret (q_retMi C0 hret rfl hlk dX3_keep_23 hP hD hS (⟨by first | trivial | omega, by first | trivial | omega, (by unfold kR_keep; (repeat' split) <;> first | rfl | (exfalso; omega)), O, G, CP_eq hC (by unfold kS_keep; (repeat' split) <;> first | rfl | (exfalso; omega)), rfl, Ext0 hO⟩))
set_option maxHeartbeats 800000 in
set_option maxRecDepth 100000 in
theorem c_X3_put (l : Launch) (hfl : l.stackTraces = false) (D : va_G) (y : Nat → ClassId) (L : List Nat) (F : Nat → va_E) (sz : Nat) (O : Nat → Prop) (G : CG) (σ : CS) (xb : Int) (xk : Int) (xw : Int) (xt : Int) (hC : CP y L F O G σ) (hW : CW σ) (h_xb : -2147483648 ≤ xb ∧ xb ≤ 2147483647) (h_xk : -2147483648 ≤ xk ∧ xk ≤ 2147483647) (h_xw : -2147483648 ≤ xw ∧ xw ≤ 2147483647) (h_xt : -2147483648 ≤ xt ∧ xt ≤ 2147483647) : vx_Met l yX3_put (.code yX3_put cX3_put 9 (some .int) :: Tt) ({ frames := 7, cells := 8, slots := 60, locals := 103 }) (PcX D y L F sz [.ref ((gbg G)), .int (iI xb), .int (iI xk), .int (iI xw), .int (iI xt)]) (cMi D (AL L sz) (fun r L1 F1 => ((0 ≤ xb ∧ xb ≤ 3)) ∧ ((0 ≤ xk ∧ xk ≤ 99) ∧ (0 ≤ xw ∧ xw ≤ 99) ∧ (0 ≤ xt ∧ xt ≤ 2)) ∧ r = kR_put σ xb xk xw xt ∧ ∃ O1 G1, CP y L1 F1 O1 G1 (kS_put σ xb xk xw xt) ∧ gbg G1 = gbg G ∧ Ext O O1 L L1 F F1)) (XC (pX ((0 ≤ xb ∧ xb ≤ 3)) ((0 ≤ xk ∧ xk ≤ 99) ∧ (0 ≤ xw ∧ xw ≤ 99) ∧ (0 ≤ xt ∧ xt ≤ 2)))) 8 60 (AL L sz) := by
  have hO : OE O F F := fun _ _ => rfl
  have hw4 := hW.2.2.2.2.2.1
  have hw5 := hW.2.2.2.2.2.2.1
  have hw6 := hW.2.2.2.2.2.2.2.2.2.2
  refine q_ofX (lv := [(0, .ref ((gbg G))), (1, .int (iI xb)), (2, .int (iI xk)), (3, .int (iI xw)), (4, .int (iI xt))]) (by decide) (Nat.le_of_ble_eq_true rfl) rfl (fun p e s m below meth c C0 hret hlk hout hsz hA hP hD hS hX ls hl => ?_)
  subst hsz
  have hx := C0.1.1
  have hb := C0.1.2.1
  have hts := C0.1.2.2.2.2
  refine lv_aload_n hx hb dX3_put_0 rfl (lv_at hl 0 rfl) ?_
  refine lv_iload_n hx hb dX3_put_1 rfl (lv_at hl 1 rfl) ?_
  refine q_vXa C0 lX3_37 (c_X3_bookAt l hfl D y L F _ O G σ xb hC (by omega)) ⟨rfl, rfl⟩ rfl hP hD hX hout hlk hC.1.1 hC.1.2 rfl rfl rfl hl rfl (Nat.le_of_ble_eq_true rfl) dX3_put_2 ⟨Nat.le_of_ble_eq_true rfl, Nat.le_of_ble_eq_true rfl⟩ ⟨Nat.le_of_ble_eq_true rfl, Nat.le_of_ble_eq_true rfl⟩ (fun E h => Or.inl ⟨h.1, fun q => h.2 (by omega)⟩) (fun r1 e_r1 => ?_)
  refine W.widen (k := 1) (n := 6) (Nat.le_of_ble_eq_true rfl) (Nat.le_of_ble_eq_true rfl) ?_
  obtain ⟨hb_r1, e_r1⟩ := e_r1
  subst e_r1
  refine lv_astore (lv' := [(5, .ref ((grh G (zbk σ xb)))), (0, .ref ((gbg G))), (1, .int (iI xb)), (2, .int (iI xk)), (3, .int (iI xw)), (4, .int (iI xt))]) hx hb dX3_put_5 hl (by decide) rfl (fun ls hl => ?_)
  refine lv_iload_n hx hb dX3_put_7 rfl (lv_at hl 3 rfl) ?_
  refine q_sXv C0 lX3_60 (c_X3_checkKey l hfl D y L F _ xk (by omega)) ⟨rfl, rfl⟩ rfl hP hD hX hout hlk rfl hl rfl (Nat.le_of_ble_eq_true rfl) dX3_put_8 ⟨Nat.le_of_ble_eq_true rfl, Nat.le_of_ble_eq_true rfl⟩ ⟨Nat.le_of_ble_eq_true rfl, Nat.le_of_ble_eq_true rfl⟩ (fun E h => Or.inr ⟨h.1, by first | trivial | omega, fun q => h.2 (by omega)⟩) (fun _ e_r2 => ?_)
  refine W.widen (k := 2) (n := 12) (Nat.le_of_ble_eq_true rfl) (Nat.le_of_ble_eq_true rfl) ?_
  refine lv_iload_n hx hb dX3_put_11 rfl (lv_at hl 4 rfl) ?_
  refine q_sXv C0 lX3_104 (c_X3_checkWorth l hfl D y L F _ xw (by omega)) ⟨rfl, rfl⟩ rfl hP hD hX hout hlk rfl hl rfl (Nat.le_of_ble_eq_true rfl) dX3_put_12 ⟨Nat.le_of_ble_eq_true rfl, Nat.le_of_ble_eq_true rfl⟩ ⟨Nat.le_of_ble_eq_true rfl, Nat.le_of_ble_eq_true rfl⟩ (fun E h => Or.inr ⟨h.1, by first | trivial | omega, fun q => h.2 (by omega)⟩) (fun _ e_r3 => ?_)
  refine W.widen (k := 3) (n := 18) (Nat.le_of_ble_eq_true rfl) (Nat.le_of_ble_eq_true rfl) ?_
  refine lv_iload hx hb dX3_put_15 (lv_at hl 5 rfl) ?_
  refine q_iconst hx hb dX3_put_17 ?_
  refine q_sXv C0 lX3_41 (c_X3_checkUpTo l hfl D y L F _ xt 2 (by omega) (by omega)) ⟨rfl, rfl⟩ rfl hP hD hX hout hlk rfl hl rfl (Nat.le_of_ble_eq_true rfl) dX3_put_18 ⟨Nat.le_of_ble_eq_true rfl, Nat.le_of_ble_eq_true rfl⟩ ⟨Nat.le_of_ble_eq_true rfl, Nat.le_of_ble_eq_true rfl⟩ (fun E h => Or.inr ⟨h.1, by first | trivial | omega, fun q => h.2 (by omega)⟩) (fun _ e_r4 => ?_)
  refine W.widen (k := 4) (n := 24) (Nat.le_of_ble_eq_true rfl) (Nat.le_of_ble_eq_true rfl) ?_
  refine lv_aload_n hx hb dX3_put_21 rfl (lv_at hl 1 rfl) ?_
  refine lv_aload hx hb dX3_put_22 (lv_at hl 0 rfl) ?_
  refine q_vMv C0 lX3_67 (c_X3_write l D y L F _ O G σ (zbk σ xb) hC (hW.1 xb) hW.2.2.2.1) ⟨rfl, rfl⟩ rfl hP hD hS hA hC.1.1 hC.1.2 rfl rfl rfl hl rfl (Nat.le_of_ble_eq_true rfl) dX3_put_24 ⟨Nat.le_of_ble_eq_true rfl, Nat.le_of_ble_eq_true rfl⟩ (fun _ H locs L6 F6 hP hD hS hz6 hp6 => ?_)
  obtain ⟨eL, hC, er, hO1⟩ := hp6
  subst eL
  have hO := hO.tr hO1
  refine lv_aload hx hb dX3_put_27 (lv_at hl 0 rfl) ?_
  refine lv_iload_n hx hb dX3_put_29 rfl (lv_at hl 3 rfl) ?_
  refine q_vS C0 lX3_70 (c_X0_rankOf l D y L F6 (grh G (zbk σ xb)) (grw G (zbk σ xb)) (zod σ (zbk σ xb)) ((zst σ (zbk σ xb)).1) ((zst σ (zbk σ xb)).2.1) ((zst σ (zbk σ xb)).2.2) xk (CP_r hC (hW.1 xb)) (by omega)) ⟨rfl, rfl⟩ rfl hP (CP_r hC (hW.1 xb)).1 (CP_r hC (hW.1 xb)).2.1 rfl rfl rfl hl rfl (Nat.le_of_ble_eq_true rfl) dX3_put_30 ⟨Nat.le_of_ble_eq_true rfl, Nat.le_of_ble_eq_true rfl⟩ (fun r7 e_r7 => ?_)
  subst e_r7
  have b_8 := @turn_b (zod σ (zbk σ xb)) xk (by omega)
  refine lv_istore (lv' := [(6, .int (iI ((turn (zod σ (zbk σ xb)) xk)))), (5, .ref ((grh G (zbk σ xb)))), (0, .ref ((gbg G))), (1, .int (iI xb)), (2, .int (iI xk)), (3, .int (iI xw)), (4, .int (iI xt))]) hx hb dX3_put_33 hl (by decide) rfl (fun ls hl => ?_)
  refine lv_aload hx hb dX3_put_35 (lv_at hl 1 rfl) ?_
  refine lv_iload hx hb dX3_put_37 (lv_at hl 0 rfl) ?_
  refine q_vS C0 lX3_107 (c_X0_worthAt l D y L F6 (grh G (zbk σ xb)) (grw G (zbk σ xb)) (zod σ (zbk σ xb)) ((zst σ (zbk σ xb)).1) ((zst σ (zbk σ xb)).2.1) ((zst σ (zbk σ xb)).2.2) (turn (zod σ (zbk σ xb)) xk) (CP_r hC (hW.1 xb)) (by omega)) ⟨rfl, rfl⟩ rfl hP (CP_r hC (hW.1 xb)).1 (CP_r hC (hW.1 xb)).2.1 rfl rfl rfl hl rfl (Nat.le_of_ble_eq_true rfl) dX3_put_39 ⟨Nat.le_of_ble_eq_true rfl, Nat.le_of_ble_eq_true rfl⟩ (fun r9 e_r9 => ?_)
  subst e_r9
  have b_10 := @wAt_b ((zst σ (zbk σ xb)).2.2) ((CP_r hC (hW.1 xb)).2.2.2.2.2) (turn (zod σ (zbk σ xb)) xk)
  refine lv_istore (lv' := [(7, .int (iI ((wAt ((zst σ (zbk σ xb)).2.2) (turn (zod σ (zbk σ xb)) xk))))), (6, .int (iI ((turn (zod σ (zbk σ xb)) xk)))), (5, .ref ((grh G (zbk σ xb)))), (0, .ref ((gbg G))), (1, .int (iI xb)), (2, .int (iI xk)), (3, .int (iI xw)), (4, .int (iI xt))]) hx hb dX3_put_42 hl (by decide) rfl (fun ls hl => ?_)
  refine lv_iload hx hb dX3_put_44 (lv_at hl 0 rfl) ?_
  refine q_iconst hx hb dX3_put_46 ?_
  refine q_icmp_eq hx hb dX3_put_47 (tgt := 54) (by decide) (by omega) (by omega) (fun c11 => ?_) (fun c11 => ?_)
  · refine q_iconst hx hb dX3_put_54 ?_
    refine lv_istore (lv' := [(8, .int (iI 0)), (7, .int (iI ((wAt ((zst σ (zbk σ xb)).2.2) (turn (zod σ (zbk σ xb)) xk))))), (6, .int (iI ((turn (zod σ (zbk σ xb)) xk)))), (5, .ref ((grh G (zbk σ xb)))), (0, .ref ((gbg G))), (1, .int (iI xb)), (2, .int (iI xk)), (3, .int (iI xw)), (4, .int (iI xt))]) hx hb dX3_put_55 hl (by decide) rfl (fun ls hl => ?_)
    refine lv_iload hx hb dX3_put_57 (lv_at hl 8 rfl) ?_
    refine q_if_eq hx hb dX3_put_59 (tgt := 84) (by decide) (by omega) (fun c12 => ?_) (fun c12 => ?_)
    · refine lv_aload hx hb dX3_put_84 (lv_at hl 3 rfl) ?_
      refine lv_iload hx hb dX3_put_86 (lv_at hl 2 rfl) ?_
      refine lv_iload_n hx hb dX3_put_88 rfl (lv_at hl 7 rfl) ?_
      refine q_vMi C0 lX3_110 (c_X0_come l D y L F6 _ (grh G (zbk σ xb)) (grw G (zbk σ xb)) (zod σ (zbk σ xb)) (zst σ (zbk σ xb)) (turn (zod σ (zbk σ xb)) xk) xw (CP_r hC (hW.1 xb)) (by omega) (by omega)) ⟨rfl, rfl⟩ rfl hP hD hS hA (CP_r hC (hW.1 xb)).1 (CP_r hC (hW.1 xb)).2.1 rfl rfl rfl hl rfl (Nat.le_of_ble_eq_true rfl) dX3_put_89 ⟨Nat.le_of_ble_eq_true rfl, Nat.le_of_ble_eq_true rfl⟩ (fun r13 H locs L14 F14 hP hD hS hz14 hp14 => ?_)
      obtain ⟨eL, er, hRn, hfr1⟩ := hp14
      subst eL
      subst er
      have hO := hO.tr (OEf hC (hW.1 xb) hfr1)
      have hC := CP_row hC (hW.1 xb) hRn hfr1
      refine lv_pop hx hb dX3_put_92 rfl ?_
      refine lv_iload hx hb dX3_put_93 (lv_at hl 1 rfl) ?_
      refine W.widen (k := 8) (n := 60) (Nat.le_of_ble_eq_true rfl) (Nat.le_of_ble_eq_true rfl) ?_
      exact vx_ret (q_retMi C0 hret rfl hlk dX3_put_95 hP hD hS (⟨by first | trivial | omega, by first | trivial | omega, (by unfold kR_put; (repeat' split) <;> first | rfl | (exfalso; omega)), O, G, CP_eq hC (by unfold kS_put; (repeat' split) <;> first | rfl | (exfalso; omega)), rfl, Ext0 hO⟩))
    · refine lv_iload hx hb dX3_put_62 (lv_at hl 8 rfl) ?_
      refine q_iconst hx hb dX3_put_64 ?_
      refine q_icmp_ne hx hb dX3_put_65 (tgt := 73) (by decide) (by omega) (by omega) (fun c15 => ?_) (fun c15 => ?_)
      · refine lv_iload hx hb dX3_put_73 (lv_at hl 8 rfl) ?_
        refine q_iconst hx hb dX3_put_75 ?_
        refine q_icmp_ne hx hb dX3_put_76 (tgt := 93) (by decide) (by omega) (by omega) (fun c16 => ?_) (fun c16 => ?_)
        · refine lv_iload hx hb dX3_put_93 (lv_at hl 1 rfl) ?_
          refine W.widen (k := 8) (n := 60) (Nat.le_of_ble_eq_true rfl) (Nat.le_of_ble_eq_true rfl) ?_
          exact vx_ret (q_retMi C0 hret rfl hlk dX3_put_95 hP hD hS (⟨by first | trivial | omega, by first | trivial | omega, (by unfold kR_put; (repeat' split) <;> first | rfl | (exfalso; omega)), O, G, CP_eq hC (by unfold kS_put; (repeat' split) <;> first | rfl | (exfalso; omega)), rfl, Ext0 hO⟩))
        · refine lv_iload hx hb dX3_put_79 (lv_at hl 0 rfl) ?_
          refine q_if_eq hx hb dX3_put_81 (tgt := 93) (by decide) (by omega) (fun c17 => ?_) (fun c17 => absurd c17 (by omega))
          refine lv_iload hx hb dX3_put_93 (lv_at hl 1 rfl) ?_
          refine W.widen (k := 8) (n := 60) (Nat.le_of_ble_eq_true rfl) (Nat.le_of_ble_eq_true rfl) ?_
          exact vx_ret (q_retMi C0 hret rfl hlk dX3_put_95 hP hD hS (⟨by first | trivial | omega, by first | trivial | omega, (by unfold kR_put; (repeat' split) <;> first | rfl | (exfalso; omega)), O, G, CP_eq hC (by unfold kS_put; (repeat' split) <;> first | rfl | (exfalso; omega)), rfl, Ext0 hO⟩))
      · refine lv_iload hx hb dX3_put_68 (lv_at hl 0 rfl) ?_
        refine q_if_eq hx hb dX3_put_70 (tgt := 84) (by decide) (by omega) (fun c18 => ?_) (fun c18 => absurd c18 (by omega))
        refine lv_aload hx hb dX3_put_84 (lv_at hl 3 rfl) ?_
        refine lv_iload hx hb dX3_put_86 (lv_at hl 2 rfl) ?_
        refine lv_iload_n hx hb dX3_put_88 rfl (lv_at hl 7 rfl) ?_
        refine q_vMi C0 lX3_110 (c_X0_come l D y L F6 _ (grh G (zbk σ xb)) (grw G (zbk σ xb)) (zod σ (zbk σ xb)) (zst σ (zbk σ xb)) (turn (zod σ (zbk σ xb)) xk) xw (CP_r hC (hW.1 xb)) (by omega) (by omega)) ⟨rfl, rfl⟩ rfl hP hD hS hA (CP_r hC (hW.1 xb)).1 (CP_r hC (hW.1 xb)).2.1 rfl rfl rfl hl rfl (Nat.le_of_ble_eq_true rfl) dX3_put_89 ⟨Nat.le_of_ble_eq_true rfl, Nat.le_of_ble_eq_true rfl⟩ (fun r19 H locs L20 F20 hP hD hS hz20 hp20 => ?_)
        obtain ⟨eL, er, hRn, hfr1⟩ := hp20
        subst eL
        subst er
        have hO := hO.tr (OEf hC (hW.1 xb) hfr1)
        have hC := CP_row hC (hW.1 xb) hRn hfr1
        refine lv_pop hx hb dX3_put_92 rfl ?_
        refine lv_iload hx hb dX3_put_93 (lv_at hl 1 rfl) ?_
        refine W.widen (k := 8) (n := 60) (Nat.le_of_ble_eq_true rfl) (Nat.le_of_ble_eq_true rfl) ?_
        exact vx_ret (q_retMi C0 hret rfl hlk dX3_put_95 hP hD hS (⟨by first | trivial | omega, by first | trivial | omega, (by unfold kR_put; (repeat' split) <;> first | rfl | (exfalso; omega)), O, G, CP_eq hC (by unfold kS_put; (repeat' split) <;> first | rfl | (exfalso; omega)), rfl, Ext0 hO⟩))
  · refine q_iconst hx hb dX3_put_50 ?_
    refine lv_goto (tgt := 55) hx hb dX3_put_51 (by decide) ?_
    refine lv_istore (lv' := [(8, .int (iI 1)), (7, .int (iI ((wAt ((zst σ (zbk σ xb)).2.2) (turn (zod σ (zbk σ xb)) xk))))), (6, .int (iI ((turn (zod σ (zbk σ xb)) xk)))), (5, .ref ((grh G (zbk σ xb)))), (0, .ref ((gbg G))), (1, .int (iI xb)), (2, .int (iI xk)), (3, .int (iI xw)), (4, .int (iI xt))]) hx hb dX3_put_55 hl (by decide) rfl (fun ls hl => ?_)
    refine lv_iload hx hb dX3_put_57 (lv_at hl 8 rfl) ?_
    refine q_if_eq hx hb dX3_put_59 (tgt := 84) (by decide) (by omega) (fun c21 => ?_) (fun c21 => ?_)
    · refine lv_aload hx hb dX3_put_84 (lv_at hl 3 rfl) ?_
      refine lv_iload hx hb dX3_put_86 (lv_at hl 2 rfl) ?_
      refine lv_iload_n hx hb dX3_put_88 rfl (lv_at hl 7 rfl) ?_
      refine q_vMi C0 lX3_110 (c_X0_come l D y L F6 _ (grh G (zbk σ xb)) (grw G (zbk σ xb)) (zod σ (zbk σ xb)) (zst σ (zbk σ xb)) (turn (zod σ (zbk σ xb)) xk) xw (CP_r hC (hW.1 xb)) (by omega) (by omega)) ⟨rfl, rfl⟩ rfl hP hD hS hA (CP_r hC (hW.1 xb)).1 (CP_r hC (hW.1 xb)).2.1 rfl rfl rfl hl rfl (Nat.le_of_ble_eq_true rfl) dX3_put_89 ⟨Nat.le_of_ble_eq_true rfl, Nat.le_of_ble_eq_true rfl⟩ (fun r22 H locs L23 F23 hP hD hS hz23 hp23 => ?_)
      obtain ⟨eL, er, hRn, hfr1⟩ := hp23
      subst eL
      subst er
      have hO := hO.tr (OEf hC (hW.1 xb) hfr1)
      have hC := CP_row hC (hW.1 xb) hRn hfr1
      refine lv_pop hx hb dX3_put_92 rfl ?_
      refine lv_iload hx hb dX3_put_93 (lv_at hl 1 rfl) ?_
      refine W.widen (k := 8) (n := 60) (Nat.le_of_ble_eq_true rfl) (Nat.le_of_ble_eq_true rfl) ?_
      exact vx_ret (q_retMi C0 hret rfl hlk dX3_put_95 hP hD hS (⟨by first | trivial | omega, by first | trivial | omega, (by unfold kR_put; (repeat' split) <;> first | rfl | (exfalso; omega)), O, G, CP_eq hC (by unfold kS_put; (repeat' split) <;> first | rfl | (exfalso; omega)), rfl, Ext0 hO⟩))
    · refine lv_iload hx hb dX3_put_62 (lv_at hl 8 rfl) ?_
      refine q_iconst hx hb dX3_put_64 ?_
      refine q_icmp_ne hx hb dX3_put_65 (tgt := 73) (by decide) (by omega) (by omega) (fun c24 => ?_) (fun c24 => ?_)
      · refine lv_iload hx hb dX3_put_73 (lv_at hl 8 rfl) ?_
        refine q_iconst hx hb dX3_put_75 ?_
        refine q_icmp_ne hx hb dX3_put_76 (tgt := 93) (by decide) (by omega) (by omega) (fun c25 => ?_) (fun c25 => ?_)
        · refine lv_iload hx hb dX3_put_93 (lv_at hl 1 rfl) ?_
          refine W.widen (k := 8) (n := 60) (Nat.le_of_ble_eq_true rfl) (Nat.le_of_ble_eq_true rfl) ?_
          exact vx_ret (q_retMi C0 hret rfl hlk dX3_put_95 hP hD hS (⟨by first | trivial | omega, by first | trivial | omega, (by unfold kR_put; (repeat' split) <;> first | rfl | (exfalso; omega)), O, G, CP_eq hC (by unfold kS_put; (repeat' split) <;> first | rfl | (exfalso; omega)), rfl, Ext0 hO⟩))
        · refine lv_iload hx hb dX3_put_79 (lv_at hl 0 rfl) ?_
          refine q_if_eq hx hb dX3_put_81 (tgt := 93) (by decide) (by omega) (fun c26 => absurd c26 (by omega)) (fun c26 => ?_)
          refine lv_aload hx hb dX3_put_84 (lv_at hl 3 rfl) ?_
          refine lv_iload hx hb dX3_put_86 (lv_at hl 2 rfl) ?_
          refine lv_iload_n hx hb dX3_put_88 rfl (lv_at hl 7 rfl) ?_
          refine q_vMi C0 lX3_110 (c_X0_come l D y L F6 _ (grh G (zbk σ xb)) (grw G (zbk σ xb)) (zod σ (zbk σ xb)) (zst σ (zbk σ xb)) (turn (zod σ (zbk σ xb)) xk) xw (CP_r hC (hW.1 xb)) (by omega) (by omega)) ⟨rfl, rfl⟩ rfl hP hD hS hA (CP_r hC (hW.1 xb)).1 (CP_r hC (hW.1 xb)).2.1 rfl rfl rfl hl rfl (Nat.le_of_ble_eq_true rfl) dX3_put_89 ⟨Nat.le_of_ble_eq_true rfl, Nat.le_of_ble_eq_true rfl⟩ (fun r27 H locs L28 F28 hP hD hS hz28 hp28 => ?_)
          obtain ⟨eL, er, hRn, hfr1⟩ := hp28
          subst eL
          subst er
          have hO := hO.tr (OEf hC (hW.1 xb) hfr1)
          have hC := CP_row hC (hW.1 xb) hRn hfr1
          refine lv_pop hx hb dX3_put_92 rfl ?_
          refine lv_iload hx hb dX3_put_93 (lv_at hl 1 rfl) ?_
          refine W.widen (k := 8) (n := 60) (Nat.le_of_ble_eq_true rfl) (Nat.le_of_ble_eq_true rfl) ?_
          exact vx_ret (q_retMi C0 hret rfl hlk dX3_put_95 hP hD hS (⟨by first | trivial | omega, by first | trivial | omega, (by unfold kR_put; (repeat' split) <;> first | rfl | (exfalso; omega)), O, G, CP_eq hC (by unfold kS_put; (repeat' split) <;> first | rfl | (exfalso; omega)), rfl, Ext0 hO⟩))
      · refine lv_iload hx hb dX3_put_68 (lv_at hl 0 rfl) ?_
        refine q_if_eq hx hb dX3_put_70 (tgt := 84) (by decide) (by omega) (fun c29 => absurd c29 (by omega)) (fun c29 => ?_)
        refine lv_iload hx hb dX3_put_73 (lv_at hl 8 rfl) ?_
        refine q_iconst hx hb dX3_put_75 ?_
        refine q_icmp_ne hx hb dX3_put_76 (tgt := 93) (by decide) (by omega) (by omega) (fun c30 => ?_) (fun c30 => absurd c30 (by omega))
        refine lv_iload hx hb dX3_put_93 (lv_at hl 1 rfl) ?_
        refine W.widen (k := 8) (n := 60) (Nat.le_of_ble_eq_true rfl) (Nat.le_of_ble_eq_true rfl) ?_
        exact vx_ret (q_retMi C0 hret rfl hlk dX3_put_95 hP hD hS (⟨by first | trivial | omega, by first | trivial | omega, (by unfold kR_put; (repeat' split) <;> first | rfl | (exfalso; omega)), O, G, CP_eq hC (by unfold kS_put; (repeat' split) <;> first | rfl | (exfalso; omega)), rfl, Ext0 hO⟩))
set_option maxHeartbeats 800000 in
set_option maxRecDepth 100000 in
theorem c_X3_exchange (l : Launch) (hfl : l.stackTraces = false) (D : va_G) (y : Nat → ClassId) (L : List Nat) (F : Nat → va_E) (sz : Nat) (O : Nat → Prop) (G : CG) (σ : CS) (xb : Int) (xk : Int) (xo : Int) (xw : Int) (hC : CP y L F O G σ) (hW : CW σ) (h_xb : -2147483648 ≤ xb ∧ xb ≤ 2147483647) (h_xk : -2147483648 ≤ xk ∧ xk ≤ 2147483647) (h_xo : -2147483648 ≤ xo ∧ xo ≤ 2147483647) (h_xw : -2147483648 ≤ xw ∧ xw ≤ 2147483647) : vx_Met l yX3_exchange (.code yX3_exchange cX3_exchange 7 (some .int) :: Tt) ({ frames := 8, cells := 8, slots := 60, locals := 122 }) (PcX D y L F sz [.ref ((gbg G)), .int (iI xb), .int (iI xk), .int (iI xo), .int (iI xw)]) (cMi D (AL L sz) (fun r L1 F1 => ((0 ≤ xb ∧ xb ≤ 3)) ∧ ((0 ≤ xk ∧ xk ≤ 99) ∧ (0 ≤ xo ∧ xo ≤ 99) ∧ (-1 ≤ xw ∧ xw ≤ 99)) ∧ r = kR_exchange σ xb xk xo xw ∧ ∃ O1 G1, CP y L1 F1 O1 G1 (kS_exchange σ xb xk xo xw) ∧ gbg G1 = gbg G ∧ Ext O O1 L L1 F F1)) (XC (pX ((0 ≤ xb ∧ xb ≤ 3)) ((0 ≤ xk ∧ xk ≤ 99) ∧ (0 ≤ xo ∧ xo ≤ 99) ∧ (-1 ≤ xw ∧ xw ≤ 99)))) 8 60 (AL L sz) := by
  have hO : OE O F F := fun _ _ => rfl
  have hw4 := hW.2.2.2.2.2.1
  have hw5 := hW.2.2.2.2.2.2.1
  have hw6 := hW.2.2.2.2.2.2.2.2.2.2
  refine q_ofX (lv := [(0, .ref ((gbg G))), (1, .int (iI xb)), (2, .int (iI xk)), (3, .int (iI xo)), (4, .int (iI xw))]) (by decide) (Nat.le_of_ble_eq_true rfl) rfl (fun p e s m below meth c C0 hret hlk hout hsz hA hP hD hS hX ls hl => ?_)
  subst hsz
  have hx := C0.1.1
  have hb := C0.1.2.1
  have hts := C0.1.2.2.2.2
  refine lv_aload_n hx hb dX3_exchange_0 rfl (lv_at hl 0 rfl) ?_
  refine lv_iload_n hx hb dX3_exchange_1 rfl (lv_at hl 1 rfl) ?_
  refine q_vXa C0 lX3_37 (c_X3_bookAt l hfl D y L F _ O G σ xb hC (by omega)) ⟨rfl, rfl⟩ rfl hP hD hX hout hlk hC.1.1 hC.1.2 rfl rfl rfl hl rfl (Nat.le_of_ble_eq_true rfl) dX3_exchange_2 ⟨Nat.le_of_ble_eq_true rfl, Nat.le_of_ble_eq_true rfl⟩ ⟨Nat.le_of_ble_eq_true rfl, Nat.le_of_ble_eq_true rfl⟩ (fun E h => Or.inl ⟨h.1, fun q => h.2 (by omega)⟩) (fun r1 e_r1 => ?_)
  refine W.widen (k := 1) (n := 6) (Nat.le_of_ble_eq_true rfl) (Nat.le_of_ble_eq_true rfl) ?_
  obtain ⟨hb_r1, e_r1⟩ := e_r1
  subst e_r1
  refine lv_astore (lv' := [(5, .ref ((grh G (zbk σ xb)))), (0, .ref ((gbg G))), (1, .int (iI xb)), (2, .int (iI xk)), (3, .int (iI xo)), (4, .int (iI xw))]) hx hb dX3_exchange_5 hl (by decide) rfl (fun ls hl => ?_)
  refine lv_iload_n hx hb dX3_exchange_7 rfl (lv_at hl 3 rfl) ?_
  refine q_sXv C0 lX3_60 (c_X3_checkKey l hfl D y L F _ xk (by omega)) ⟨rfl, rfl⟩ rfl hP hD hX hout hlk rfl hl rfl (Nat.le_of_ble_eq_true rfl) dX3_exchange_8 ⟨Nat.le_of_ble_eq_true rfl, Nat.le_of_ble_eq_true rfl⟩ ⟨Nat.le_of_ble_eq_true rfl, Nat.le_of_ble_eq_true rfl⟩ (fun E h => Or.inr ⟨h.1, by first | trivial | omega, fun q => h.2 (by omega)⟩) (fun _ e_r2 => ?_)
  refine W.widen (k := 2) (n := 12) (Nat.le_of_ble_eq_true rfl) (Nat.le_of_ble_eq_true rfl) ?_
  refine lv_iload_n hx hb dX3_exchange_11 rfl (lv_at hl 4 rfl) ?_
  refine q_sXv C0 lX3_104 (c_X3_checkWorth l hfl D y L F _ xo (by omega)) ⟨rfl, rfl⟩ rfl hP hD hX hout hlk rfl hl rfl (Nat.le_of_ble_eq_true rfl) dX3_exchange_12 ⟨Nat.le_of_ble_eq_true rfl, Nat.le_of_ble_eq_true rfl⟩ ⟨Nat.le_of_ble_eq_true rfl, Nat.le_of_ble_eq_true rfl⟩ (fun E h => Or.inr ⟨h.1, by first | trivial | omega, fun q => h.2 (by omega)⟩) (fun _ e_r3 => ?_)
  refine W.widen (k := 3) (n := 18) (Nat.le_of_ble_eq_true rfl) (Nat.le_of_ble_eq_true rfl) ?_
  refine lv_iload hx hb dX3_exchange_15 (lv_at hl 5 rfl) ?_
  refine q_sXv C0 lX3_85 (c_X3_checkWorthOrNone l hfl D y L F _ xw (by omega)) ⟨rfl, rfl⟩ rfl hP hD hX hout hlk rfl hl rfl (Nat.le_of_ble_eq_true rfl) dX3_exchange_17 ⟨Nat.le_of_ble_eq_true rfl, Nat.le_of_ble_eq_true rfl⟩ ⟨Nat.le_of_ble_eq_true rfl, Nat.le_of_ble_eq_true rfl⟩ (fun E h => Or.inr ⟨h.1, by first | trivial | omega, fun q => h.2 (by omega)⟩) (fun _ e_r4 => ?_)
  refine W.widen (k := 4) (n := 24) (Nat.le_of_ble_eq_true rfl) (Nat.le_of_ble_eq_true rfl) ?_
  refine lv_aload_n hx hb dX3_exchange_20 rfl (lv_at hl 1 rfl) ?_
  refine lv_aload hx hb dX3_exchange_21 (lv_at hl 0 rfl) ?_
  refine q_vMv C0 lX3_67 (c_X3_write l D y L F _ O G σ (zbk σ xb) hC (hW.1 xb) hW.2.2.2.1) ⟨rfl, rfl⟩ rfl hP hD hS hA hC.1.1 hC.1.2 rfl rfl rfl hl rfl (Nat.le_of_ble_eq_true rfl) dX3_exchange_23 ⟨Nat.le_of_ble_eq_true rfl, Nat.le_of_ble_eq_true rfl⟩ (fun _ H locs L6 F6 hP hD hS hz6 hp6 => ?_)
  obtain ⟨eL, hC, er, hO1⟩ := hp6
  subst eL
  have hO := hO.tr hO1
  refine lv_aload hx hb dX3_exchange_26 (lv_at hl 0 rfl) ?_
  refine lv_iload_n hx hb dX3_exchange_28 rfl (lv_at hl 3 rfl) ?_
  refine q_vS C0 lX3_70 (c_X0_rankOf l D y L F6 (grh G (zbk σ xb)) (grw G (zbk σ xb)) (zod σ (zbk σ xb)) ((zst σ (zbk σ xb)).1) ((zst σ (zbk σ xb)).2.1) ((zst σ (zbk σ xb)).2.2) xk (CP_r hC (hW.1 xb)) (by omega)) ⟨rfl, rfl⟩ rfl hP (CP_r hC (hW.1 xb)).1 (CP_r hC (hW.1 xb)).2.1 rfl rfl rfl hl rfl (Nat.le_of_ble_eq_true rfl) dX3_exchange_29 ⟨Nat.le_of_ble_eq_true rfl, Nat.le_of_ble_eq_true rfl⟩ (fun r7 e_r7 => ?_)
  subst e_r7
  have b_8 := @turn_b (zod σ (zbk σ xb)) xk (by omega)
  refine lv_istore (lv' := [(6, .int (iI ((turn (zod σ (zbk σ xb)) xk)))), (5, .ref ((grh G (zbk σ xb)))), (0, .ref ((gbg G))), (1, .int (iI xb)), (2, .int (iI xk)), (3, .int (iI xo)), (4, .int (iI xw))]) hx hb dX3_exchange_32 hl (by decide) rfl (fun ls hl => ?_)
  refine lv_aload hx hb dX3_exchange_34 (lv_at hl 1 rfl) ?_
  refine lv_iload hx hb dX3_exchange_36 (lv_at hl 0 rfl) ?_
  refine q_vS C0 lX3_107 (c_X0_worthAt l D y L F6 (grh G (zbk σ xb)) (grw G (zbk σ xb)) (zod σ (zbk σ xb)) ((zst σ (zbk σ xb)).1) ((zst σ (zbk σ xb)).2.1) ((zst σ (zbk σ xb)).2.2) (turn (zod σ (zbk σ xb)) xk) (CP_r hC (hW.1 xb)) (by omega)) ⟨rfl, rfl⟩ rfl hP (CP_r hC (hW.1 xb)).1 (CP_r hC (hW.1 xb)).2.1 rfl rfl rfl hl rfl (Nat.le_of_ble_eq_true rfl) dX3_exchange_38 ⟨Nat.le_of_ble_eq_true rfl, Nat.le_of_ble_eq_true rfl⟩ (fun r9 e_r9 => ?_)
  subst e_r9
  have b_10 := @wAt_b ((zst σ (zbk σ xb)).2.2) ((CP_r hC (hW.1 xb)).2.2.2.2.2) (turn (zod σ (zbk σ xb)) xk)
  refine lv_iload_n hx hb dX3_exchange_41 rfl (lv_at hl 5 rfl) ?_
  refine q_icmp_eq hx hb dX3_exchange_42 (tgt := 47) (by decide) (by omega) (by omega) (fun c11 => ?_) (fun c11 => ?_)
  · refine lv_iload hx hb dX3_exchange_47 (lv_at hl 6 rfl) ?_
    refine q_iconst hx hb dX3_exchange_49 ?_
    refine q_icmp_ne hx hb dX3_exchange_50 (tgt := 64) (by decide) (by omega) (by omega) (fun c12 => ?_) (fun c12 => ?_)
    · refine lv_aload hx hb dX3_exchange_64 (lv_at hl 1 rfl) ?_
      refine lv_iload hx hb dX3_exchange_66 (lv_at hl 0 rfl) ?_
      refine lv_iload hx hb dX3_exchange_68 (lv_at hl 6 rfl) ?_
      refine q_vMi C0 lX3_110 (c_X0_come l D y L F6 _ (grh G (zbk σ xb)) (grw G (zbk σ xb)) (zod σ (zbk σ xb)) (zst σ (zbk σ xb)) (turn (zod σ (zbk σ xb)) xk) xw (CP_r hC (hW.1 xb)) (by omega) (by omega)) ⟨rfl, rfl⟩ rfl hP hD hS hA (CP_r hC (hW.1 xb)).1 (CP_r hC (hW.1 xb)).2.1 rfl rfl rfl hl rfl (Nat.le_of_ble_eq_true rfl) dX3_exchange_70 ⟨Nat.le_of_ble_eq_true rfl, Nat.le_of_ble_eq_true rfl⟩ (fun r13 H locs L14 F14 hP hD hS hz14 hp14 => ?_)
      obtain ⟨eL, er, hRn, hfr1⟩ := hp14
      subst eL
      subst er
      have hO := hO.tr (OEf hC (hW.1 xb) hfr1)
      have hC := CP_row hC (hW.1 xb) hRn hfr1
      refine lv_pop hx hb dX3_exchange_73 rfl ?_
      refine q_iconst hx hb dX3_exchange_74 ?_
      refine W.widen (k := 8) (n := 60) (Nat.le_of_ble_eq_true rfl) (Nat.le_of_ble_eq_true rfl) ?_
      exact vx_ret (q_retMi C0 hret rfl hlk dX3_exchange_75 hP hD hS (⟨by first | trivial | omega, by first | trivial | omega, (by unfold kR_exchange; (repeat' split) <;> first | rfl | (exfalso; omega)), O, G, CP_eq hC (by unfold kS_exchange; (repeat' split) <;> first | rfl | (exfalso; omega)), rfl, Ext0 hO⟩))
    · refine lv_aload hx hb dX3_exchange_53 (lv_at hl 1 rfl) ?_
      refine lv_iload hx hb dX3_exchange_55 (lv_at hl 0 rfl) ?_
      refine q_vMi C0 lX3_113 (c_X0_go l D y L F6 _ (grh G (zbk σ xb)) (grw G (zbk σ xb)) (zod σ (zbk σ xb)) (zst σ (zbk σ xb)) (turn (zod σ (zbk σ xb)) xk) (CP_r hC (hW.1 xb)) (by omega)) ⟨rfl, rfl⟩ rfl hP hD hS hA (CP_r hC (hW.1 xb)).1 (CP_r hC (hW.1 xb)).2.1 rfl rfl rfl hl rfl (Nat.le_of_ble_eq_true rfl) dX3_exchange_57 ⟨Nat.le_of_ble_eq_true rfl, Nat.le_of_ble_eq_true rfl⟩ (fun r15 H locs L16 F16 hP hD hS hz16 hp16 => ?_)
      obtain ⟨eL, er, hRn, hfr1⟩ := hp16
      subst eL
      subst er
      have hO := hO.tr (OEf hC (hW.1 xb) hfr1)
      have hC := CP_row hC (hW.1 xb) hRn hfr1
      refine lv_pop hx hb dX3_exchange_60 rfl ?_
      refine lv_goto (tgt := 74) hx hb dX3_exchange_61 (by decide) ?_
      refine q_iconst hx hb dX3_exchange_74 ?_
      refine W.widen (k := 8) (n := 60) (Nat.le_of_ble_eq_true rfl) (Nat.le_of_ble_eq_true rfl) ?_
      exact vx_ret (q_retMi C0 hret rfl hlk dX3_exchange_75 hP hD hS (⟨by first | trivial | omega, by first | trivial | omega, (by unfold kR_exchange; (repeat' split) <;> first | rfl | (exfalso; omega)), O, G, CP_eq hC (by unfold kS_exchange; (repeat' split) <;> first | rfl | (exfalso; omega)), rfl, Ext0 hO⟩))
  · refine q_iconst hx hb dX3_exchange_45 ?_
    refine W.widen (k := 8) (n := 60) (Nat.le_of_ble_eq_true rfl) (Nat.le_of_ble_eq_true rfl) ?_
    exact vx_ret (q_retMi C0 hret rfl hlk dX3_exchange_46 hP hD hS (⟨by first | trivial | omega, by first | trivial | omega, (by unfold kR_exchange; (repeat' split) <;> first | rfl | (exfalso; omega)), O, G, CP_eq hC (by unfold kS_exchange; (repeat' split) <;> first | rfl | (exfalso; omega)), rfl, Ext0 hO⟩))
set_option maxHeartbeats 800000 in
set_option maxRecDepth 100000 in
theorem c_X3_take (l : Launch) (hfl : l.stackTraces = false) (D : va_G) (y : Nat → ClassId) (L : List Nat) (F : Nat → va_E) (sz : Nat) (O : Nat → Prop) (G : CG) (σ : CS) (xb : Int) (xk : Int) (hC : CP y L F O G σ) (hW : CW σ) (h_xb : -2147483648 ≤ xb ∧ xb ≤ 2147483647) (h_xk : -2147483648 ≤ xk ∧ xk ≤ 2147483647) : vx_Met l yX3_take (.code yX3_take cX3_take 4 (some .int) :: Tt) ({ frames := 7, cells := 8, slots := 60, locals := 103 }) (PcX D y L F sz [.ref ((gbg G)), .int (iI xb), .int (iI xk)]) (cMi D (AL L sz) (fun r L1 F1 => ((0 ≤ xb ∧ xb ≤ 3)) ∧ ((0 ≤ xk ∧ xk ≤ 99)) ∧ r = kR_take σ xb xk ∧ ∃ O1 G1, CP y L1 F1 O1 G1 (kS_take σ xb xk) ∧ gbg G1 = gbg G ∧ Ext O O1 L L1 F F1)) (XC (pX ((0 ≤ xb ∧ xb ≤ 3)) ((0 ≤ xk ∧ xk ≤ 99)))) 8 60 (AL L sz) := by
  have hO : OE O F F := fun _ _ => rfl
  have hw4 := hW.2.2.2.2.2.1
  have hw5 := hW.2.2.2.2.2.2.1
  have hw6 := hW.2.2.2.2.2.2.2.2.2.2
  refine q_ofX (lv := [(0, .ref ((gbg G))), (1, .int (iI xb)), (2, .int (iI xk))]) (by decide) (Nat.le_of_ble_eq_true rfl) rfl (fun p e s m below meth c C0 hret hlk hout hsz hA hP hD hS hX ls hl => ?_)
  subst hsz
  have hx := C0.1.1
  have hb := C0.1.2.1
  have hts := C0.1.2.2.2.2
  refine lv_aload_n hx hb dX3_take_0 rfl (lv_at hl 0 rfl) ?_
  refine lv_iload_n hx hb dX3_take_1 rfl (lv_at hl 1 rfl) ?_
  refine q_vXa C0 lX3_37 (c_X3_bookAt l hfl D y L F _ O G σ xb hC (by omega)) ⟨rfl, rfl⟩ rfl hP hD hX hout hlk hC.1.1 hC.1.2 rfl rfl rfl hl rfl (Nat.le_of_ble_eq_true rfl) dX3_take_2 ⟨Nat.le_of_ble_eq_true rfl, Nat.le_of_ble_eq_true rfl⟩ ⟨Nat.le_of_ble_eq_true rfl, Nat.le_of_ble_eq_true rfl⟩ (fun E h => Or.inl ⟨h.1, fun q => h.2 (by omega)⟩) (fun r1 e_r1 => ?_)
  refine W.widen (k := 1) (n := 6) (Nat.le_of_ble_eq_true rfl) (Nat.le_of_ble_eq_true rfl) ?_
  obtain ⟨hb_r1, e_r1⟩ := e_r1
  subst e_r1
  refine lv_astore_n (lv' := [(3, .ref ((grh G (zbk σ xb)))), (0, .ref ((gbg G))), (1, .int (iI xb)), (2, .int (iI xk))]) hx hb dX3_take_5 rfl hl (by decide) rfl (fun ls hl => ?_)
  refine lv_iload_n hx hb dX3_take_6 rfl (lv_at hl 3 rfl) ?_
  refine q_sXv C0 lX3_60 (c_X3_checkKey l hfl D y L F _ xk (by omega)) ⟨rfl, rfl⟩ rfl hP hD hX hout hlk rfl hl rfl (Nat.le_of_ble_eq_true rfl) dX3_take_7 ⟨Nat.le_of_ble_eq_true rfl, Nat.le_of_ble_eq_true rfl⟩ ⟨Nat.le_of_ble_eq_true rfl, Nat.le_of_ble_eq_true rfl⟩ (fun E h => Or.inr ⟨h.1, by first | trivial | omega, fun q => h.2 (by omega)⟩) (fun _ e_r2 => ?_)
  refine W.widen (k := 2) (n := 12) (Nat.le_of_ble_eq_true rfl) (Nat.le_of_ble_eq_true rfl) ?_
  refine lv_aload_n hx hb dX3_take_10 rfl (lv_at hl 1 rfl) ?_
  refine lv_aload_n hx hb dX3_take_11 rfl (lv_at hl 0 rfl) ?_
  refine q_vMv C0 lX3_67 (c_X3_write l D y L F _ O G σ (zbk σ xb) hC (hW.1 xb) hW.2.2.2.1) ⟨rfl, rfl⟩ rfl hP hD hS hA hC.1.1 hC.1.2 rfl rfl rfl hl rfl (Nat.le_of_ble_eq_true rfl) dX3_take_12 ⟨Nat.le_of_ble_eq_true rfl, Nat.le_of_ble_eq_true rfl⟩ (fun _ H locs L4 F4 hP hD hS hz4 hp4 => ?_)
  obtain ⟨eL, hC, er, hO1⟩ := hp4
  subst eL
  have hO := hO.tr hO1
  refine lv_aload_n hx hb dX3_take_15 rfl (lv_at hl 0 rfl) ?_
  refine lv_aload_n hx hb dX3_take_16 rfl (lv_at hl 0 rfl) ?_
  refine lv_iload_n hx hb dX3_take_17 rfl (lv_at hl 3 rfl) ?_
  refine q_vS C0 lX3_70 (c_X0_rankOf l D y L F4 (grh G (zbk σ xb)) (grw G (zbk σ xb)) (zod σ (zbk σ xb)) ((zst σ (zbk σ xb)).1) ((zst σ (zbk σ xb)).2.1) ((zst σ (zbk σ xb)).2.2) xk (CP_r hC (hW.1 xb)) (by omega)) ⟨rfl, rfl⟩ rfl hP (CP_r hC (hW.1 xb)).1 (CP_r hC (hW.1 xb)).2.1 rfl rfl rfl hl rfl (Nat.le_of_ble_eq_true rfl) dX3_take_18 ⟨Nat.le_of_ble_eq_true rfl, Nat.le_of_ble_eq_true rfl⟩ (fun r5 e_r5 => ?_)
  subst e_r5
  have b_6 := @turn_b (zod σ (zbk σ xb)) xk (by omega)
  refine q_vMi C0 lX3_113 (c_X0_go l D y L F4 _ (grh G (zbk σ xb)) (grw G (zbk σ xb)) (zod σ (zbk σ xb)) (zst σ (zbk σ xb)) (turn (zod σ (zbk σ xb)) xk) (CP_r hC (hW.1 xb)) (by omega)) ⟨rfl, rfl⟩ rfl hP hD hS hA (CP_r hC (hW.1 xb)).1 (CP_r hC (hW.1 xb)).2.1 rfl rfl rfl hl rfl (Nat.le_of_ble_eq_true rfl) dX3_take_21 ⟨Nat.le_of_ble_eq_true rfl, Nat.le_of_ble_eq_true rfl⟩ (fun r7 H locs L8 F8 hP hD hS hz8 hp8 => ?_)
  obtain ⟨eL, er, hRn, hfr1⟩ := hp8
  subst eL
  subst er
  have hO := hO.tr (OEf hC (hW.1 xb) hfr1)
  have hC := CP_row hC (hW.1 xb) hRn hfr1
  refine W.widen (k := 8) (n := 60) (Nat.le_of_ble_eq_true rfl) (Nat.le_of_ble_eq_true rfl) ?_
  exact vx_ret (q_retMi C0 hret rfl hlk dX3_take_24 hP hD hS (⟨by first | trivial | omega, by first | trivial | omega, (by unfold kR_take; (repeat' split) <;> first | rfl | (exfalso; omega)), O, G, CP_eq hC (by unfold kS_take; (repeat' split) <;> first | rfl | (exfalso; omega)), rfl, Ext0 hO⟩))
set_option maxHeartbeats 800000 in
set_option maxRecDepth 100000 in
theorem c_X3_drop (l : Launch) (hfl : l.stackTraces = false) (D : va_G) (y : Nat → ClassId) (L : List Nat) (F : Nat → va_E) (sz : Nat) (O : Nat → Prop) (G : CG) (σ : CS) (xb : Int) (xt : Int) (hC : CP y L F O G σ) (hW : CW σ) (h_xb : -2147483648 ≤ xb ∧ xb ≤ 2147483647) (h_xt : -2147483648 ≤ xt ∧ xt ≤ 2147483647) : vx_Met l yX3_drop (.code yX3_drop cX3_drop 4 (some .int) :: Tt) ({ frames := 7, cells := 8, slots := 60, locals := 103 }) (PcX D y L F sz [.ref ((gbg G)), .int (iI xb), .int (iI xt)]) (cMi D (AL L sz) (fun r L1 F1 => ((0 ≤ xb ∧ xb ≤ 3)) ∧ ((0 ≤ xt ∧ xt ≤ 2)) ∧ r = kR_drop σ xb xt ∧ ∃ O1 G1, CP y L1 F1 O1 G1 (kS_drop σ xb xt) ∧ gbg G1 = gbg G ∧ Ext O O1 L L1 F F1)) (XC (pX ((0 ≤ xb ∧ xb ≤ 3)) ((0 ≤ xt ∧ xt ≤ 2)))) 8 60 (AL L sz) := by
  have hO : OE O F F := fun _ _ => rfl
  have hw4 := hW.2.2.2.2.2.1
  have hw5 := hW.2.2.2.2.2.2.1
  have hw6 := hW.2.2.2.2.2.2.2.2.2.2
  refine q_ofX (lv := [(0, .ref ((gbg G))), (1, .int (iI xb)), (2, .int (iI xt))]) (by decide) (Nat.le_of_ble_eq_true rfl) rfl (fun p e s m below meth c C0 hret hlk hout hsz hA hP hD hS hX ls hl => ?_)
  subst hsz
  have hx := C0.1.1
  have hb := C0.1.2.1
  have hts := C0.1.2.2.2.2
  refine lv_aload_n hx hb dX3_drop_0 rfl (lv_at hl 0 rfl) ?_
  refine lv_iload_n hx hb dX3_drop_1 rfl (lv_at hl 1 rfl) ?_
  refine q_vXa C0 lX3_37 (c_X3_bookAt l hfl D y L F _ O G σ xb hC (by omega)) ⟨rfl, rfl⟩ rfl hP hD hX hout hlk hC.1.1 hC.1.2 rfl rfl rfl hl rfl (Nat.le_of_ble_eq_true rfl) dX3_drop_2 ⟨Nat.le_of_ble_eq_true rfl, Nat.le_of_ble_eq_true rfl⟩ ⟨Nat.le_of_ble_eq_true rfl, Nat.le_of_ble_eq_true rfl⟩ (fun E h => Or.inl ⟨h.1, fun q => h.2 (by omega)⟩) (fun r1 e_r1 => ?_)
  refine W.widen (k := 1) (n := 6) (Nat.le_of_ble_eq_true rfl) (Nat.le_of_ble_eq_true rfl) ?_
  obtain ⟨hb_r1, e_r1⟩ := e_r1
  subst e_r1
  refine lv_astore_n (lv' := [(3, .ref ((grh G (zbk σ xb)))), (0, .ref ((gbg G))), (1, .int (iI xb)), (2, .int (iI xt))]) hx hb dX3_drop_5 rfl hl (by decide) rfl (fun ls hl => ?_)
  refine lv_iload_n hx hb dX3_drop_6 rfl (lv_at hl 3 rfl) ?_
  refine q_iconst hx hb dX3_drop_7 ?_
  refine q_sXv C0 lX3_41 (c_X3_checkUpTo l hfl D y L F _ xt 2 (by omega) (by omega)) ⟨rfl, rfl⟩ rfl hP hD hX hout hlk rfl hl rfl (Nat.le_of_ble_eq_true rfl) dX3_drop_8 ⟨Nat.le_of_ble_eq_true rfl, Nat.le_of_ble_eq_true rfl⟩ ⟨Nat.le_of_ble_eq_true rfl, Nat.le_of_ble_eq_true rfl⟩ (fun E h => Or.inr ⟨h.1, by first | trivial | omega, fun q => h.2 (by omega)⟩) (fun _ e_r2 => ?_)
  refine W.widen (k := 2) (n := 12) (Nat.le_of_ble_eq_true rfl) (Nat.le_of_ble_eq_true rfl) ?_
  refine lv_aload_n hx hb dX3_drop_11 rfl (lv_at hl 1 rfl) ?_
  refine lv_aload_n hx hb dX3_drop_12 rfl (lv_at hl 0 rfl) ?_
  refine q_vMv C0 lX3_67 (c_X3_write l D y L F _ O G σ (zbk σ xb) hC (hW.1 xb) hW.2.2.2.1) ⟨rfl, rfl⟩ rfl hP hD hS hA hC.1.1 hC.1.2 rfl rfl rfl hl rfl (Nat.le_of_ble_eq_true rfl) dX3_drop_13 ⟨Nat.le_of_ble_eq_true rfl, Nat.le_of_ble_eq_true rfl⟩ (fun _ H locs L4 F4 hP hD hS hz4 hp4 => ?_)
  obtain ⟨eL, hC, er, hO1⟩ := hp4
  subst eL
  have hO := hO.tr hO1
  refine lv_aload_n hx hb dX3_drop_16 rfl (lv_at hl 0 rfl) ?_
  refine q_iconst hx hb dX3_drop_17 ?_
  refine q_bipush hx hb dX3_drop_18 (by decide) ?_
  refine lv_iload_n hx hb dX3_drop_20 rfl (lv_at hl 3 rfl) ?_
  refine q_vMi C0 lX3_116 (c_X0_dropOfPart l D y L F4 _ (grh G (zbk σ xb)) (grw G (zbk σ xb)) (zod σ (zbk σ xb)) (zst σ (zbk σ xb)) 0 99 xt (CP_r hC (hW.1 xb)) (by omega) (by omega) (by omega)) ⟨rfl, rfl⟩ rfl hP hD hS hA (CP_r hC (hW.1 xb)).1 (CP_r hC (hW.1 xb)).2.1 rfl rfl rfl hl rfl (Nat.le_of_ble_eq_true rfl) dX3_drop_21 ⟨Nat.le_of_ble_eq_true rfl, Nat.le_of_ble_eq_true rfl⟩ (fun r5 H locs L6 F6 hP hD hS hz6 hp6 => ?_)
  obtain ⟨eL, er, hRn, hfr1⟩ := hp6
  subst eL
  subst er
  have hO := hO.tr (OEf hC (hW.1 xb) hfr1)
  have hC := CP_row hC (hW.1 xb) hRn hfr1
  refine W.widen (k := 8) (n := 60) (Nat.le_of_ble_eq_true rfl) (Nat.le_of_ble_eq_true rfl) ?_
  exact vx_ret (q_retMi C0 hret rfl hlk dX3_drop_24 hP hD hS (⟨by first | trivial | omega, by first | trivial | omega, (by unfold kR_drop; (repeat' split) <;> first | rfl | (exfalso; omega)), O, G, CP_eq hC (by unfold kS_drop; (repeat' split) <;> first | rfl | (exfalso; omega)), rfl, Ext0 hO⟩))
set_option maxHeartbeats 800000 in
set_option maxRecDepth 100000 in
theorem c_X3_has (l : Launch) (hfl : l.stackTraces = false) (D : va_G) (y : Nat → ClassId) (L : List Nat) (F : Nat → va_E) (sz : Nat) (O : Nat → Prop) (G : CG) (σ : CS) (xb : Int) (xw : Int) (xn : Int) (hC : CP y L F O G σ) (hW : CW σ) (h_xb : -2147483648 ≤ xb ∧ xb ≤ 2147483647) (h_xw : 0 ≤ xw ∧ xw ≤ 1) (h_xn : -2147483648 ≤ xn ∧ xn ≤ 2147483647) : vx_Met l yX3_has (.code yX3_has cX3_has 5 (some .boolean) :: Tt) ({ frames := 7, cells := 8, slots := 60, locals := 103 }) (PcX D y L F sz [.ref ((gbg G)), .int (iI xb), .int (iI xw), .int (iI xn)]) (cMi D (AL L sz) (fun r L1 F1 => ((0 ≤ xb ∧ xb ≤ 3)) ∧ ((0 ≤ xn ∧ xn ≤ 99)) ∧ r = kR_has σ xb xw xn ∧ ∃ O1 G1, CP y L1 F1 O1 G1 (kS_has σ xb xw xn) ∧ gbg G1 = gbg G ∧ Ext O O1 L L1 F F1)) (XC (pX ((0 ≤ xb ∧ xb ≤ 3)) ((0 ≤ xn ∧ xn ≤ 99)))) 8 60 (AL L sz) := by
  have hO : OE O F F := fun _ _ => rfl
  have hw4 := hW.2.2.2.2.2.1
  have hw5 := hW.2.2.2.2.2.2.1
  have hw6 := hW.2.2.2.2.2.2.2.2.2.2
  refine q_ofX (lv := [(0, .ref ((gbg G))), (1, .int (iI xb)), (2, .int (iI xw)), (3, .int (iI xn))]) (by decide) (Nat.le_of_ble_eq_true rfl) rfl (fun p e s m below meth c C0 hret hlk hout hsz hA hP hD hS hX ls hl => ?_)
  subst hsz
  have hx := C0.1.1
  have hb := C0.1.2.1
  have hts := C0.1.2.2.2.2
  refine lv_aload_n hx hb dX3_has_0 rfl (lv_at hl 0 rfl) ?_
  refine lv_iload_n hx hb dX3_has_1 rfl (lv_at hl 1 rfl) ?_
  refine q_vXa C0 lX3_37 (c_X3_bookAt l hfl D y L F _ O G σ xb hC (by omega)) ⟨rfl, rfl⟩ rfl hP hD hX hout hlk hC.1.1 hC.1.2 rfl rfl rfl hl rfl (Nat.le_of_ble_eq_true rfl) dX3_has_2 ⟨Nat.le_of_ble_eq_true rfl, Nat.le_of_ble_eq_true rfl⟩ ⟨Nat.le_of_ble_eq_true rfl, Nat.le_of_ble_eq_true rfl⟩ (fun E h => Or.inl ⟨h.1, fun q => h.2 (by omega)⟩) (fun r1 e_r1 => ?_)
  refine W.widen (k := 1) (n := 6) (Nat.le_of_ble_eq_true rfl) (Nat.le_of_ble_eq_true rfl) ?_
  obtain ⟨hb_r1, e_r1⟩ := e_r1
  subst e_r1
  refine lv_astore (lv' := [(4, .ref ((grh G (zbk σ xb)))), (0, .ref ((gbg G))), (1, .int (iI xb)), (2, .int (iI xw)), (3, .int (iI xn))]) hx hb dX3_has_5 hl (by decide) rfl (fun ls hl => ?_)
  refine lv_iload_n hx hb dX3_has_7 rfl (lv_at hl 4 rfl) ?_
  refine q_bipush hx hb dX3_has_8 (by decide) ?_
  refine q_sXv C0 lX3_41 (c_X3_checkUpTo l hfl D y L F _ xn 99 (by omega) (by omega)) ⟨rfl, rfl⟩ rfl hP hD hX hout hlk rfl hl rfl (Nat.le_of_ble_eq_true rfl) dX3_has_10 ⟨Nat.le_of_ble_eq_true rfl, Nat.le_of_ble_eq_true rfl⟩ ⟨Nat.le_of_ble_eq_true rfl, Nat.le_of_ble_eq_true rfl⟩ (fun E h => Or.inr ⟨h.1, by first | trivial | omega, fun q => h.2 (by omega)⟩) (fun _ e_r2 => ?_)
  refine W.widen (k := 2) (n := 12) (Nat.le_of_ble_eq_true rfl) (Nat.le_of_ble_eq_true rfl) ?_
  refine lv_iload_n hx hb dX3_has_13 rfl (lv_at hl 3 rfl) ?_
  refine q_if_eq hx hb dX3_has_14 (tgt := 31) (by decide) (by omega) (fun c3 => ?_) (fun c3 => ?_)
  · refine lv_aload hx hb dX3_has_31 (lv_at hl 0 rfl) ?_
    refine lv_iload_n hx hb dX3_has_33 rfl (lv_at hl 4 rfl) ?_
    refine q_vS C0 lX3_123 (c_X0_hasWorth l D y L F (grh G (zbk σ xb)) (grw G (zbk σ xb)) (zod σ (zbk σ xb)) ((zst σ (zbk σ xb)).1) ((zst σ (zbk σ xb)).2.1) ((zst σ (zbk σ xb)).2.2) xn (CP_r hC (hW.1 xb)) (by omega)) ⟨rfl, rfl⟩ rfl hP (CP_r hC (hW.1 xb)).1 (CP_r hC (hW.1 xb)).2.1 rfl rfl rfl hl rfl (Nat.le_of_ble_eq_true rfl) dX3_has_34 ⟨Nat.le_of_ble_eq_true rfl, Nat.le_of_ble_eq_true rfl⟩ (fun r4 e_r4 => ?_)
    subst e_r4
    have b_5 := hasW_b ((zst σ (zbk σ xb)).2.2) xn
    refine W.widen (k := 8) (n := 60) (Nat.le_of_ble_eq_true rfl) (Nat.le_of_ble_eq_true rfl) ?_
    exact vx_ret (q_retMi C0 hret (narB (by omega)) hlk dX3_has_37 hP hD hS (⟨by first | trivial | omega, by first | trivial | omega, (by unfold kR_has; (repeat' split) <;> first | rfl | (exfalso; omega)), O, G, CP_eq hC (by unfold kS_has; (repeat' split) <;> first | rfl | (exfalso; omega)), rfl, Ext0 hO⟩))
  · refine lv_aload hx hb dX3_has_17 (lv_at hl 0 rfl) ?_
    refine lv_aload hx hb dX3_has_19 (lv_at hl 0 rfl) ?_
    refine lv_iload_n hx hb dX3_has_21 rfl (lv_at hl 4 rfl) ?_
    refine q_vS C0 lX3_70 (c_X0_rankOf l D y L F (grh G (zbk σ xb)) (grw G (zbk σ xb)) (zod σ (zbk σ xb)) ((zst σ (zbk σ xb)).1) ((zst σ (zbk σ xb)).2.1) ((zst σ (zbk σ xb)).2.2) xn (CP_r hC (hW.1 xb)) (by omega)) ⟨rfl, rfl⟩ rfl hP (CP_r hC (hW.1 xb)).1 (CP_r hC (hW.1 xb)).2.1 rfl rfl rfl hl rfl (Nat.le_of_ble_eq_true rfl) dX3_has_22 ⟨Nat.le_of_ble_eq_true rfl, Nat.le_of_ble_eq_true rfl⟩ (fun r6 e_r6 => ?_)
    subst e_r6
    have b_7 := @turn_b (zod σ (zbk σ xb)) xn (by omega)
    refine q_vS C0 lX3_119 (c_X0_isThere l D y L F (grh G (zbk σ xb)) (grw G (zbk σ xb)) (zod σ (zbk σ xb)) ((zst σ (zbk σ xb)).1) ((zst σ (zbk σ xb)).2.1) ((zst σ (zbk σ xb)).2.2) (turn (zod σ (zbk σ xb)) xn) (CP_r hC (hW.1 xb)) (by omega)) ⟨rfl, rfl⟩ rfl hP (CP_r hC (hW.1 xb)).1 (CP_r hC (hW.1 xb)).2.1 rfl rfl rfl hl rfl (Nat.le_of_ble_eq_true rfl) dX3_has_25 ⟨Nat.le_of_ble_eq_true rfl, Nat.le_of_ble_eq_true rfl⟩ (fun r8 e_r8 => ?_)
    subst e_r8
    have b_9 := isT_b ((zst σ (zbk σ xb)).2.2) (turn (zod σ (zbk σ xb)) xn)
    refine lv_goto (tgt := 37) hx hb dX3_has_28 (by decide) ?_
    refine W.widen (k := 8) (n := 60) (Nat.le_of_ble_eq_true rfl) (Nat.le_of_ble_eq_true rfl) ?_
    exact vx_ret (q_retMi C0 hret (narB (by omega)) hlk dX3_has_37 hP hD hS (⟨by first | trivial | omega, by first | trivial | omega, (by unfold kR_has; (repeat' split) <;> first | rfl | (exfalso; omega)), O, G, CP_eq hC (by unfold kS_has; (repeat' split) <;> first | rfl | (exfalso; omega)), rfl, Ext0 hO⟩))
set_option maxHeartbeats 800000 in
set_option maxRecDepth 100000 in
theorem c_X3_near (l : Launch) (hfl : l.stackTraces = false) (D : va_G) (y : Nat → ClassId) (L : List Nat) (F : Nat → va_E) (sz : Nat) (O : Nat → Prop) (G : CG) (σ : CS) (xb : Int) (xk : Int) (xt : Int) (xw : Int) (hC : CP y L F O G σ) (hW : CW σ) (h_xb : -2147483648 ≤ xb ∧ xb ≤ 2147483647) (h_xk : -2147483648 ≤ xk ∧ xk ≤ 2147483647) (h_xt : -2147483648 ≤ xt ∧ xt ≤ 2147483647) (h_xw : 0 ≤ xw ∧ xw ≤ 1) : vx_Met l yX3_near (.code yX3_near cX3_near 7 (some .int) :: Tt) ({ frames := 7, cells := 8, slots := 60, locals := 103 }) (PcX D y L F sz [.ref ((gbg G)), .int (iI xb), .int (iI xk), .int (iI xt), .int (iI xw)]) (cMi D (AL L sz) (fun r L1 F1 => ((0 ≤ xb ∧ xb ≤ 3)) ∧ ((0 ≤ xk ∧ xk ≤ 99) ∧ (0 ≤ xt ∧ xt ≤ 4)) ∧ r = kR_near σ xb xk xt xw ∧ ∃ O1 G1, CP y L1 F1 O1 G1 (kS_near σ xb xk xt xw) ∧ gbg G1 = gbg G ∧ Ext O O1 L L1 F F1)) (XC (pX ((0 ≤ xb ∧ xb ≤ 3)) ((0 ≤ xk ∧ xk ≤ 99) ∧ (0 ≤ xt ∧ xt ≤ 4)))) 8 60 (AL L sz) := by
  have hO : OE O F F := fun _ _ => rfl
  have hw4 := hW.2.2.2.2.2.1
  have hw5 := hW.2.2.2.2.2.2.1
  have hw6 := hW.2.2.2.2.2.2.2.2.2.2
  refine q_ofX (lv := [(0, .ref ((gbg G))), (1, .int (iI xb)), (2, .int (iI xk)), (3, .int (iI xt)), (4, .int (iI xw))]) (by decide) (Nat.le_of_ble_eq_true rfl) rfl (fun p e s m below meth c C0 hret hlk hout hsz hA hP hD hS hX ls hl => ?_)
  subst hsz
  have hx := C0.1.1
  have hb := C0.1.2.1
  have hts := C0.1.2.2.2.2
  refine lv_aload_n hx hb dX3_near_0 rfl (lv_at hl 0 rfl) ?_
  refine lv_iload_n hx hb dX3_near_1 rfl (lv_at hl 1 rfl) ?_
  refine q_vXa C0 lX3_37 (c_X3_bookAt l hfl D y L F _ O G σ xb hC (by omega)) ⟨rfl, rfl⟩ rfl hP hD hX hout hlk hC.1.1 hC.1.2 rfl rfl rfl hl rfl (Nat.le_of_ble_eq_true rfl) dX3_near_2 ⟨Nat.le_of_ble_eq_true rfl, Nat.le_of_ble_eq_true rfl⟩ ⟨Nat.le_of_ble_eq_true rfl, Nat.le_of_ble_eq_true rfl⟩ (fun E h => Or.inl ⟨h.1, fun q => h.2 (by omega)⟩) (fun r1 e_r1 => ?_)
  refine W.widen (k := 1) (n := 6) (Nat.le_of_ble_eq_true rfl) (Nat.le_of_ble_eq_true rfl) ?_
  obtain ⟨hb_r1, e_r1⟩ := e_r1
  subst e_r1
  refine lv_astore (lv' := [(5, .ref ((grh G (zbk σ xb)))), (0, .ref ((gbg G))), (1, .int (iI xb)), (2, .int (iI xk)), (3, .int (iI xt)), (4, .int (iI xw))]) hx hb dX3_near_5 hl (by decide) rfl (fun ls hl => ?_)
  refine lv_iload_n hx hb dX3_near_7 rfl (lv_at hl 3 rfl) ?_
  refine q_sXv C0 lX3_60 (c_X3_checkKey l hfl D y L F _ xk (by omega)) ⟨rfl, rfl⟩ rfl hP hD hX hout hlk rfl hl rfl (Nat.le_of_ble_eq_true rfl) dX3_near_8 ⟨Nat.le_of_ble_eq_true rfl, Nat.le_of_ble_eq_true rfl⟩ ⟨Nat.le_of_ble_eq_true rfl, Nat.le_of_ble_eq_true rfl⟩ (fun E h => Or.inr ⟨h.1, by first | trivial | omega, fun q => h.2 (by omega)⟩) (fun _ e_r2 => ?_)
  refine W.widen (k := 2) (n := 12) (Nat.le_of_ble_eq_true rfl) (Nat.le_of_ble_eq_true rfl) ?_
  refine lv_iload_n hx hb dX3_near_11 rfl (lv_at hl 4 rfl) ?_
  refine q_iconst hx hb dX3_near_12 ?_
  refine q_sXv C0 lX3_41 (c_X3_checkUpTo l hfl D y L F _ xt 4 (by omega) (by omega)) ⟨rfl, rfl⟩ rfl hP hD hX hout hlk rfl hl rfl (Nat.le_of_ble_eq_true rfl) dX3_near_13 ⟨Nat.le_of_ble_eq_true rfl, Nat.le_of_ble_eq_true rfl⟩ ⟨Nat.le_of_ble_eq_true rfl, Nat.le_of_ble_eq_true rfl⟩ (fun E h => Or.inr ⟨h.1, by first | trivial | omega, fun q => h.2 (by omega)⟩) (fun _ e_r3 => ?_)
  refine W.widen (k := 3) (n := 18) (Nat.le_of_ble_eq_true rfl) (Nat.le_of_ble_eq_true rfl) ?_
  refine lv_aload hx hb dX3_near_16 (lv_at hl 0 rfl) ?_
  refine q_iconst hx hb dX3_near_18 ?_
  refine q_bipush hx hb dX3_near_19 (by decide) ?_
  refine lv_iload_n hx hb dX3_near_21 rfl (lv_at hl 3 rfl) ?_
  refine lv_iload_n hx hb dX3_near_22 rfl (lv_at hl 4 rfl) ?_
  refine q_vS C0 lX3_126 (c_X0_nearInPart l D y L F (grh G (zbk σ xb)) (grw G (zbk σ xb)) (zod σ (zbk σ xb)) ((zst σ (zbk σ xb)).1) ((zst σ (zbk σ xb)).2.1) ((zst σ (zbk σ xb)).2.2) 0 99 xk xt (CP_r hC (hW.1 xb)) (by omega) (by omega) (by omega) (by omega)) ⟨rfl, rfl⟩ rfl hP (CP_r hC (hW.1 xb)).1 (CP_r hC (hW.1 xb)).2.1 rfl rfl rfl hl rfl (Nat.le_of_ble_eq_true rfl) dX3_near_23 ⟨Nat.le_of_ble_eq_true rfl, Nat.le_of_ble_eq_true rfl⟩ (fun r4 e_r4 => ?_)
  subst e_r4
  have b_5 := nearP_r (zod σ (zbk σ xb)) ((zst σ (zbk σ xb)).2.2) 0 99 xk xt
  refine lv_istore (lv' := [(6, .int (iI ((nearP (zod σ (zbk σ xb)) ((zst σ (zbk σ xb)).2.2) 0 99 xk xt)))), (5, .ref ((grh G (zbk σ xb)))), (0, .ref ((gbg G))), (1, .int (iI xb)), (2, .int (iI xk)), (3, .int (iI xt)), (4, .int (iI xw))]) hx hb dX3_near_26 hl (by decide) rfl (fun ls hl => ?_)
  refine lv_iload hx hb dX3_near_28 (lv_at hl 6 rfl) ?_
  refine q_if_eq hx hb dX3_near_30 (tgt := 43) (by decide) (by omega) (fun c6 => ?_) (fun c6 => ?_)
  · refine lv_aload hx hb dX3_near_43 (lv_at hl 1 rfl) ?_
    refine lv_iload hx hb dX3_near_45 (lv_at hl 0 rfl) ?_
    refine q_vS C0 lX3_132 (c_X0_keyOf l D y L F (grh G (zbk σ xb)) (grw G (zbk σ xb)) (zod σ (zbk σ xb)) ((zst σ (zbk σ xb)).1) ((zst σ (zbk σ xb)).2.1) ((zst σ (zbk σ xb)).2.2) (nearP (zod σ (zbk σ xb)) ((zst σ (zbk σ xb)).2.2) 0 99 xk xt) (CP_r hC (hW.1 xb)) (by omega)) ⟨rfl, rfl⟩ rfl hP (CP_r hC (hW.1 xb)).1 (CP_r hC (hW.1 xb)).2.1 rfl rfl rfl hl rfl (Nat.le_of_ble_eq_true rfl) dX3_near_47 ⟨Nat.le_of_ble_eq_true rfl, Nat.le_of_ble_eq_true rfl⟩ (fun r7 e_r7 => ?_)
    subst e_r7
    have b_8 := @keyR_b (zod σ (zbk σ xb)) (nearP (zod σ (zbk σ xb)) ((zst σ (zbk σ xb)).2.2) 0 99 xk xt) (by omega)
    refine W.widen (k := 8) (n := 60) (Nat.le_of_ble_eq_true rfl) (Nat.le_of_ble_eq_true rfl) ?_
    exact vx_ret (q_retMi C0 hret rfl hlk dX3_near_50 hP hD hS (⟨by first | trivial | omega, by first | trivial | omega, (by unfold kR_near; (repeat' split) <;> first | rfl | (exfalso; omega)), O, G, CP_eq hC (by unfold kS_near; (repeat' split) <;> first | rfl | (exfalso; omega)), rfl, Ext0 hO⟩))
  · refine lv_aload hx hb dX3_near_33 (lv_at hl 1 rfl) ?_
    refine lv_iload hx hb dX3_near_35 (lv_at hl 0 rfl) ?_
    refine q_vS C0 lX3_129 (c_X0_pairAt l D y L F (grh G (zbk σ xb)) (grw G (zbk σ xb)) (zod σ (zbk σ xb)) ((zst σ (zbk σ xb)).1) ((zst σ (zbk σ xb)).2.1) ((zst σ (zbk σ xb)).2.2) (nearP (zod σ (zbk σ xb)) ((zst σ (zbk σ xb)).2.2) 0 99 xk xt) (CP_r hC (hW.1 xb)) (by omega)) ⟨rfl, rfl⟩ rfl hP (CP_r hC (hW.1 xb)).1 (CP_r hC (hW.1 xb)).2.1 rfl rfl rfl hl rfl (Nat.le_of_ble_eq_true rfl) dX3_near_37 ⟨Nat.le_of_ble_eq_true rfl, Nat.le_of_ble_eq_true rfl⟩ (fun r9 e_r9 => ?_)
    subst e_r9
    refine lv_goto (tgt := 50) hx hb dX3_near_40 (by decide) ?_
    refine W.widen (k := 8) (n := 60) (Nat.le_of_ble_eq_true rfl) (Nat.le_of_ble_eq_true rfl) ?_
    exact vx_ret (q_retMi C0 hret rfl hlk dX3_near_50 hP hD hS (⟨by first | trivial | omega, by first | trivial | omega, (by unfold kR_near; (repeat' split) <;> first | rfl | (exfalso; omega)), O, G, CP_eq hC (by unfold kS_near; (repeat' split) <;> first | rfl | (exfalso; omega)), rfl, Ext0 hO⟩))
