set_option maxHeartbeats 3000000 in
set_option maxRecDepth 100000 in
theorem c_X6_keyAt (l : Launch) (D : va_G) (y : Nat → ClassId) (L : List Nat) (F : Nat → va_E) (sz : Nat) (O : Nat → Prop) (G : MG) (μ : MS) (xb : Int) (xn : Int) (xz : Int) (hC : MP y L F O G μ) (hW : MW μ) (h_xb : -2147483648 ≤ xb ∧ xb ≤ 2147483647) (h_xn : -2147483648 ≤ xn ∧ xn ≤ 2147483647) (h_xz : 0 ≤ xz ∧ xz ≤ 1) : Met l yX6_keyAt (.code yX6_keyAt cX6_keyAt 7 (some .int) :: Tt) ({ frames := 2, cells := 0, slots := 0, locals := 42 }) (PcM D y L F sz [.ref ((ubg G)), .int (iI xb), .int (iI xn), .int (iI xz)]) (cMi D (AL L sz) (fun r L1 F1 => r = jR_keyAt μ xb xn xz ∧ ∃ (O1 : Nat → Prop) (G1 : MG), MP y L1 F1 O1 G1 (jS_keyAt μ xb xn xz) ∧ ubg G1 = ubg G ∧ Ext O O1 L L1 F F1)) 0 0 (AL L sz) := by
  have hO : OE O F F := fun _ _ => rfl
  have hw5 := hW.2.2.2.2.2.1
  have hw6 := hW.2.2.2.2.2.2.1
  have hw7 := hW.2.2.2.2.2.2.2.1
  refine q_ofM (lv := [(0, .ref ((ubg G))), (1, .int (iI xb)), (2, .int (iI xn)), (3, .int (iI xz))]) (by decide) (Nat.le_of_ble_eq_true rfl) rfl (fun p e s m below meth c C0 hret hlk hnm hA hP hD hS ls hl => ?_)
  have hx := C0.1.1
  have hb := C0.1.2.1
  have hts := C0.1.2.2.2.2
  refine lv_aload_n hx hb dX6_keyAt_0 rfl (lv_at hl 0 rfl) ?_
  refine lv_iload_n hx hb dX6_keyAt_1 rfl (lv_at hl 1 rfl) ?_
  refine q_sS C0 lX6_60 (c_X6_isBook l D y L F xb (by omega)) ⟨rfl, rfl⟩ rfl hP rfl hl rfl (Nat.le_of_ble_eq_true rfl) dX6_keyAt_2 ⟨Nat.zero_le _, Nat.zero_le _⟩ (fun r1 e_r1 => ?_)
  subst e_r1
  have b_2 := inR_d xb 0 3
  refine lv_iload_n hx hb dX6_keyAt_5 rfl (lv_at hl 2 rfl) ?_
  refine q_iconst hx hb dX6_keyAt_6 ?_
  refine q_bipush hx hb dX6_keyAt_7 (by decide) ?_
  refine q_sS C0 lX6_41 (c_X6_isIn l D y L F xn 0 99 (by omega) (by omega) (by omega)) ⟨rfl, rfl⟩ rfl hP rfl hl rfl (Nat.le_of_ble_eq_true rfl) dX6_keyAt_9 ⟨Nat.zero_le _, Nat.zero_le _⟩ (fun r3 e_r3 => ?_)
  subst e_r3
  have b_4 := inR_d xn 0 99
  refine q_vMi C0 lX6_63 (c_X6_isLet l D y L F _ O G μ (inR xb 0 3) (inR xn 0 99) hC (by omega) (by omega)) ⟨rfl, rfl⟩ rfl hP hD hS hA hC.1.1 hC.1.2 rfl rfl rfl hl rfl (Nat.le_of_ble_eq_true rfl) dX6_keyAt_12 ⟨Nat.le_of_ble_eq_true rfl, Nat.le_of_ble_eq_true rfl⟩ (fun r5 H locs L6 F6 hP hD hS hz6 hp6 => ?_)
  obtain ⟨eL, hC, er, hO1⟩ := hp6
  subst eL
  replace er := er.symm
  subst er
  have hO := hO.tr hO1
  have k_7 := okR_d (inR xb 0 3) (inR xn 0 99)
  refine q_if_ne hx hb dX6_keyAt_15 (tgt := 20) (by decide) (by omega) (fun c8 => ?_) (fun c8 => ?_)
  · replace k_7 := k_7.resolve_right (fun h => c8 h.1)
    refine lv_iload_n hx hb dX6_keyAt_20 rfl (lv_at hl 2 rfl) ?_
    refine lv_istore (lv' := [(4, .int (iI xn)), (0, .ref ((ubg G))), (1, .int (iI xb)), (2, .int (iI xn)), (3, .int (iI xz))]) hx hb dX6_keyAt_21 hl (by decide) rfl (fun ls hl => ?_)
    refine q_iconst hx hb dX6_keyAt_23 ?_
    refine lv_istore (lv' := [(5, .int (iI 0)), (4, .int (iI xn)), (0, .ref ((ubg G))), (1, .int (iI xb)), (2, .int (iI xn)), (3, .int (iI xz))]) hx hb dX6_keyAt_24 hl (by decide) rfl (fun ls hl => ?_)
    have LP26 : ∀ (n_LP26 : Nat) (r : Int) (u : Int), (0 ≤ r ∧ r ≤ 100) → (0 ≤ u ∧ u ≤ 99) → (kaP (vst μ (vbk μ xb)) xz 0 xn = kaP (vst μ (vbk μ xb)) xz r u) → (100 - r).toNat = n_LP26 → ∀ ls : Array Slot, lv_has ls 7 [(0, .ref ((ubg G))), (1, .int (iI xb)), (2, .int (iI xn)), (3, .int (iI xz)), (4, .int (iI u)), (5, .int (iI r))] → W p l e ({ frames := 2, cells := 0, slots := 0, locals := 42 } : Room) s m [.ref ((ubg G)), .int (iI xb), .int (iI xn), .int (iI xz)].toArray below meth c H locs 0 0 (MQ below (cMi D (AL L sz) (fun r L1 F1 => r = jR_keyAt μ xb xn xz ∧ ∃ (O1 : Nat → Prop) (G1 : MG), MP y L1 F1 O1 G1 (jS_keyAt μ xb xn xz) ∧ ubg G1 = ubg G ∧ Ext O O1 L L1 F F1)) [.ref ((ubg G)), .int (iI xb), .int (iI xn), .int (iI xz)].toArray s 0 0 (AL L sz)) (F0 m 26 ls []) := by
      intro n_LP26
      induction n_LP26 using Nat.strongRecOn with
      | ind n_LP26 ih_LP26 =>
        intro r u hr hu hI hm_LP26 ls hl
        refine lv_iload hx hb dX6_keyAt_26 (lv_at hl 5 rfl) ?_
        refine q_bipush hx hb dX6_keyAt_28 (by decide) ?_
        refine q_icmp_ge hx hb dX6_keyAt_30 (tgt := 89) (by decide) (by omega) (by omega) (fun c9 => ?_) (fun c9 => ?_)
        · refine q_iconst hx hb dX6_keyAt_89 ?_
          exact q_retMi C0 hret rfl hlk dX6_keyAt_90 hP hD hS (⟨(by unfold jR_keyAt; (try unfold bkF); (try unfold bkO); (try unfold shF); (try unfold shO); rw [if_pos ⟨by omega, by omega⟩, hI, kaP_e (by omega)]; rfl), O, G, MP_eq hC (by 
    have lt_ := ltR_d (inR xb 0 3) (inR xn 0 99)
    unfold jS_keyAt ; rw [show ltR (inR xb 0 3) (inR xn 0 99) = 0 by omega]; (repeat (first | rw [if_pos (by omega)] | rw [if_neg (by omega)]))
    all_goals rfl), rfl, Ext0 hO⟩)
        · refine lv_aload_n hx hb dX6_keyAt_33 rfl (lv_at hl 0 rfl) ?_
          refine q_get C0 iX6 hP hC.1.1 hC.1.2 rfl 0 (by decide) flX6_11 rfl (v := .ref ((uab G))) rfl dX6_keyAt_34 ?_
          refine lv_iload_n hx hb dX6_keyAt_37 rfl (lv_at hl 1 rfl) ?_
          refine q_aald C0 hP hC.2.1.1 hC.2.1.2 (t := 3) rfl (by omega) (by decide) (v := .ref ((urh G (vbk μ xb)))) rfl dX6_keyAt_38 ?_
          refine lv_iload_n hx hb dX6_keyAt_39 rfl (lv_at hl 3 rfl) ?_
          refine q_if_eq hx hb dX6_keyAt_40 (tgt := 51) (by decide) (by omega) (fun c10 => ?_) (fun c10 => ?_)
          · have kr_ : kaR xz r = r := if_neg (by omega)
            have t_ := isT_turn (vst μ (vbk μ xb)) (vod μ (vbk μ xb)) (r := r) (by omega)
            refine lv_iload hx hb dX6_keyAt_51 (lv_at hl 5 rfl) ?_
            refine q_vS C0 lX6_100 (c_X5_key l D y L F6 (urh G (vbk μ xb)) (urw G (vbk μ xb)) (vod μ (vbk μ xb)) (vst μ (vbk μ xb)) r (MP_r hC (hW.1 xb)) (by omega)) ⟨rfl, rfl⟩ rfl hP (MP_r hC (hW.1 xb)).1 (MP_r hC (hW.1 xb)).2.1 rfl rfl rfl hl rfl (Nat.le_of_ble_eq_true rfl) dX6_keyAt_53 ⟨Nat.zero_le _, Nat.zero_le _⟩ (fun r11 e_r11 => ?_)
            subst e_r11
            have b_12 := @turn_b (vod μ (vbk μ xb)) r (by omega)
            refine lv_istore (lv' := [(6, .int (iI ((turn (vod μ (vbk μ xb)) r)))), (0, .ref ((ubg G))), (1, .int (iI xb)), (2, .int (iI xn)), (3, .int (iI xz)), (4, .int (iI u)), (5, .int (iI r))]) hx hb dX6_keyAt_56 hl (by decide) rfl (fun ls hl => ?_)
            refine lv_aload_n hx hb dX6_keyAt_58 rfl (lv_at hl 1 rfl) ?_
            refine q_get C0 iX6 hP hC.1.1 hC.1.2 rfl 0 (by decide) flX6_11 rfl (v := .ref ((uab G))) rfl dX6_keyAt_59 ?_
            refine lv_iload_n hx hb dX6_keyAt_62 rfl (lv_at hl 2 rfl) ?_
            refine q_aald C0 hP hC.2.1.1 hC.2.1.2 (t := 3) rfl (by omega) (by decide) (v := .ref ((urh G (vbk μ xb)))) rfl dX6_keyAt_63 ?_
            refine lv_iload hx hb dX6_keyAt_64 (lv_at hl 0 rfl) ?_
            refine q_vS C0 lX6_49 (c_X5_has l D y L F6 (urh G (vbk μ xb)) (urw G (vbk μ xb)) (vod μ (vbk μ xb)) (vst μ (vbk μ xb)) (turn (vod μ (vbk μ xb)) r) (MP_r hC (hW.1 xb)) (by omega)) ⟨rfl, rfl⟩ rfl hP (MP_r hC (hW.1 xb)).1 (MP_r hC (hW.1 xb)).2.1 rfl rfl rfl hl rfl (Nat.le_of_ble_eq_true rfl) dX6_keyAt_66 ⟨Nat.zero_le _, Nat.zero_le _⟩ (fun r13 e_r13 => ?_)
            subst e_r13
            have b_14 := isT_b (vst μ (vbk μ xb)) (turn (vod μ (vbk μ xb)) (turn (vod μ (vbk μ xb)) r))
            refine q_if_eq hx hb dX6_keyAt_69 (tgt := 83) (by decide) (by omega) (fun c15 => ?_) (fun c15 => ?_)
            · refine q_iinc (x := r) (n := 1) (lv' := [(5, .int (iI ((r + 1)))), (6, .int (iI ((turn (vod μ (vbk μ xb)) r)))), (0, .ref ((ubg G))), (1, .int (iI xb)), (2, .int (iI xn)), (3, .int (iI xz)), (4, .int (iI u))]) hx hb dX6_keyAt_83 hl (k := 6) rfl (by decide) rfl (fun ls hl => ?_)
              refine lv_goto (tgt := 26) hx hb dX6_keyAt_86 (by decide) ?_
              exact ih_LP26 _ (by omega) (r + 1) u (by omega) (by omega) (by rw [hI, kaP_s (by omega), kr_]; first | (rw [if_pos (by omega), if_neg (by omega)]; rfl) | (rw [if_neg (by omega)]; done)) rfl ls (lv_sub hl [2, 3, 4, 5, 6, 0] rfl)
            · refine lv_iload hx hb dX6_keyAt_72 (lv_at hl 5 rfl) ?_
              refine q_iinc (x := u) (n := -1) (lv' := [(4, .int (iI ((u + (-1))))), (6, .int (iI ((turn (vod μ (vbk μ xb)) r)))), (0, .ref ((ubg G))), (1, .int (iI xb)), (2, .int (iI xn)), (3, .int (iI xz)), (5, .int (iI r))]) hx hb dX6_keyAt_74 hl (k := 5) rfl (by decide) rfl (fun ls hl => ?_)
              refine q_if_ne hx hb dX6_keyAt_77 (tgt := 83) (by decide) (by omega) (fun c16 => ?_) (fun c16 => ?_)
              · refine q_iinc (x := r) (n := 1) (lv' := [(5, .int (iI ((r + 1)))), (4, .int (iI ((u + (-1))))), (6, .int (iI ((turn (vod μ (vbk μ xb)) r)))), (0, .ref ((ubg G))), (1, .int (iI xb)), (2, .int (iI xn)), (3, .int (iI xz))]) hx hb dX6_keyAt_83 hl (k := 6) rfl (by decide) rfl (fun ls hl => ?_)
                refine lv_goto (tgt := 26) hx hb dX6_keyAt_86 (by decide) ?_
                exact ih_LP26 _ (by omega) (r + 1) (u + (-1)) (by omega) (by omega) (by rw [hI, kaP_s (by omega), kr_]; first | (rw [if_pos (by omega), if_neg (by omega)]; rfl) | (rw [if_neg (by omega)]; done)) rfl ls (lv_sub hl [3, 4, 5, 6, 1, 0] rfl)
              · refine lv_iload hx hb dX6_keyAt_80 (lv_at hl 1 rfl) ?_
                exact q_retMi C0 hret rfl hlk dX6_keyAt_82 hP hD hS (⟨(by unfold jR_keyAt; (try unfold bkF); (try unfold bkO); (try unfold shF); (try unfold shO); rw [if_pos ⟨by omega, by omega⟩, hI, kaP_s (by omega), kr_, if_pos (by omega), if_pos (by omega)]; unfold keyR; rw [if_neg (by omega)]), O, G, MP_eq hC (by 
    have lt_ := ltR_d (inR xb 0 3) (inR xn 0 99)
    unfold jS_keyAt ; rw [show ltR (inR xb 0 3) (inR xn 0 99) = 0 by omega]; (repeat (first | rw [if_pos (by omega)] | rw [if_neg (by omega)]))
    all_goals rfl), rfl, Ext0 hO⟩)
          · have kr_ : kaR xz r = 99 - r := if_pos (by omega)
            have t_ := isT_turn (vst μ (vbk μ xb)) (vod μ (vbk μ xb)) (r := (99 - r)) (by omega)
            refine q_bipush hx hb dX6_keyAt_43 (by decide) ?_
            refine lv_iload hx hb dX6_keyAt_45 (lv_at hl 5 rfl) ?_
            refine q_isub hx hb dX6_keyAt_47 ?_
            refine lv_goto (tgt := 53) hx hb dX6_keyAt_48 (by decide) ?_
            refine q_vS C0 lX6_100 (c_X5_key l D y L F6 (urh G (vbk μ xb)) (urw G (vbk μ xb)) (vod μ (vbk μ xb)) (vst μ (vbk μ xb)) (99 - r) (MP_r hC (hW.1 xb)) (by omega)) ⟨rfl, rfl⟩ rfl hP (MP_r hC (hW.1 xb)).1 (MP_r hC (hW.1 xb)).2.1 rfl rfl rfl hl rfl (Nat.le_of_ble_eq_true rfl) dX6_keyAt_53 ⟨Nat.zero_le _, Nat.zero_le _⟩ (fun r17 e_r17 => ?_)
            subst e_r17
            have b_18 := @turn_b (vod μ (vbk μ xb)) (99 - r) (by omega)
            refine lv_istore (lv' := [(6, .int (iI ((turn (vod μ (vbk μ xb)) (99 - r))))), (0, .ref ((ubg G))), (1, .int (iI xb)), (2, .int (iI xn)), (3, .int (iI xz)), (4, .int (iI u)), (5, .int (iI r))]) hx hb dX6_keyAt_56 hl (by decide) rfl (fun ls hl => ?_)
            refine lv_aload_n hx hb dX6_keyAt_58 rfl (lv_at hl 1 rfl) ?_
            refine q_get C0 iX6 hP hC.1.1 hC.1.2 rfl 0 (by decide) flX6_11 rfl (v := .ref ((uab G))) rfl dX6_keyAt_59 ?_
            refine lv_iload_n hx hb dX6_keyAt_62 rfl (lv_at hl 2 rfl) ?_
            refine q_aald C0 hP hC.2.1.1 hC.2.1.2 (t := 3) rfl (by omega) (by decide) (v := .ref ((urh G (vbk μ xb)))) rfl dX6_keyAt_63 ?_
            refine lv_iload hx hb dX6_keyAt_64 (lv_at hl 0 rfl) ?_
            refine q_vS C0 lX6_49 (c_X5_has l D y L F6 (urh G (vbk μ xb)) (urw G (vbk μ xb)) (vod μ (vbk μ xb)) (vst μ (vbk μ xb)) (turn (vod μ (vbk μ xb)) (99 - r)) (MP_r hC (hW.1 xb)) (by omega)) ⟨rfl, rfl⟩ rfl hP (MP_r hC (hW.1 xb)).1 (MP_r hC (hW.1 xb)).2.1 rfl rfl rfl hl rfl (Nat.le_of_ble_eq_true rfl) dX6_keyAt_66 ⟨Nat.zero_le _, Nat.zero_le _⟩ (fun r19 e_r19 => ?_)
            subst e_r19
            have b_20 := isT_b (vst μ (vbk μ xb)) (turn (vod μ (vbk μ xb)) (turn (vod μ (vbk μ xb)) (99 - r)))
            refine q_if_eq hx hb dX6_keyAt_69 (tgt := 83) (by decide) (by omega) (fun c21 => ?_) (fun c21 => ?_)
            · refine q_iinc (x := r) (n := 1) (lv' := [(5, .int (iI ((r + 1)))), (6, .int (iI ((turn (vod μ (vbk μ xb)) (99 - r))))), (0, .ref ((ubg G))), (1, .int (iI xb)), (2, .int (iI xn)), (3, .int (iI xz)), (4, .int (iI u))]) hx hb dX6_keyAt_83 hl (k := 6) rfl (by decide) rfl (fun ls hl => ?_)
              refine lv_goto (tgt := 26) hx hb dX6_keyAt_86 (by decide) ?_
              exact ih_LP26 _ (by omega) (r + 1) u (by omega) (by omega) (by rw [hI, kaP_s (by omega), kr_]; first | (rw [if_pos (by omega), if_neg (by omega)]; rfl) | (rw [if_neg (by omega)]; done)) rfl ls (lv_sub hl [2, 3, 4, 5, 6, 0] rfl)
            · refine lv_iload hx hb dX6_keyAt_72 (lv_at hl 5 rfl) ?_
              refine q_iinc (x := u) (n := -1) (lv' := [(4, .int (iI ((u + (-1))))), (6, .int (iI ((turn (vod μ (vbk μ xb)) (99 - r))))), (0, .ref ((ubg G))), (1, .int (iI xb)), (2, .int (iI xn)), (3, .int (iI xz)), (5, .int (iI r))]) hx hb dX6_keyAt_74 hl (k := 5) rfl (by decide) rfl (fun ls hl => ?_)
              refine q_if_ne hx hb dX6_keyAt_77 (tgt := 83) (by decide) (by omega) (fun c22 => ?_) (fun c22 => ?_)
              · refine q_iinc (x := r) (n := 1) (lv' := [(5, .int (iI ((r + 1)))), (4, .int (iI ((u + (-1))))), (6, .int (iI ((turn (vod μ (vbk μ xb)) (99 - r))))), (0, .ref ((ubg G))), (1, .int (iI xb)), (2, .int (iI xn)), (3, .int (iI xz))]) hx hb dX6_keyAt_83 hl (k := 6) rfl (by decide) rfl (fun ls hl => ?_)
                refine lv_goto (tgt := 26) hx hb dX6_keyAt_86 (by decide) ?_
                exact ih_LP26 _ (by omega) (r + 1) (u + (-1)) (by omega) (by omega) (by rw [hI, kaP_s (by omega), kr_]; first | (rw [if_pos (by omega), if_neg (by omega)]; rfl) | (rw [if_neg (by omega)]; done)) rfl ls (lv_sub hl [3, 4, 5, 6, 1, 0] rfl)
              · refine lv_iload hx hb dX6_keyAt_80 (lv_at hl 1 rfl) ?_
                exact q_retMi C0 hret rfl hlk dX6_keyAt_82 hP hD hS (⟨(by unfold jR_keyAt; (try unfold bkF); (try unfold bkO); (try unfold shF); (try unfold shO); rw [if_pos ⟨by omega, by omega⟩, hI, kaP_s (by omega), kr_, if_pos (by omega), if_pos (by omega)]; unfold keyR; rw [if_neg (by omega)]), O, G, MP_eq hC (by 
    have lt_ := ltR_d (inR xb 0 3) (inR xn 0 99)
    unfold jS_keyAt ; rw [show ltR (inR xb 0 3) (inR xn 0 99) = 0 by omega]; (repeat (first | rw [if_pos (by omega)] | rw [if_neg (by omega)]))
    all_goals rfl), rfl, Ext0 hO⟩)
    exact LP26 _ 0 xn (by omega) (by omega) (rfl) rfl ls (lv_sub hl [2, 3, 4, 5, 1, 0] rfl)
  · replace k_7 := k_7.resolve_left (fun h => absurd (h.1.symm.trans c8) (by decide))
    refine q_iconst hx hb dX6_keyAt_18 ?_
    exact q_retMi C0 hret rfl hlk dX6_keyAt_19 hP hD hS (⟨(by unfold jR_keyAt; (try unfold bkF); (try unfold bkO); (try unfold shF); (try unfold shO); rw [if_neg (by omega)]), O, G, MP_eq hC (by have lt_ := ltR_d (inR xb 0 3) (inR xn 0 99); unfold jS_keyAt; rcases lt_ with lt_ | lt_ | lt_ <;> first | (rw [if_neg (by omega), lt_.1]; done) | (rw [if_pos (by omega), if_neg (by omega), lt_.1]; done) | (exfalso; omega)), rfl, Ext0 hO⟩)
