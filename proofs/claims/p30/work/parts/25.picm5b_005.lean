set_option maxHeartbeats 3000000 in
set_option maxRecDepth 100000 in
theorem c_X6_sameShelves (l : Launch) (D : va_G) (y : Nat → ClassId) (L : List Nat) (F : Nat → va_E) (sz : Nat) (O : Nat → Prop) (G : MG) (μ : MS) (xb : Int) (xc : Int) (xt : Int) (hC : MP y L F O G μ) (hW : MW μ) (h_xb : -2147483648 ≤ xb ∧ xb ≤ 2147483647) (h_xc : -2147483648 ≤ xc ∧ xc ≤ 2147483647) (h_xt : -2147483648 ≤ xt ∧ xt ≤ 2147483647) : Met l yX6_sameShelves (.code yX6_sameShelves cX6_sameShelves 6 (some .boolean) :: Tt) ({ frames := 2, cells := 0, slots := 0, locals := 42 }) (PcM D y L F sz [.ref ((ubg G)), .int (iI xb), .int (iI xc), .int (iI xt)]) (cMi D (AL L sz) (fun r L1 F1 => r = jR_sameShelves μ xb xc xt ∧ ∃ (O1 : Nat → Prop) (G1 : MG), MP y L1 F1 O1 G1 (jS_sameShelves μ xb xc xt) ∧ ubg G1 = ubg G ∧ Ext O O1 L L1 F F1)) 0 0 (AL L sz) := by
  have hO : OE O F F := fun _ _ => rfl
  have hw5 := hW.2.2.2.2.2.1
  have hw6 := hW.2.2.2.2.2.2.1
  have hw7 := hW.2.2.2.2.2.2.2.1
  refine q_ofM (lv := [(0, .ref ((ubg G))), (1, .int (iI xb)), (2, .int (iI xc)), (3, .int (iI xt))]) (by decide) (Nat.le_of_ble_eq_true rfl) rfl (fun p e s m below meth c C0 hret hlk hnm hA hP hD hS ls hl => ?_)
  have hx := C0.1.1
  have hb := C0.1.2.1
  have hts := C0.1.2.2.2.2
  refine lv_aload_n hx hb dX6_sameShelves_0 rfl (lv_at hl 0 rfl) ?_
  refine lv_iload_n hx hb dX6_sameShelves_1 rfl (lv_at hl 1 rfl) ?_
  refine q_sS C0 lX6_193 (c_X6_isShelf l D y L F xb (by omega)) ⟨rfl, rfl⟩ rfl hP rfl hl rfl (Nat.le_of_ble_eq_true rfl) dX6_sameShelves_2 ⟨Nat.zero_le _, Nat.zero_le _⟩ (fun r1 e_r1 => ?_)
  subst e_r1
  have b_2 := inR_d xb 0 2
  refine q_if_eq hx hb dX6_sameShelves_5 (tgt := 19) (by decide) (by omega) (fun c3 => ?_) (fun c3 => ?_)
  · replace b_2 := b_2.resolve_left (fun h => absurd (h.1.symm.trans c3) (by decide))
    refine q_iconst hx hb dX6_sameShelves_19 ?_
    refine lv_iload_n hx hb dX6_sameShelves_20 rfl (lv_at hl 3 rfl) ?_
    refine q_iconst hx hb dX6_sameShelves_21 ?_
    refine q_iconst hx hb dX6_sameShelves_22 ?_
    refine q_sS C0 lX6_41 (c_X6_isIn l D y L F xt 0 1 (by omega) (by omega) (by omega)) ⟨rfl, rfl⟩ rfl hP rfl hl rfl (Nat.le_of_ble_eq_true rfl) dX6_sameShelves_23 ⟨Nat.zero_le _, Nat.zero_le _⟩ (fun r4 e_r4 => ?_)
    subst e_r4
    have b_5 := inR_d xt 0 1
    refine q_vMi C0 lX6_63 (c_X6_isLet l D y L F _ O G μ 0 (inR xt 0 1) hC (by omega) (by omega)) ⟨rfl, rfl⟩ rfl hP hD hS hA hC.1.1 hC.1.2 rfl rfl rfl hl rfl (Nat.le_of_ble_eq_true rfl) dX6_sameShelves_26 ⟨Nat.le_of_ble_eq_true rfl, Nat.le_of_ble_eq_true rfl⟩ (fun r6 H locs L7 F7 hP hD hS hz7 hp7 => ?_)
    obtain ⟨eL, hC, er, hO1⟩ := hp7
    subst eL
    replace er := (er.trans (okR_z0 _)).symm
    subst er
    have hO := hO.tr hO1
    refine q_if_ne hx hb dX6_sameShelves_29 (tgt := 34) (by decide) (by omega) (fun c8 => absurd c8 (by omega)) (fun c8 => ?_)
    refine q_iconst hx hb dX6_sameShelves_32 ?_
    exact q_retMi C0 hret (by decide) hlk dX6_sameShelves_33 hP hD hS (⟨(by unfold jR_sameShelves; (try unfold bkF); (try unfold bkO); (try unfold shF); (try unfold shO); rw [if_neg (by omega)]), O, G, MP_eq hC (by have lt_ := ltR_d 0 (inR xt 0 1); unfold jS_sameShelves; rcases lt_ with lt_ | lt_ | lt_ <;> first | (rw [if_neg (by omega), lt_.1]; done) | (rw [if_pos (by omega), if_neg (by omega), lt_.1]; done) | (exfalso; omega)), rfl, Ext0 hO⟩)
  · replace b_2 := b_2.resolve_right (fun h => c3 h.1)
    refine lv_iload_n hx hb dX6_sameShelves_8 rfl (lv_at hl 2 rfl) ?_
    refine q_sS C0 lX6_193 (c_X6_isShelf l D y L F xc (by omega)) ⟨rfl, rfl⟩ rfl hP rfl hl rfl (Nat.le_of_ble_eq_true rfl) dX6_sameShelves_9 ⟨Nat.zero_le _, Nat.zero_le _⟩ (fun r9 e_r9 => ?_)
    subst e_r9
    have b_10 := inR_d xc 0 2
    refine q_if_eq hx hb dX6_sameShelves_12 (tgt := 19) (by decide) (by omega) (fun c11 => ?_) (fun c11 => ?_)
    · replace b_10 := b_10.resolve_left (fun h => absurd (h.1.symm.trans c11) (by decide))
      refine q_iconst hx hb dX6_sameShelves_19 ?_
      refine lv_iload_n hx hb dX6_sameShelves_20 rfl (lv_at hl 3 rfl) ?_
      refine q_iconst hx hb dX6_sameShelves_21 ?_
      refine q_iconst hx hb dX6_sameShelves_22 ?_
      refine q_sS C0 lX6_41 (c_X6_isIn l D y L F xt 0 1 (by omega) (by omega) (by omega)) ⟨rfl, rfl⟩ rfl hP rfl hl rfl (Nat.le_of_ble_eq_true rfl) dX6_sameShelves_23 ⟨Nat.zero_le _, Nat.zero_le _⟩ (fun r12 e_r12 => ?_)
      subst e_r12
      have b_13 := inR_d xt 0 1
      refine q_vMi C0 lX6_63 (c_X6_isLet l D y L F _ O G μ 0 (inR xt 0 1) hC (by omega) (by omega)) ⟨rfl, rfl⟩ rfl hP hD hS hA hC.1.1 hC.1.2 rfl rfl rfl hl rfl (Nat.le_of_ble_eq_true rfl) dX6_sameShelves_26 ⟨Nat.le_of_ble_eq_true rfl, Nat.le_of_ble_eq_true rfl⟩ (fun r14 H locs L15 F15 hP hD hS hz15 hp15 => ?_)
      obtain ⟨eL, hC, er, hO1⟩ := hp15
      subst eL
      replace er := (er.trans (okR_z0 _)).symm
      subst er
      have hO := hO.tr hO1
      refine q_if_ne hx hb dX6_sameShelves_29 (tgt := 34) (by decide) (by omega) (fun c16 => absurd c16 (by omega)) (fun c16 => ?_)
      refine q_iconst hx hb dX6_sameShelves_32 ?_
      exact q_retMi C0 hret (by decide) hlk dX6_sameShelves_33 hP hD hS (⟨(by unfold jR_sameShelves; (try unfold bkF); (try unfold bkO); (try unfold shF); (try unfold shO); rw [if_neg (by omega)]), O, G, MP_eq hC (by have lt_ := ltR_d 0 (inR xt 0 1); unfold jS_sameShelves; rcases lt_ with lt_ | lt_ | lt_ <;> first | (rw [if_neg (by omega), lt_.1]; done) | (rw [if_pos (by omega), if_neg (by omega), lt_.1]; done) | (exfalso; omega)), rfl, Ext0 hO⟩)
    · replace b_10 := b_10.resolve_right (fun h => c11 h.1)
      refine q_iconst hx hb dX6_sameShelves_15 ?_
      refine lv_goto (tgt := 20) hx hb dX6_sameShelves_16 (by decide) ?_
      refine lv_iload_n hx hb dX6_sameShelves_20 rfl (lv_at hl 3 rfl) ?_
      refine q_iconst hx hb dX6_sameShelves_21 ?_
      refine q_iconst hx hb dX6_sameShelves_22 ?_
      refine q_sS C0 lX6_41 (c_X6_isIn l D y L F xt 0 1 (by omega) (by omega) (by omega)) ⟨rfl, rfl⟩ rfl hP rfl hl rfl (Nat.le_of_ble_eq_true rfl) dX6_sameShelves_23 ⟨Nat.zero_le _, Nat.zero_le _⟩ (fun r17 e_r17 => ?_)
      subst e_r17
      have b_18 := inR_d xt 0 1
      refine q_vMi C0 lX6_63 (c_X6_isLet l D y L F _ O G μ 1 (inR xt 0 1) hC (by omega) (by omega)) ⟨rfl, rfl⟩ rfl hP hD hS hA hC.1.1 hC.1.2 rfl rfl rfl hl rfl (Nat.le_of_ble_eq_true rfl) dX6_sameShelves_26 ⟨Nat.le_of_ble_eq_true rfl, Nat.le_of_ble_eq_true rfl⟩ (fun r19 H locs L20 F20 hP hD hS hz20 hp20 => ?_)
      obtain ⟨eL, hC, er, hO1⟩ := hp20
      subst eL
      replace er := er.symm
      subst er
      have hO := hO.tr hO1
      have k_21 := okR_d 1 (inR xt 0 1)
      refine q_if_ne hx hb dX6_sameShelves_29 (tgt := 34) (by decide) (by omega) (fun c22 => ?_) (fun c22 => ?_)
      · replace k_21 := k_21.resolve_right (fun h => c22 h.1)
        refine q_iconst hx hb dX6_sameShelves_34 ?_
        refine lv_istore (lv' := [(4, .int (iI 1)), (0, .ref ((ubg G))), (1, .int (iI xb)), (2, .int (iI xc)), (3, .int (iI xt))]) hx hb dX6_sameShelves_35 hl (by decide) rfl (fun ls hl => ?_)
        refine q_iconst hx hb dX6_sameShelves_37 ?_
        refine lv_istore (lv' := [(5, .int (iI 0)), (4, .int (iI 1)), (0, .ref ((ubg G))), (1, .int (iI xb)), (2, .int (iI xc)), (3, .int (iI xt))]) hx hb dX6_sameShelves_38 hl (by decide) rfl (fun ls hl => ?_)
        have LP40 : ∀ (n_LP40 : Nat) (z : Int) (r : Int), (0 ≤ r ∧ r ≤ 100) → (0 ≤ z ∧ z ≤ 1) → (allP (ssU (vod μ (vsh μ xb)) (vod μ (vsh μ xc)) (vst μ (vsh μ xb)) (vst μ (vsh μ xc)) xt) 0 = if z = 0 then 0 else allP (ssU (vod μ (vsh μ xb)) (vod μ (vsh μ xc)) (vst μ (vsh μ xb)) (vst μ (vsh μ xc)) xt) r) → (100 - r).toNat = n_LP40 → ∀ ls : Array Slot, lv_has ls 6 [(0, .ref ((ubg G))), (1, .int (iI xb)), (2, .int (iI xc)), (3, .int (iI xt)), (4, .int (iI z)), (5, .int (iI r))] → W p l e ({ frames := 2, cells := 0, slots := 0, locals := 42 } : Room) s m [.ref ((ubg G)), .int (iI xb), .int (iI xc), .int (iI xt)].toArray below meth c H locs 0 0 (MQ below (cMi D (AL L sz) (fun r L1 F1 => r = jR_sameShelves μ xb xc xt ∧ ∃ (O1 : Nat → Prop) (G1 : MG), MP y L1 F1 O1 G1 (jS_sameShelves μ xb xc xt) ∧ ubg G1 = ubg G ∧ Ext O O1 L L1 F F1)) [.ref ((ubg G)), .int (iI xb), .int (iI xc), .int (iI xt)].toArray s 0 0 (AL L sz)) (F0 m 40 ls []) := by
          intro n_LP40
          induction n_LP40 using Nat.strongRecOn with
          | ind n_LP40 ih_LP40 =>
            intro z r hr hz hI hm_LP40 ls hl
            refine lv_iload hx hb dX6_sameShelves_40 (lv_at hl 5 rfl) ?_
            refine q_bipush hx hb dX6_sameShelves_42 (by decide) ?_
            refine q_icmp_ge hx hb dX6_sameShelves_44 (tgt := 109) (by decide) (by omega) (by omega) (fun c23 => ?_) (fun c23 => ?_)
            · refine lv_iload hx hb dX6_sameShelves_109 (lv_at hl 4 rfl) ?_
              exact q_retMi C0 hret (narB (by omega)) hlk dX6_sameShelves_111 hP hD hS (⟨(by 
    unfold jR_sameShelves; (try unfold bkF); (try unfold bkO); (try unfold shF); (try unfold shO); rw [if_pos ⟨by omega, by omega⟩, hI]; split
    · omega
    · rw [allP_e (by omega)]; omega), O, G, MP_eq hC (by 
    have lt_ := ltR_d 1 (inR xt 0 1)
    unfold jS_sameShelves ; rw [show ltR 1 (inR xt 0 1) = 0 by omega]; (repeat (first | rw [if_pos (by omega)] | rw [if_neg (by omega)]))
    all_goals rfl), rfl, Ext0 hO⟩)
            · refine lv_iload hx hb dX6_sameShelves_47 (lv_at hl 4 rfl) ?_
              refine q_if_eq hx hb dX6_sameShelves_49 (tgt := 100) (by decide) (by omega) (fun c24 => ?_) (fun c24 => ?_)
              · refine q_iconst hx hb dX6_sameShelves_100 ?_
                refine lv_istore (lv' := [(4, .int (iI 0)), (0, .ref ((ubg G))), (1, .int (iI xb)), (2, .int (iI xc)), (3, .int (iI xt)), (5, .int (iI r))]) hx hb dX6_sameShelves_101 hl (by decide) rfl (fun ls hl => ?_)
                refine q_iinc (x := r) (n := 1) (lv' := [(5, .int (iI ((r + 1)))), (4, .int (iI 0)), (0, .ref ((ubg G))), (1, .int (iI xb)), (2, .int (iI xc)), (3, .int (iI xt))]) hx hb dX6_sameShelves_103 hl (k := 5) rfl (by decide) rfl (fun ls hl => ?_)
                refine lv_goto (tgt := 40) hx hb dX6_sameShelves_106 (by decide) ?_
                exact ih_LP40 _ (by omega) 0 (r + 1) (by omega) (by omega) (by first | (rw [hI, if_pos (by omega), if_pos (by omega)]; done) | (rw [hI, if_neg (by omega), allP_s (by unfold ssU; rw [if_pos (by omega)]; decide) (by omega), if_neg (by omega)]; done) | (rw [hI, if_neg (by omega), allP_n (by unfold ssU; rw [if_neg (by omega)]) (by omega), if_pos (by omega)])) rfl ls (lv_sub hl [2, 3, 4, 5, 1, 0] rfl)
              · refine lv_aload_n hx hb dX6_sameShelves_52 rfl (lv_at hl 0 rfl) ?_
                refine q_get C0 iX6 hP hC.1.1 hC.1.2 rfl 1 (by decide) flX6_15 rfl (v := .ref ((uas G))) rfl dX6_sameShelves_53 ?_
                refine lv_iload_n hx hb dX6_sameShelves_56 rfl (lv_at hl 1 rfl) ?_
                refine q_aald C0 hP hC.2.2.1.1 hC.2.2.1.2 (t := 3) rfl (by omega) (by decide) (v := .ref ((urh G (vsh μ xb)))) rfl dX6_sameShelves_57 ?_
                refine lv_iload hx hb dX6_sameShelves_58 (lv_at hl 5 rfl) ?_
                refine q_vS C0 lX6_49 (c_X5_has l D y L F20 (urh G (vsh μ xb)) (urw G (vsh μ xb)) (vod μ (vsh μ xb)) (vst μ (vsh μ xb)) r (MP_r hC (hW.2.1 xb)) (by omega)) ⟨rfl, rfl⟩ rfl hP (MP_r hC (hW.2.1 xb)).1 (MP_r hC (hW.2.1 xb)).2.1 rfl rfl rfl hl rfl (Nat.le_of_ble_eq_true rfl) dX6_sameShelves_60 ⟨Nat.zero_le _, Nat.zero_le _⟩ (fun r25 e_r25 => ?_)
                subst e_r25
                have b_26 := isT_b (vst μ (vsh μ xb)) (turn (vod μ (vsh μ xb)) r)
                refine lv_aload_n hx hb dX6_sameShelves_63 rfl (lv_at hl 0 rfl) ?_
                refine q_get C0 iX6 hP hC.1.1 hC.1.2 rfl 1 (by decide) flX6_15 rfl (v := .ref ((uas G))) rfl dX6_sameShelves_64 ?_
                refine lv_iload_n hx hb dX6_sameShelves_67 rfl (lv_at hl 2 rfl) ?_
                refine q_aald C0 hP hC.2.2.1.1 hC.2.2.1.2 (t := 3) rfl (by omega) (by decide) (v := .ref ((urh G (vsh μ xc)))) rfl dX6_sameShelves_68 ?_
                refine lv_iload hx hb dX6_sameShelves_69 (lv_at hl 5 rfl) ?_
                refine q_vS C0 lX6_49 (c_X5_has l D y L F20 (urh G (vsh μ xc)) (urw G (vsh μ xc)) (vod μ (vsh μ xc)) (vst μ (vsh μ xc)) r (MP_r hC (hW.2.1 xc)) (by omega)) ⟨rfl, rfl⟩ rfl hP (MP_r hC (hW.2.1 xc)).1 (MP_r hC (hW.2.1 xc)).2.1 rfl rfl rfl hl rfl (Nat.le_of_ble_eq_true rfl) dX6_sameShelves_71 ⟨Nat.zero_le _, Nat.zero_le _⟩ (fun r27 e_r27 => ?_)
                subst e_r27
                have b_28 := isT_b (vst μ (vsh μ xc)) (turn (vod μ (vsh μ xc)) r)
                refine q_icmp_eq hx hb dX6_sameShelves_74 (tgt := 96) (by decide) (by omega) (by omega) (fun c29 => ?_) (fun c29 => ?_)
                · refine q_iconst hx hb dX6_sameShelves_96 ?_
                  refine lv_goto (tgt := 101) hx hb dX6_sameShelves_97 (by decide) ?_
                  refine lv_istore (lv' := [(4, .int (iI 1)), (0, .ref ((ubg G))), (1, .int (iI xb)), (2, .int (iI xc)), (3, .int (iI xt)), (5, .int (iI r))]) hx hb dX6_sameShelves_101 hl (by decide) rfl (fun ls hl => ?_)
                  refine q_iinc (x := r) (n := 1) (lv' := [(5, .int (iI ((r + 1)))), (4, .int (iI 1)), (0, .ref ((ubg G))), (1, .int (iI xb)), (2, .int (iI xc)), (3, .int (iI xt))]) hx hb dX6_sameShelves_103 hl (k := 5) rfl (by decide) rfl (fun ls hl => ?_)
                  refine lv_goto (tgt := 40) hx hb dX6_sameShelves_106 (by decide) ?_
                  exact ih_LP40 _ (by omega) 1 (r + 1) (by omega) (by omega) (by first | (rw [hI, if_pos (by omega), if_pos (by omega)]; done) | (rw [hI, if_neg (by omega), allP_s (by unfold ssU; rw [if_pos (by omega)]; decide) (by omega), if_neg (by omega)]; done) | (rw [hI, if_neg (by omega), allP_n (by unfold ssU; rw [if_neg (by omega)]) (by omega), if_pos (by omega)])) rfl ls (lv_sub hl [2, 3, 4, 5, 1, 0] rfl)
                · refine lv_iload_n hx hb dX6_sameShelves_77 rfl (lv_at hl 3 rfl) ?_
                  refine q_iconst hx hb dX6_sameShelves_78 ?_
                  refine q_icmp_ne hx hb dX6_sameShelves_79 (tgt := 100) (by decide) (by omega) (by omega) (fun c30 => ?_) (fun c30 => ?_)
                  · refine q_iconst hx hb dX6_sameShelves_100 ?_
                    refine lv_istore (lv' := [(4, .int (iI 0)), (0, .ref ((ubg G))), (1, .int (iI xb)), (2, .int (iI xc)), (3, .int (iI xt)), (5, .int (iI r))]) hx hb dX6_sameShelves_101 hl (by decide) rfl (fun ls hl => ?_)
                    refine q_iinc (x := r) (n := 1) (lv' := [(5, .int (iI ((r + 1)))), (4, .int (iI 0)), (0, .ref ((ubg G))), (1, .int (iI xb)), (2, .int (iI xc)), (3, .int (iI xt))]) hx hb dX6_sameShelves_103 hl (k := 5) rfl (by decide) rfl (fun ls hl => ?_)
                    refine lv_goto (tgt := 40) hx hb dX6_sameShelves_106 (by decide) ?_
                    exact ih_LP40 _ (by omega) 0 (r + 1) (by omega) (by omega) (by first | (rw [hI, if_pos (by omega), if_pos (by omega)]; done) | (rw [hI, if_neg (by omega), allP_s (by unfold ssU; rw [if_pos (by omega)]; decide) (by omega), if_neg (by omega)]; done) | (rw [hI, if_neg (by omega), allP_n (by unfold ssU; rw [if_neg (by omega)]) (by omega), if_pos (by omega)])) rfl ls (lv_sub hl [2, 3, 4, 5, 1, 0] rfl)
                  · refine lv_aload_n hx hb dX6_sameShelves_82 rfl (lv_at hl 0 rfl) ?_
                    refine q_get C0 iX6 hP hC.1.1 hC.1.2 rfl 1 (by decide) flX6_15 rfl (v := .ref ((uas G))) rfl dX6_sameShelves_83 ?_
                    refine lv_iload_n hx hb dX6_sameShelves_86 rfl (lv_at hl 1 rfl) ?_
                    refine q_aald C0 hP hC.2.2.1.1 hC.2.2.1.2 (t := 3) rfl (by omega) (by decide) (v := .ref ((urh G (vsh μ xb)))) rfl dX6_sameShelves_87 ?_
                    refine lv_iload hx hb dX6_sameShelves_88 (lv_at hl 5 rfl) ?_
                    refine q_vS C0 lX6_49 (c_X5_has l D y L F20 (urh G (vsh μ xb)) (urw G (vsh μ xb)) (vod μ (vsh μ xb)) (vst μ (vsh μ xb)) r (MP_r hC (hW.2.1 xb)) (by omega)) ⟨rfl, rfl⟩ rfl hP (MP_r hC (hW.2.1 xb)).1 (MP_r hC (hW.2.1 xb)).2.1 rfl rfl rfl hl rfl (Nat.le_of_ble_eq_true rfl) dX6_sameShelves_90 ⟨Nat.zero_le _, Nat.zero_le _⟩ (fun r31 e_r31 => ?_)
                    subst e_r31
                    have b_32 := isT_b (vst μ (vsh μ xb)) (turn (vod μ (vsh μ xb)) r)
                    refine q_if_eq hx hb dX6_sameShelves_93 (tgt := 100) (by decide) (by omega) (fun c33 => ?_) (fun c33 => ?_)
                    · refine q_iconst hx hb dX6_sameShelves_100 ?_
                      refine lv_istore (lv' := [(4, .int (iI 0)), (0, .ref ((ubg G))), (1, .int (iI xb)), (2, .int (iI xc)), (3, .int (iI xt)), (5, .int (iI r))]) hx hb dX6_sameShelves_101 hl (by decide) rfl (fun ls hl => ?_)
                      refine q_iinc (x := r) (n := 1) (lv' := [(5, .int (iI ((r + 1)))), (4, .int (iI 0)), (0, .ref ((ubg G))), (1, .int (iI xb)), (2, .int (iI xc)), (3, .int (iI xt))]) hx hb dX6_sameShelves_103 hl (k := 5) rfl (by decide) rfl (fun ls hl => ?_)
                      refine lv_goto (tgt := 40) hx hb dX6_sameShelves_106 (by decide) ?_
                      exact ih_LP40 _ (by omega) 0 (r + 1) (by omega) (by omega) (by first | (rw [hI, if_pos (by omega), if_pos (by omega)]; done) | (rw [hI, if_neg (by omega), allP_s (by unfold ssU; rw [if_pos (by omega)]; decide) (by omega), if_neg (by omega)]; done) | (rw [hI, if_neg (by omega), allP_n (by unfold ssU; rw [if_neg (by omega)]) (by omega), if_pos (by omega)])) rfl ls (lv_sub hl [2, 3, 4, 5, 1, 0] rfl)
                    · refine q_iconst hx hb dX6_sameShelves_96 ?_
                      refine lv_goto (tgt := 101) hx hb dX6_sameShelves_97 (by decide) ?_
                      refine lv_istore (lv' := [(4, .int (iI 1)), (0, .ref ((ubg G))), (1, .int (iI xb)), (2, .int (iI xc)), (3, .int (iI xt)), (5, .int (iI r))]) hx hb dX6_sameShelves_101 hl (by decide) rfl (fun ls hl => ?_)
                      refine q_iinc (x := r) (n := 1) (lv' := [(5, .int (iI ((r + 1)))), (4, .int (iI 1)), (0, .ref ((ubg G))), (1, .int (iI xb)), (2, .int (iI xc)), (3, .int (iI xt))]) hx hb dX6_sameShelves_103 hl (k := 5) rfl (by decide) rfl (fun ls hl => ?_)
                      refine lv_goto (tgt := 40) hx hb dX6_sameShelves_106 (by decide) ?_
                      exact ih_LP40 _ (by omega) 1 (r + 1) (by omega) (by omega) (by first | (rw [hI, if_pos (by omega), if_pos (by omega)]; done) | (rw [hI, if_neg (by omega), allP_s (by unfold ssU; rw [if_pos (by omega)]; decide) (by omega), if_neg (by omega)]; done) | (rw [hI, if_neg (by omega), allP_n (by unfold ssU; rw [if_neg (by omega)]) (by omega), if_pos (by omega)])) rfl ls (lv_sub hl [2, 3, 4, 5, 1, 0] rfl)
        exact LP40 _ 1 0 (by omega) (by omega) (by rw [if_neg (by omega)]) rfl ls (lv_sub hl [2, 3, 4, 5, 1, 0] rfl)
      · replace k_21 := k_21.resolve_left (fun h => absurd (h.1.symm.trans c22) (by decide))
        refine q_iconst hx hb dX6_sameShelves_32 ?_
        exact q_retMi C0 hret (by decide) hlk dX6_sameShelves_33 hP hD hS (⟨(by unfold jR_sameShelves; (try unfold bkF); (try unfold bkO); (try unfold shF); (try unfold shO); rw [if_neg (by omega)]), O, G, MP_eq hC (by have lt_ := ltR_d 1 (inR xt 0 1); unfold jS_sameShelves; rcases lt_ with lt_ | lt_ | lt_ <;> first | (rw [if_neg (by omega), lt_.1]; done) | (rw [if_pos (by omega), if_neg (by omega), lt_.1]; done) | (exfalso; omega)), rfl, Ext0 hO⟩)
