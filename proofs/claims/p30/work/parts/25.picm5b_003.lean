set_option maxHeartbeats 3000000 in
set_option maxRecDepth 100000 in
theorem c_X6_has (l : Launch) (D : va_G) (y : Nat → ClassId) (L : List Nat) (F : Nat → va_E) (sz : Nat) (O : Nat → Prop) (G : MG) (μ : MS) (xb : Int) (xw : Int) (xn : Int) (hC : MP y L F O G μ) (hW : MW μ) (h_xb : -2147483648 ≤ xb ∧ xb ≤ 2147483647) (h_xw : 0 ≤ xw ∧ xw ≤ 1) (h_xn : -2147483648 ≤ xn ∧ xn ≤ 2147483647) : Met l yX6_has (.code yX6_has cX6_has 6 (some .boolean) :: Tt) ({ frames := 2, cells := 0, slots := 0, locals := 42 }) (PcM D y L F sz [.ref ((ubg G)), .int (iI xb), .int (iI xw), .int (iI xn)]) (cMi D (AL L sz) (fun r L1 F1 => r = jR_has μ xb xw xn ∧ ∃ (O1 : Nat → Prop) (G1 : MG), MP y L1 F1 O1 G1 (jS_has μ xb xw xn) ∧ ubg G1 = ubg G ∧ Ext O O1 L L1 F F1)) 0 0 (AL L sz) := by
  have hO : OE O F F := fun _ _ => rfl
  have hw5 := hW.2.2.2.2.2.1
  have hw6 := hW.2.2.2.2.2.2.1
  have hw7 := hW.2.2.2.2.2.2.2.1
  refine q_ofM (lv := [(0, .ref ((ubg G))), (1, .int (iI xb)), (2, .int (iI xw)), (3, .int (iI xn))]) (by decide) (Nat.le_of_ble_eq_true rfl) rfl (fun p e s m below meth c C0 hret hlk hnm hA hP hD hS ls hl => ?_)
  have hx := C0.1.1
  have hb := C0.1.2.1
  have hts := C0.1.2.2.2.2
  refine lv_aload_n hx hb dX6_has_0 rfl (lv_at hl 0 rfl) ?_
  refine lv_iload_n hx hb dX6_has_1 rfl (lv_at hl 1 rfl) ?_
  refine q_sS C0 lX6_60 (c_X6_isBook l D y L F xb (by omega)) ⟨rfl, rfl⟩ rfl hP rfl hl rfl (Nat.le_of_ble_eq_true rfl) dX6_has_2 ⟨Nat.zero_le _, Nat.zero_le _⟩ (fun r1 e_r1 => ?_)
  subst e_r1
  have b_2 := inR_d xb 0 3
  refine lv_iload_n hx hb dX6_has_5 rfl (lv_at hl 3 rfl) ?_
  refine q_sS C0 lX6_86 (c_X6_isKey l D y L F xn (by omega)) ⟨rfl, rfl⟩ rfl hP rfl hl rfl (Nat.le_of_ble_eq_true rfl) dX6_has_6 ⟨Nat.zero_le _, Nat.zero_le _⟩ (fun r3 e_r3 => ?_)
  subst e_r3
  have b_4 := inR_d xn 0 99
  refine q_vMi C0 lX6_63 (c_X6_isLet l D y L F _ O G μ (inR xb 0 3) (inR xn 0 99) hC (by omega) (by omega)) ⟨rfl, rfl⟩ rfl hP hD hS hA hC.1.1 hC.1.2 rfl rfl rfl hl rfl (Nat.le_of_ble_eq_true rfl) dX6_has_9 ⟨Nat.le_of_ble_eq_true rfl, Nat.le_of_ble_eq_true rfl⟩ (fun r5 H locs L6 F6 hP hD hS hz6 hp6 => ?_)
  obtain ⟨eL, hC, er, hO1⟩ := hp6
  subst eL
  replace er := er.symm
  subst er
  have hO := hO.tr hO1
  have k_7 := okR_d (inR xb 0 3) (inR xn 0 99)
  refine q_if_ne hx hb dX6_has_12 (tgt := 17) (by decide) (by omega) (fun c8 => ?_) (fun c8 => ?_)
  · replace k_7 := k_7.resolve_right (fun h => c8 h.1)
    refine lv_iload_n hx hb dX6_has_17 rfl (lv_at hl 2 rfl) ?_
    refine q_if_eq hx hb dX6_has_18 (tgt := 38) (by decide) (by omega) (fun c9 => ?_) (fun c9 => ?_)
    · refine q_iconst hx hb dX6_has_38 ?_
      refine lv_istore (lv' := [(4, .int (iI 0)), (0, .ref ((ubg G))), (1, .int (iI xb)), (2, .int (iI xw)), (3, .int (iI xn))]) hx hb dX6_has_39 hl (by decide) rfl (fun ls hl => ?_)
      refine q_iconst hx hb dX6_has_41 ?_
      refine lv_istore (lv' := [(5, .int (iI 0)), (4, .int (iI 0)), (0, .ref ((ubg G))), (1, .int (iI xb)), (2, .int (iI xw)), (3, .int (iI xn))]) hx hb dX6_has_42 hl (by decide) rfl (fun ls hl => ?_)
      have LP44 : ∀ (n_LP44 : Nat) (z : Int) (r : Int), (0 ≤ r ∧ r ≤ 100) → (0 ≤ z ∧ z ≤ 1) → ((xw ≠ 0 ∧ z = isT (vst μ (vbk μ xb)) (turn (vod μ (vbk μ xb)) xn)) ∨ (xw = 0 ∧ allP (hmW (vod μ (vbk μ xb)) (vst μ (vbk μ xb)) xn) 0 = if z = 0 then allP (hmW (vod μ (vbk μ xb)) (vst μ (vbk μ xb)) xn) r else 0)) → (100 - r).toNat = n_LP44 → ∀ ls : Array Slot, lv_has ls 6 [(0, .ref ((ubg G))), (1, .int (iI xb)), (2, .int (iI xw)), (3, .int (iI xn)), (4, .int (iI z)), (5, .int (iI r))] → W p l e ({ frames := 2, cells := 0, slots := 0, locals := 42 } : Room) s m [.ref ((ubg G)), .int (iI xb), .int (iI xw), .int (iI xn)].toArray below meth c H locs 0 0 (MQ below (cMi D (AL L sz) (fun r L1 F1 => r = jR_has μ xb xw xn ∧ ∃ (O1 : Nat → Prop) (G1 : MG), MP y L1 F1 O1 G1 (jS_has μ xb xw xn) ∧ ubg G1 = ubg G ∧ Ext O O1 L L1 F F1)) [.ref ((ubg G)), .int (iI xb), .int (iI xw), .int (iI xn)].toArray s 0 0 (AL L sz)) (F0 m 44 ls []) := by
        intro n_LP44
        induction n_LP44 using Nat.strongRecOn with
        | ind n_LP44 ih_LP44 =>
          intro z r hr hz hI hm_LP44 ls hl
          refine lv_iload hx hb dX6_has_44 (lv_at hl 5 rfl) ?_
          refine q_bipush hx hb dX6_has_46 (by decide) ?_
          refine q_icmp_ge hx hb dX6_has_48 (tgt := 89) (by decide) (by omega) (by omega) (fun c10 => ?_) (fun c10 => ?_)
          · refine lv_iload hx hb dX6_has_89 (lv_at hl 4 rfl) ?_
            exact q_retMi C0 hret (narB (by omega)) hlk dX6_has_91 hP hD hS (⟨(by 
    unfold jR_has; (try unfold bkF); (try unfold bkO); (try unfold shF); (try unfold shO); rw [if_pos ⟨by omega, by omega⟩]; rcases hI with ⟨h1, h2⟩ | ⟨h1, h2⟩
    · rw [if_pos h1]; exact h2
    · rw [if_neg (by omega), h2]; split
      · rw [allP_e (by omega)]; omega
      · omega), O, G, MP_eq hC (by 
    have lt_ := ltR_d (inR xb 0 3) (inR xn 0 99)
    unfold jS_has ; rw [show ltR (inR xb 0 3) (inR xn 0 99) = 0 by omega]; (repeat (first | rw [if_pos (by omega)] | rw [if_neg (by omega)]))
    all_goals rfl), rfl, Ext0 hO⟩)
          · refine lv_iload_n hx hb dX6_has_51 rfl (lv_at hl 2 rfl) ?_
            refine q_if_ne hx hb dX6_has_52 (tgt := 89) (by decide) (by omega) (fun c11 => ?_) (fun c11 => ?_)
            · refine lv_iload hx hb dX6_has_89 (lv_at hl 4 rfl) ?_
              exact q_retMi C0 hret (narB (by omega)) hlk dX6_has_91 hP hD hS (⟨(by 
    unfold jR_has; (try unfold bkF); (try unfold bkO); (try unfold shF); (try unfold shO); rw [if_pos ⟨by omega, by omega⟩]; rcases hI with ⟨h1, h2⟩ | ⟨h1, h2⟩
    · rw [if_pos h1]; exact h2
    · rw [if_neg (by omega), h2]; split
      · rw [allP_e (by omega)]; omega
      · omega), O, G, MP_eq hC (by 
    have lt_ := ltR_d (inR xb 0 3) (inR xn 0 99)
    unfold jS_has ; rw [show ltR (inR xb 0 3) (inR xn 0 99) = 0 by omega]; (repeat (first | rw [if_pos (by omega)] | rw [if_neg (by omega)]))
    all_goals rfl), rfl, Ext0 hO⟩)
            · refine lv_iload hx hb dX6_has_55 (lv_at hl 4 rfl) ?_
              refine q_if_ne hx hb dX6_has_57 (tgt := 76) (by decide) (by omega) (fun c12 => ?_) (fun c12 => ?_)
              · refine q_iconst hx hb dX6_has_76 ?_
                refine lv_goto (tgt := 81) hx hb dX6_has_77 (by decide) ?_
                refine lv_istore (lv' := [(4, .int (iI 1)), (0, .ref ((ubg G))), (1, .int (iI xb)), (2, .int (iI xw)), (3, .int (iI xn)), (5, .int (iI r))]) hx hb dX6_has_81 hl (by decide) rfl (fun ls hl => ?_)
                refine q_iinc (x := r) (n := 1) (lv' := [(5, .int (iI ((r + 1)))), (4, .int (iI 1)), (0, .ref ((ubg G))), (1, .int (iI xb)), (2, .int (iI xw)), (3, .int (iI xn))]) hx hb dX6_has_83 hl (k := 5) rfl (by decide) rfl (fun ls hl => ?_)
                refine lv_goto (tgt := 44) hx hb dX6_has_86 (by decide) ?_
                exact ih_LP44 _ (by omega) 1 (r + 1) (by omega) (by omega) (by
    rcases hI with h9 | ⟨h8, h9⟩
    · exact absurd h9.1 (by omega)
    · refine Or.inr ⟨h8, ?_⟩
      first | (rw [h9, if_neg (by omega), if_neg (by omega)]; done) | (rw [h9, if_pos (by omega), allP_n (by unfold hmW; rw [if_pos (by omega)]) (by omega), if_neg (by omega)]; done) | (rw [h9, if_pos (by omega), allP_s (by unfold hmW; rw [if_neg (by omega)]; decide) (by omega), if_pos (by omega)])) rfl ls (lv_sub hl [2, 3, 4, 5, 1, 0] rfl)
              · refine lv_aload_n hx hb dX6_has_60 rfl (lv_at hl 0 rfl) ?_
                refine q_get C0 iX6 hP hC.1.1 hC.1.2 rfl 0 (by decide) flX6_11 rfl (v := .ref ((uab G))) rfl dX6_has_61 ?_
                refine lv_iload_n hx hb dX6_has_64 rfl (lv_at hl 1 rfl) ?_
                refine q_aald C0 hP hC.2.1.1 hC.2.1.2 (t := 3) rfl (by omega) (by decide) (v := .ref ((urh G (vbk μ xb)))) rfl dX6_has_65 ?_
                refine q_getN C0 iX5 hP (MP_r hC (hW.1 xb)).1 (MP_r hC (hW.1 xb)).2.1 rfl 1 (by decide) C0.2.2.2.2.2.2.1 rfl (v := .ref ((urw G (vbk μ xb)))) rfl dX6_has_66 ?_
                refine lv_iload hx hb dX6_has_69 (lv_at hl 5 rfl) ?_
                refine q_iald C0 hP (f := (mwd (vod μ (vbk μ xb)) (vst μ (vbk μ xb)))) (MP_r hC (hW.1 xb)).2.2.1 (MP_r hC (hW.1 xb)).2.2.2.1 (by omega) (by decide) dX6_has_71 ?_
                have b_13 := (fun k => show -1 ≤ mwd (vod μ (vbk μ xb)) (vst μ (vbk μ xb)) k ∧ mwd (vod μ (vbk μ xb)) (vst μ (vbk μ xb)) k ≤ 99 from (MP_r hC (hW.1 xb)).2.2.2.2.2 (turn (vod μ (vbk μ xb)) k)) r
                refine lv_iload_n hx hb dX6_has_72 rfl (lv_at hl 3 rfl) ?_
                refine q_icmp_ne hx hb dX6_has_73 (tgt := 80) (by decide) (by omega) (by omega) (fun c14 => ?_) (fun c14 => ?_)
                · refine q_iconst hx hb dX6_has_80 ?_
                  refine lv_istore (lv' := [(4, .int (iI 0)), (0, .ref ((ubg G))), (1, .int (iI xb)), (2, .int (iI xw)), (3, .int (iI xn)), (5, .int (iI r))]) hx hb dX6_has_81 hl (by decide) rfl (fun ls hl => ?_)
                  refine q_iinc (x := r) (n := 1) (lv' := [(5, .int (iI ((r + 1)))), (4, .int (iI 0)), (0, .ref ((ubg G))), (1, .int (iI xb)), (2, .int (iI xw)), (3, .int (iI xn))]) hx hb dX6_has_83 hl (k := 5) rfl (by decide) rfl (fun ls hl => ?_)
                  refine lv_goto (tgt := 44) hx hb dX6_has_86 (by decide) ?_
                  exact ih_LP44 _ (by omega) 0 (r + 1) (by omega) (by omega) (by
    rcases hI with h9 | ⟨h8, h9⟩
    · exact absurd h9.1 (by omega)
    · refine Or.inr ⟨h8, ?_⟩
      first | (rw [h9, if_neg (by omega), if_neg (by omega)]; done) | (rw [h9, if_pos (by omega), allP_n (by unfold hmW; rw [if_pos (by omega)]) (by omega), if_neg (by omega)]; done) | (rw [h9, if_pos (by omega), allP_s (by unfold hmW; rw [if_neg (by omega)]; decide) (by omega), if_pos (by omega)])) rfl ls (lv_sub hl [2, 3, 4, 5, 1, 0] rfl)
                · refine q_iconst hx hb dX6_has_76 ?_
                  refine lv_goto (tgt := 81) hx hb dX6_has_77 (by decide) ?_
                  refine lv_istore (lv' := [(4, .int (iI 1)), (0, .ref ((ubg G))), (1, .int (iI xb)), (2, .int (iI xw)), (3, .int (iI xn)), (5, .int (iI r))]) hx hb dX6_has_81 hl (by decide) rfl (fun ls hl => ?_)
                  refine q_iinc (x := r) (n := 1) (lv' := [(5, .int (iI ((r + 1)))), (4, .int (iI 1)), (0, .ref ((ubg G))), (1, .int (iI xb)), (2, .int (iI xw)), (3, .int (iI xn))]) hx hb dX6_has_83 hl (k := 5) rfl (by decide) rfl (fun ls hl => ?_)
                  refine lv_goto (tgt := 44) hx hb dX6_has_86 (by decide) ?_
                  exact ih_LP44 _ (by omega) 1 (r + 1) (by omega) (by omega) (by
    rcases hI with h9 | ⟨h8, h9⟩
    · exact absurd h9.1 (by omega)
    · refine Or.inr ⟨h8, ?_⟩
      first | (rw [h9, if_neg (by omega), if_neg (by omega)]; done) | (rw [h9, if_pos (by omega), allP_n (by unfold hmW; rw [if_pos (by omega)]) (by omega), if_neg (by omega)]; done) | (rw [h9, if_pos (by omega), allP_s (by unfold hmW; rw [if_neg (by omega)]; decide) (by omega), if_pos (by omega)])) rfl ls (lv_sub hl [2, 3, 4, 5, 1, 0] rfl)
      exact LP44 _ 0 0 (by omega) (by omega) (by first | exact Or.inl ⟨by omega, by omega⟩ | exact Or.inr ⟨by omega, by rw [if_pos rfl]⟩) rfl ls (lv_sub hl [2, 3, 4, 5, 1, 0] rfl)
    · refine lv_aload_n hx hb dX6_has_21 rfl (lv_at hl 0 rfl) ?_
      refine q_get C0 iX6 hP hC.1.1 hC.1.2 rfl 0 (by decide) flX6_11 rfl (v := .ref ((uab G))) rfl dX6_has_22 ?_
      refine lv_iload_n hx hb dX6_has_25 rfl (lv_at hl 1 rfl) ?_
      refine q_aald C0 hP hC.2.1.1 hC.2.1.2 (t := 3) rfl (by omega) (by decide) (v := .ref ((urh G (vbk μ xb)))) rfl dX6_has_26 ?_
      refine lv_iload_n hx hb dX6_has_27 rfl (lv_at hl 3 rfl) ?_
      refine q_vS C0 lX6_49 (c_X5_has l D y L F6 (urh G (vbk μ xb)) (urw G (vbk μ xb)) (vod μ (vbk μ xb)) (vst μ (vbk μ xb)) xn (MP_r hC (hW.1 xb)) (by omega)) ⟨rfl, rfl⟩ rfl hP (MP_r hC (hW.1 xb)).1 (MP_r hC (hW.1 xb)).2.1 rfl rfl rfl hl rfl (Nat.le_of_ble_eq_true rfl) dX6_has_28 ⟨Nat.zero_le _, Nat.zero_le _⟩ (fun r15 e_r15 => ?_)
      subst e_r15
      have b_16 := isT_b (vst μ (vbk μ xb)) (turn (vod μ (vbk μ xb)) xn)
      refine q_if_eq hx hb dX6_has_31 (tgt := 38) (by decide) (by omega) (fun c17 => ?_) (fun c17 => ?_)
      · refine q_iconst hx hb dX6_has_38 ?_
        refine lv_istore (lv' := [(4, .int (iI 0)), (0, .ref ((ubg G))), (1, .int (iI xb)), (2, .int (iI xw)), (3, .int (iI xn))]) hx hb dX6_has_39 hl (by decide) rfl (fun ls hl => ?_)
        refine q_iconst hx hb dX6_has_41 ?_
        refine lv_istore (lv' := [(5, .int (iI 0)), (4, .int (iI 0)), (0, .ref ((ubg G))), (1, .int (iI xb)), (2, .int (iI xw)), (3, .int (iI xn))]) hx hb dX6_has_42 hl (by decide) rfl (fun ls hl => ?_)
        have LP44 : ∀ (n_LP44 : Nat) (z : Int) (r : Int), (0 ≤ r ∧ r ≤ 100) → (0 ≤ z ∧ z ≤ 1) → ((xw ≠ 0 ∧ z = isT (vst μ (vbk μ xb)) (turn (vod μ (vbk μ xb)) xn)) ∨ (xw = 0 ∧ allP (hmW (vod μ (vbk μ xb)) (vst μ (vbk μ xb)) xn) 0 = if z = 0 then allP (hmW (vod μ (vbk μ xb)) (vst μ (vbk μ xb)) xn) r else 0)) → (100 - r).toNat = n_LP44 → ∀ ls : Array Slot, lv_has ls 6 [(0, .ref ((ubg G))), (1, .int (iI xb)), (2, .int (iI xw)), (3, .int (iI xn)), (4, .int (iI z)), (5, .int (iI r))] → W p l e ({ frames := 2, cells := 0, slots := 0, locals := 42 } : Room) s m [.ref ((ubg G)), .int (iI xb), .int (iI xw), .int (iI xn)].toArray below meth c H locs 0 0 (MQ below (cMi D (AL L sz) (fun r L1 F1 => r = jR_has μ xb xw xn ∧ ∃ (O1 : Nat → Prop) (G1 : MG), MP y L1 F1 O1 G1 (jS_has μ xb xw xn) ∧ ubg G1 = ubg G ∧ Ext O O1 L L1 F F1)) [.ref ((ubg G)), .int (iI xb), .int (iI xw), .int (iI xn)].toArray s 0 0 (AL L sz)) (F0 m 44 ls []) := by
          intro n_LP44
          induction n_LP44 using Nat.strongRecOn with
          | ind n_LP44 ih_LP44 =>
            intro z r hr hz hI hm_LP44 ls hl
            refine lv_iload hx hb dX6_has_44 (lv_at hl 5 rfl) ?_
            refine q_bipush hx hb dX6_has_46 (by decide) ?_
            refine q_icmp_ge hx hb dX6_has_48 (tgt := 89) (by decide) (by omega) (by omega) (fun c18 => ?_) (fun c18 => ?_)
            · refine lv_iload hx hb dX6_has_89 (lv_at hl 4 rfl) ?_
              exact q_retMi C0 hret (narB (by omega)) hlk dX6_has_91 hP hD hS (⟨(by 
    unfold jR_has; (try unfold bkF); (try unfold bkO); (try unfold shF); (try unfold shO); rw [if_pos ⟨by omega, by omega⟩]; rcases hI with ⟨h1, h2⟩ | ⟨h1, h2⟩
    · rw [if_pos h1]; exact h2
    · rw [if_neg (by omega), h2]; split
      · rw [allP_e (by omega)]; omega
      · omega), O, G, MP_eq hC (by 
    have lt_ := ltR_d (inR xb 0 3) (inR xn 0 99)
    unfold jS_has ; rw [show ltR (inR xb 0 3) (inR xn 0 99) = 0 by omega]; (repeat (first | rw [if_pos (by omega)] | rw [if_neg (by omega)]))
    all_goals rfl), rfl, Ext0 hO⟩)
            · refine lv_iload_n hx hb dX6_has_51 rfl (lv_at hl 2 rfl) ?_
              refine q_if_ne hx hb dX6_has_52 (tgt := 89) (by decide) (by omega) (fun c19 => ?_) (fun c19 => ?_)
              · refine lv_iload hx hb dX6_has_89 (lv_at hl 4 rfl) ?_
                exact q_retMi C0 hret (narB (by omega)) hlk dX6_has_91 hP hD hS (⟨(by 
    unfold jR_has; (try unfold bkF); (try unfold bkO); (try unfold shF); (try unfold shO); rw [if_pos ⟨by omega, by omega⟩]; rcases hI with ⟨h1, h2⟩ | ⟨h1, h2⟩
    · rw [if_pos h1]; exact h2
    · rw [if_neg (by omega), h2]; split
      · rw [allP_e (by omega)]; omega
      · omega), O, G, MP_eq hC (by 
    have lt_ := ltR_d (inR xb 0 3) (inR xn 0 99)
    unfold jS_has ; rw [show ltR (inR xb 0 3) (inR xn 0 99) = 0 by omega]; (repeat (first | rw [if_pos (by omega)] | rw [if_neg (by omega)]))
    all_goals rfl), rfl, Ext0 hO⟩)
              · refine lv_iload hx hb dX6_has_55 (lv_at hl 4 rfl) ?_
                refine q_if_ne hx hb dX6_has_57 (tgt := 76) (by decide) (by omega) (fun c20 => ?_) (fun c20 => ?_)
                · refine q_iconst hx hb dX6_has_76 ?_
                  refine lv_goto (tgt := 81) hx hb dX6_has_77 (by decide) ?_
                  refine lv_istore (lv' := [(4, .int (iI 1)), (0, .ref ((ubg G))), (1, .int (iI xb)), (2, .int (iI xw)), (3, .int (iI xn)), (5, .int (iI r))]) hx hb dX6_has_81 hl (by decide) rfl (fun ls hl => ?_)
                  refine q_iinc (x := r) (n := 1) (lv' := [(5, .int (iI ((r + 1)))), (4, .int (iI 1)), (0, .ref ((ubg G))), (1, .int (iI xb)), (2, .int (iI xw)), (3, .int (iI xn))]) hx hb dX6_has_83 hl (k := 5) rfl (by decide) rfl (fun ls hl => ?_)
                  refine lv_goto (tgt := 44) hx hb dX6_has_86 (by decide) ?_
                  exact ih_LP44 _ (by omega) 1 (r + 1) (by omega) (by omega) (by
    rcases hI with h9 | ⟨h8, h9⟩
    · exact absurd h9.1 (by omega)
    · refine Or.inr ⟨h8, ?_⟩
      first | (rw [h9, if_neg (by omega), if_neg (by omega)]; done) | (rw [h9, if_pos (by omega), allP_n (by unfold hmW; rw [if_pos (by omega)]) (by omega), if_neg (by omega)]; done) | (rw [h9, if_pos (by omega), allP_s (by unfold hmW; rw [if_neg (by omega)]; decide) (by omega), if_pos (by omega)])) rfl ls (lv_sub hl [2, 3, 4, 5, 1, 0] rfl)
                · refine lv_aload_n hx hb dX6_has_60 rfl (lv_at hl 0 rfl) ?_
                  refine q_get C0 iX6 hP hC.1.1 hC.1.2 rfl 0 (by decide) flX6_11 rfl (v := .ref ((uab G))) rfl dX6_has_61 ?_
                  refine lv_iload_n hx hb dX6_has_64 rfl (lv_at hl 1 rfl) ?_
                  refine q_aald C0 hP hC.2.1.1 hC.2.1.2 (t := 3) rfl (by omega) (by decide) (v := .ref ((urh G (vbk μ xb)))) rfl dX6_has_65 ?_
                  refine q_getN C0 iX5 hP (MP_r hC (hW.1 xb)).1 (MP_r hC (hW.1 xb)).2.1 rfl 1 (by decide) C0.2.2.2.2.2.2.1 rfl (v := .ref ((urw G (vbk μ xb)))) rfl dX6_has_66 ?_
                  refine lv_iload hx hb dX6_has_69 (lv_at hl 5 rfl) ?_
                  refine q_iald C0 hP (f := (mwd (vod μ (vbk μ xb)) (vst μ (vbk μ xb)))) (MP_r hC (hW.1 xb)).2.2.1 (MP_r hC (hW.1 xb)).2.2.2.1 (by omega) (by decide) dX6_has_71 ?_
                  have b_21 := (fun k => show -1 ≤ mwd (vod μ (vbk μ xb)) (vst μ (vbk μ xb)) k ∧ mwd (vod μ (vbk μ xb)) (vst μ (vbk μ xb)) k ≤ 99 from (MP_r hC (hW.1 xb)).2.2.2.2.2 (turn (vod μ (vbk μ xb)) k)) r
                  refine lv_iload_n hx hb dX6_has_72 rfl (lv_at hl 3 rfl) ?_
                  refine q_icmp_ne hx hb dX6_has_73 (tgt := 80) (by decide) (by omega) (by omega) (fun c22 => ?_) (fun c22 => ?_)
                  · refine q_iconst hx hb dX6_has_80 ?_
                    refine lv_istore (lv' := [(4, .int (iI 0)), (0, .ref ((ubg G))), (1, .int (iI xb)), (2, .int (iI xw)), (3, .int (iI xn)), (5, .int (iI r))]) hx hb dX6_has_81 hl (by decide) rfl (fun ls hl => ?_)
                    refine q_iinc (x := r) (n := 1) (lv' := [(5, .int (iI ((r + 1)))), (4, .int (iI 0)), (0, .ref ((ubg G))), (1, .int (iI xb)), (2, .int (iI xw)), (3, .int (iI xn))]) hx hb dX6_has_83 hl (k := 5) rfl (by decide) rfl (fun ls hl => ?_)
                    refine lv_goto (tgt := 44) hx hb dX6_has_86 (by decide) ?_
                    exact ih_LP44 _ (by omega) 0 (r + 1) (by omega) (by omega) (by
    rcases hI with h9 | ⟨h8, h9⟩
    · exact absurd h9.1 (by omega)
    · refine Or.inr ⟨h8, ?_⟩
      first | (rw [h9, if_neg (by omega), if_neg (by omega)]; done) | (rw [h9, if_pos (by omega), allP_n (by unfold hmW; rw [if_pos (by omega)]) (by omega), if_neg (by omega)]; done) | (rw [h9, if_pos (by omega), allP_s (by unfold hmW; rw [if_neg (by omega)]; decide) (by omega), if_pos (by omega)])) rfl ls (lv_sub hl [2, 3, 4, 5, 1, 0] rfl)
                  · refine q_iconst hx hb dX6_has_76 ?_
                    refine lv_goto (tgt := 81) hx hb dX6_has_77 (by decide) ?_
                    refine lv_istore (lv' := [(4, .int (iI 1)), (0, .ref ((ubg G))), (1, .int (iI xb)), (2, .int (iI xw)), (3, .int (iI xn)), (5, .int (iI r))]) hx hb dX6_has_81 hl (by decide) rfl (fun ls hl => ?_)
                    refine q_iinc (x := r) (n := 1) (lv' := [(5, .int (iI ((r + 1)))), (4, .int (iI 1)), (0, .ref ((ubg G))), (1, .int (iI xb)), (2, .int (iI xw)), (3, .int (iI xn))]) hx hb dX6_has_83 hl (k := 5) rfl (by decide) rfl (fun ls hl => ?_)
                    refine lv_goto (tgt := 44) hx hb dX6_has_86 (by decide) ?_
                    exact ih_LP44 _ (by omega) 1 (r + 1) (by omega) (by omega) (by
    rcases hI with h9 | ⟨h8, h9⟩
    · exact absurd h9.1 (by omega)
    · refine Or.inr ⟨h8, ?_⟩
      first | (rw [h9, if_neg (by omega), if_neg (by omega)]; done) | (rw [h9, if_pos (by omega), allP_n (by unfold hmW; rw [if_pos (by omega)]) (by omega), if_neg (by omega)]; done) | (rw [h9, if_pos (by omega), allP_s (by unfold hmW; rw [if_neg (by omega)]; decide) (by omega), if_pos (by omega)])) rfl ls (lv_sub hl [2, 3, 4, 5, 1, 0] rfl)
        exact LP44 _ 0 0 (by omega) (by omega) (by first | exact Or.inl ⟨by omega, by omega⟩ | exact Or.inr ⟨by omega, by rw [if_pos rfl]⟩) rfl ls (lv_sub hl [2, 3, 4, 5, 1, 0] rfl)
      · refine q_iconst hx hb dX6_has_34 ?_
        refine lv_goto (tgt := 39) hx hb dX6_has_35 (by decide) ?_
        refine lv_istore (lv' := [(4, .int (iI 1)), (0, .ref ((ubg G))), (1, .int (iI xb)), (2, .int (iI xw)), (3, .int (iI xn))]) hx hb dX6_has_39 hl (by decide) rfl (fun ls hl => ?_)
        refine q_iconst hx hb dX6_has_41 ?_
        refine lv_istore (lv' := [(5, .int (iI 0)), (4, .int (iI 1)), (0, .ref ((ubg G))), (1, .int (iI xb)), (2, .int (iI xw)), (3, .int (iI xn))]) hx hb dX6_has_42 hl (by decide) rfl (fun ls hl => ?_)
        have LP44 : ∀ (n_LP44 : Nat) (z : Int) (r : Int), (0 ≤ r ∧ r ≤ 100) → (0 ≤ z ∧ z ≤ 1) → ((xw ≠ 0 ∧ z = isT (vst μ (vbk μ xb)) (turn (vod μ (vbk μ xb)) xn)) ∨ (xw = 0 ∧ allP (hmW (vod μ (vbk μ xb)) (vst μ (vbk μ xb)) xn) 0 = if z = 0 then allP (hmW (vod μ (vbk μ xb)) (vst μ (vbk μ xb)) xn) r else 0)) → (100 - r).toNat = n_LP44 → ∀ ls : Array Slot, lv_has ls 6 [(0, .ref ((ubg G))), (1, .int (iI xb)), (2, .int (iI xw)), (3, .int (iI xn)), (4, .int (iI z)), (5, .int (iI r))] → W p l e ({ frames := 2, cells := 0, slots := 0, locals := 42 } : Room) s m [.ref ((ubg G)), .int (iI xb), .int (iI xw), .int (iI xn)].toArray below meth c H locs 0 0 (MQ below (cMi D (AL L sz) (fun r L1 F1 => r = jR_has μ xb xw xn ∧ ∃ (O1 : Nat → Prop) (G1 : MG), MP y L1 F1 O1 G1 (jS_has μ xb xw xn) ∧ ubg G1 = ubg G ∧ Ext O O1 L L1 F F1)) [.ref ((ubg G)), .int (iI xb), .int (iI xw), .int (iI xn)].toArray s 0 0 (AL L sz)) (F0 m 44 ls []) := by
          intro n_LP44
          induction n_LP44 using Nat.strongRecOn with
          | ind n_LP44 ih_LP44 =>
            intro z r hr hz hI hm_LP44 ls hl
            refine lv_iload hx hb dX6_has_44 (lv_at hl 5 rfl) ?_
            refine q_bipush hx hb dX6_has_46 (by decide) ?_
            refine q_icmp_ge hx hb dX6_has_48 (tgt := 89) (by decide) (by omega) (by omega) (fun c23 => ?_) (fun c23 => ?_)
            · refine lv_iload hx hb dX6_has_89 (lv_at hl 4 rfl) ?_
              exact q_retMi C0 hret (narB (by omega)) hlk dX6_has_91 hP hD hS (⟨(by 
    unfold jR_has; (try unfold bkF); (try unfold bkO); (try unfold shF); (try unfold shO); rw [if_pos ⟨by omega, by omega⟩]; rcases hI with ⟨h1, h2⟩ | ⟨h1, h2⟩
    · rw [if_pos h1]; exact h2
    · rw [if_neg (by omega), h2]; split
      · rw [allP_e (by omega)]; omega
      · omega), O, G, MP_eq hC (by 
    have lt_ := ltR_d (inR xb 0 3) (inR xn 0 99)
    unfold jS_has ; rw [show ltR (inR xb 0 3) (inR xn 0 99) = 0 by omega]; (repeat (first | rw [if_pos (by omega)] | rw [if_neg (by omega)]))
    all_goals rfl), rfl, Ext0 hO⟩)
            · refine lv_iload_n hx hb dX6_has_51 rfl (lv_at hl 2 rfl) ?_
              refine q_if_ne hx hb dX6_has_52 (tgt := 89) (by decide) (by omega) (fun c24 => ?_) (fun c24 => ?_)
              · refine lv_iload hx hb dX6_has_89 (lv_at hl 4 rfl) ?_
                exact q_retMi C0 hret (narB (by omega)) hlk dX6_has_91 hP hD hS (⟨(by 
    unfold jR_has; (try unfold bkF); (try unfold bkO); (try unfold shF); (try unfold shO); rw [if_pos ⟨by omega, by omega⟩]; rcases hI with ⟨h1, h2⟩ | ⟨h1, h2⟩
    · rw [if_pos h1]; exact h2
    · rw [if_neg (by omega), h2]; split
      · rw [allP_e (by omega)]; omega
      · omega), O, G, MP_eq hC (by 
    have lt_ := ltR_d (inR xb 0 3) (inR xn 0 99)
    unfold jS_has ; rw [show ltR (inR xb 0 3) (inR xn 0 99) = 0 by omega]; (repeat (first | rw [if_pos (by omega)] | rw [if_neg (by omega)]))
    all_goals rfl), rfl, Ext0 hO⟩)
              · refine lv_iload hx hb dX6_has_55 (lv_at hl 4 rfl) ?_
                refine q_if_ne hx hb dX6_has_57 (tgt := 76) (by decide) (by omega) (fun c25 => ?_) (fun c25 => ?_)
                · refine q_iconst hx hb dX6_has_76 ?_
                  refine lv_goto (tgt := 81) hx hb dX6_has_77 (by decide) ?_
                  refine lv_istore (lv' := [(4, .int (iI 1)), (0, .ref ((ubg G))), (1, .int (iI xb)), (2, .int (iI xw)), (3, .int (iI xn)), (5, .int (iI r))]) hx hb dX6_has_81 hl (by decide) rfl (fun ls hl => ?_)
                  refine q_iinc (x := r) (n := 1) (lv' := [(5, .int (iI ((r + 1)))), (4, .int (iI 1)), (0, .ref ((ubg G))), (1, .int (iI xb)), (2, .int (iI xw)), (3, .int (iI xn))]) hx hb dX6_has_83 hl (k := 5) rfl (by decide) rfl (fun ls hl => ?_)
                  refine lv_goto (tgt := 44) hx hb dX6_has_86 (by decide) ?_
                  exact ih_LP44 _ (by omega) 1 (r + 1) (by omega) (by omega) (by
    rcases hI with h9 | ⟨h8, h9⟩
    · exact absurd h9.1 (by omega)
    · refine Or.inr ⟨h8, ?_⟩
      first | (rw [h9, if_neg (by omega), if_neg (by omega)]; done) | (rw [h9, if_pos (by omega), allP_n (by unfold hmW; rw [if_pos (by omega)]) (by omega), if_neg (by omega)]; done) | (rw [h9, if_pos (by omega), allP_s (by unfold hmW; rw [if_neg (by omega)]; decide) (by omega), if_pos (by omega)])) rfl ls (lv_sub hl [2, 3, 4, 5, 1, 0] rfl)
                · refine lv_aload_n hx hb dX6_has_60 rfl (lv_at hl 0 rfl) ?_
                  refine q_get C0 iX6 hP hC.1.1 hC.1.2 rfl 0 (by decide) flX6_11 rfl (v := .ref ((uab G))) rfl dX6_has_61 ?_
                  refine lv_iload_n hx hb dX6_has_64 rfl (lv_at hl 1 rfl) ?_
                  refine q_aald C0 hP hC.2.1.1 hC.2.1.2 (t := 3) rfl (by omega) (by decide) (v := .ref ((urh G (vbk μ xb)))) rfl dX6_has_65 ?_
                  refine q_getN C0 iX5 hP (MP_r hC (hW.1 xb)).1 (MP_r hC (hW.1 xb)).2.1 rfl 1 (by decide) C0.2.2.2.2.2.2.1 rfl (v := .ref ((urw G (vbk μ xb)))) rfl dX6_has_66 ?_
                  refine lv_iload hx hb dX6_has_69 (lv_at hl 5 rfl) ?_
                  refine q_iald C0 hP (f := (mwd (vod μ (vbk μ xb)) (vst μ (vbk μ xb)))) (MP_r hC (hW.1 xb)).2.2.1 (MP_r hC (hW.1 xb)).2.2.2.1 (by omega) (by decide) dX6_has_71 ?_
                  have b_26 := (fun k => show -1 ≤ mwd (vod μ (vbk μ xb)) (vst μ (vbk μ xb)) k ∧ mwd (vod μ (vbk μ xb)) (vst μ (vbk μ xb)) k ≤ 99 from (MP_r hC (hW.1 xb)).2.2.2.2.2 (turn (vod μ (vbk μ xb)) k)) r
                  refine lv_iload_n hx hb dX6_has_72 rfl (lv_at hl 3 rfl) ?_
                  refine q_icmp_ne hx hb dX6_has_73 (tgt := 80) (by decide) (by omega) (by omega) (fun c27 => ?_) (fun c27 => ?_)
                  · refine q_iconst hx hb dX6_has_80 ?_
                    refine lv_istore (lv' := [(4, .int (iI 0)), (0, .ref ((ubg G))), (1, .int (iI xb)), (2, .int (iI xw)), (3, .int (iI xn)), (5, .int (iI r))]) hx hb dX6_has_81 hl (by decide) rfl (fun ls hl => ?_)
                    refine q_iinc (x := r) (n := 1) (lv' := [(5, .int (iI ((r + 1)))), (4, .int (iI 0)), (0, .ref ((ubg G))), (1, .int (iI xb)), (2, .int (iI xw)), (3, .int (iI xn))]) hx hb dX6_has_83 hl (k := 5) rfl (by decide) rfl (fun ls hl => ?_)
                    refine lv_goto (tgt := 44) hx hb dX6_has_86 (by decide) ?_
                    exact ih_LP44 _ (by omega) 0 (r + 1) (by omega) (by omega) (by
    rcases hI with h9 | ⟨h8, h9⟩
    · exact absurd h9.1 (by omega)
    · refine Or.inr ⟨h8, ?_⟩
      first | (rw [h9, if_neg (by omega), if_neg (by omega)]; done) | (rw [h9, if_pos (by omega), allP_n (by unfold hmW; rw [if_pos (by omega)]) (by omega), if_neg (by omega)]; done) | (rw [h9, if_pos (by omega), allP_s (by unfold hmW; rw [if_neg (by omega)]; decide) (by omega), if_pos (by omega)])) rfl ls (lv_sub hl [2, 3, 4, 5, 1, 0] rfl)
                  · refine q_iconst hx hb dX6_has_76 ?_
                    refine lv_goto (tgt := 81) hx hb dX6_has_77 (by decide) ?_
                    refine lv_istore (lv' := [(4, .int (iI 1)), (0, .ref ((ubg G))), (1, .int (iI xb)), (2, .int (iI xw)), (3, .int (iI xn)), (5, .int (iI r))]) hx hb dX6_has_81 hl (by decide) rfl (fun ls hl => ?_)
                    refine q_iinc (x := r) (n := 1) (lv' := [(5, .int (iI ((r + 1)))), (4, .int (iI 1)), (0, .ref ((ubg G))), (1, .int (iI xb)), (2, .int (iI xw)), (3, .int (iI xn))]) hx hb dX6_has_83 hl (k := 5) rfl (by decide) rfl (fun ls hl => ?_)
                    refine lv_goto (tgt := 44) hx hb dX6_has_86 (by decide) ?_
                    exact ih_LP44 _ (by omega) 1 (r + 1) (by omega) (by omega) (by
    rcases hI with h9 | ⟨h8, h9⟩
    · exact absurd h9.1 (by omega)
    · refine Or.inr ⟨h8, ?_⟩
      first | (rw [h9, if_neg (by omega), if_neg (by omega)]; done) | (rw [h9, if_pos (by omega), allP_n (by unfold hmW; rw [if_pos (by omega)]) (by omega), if_neg (by omega)]; done) | (rw [h9, if_pos (by omega), allP_s (by unfold hmW; rw [if_neg (by omega)]; decide) (by omega), if_pos (by omega)])) rfl ls (lv_sub hl [2, 3, 4, 5, 1, 0] rfl)
        exact LP44 _ 1 0 (by omega) (by omega) (by first | exact Or.inl ⟨by omega, by omega⟩ | exact Or.inr ⟨by omega, by rw [if_pos rfl]⟩) rfl ls (lv_sub hl [2, 3, 4, 5, 1, 0] rfl)
  · replace k_7 := k_7.resolve_left (fun h => absurd (h.1.symm.trans c8) (by decide))
    refine q_iconst hx hb dX6_has_15 ?_
    exact q_retMi C0 hret (by decide) hlk dX6_has_16 hP hD hS (⟨(by unfold jR_has; (try unfold bkF); (try unfold bkO); (try unfold shF); (try unfold shO); rw [if_neg (by omega)]), O, G, MP_eq hC (by have lt_ := ltR_d (inR xb 0 3) (inR xn 0 99); unfold jS_has; rcases lt_ with lt_ | lt_ | lt_ <;> first | (rw [if_neg (by omega), lt_.1]; done) | (rw [if_pos (by omega), if_neg (by omega), lt_.1]; done) | (exfalso; omega)), rfl, Ext0 hO⟩)
