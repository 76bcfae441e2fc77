abbrev bkF (μ : MS) (b : Int) : Int → Int := vst μ (vbk μ b)
abbrev bkO (μ : MS) (b : Int) : Int := vod μ (vbk μ b)
def jS_take (μ : MS) (b k : Int) : MS := if 0 ≤ b ∧ b ≤ 3 then (if 0 ≤ k ∧ k ≤ 99 then cgS (tTh μ 0) (vbk μ b) (turn (bkO μ b) k) 1 (-1) else tTh μ 2) else tTh μ 1
def jR_take (μ : MS) (b k : Int) : Int := if (0 ≤ b ∧ b ≤ 3) ∧ 0 ≤ k ∧ k ≤ 99 then bkF μ b (turn (bkO μ b) k) else 0
def jS_near (μ : MS) (b k t w : Int) : MS := if 0 ≤ b ∧ b ≤ 3 then (if (0 ≤ k ∧ k ≤ 99) ∧ 0 ≤ t ∧ t ≤ 4 then tTh μ 0 else tTh μ 2) else tTh μ 1
def jR_near (μ : MS) (b k t w : Int) : Int := if (0 ≤ b ∧ b ≤ 3) ∧ (0 ≤ k ∧ k ≤ 99) ∧ 0 ≤ t ∧ t ≤ 4 then tldR (bkO μ b) (bkF μ b) (keyR (bkO μ b) (nearP (bkO μ b) (bkF μ b) 0 99 k t)) w else 0
def jS_tellBook (μ : MS) (b t : Int) : MS := if 0 ≤ b ∧ b ≤ 3 then (if 0 ≤ t ∧ t ≤ 3 then tTh μ 0 else tTh μ 2) else tTh μ 1
def jR_tellBook (μ : MS) (b t : Int) : Int := if (0 ≤ b ∧ b ≤ 3) ∧ 0 ≤ t ∧ t ≤ 3 then (if t = 0 then cntP (bkF μ b) 0 99 else if t = 1 then bkO μ b else if t = 2 then hashM (bkO μ b) (bkF μ b) else if cntP (bkF μ b) 0 99 = 0 then 1 else 0) else 0
def jS_sameBooks (μ : MS) (b c : Int) : MS := if (0 ≤ b ∧ b ≤ 3) ∧ 0 ≤ c ∧ c ≤ 3 then tTh μ 0 else tTh μ 1
def jR_sameBooks (μ : MS) (b c : Int) : Int := if (0 ≤ b ∧ b ≤ 3) ∧ 0 ≤ c ∧ c ≤ 3 then sameM (bkO μ b) (bkO μ c) (bkF μ b) (bkF μ c) else 0
def jS_house (μ : MS) (t : Int) : MS := if 0 ≤ t ∧ t ≤ 3 then tTh μ 0 else tTh μ 1
def jR_house (μ : MS) (t : Int) : Int := if 0 ≤ t ∧ t ≤ 3 then vct μ t else 0
def jS_knock (μ : MS) : MS := tDi (tTh μ 0) 3
def jR_knock (μ : MS) : Int := vct μ 3 + 1
def jS_exchange (μ : MS) (b k o w : Int) : MS := if 0 ≤ b ∧ b ≤ 3 then (if (0 ≤ k ∧ k ≤ 99) ∧ (0 ≤ o ∧ o ≤ 99) ∧ -1 ≤ w ∧ w ≤ 99 then cgS (tTh μ 0) (vbk μ b) (turn (bkO μ b) k) (if bkF μ b (turn (bkO μ b) k) = o then 1 else 0) w else tTh μ 2) else tTh μ 1
def jR_exchange (μ : MS) (b k o w : Int) : Int := if (0 ≤ b ∧ b ≤ 3) ∧ (0 ≤ k ∧ k ≤ 99) ∧ (0 ≤ o ∧ o ≤ 99) ∧ -1 ≤ w ∧ w ≤ 99 then (if bkF μ b (turn (bkO μ b) k) = o then 1 else 0) else 0
def jS_end (μ : MS) (b w v : Int) : MS := if 0 ≤ b ∧ b ≤ 3 then (if endP (bkF μ b) 0 99 w = -1 ∧ v = 0 then tDi (tTh μ 0) 2 else tTh μ 0) else tTh μ 1
def jR_end (μ : MS) (b w v : Int) : Int := if 0 ≤ b ∧ b ≤ 3 then (if endP (bkF μ b) 0 99 w = -1 ∧ v = 0 then -9 else tldR (bkO μ b) (bkF μ b) (keyR (bkO μ b) (endP (bkF μ b) 0 99 w)) v) else 0
def jS_startWalk (μ : MS) (b : Int) : MS := if 0 ≤ b ∧ b ≤ 3 then tOb μ (some (vbk μ b)) 0 (-1) 0 0 else tTh μ 1
def jR_startWalk (μ : MS) (b : Int) : Int := if 0 ≤ b ∧ b ≤ 3 then cntP (bkF μ b) 0 99 else 0
def jS_viewNear (μ : MS) (v k t : Int) : MS := if 0 ≤ v ∧ v ≤ 1 then (if (0 ≤ k ∧ k ≤ 99) ∧ 0 ≤ t ∧ t ≤ 4 then tTh μ 0 else tTh μ 2) else tTh μ 1
def jR_viewNear (μ : MS) (v k t : Int) : Int := if (0 ≤ v ∧ v ≤ 1) ∧ (0 ≤ k ∧ k ≤ 99) ∧ 0 ≤ t ∧ t ≤ 4 then tldR (vod μ (vvw μ v)) (vst μ (vvw μ v)) (keyR (vod μ (vvw μ v)) (nearP (vod μ (vvw μ v)) (vst μ (vvw μ v)) (vvl μ v) (vvh μ v) k t)) 1 else 0
theorem keyR_m1 {o r : Int} (h : -1 ≤ r ∧ r ≤ 99) : keyR o r = -1 ↔ r = -1 := by
  have := keyR_b (o := o) h
  constructor
  · intro e
    omega
  · intro e
    rw [e]
    rfl
set_option maxHeartbeats 3000000 in
set_option maxRecDepth 100000 in
theorem c_X6_take (l : Launch) (D : va_G) (y : Nat → ClassId) (L : List Nat) (F : Nat → va_E) (sz : Nat) (O : Nat → Prop) (G : MG) (μ : MS) (xb : Int) (xk : Int) (hC : MP y L F O G μ) (hW : MW μ) (h_xb : -2147483648 ≤ xb ∧ xb ≤ 2147483647) (h_xk : -2147483648 ≤ xk ∧ xk ≤ 2147483647) : Met l yX6_take (.code yX6_take cX6_take 3 (some .int) :: Tt) ({ frames := 3, cells := 0, slots := 0, locals := 70 }) (PcM D y L F sz [.ref ((ubg G)), .int (iI xb), .int (iI xk)]) (cMi D (AL L sz) (fun r L1 F1 => r = jR_take μ xb xk ∧ ∃ (O1 : Nat → Prop) (G1 : MG), MP y L1 F1 O1 G1 (jS_take μ xb xk) ∧ ubg G1 = ubg G ∧ Ext O O1 L L1 F F1)) 0 0 (AL L sz) := by
  have hO : OE O F F := fun _ _ => rfl
  have hw5 := hW.2.2.2.2.2.1
  have hw6 := hW.2.2.2.2.2.2.1
  have hw7 := hW.2.2.2.2.2.2.2.1
  refine q_ofM (lv := [(0, .ref ((ubg G))), (1, .int (iI xb)), (2, .int (iI xk))]) (by decide) (Nat.le_of_ble_eq_true rfl) rfl (fun p e s m below meth c C0 hret hlk hnm hA hP hD hS ls hl => ?_)
  have hx := C0.1.1
  have hb := C0.1.2.1
  have hts := C0.1.2.2.2.2
  refine lv_aload_n hx hb dX6_take_0 rfl (lv_at hl 0 rfl) ?_
  refine lv_iload_n hx hb dX6_take_1 rfl (lv_at hl 1 rfl) ?_
  refine q_sS C0 lX6_60 (c_X6_isBook l D y L F xb (by omega)) ⟨rfl, rfl⟩ rfl hP rfl hl rfl (Nat.le_of_ble_eq_true rfl) dX6_take_2 ⟨Nat.zero_le _, Nat.zero_le _⟩ (fun r1 e_r1 => ?_)
  subst e_r1
  have b_2 := inR_d xb 0 3
  refine lv_iload_n hx hb dX6_take_5 rfl (lv_at hl 2 rfl) ?_
  refine q_sS C0 lX6_86 (c_X6_isKey l D y L F xk (by omega)) ⟨rfl, rfl⟩ rfl hP rfl hl rfl (Nat.le_of_ble_eq_true rfl) dX6_take_6 ⟨Nat.zero_le _, Nat.zero_le _⟩ (fun r3 e_r3 => ?_)
  subst e_r3
  have b_4 := inR_d xk 0 99
  refine q_vMi C0 lX6_63 (c_X6_isLet l D y L F _ O G μ (inR xb 0 3) (inR xk 0 99) hC (by omega) (by omega)) ⟨rfl, rfl⟩ rfl hP hD hS hA hC.1.1 hC.1.2 rfl rfl rfl hl rfl (Nat.le_of_ble_eq_true rfl) dX6_take_9 ⟨Nat.le_of_ble_eq_true rfl, Nat.le_of_ble_eq_true rfl⟩ (fun r5 H locs L6 F6 hP hD hS hz6 hp6 => ?_)
  obtain ⟨eL, hC, er, hO1⟩ := hp6
  subst eL
  replace er := er.symm
  subst er
  have hO := hO.tr hO1
  have k_7 := okR_d (inR xb 0 3) (inR xk 0 99)
  refine q_if_eq hx hb dX6_take_12 (tgt := 31) (by decide) (by omega) (fun c8 => ?_) (fun c8 => ?_)
  · replace k_7 := k_7.resolve_left (fun h => absurd (h.1.symm.trans c8) (by decide))
    refine q_iconst hx hb dX6_take_31 ?_
    exact q_retMi C0 hret rfl hlk dX6_take_32 hP hD hS (⟨(by unfold jR_take; (try unfold bkF); (try unfold bkO); (repeat' split) <;> first | omega | (exfalso; omega) | rfl), O, G, MP_eq hC (by unfold jS_take; (try unfold ltR); (try unfold inR); (try unfold bkF); (try unfold bkO); (repeat' split) <;> first | omega | (exfalso; omega) | rfl), rfl, Ext0 hO⟩)
  · replace k_7 := k_7.resolve_right (fun h => c8 h.1)
    refine lv_aload_n hx hb dX6_take_15 rfl (lv_at hl 0 rfl) ?_
    refine lv_aload_n hx hb dX6_take_16 rfl (lv_at hl 0 rfl) ?_
    refine q_get C0 iX6 hP hC.1.1 hC.1.2 rfl 0 (by decide) flX6_11 rfl (v := .ref ((uab G))) rfl dX6_take_17 ?_
    refine lv_iload_n hx hb dX6_take_20 rfl (lv_at hl 1 rfl) ?_
    refine q_aald C0 hP hC.2.1.1 hC.2.1.2 (t := 3) rfl (by omega) (by decide) (v := .ref ((urh G (vbk μ xb)))) rfl dX6_take_21 ?_
    refine lv_iload_n hx hb dX6_take_22 rfl (lv_at hl 2 rfl) ?_
    refine q_iconst hx hb dX6_take_23 ?_
    refine q_iconst hx hb dX6_take_24 ?_
    refine q_vMi C0 lX6_107 (c_X6_change l D y L F6 _ O G (tTh μ (ltR (inR xb 0 3) (inR xk 0 99))) (vbk μ xb) xk 1 (-1) hC hW (hW.1 xb) (by omega) (by omega) (by omega)) ⟨rfl, rfl⟩ rfl hP hD hS hA hC.1.1 hC.1.2 rfl rfl rfl hl rfl (Nat.le_of_ble_eq_true rfl) dX6_take_25 ⟨Nat.le_of_ble_eq_true rfl, Nat.le_of_ble_eq_true rfl⟩ (fun r9 H locs L10 F10 hP hD hS hz10 hp10 => ?_)
    obtain ⟨eL, hC, er, hO1⟩ := hp10
    subst eL
    replace er : (vst μ (vbk μ xb) (turn (vod μ (vbk μ xb)) xk)) = r9 := er.symm
    subst er
    have hO := hO.tr hO1
    refine lv_goto (tgt := 32) hx hb dX6_take_28 (by decide) ?_
    exact q_retMi C0 hret rfl hlk dX6_take_32 hP hD hS (⟨(by unfold jR_take; (try unfold bkF); (try unfold bkO); (repeat' split) <;> first | omega | (exfalso; omega) | rfl), O, G, MP_eq hC (by unfold jS_take; (try unfold ltR); (try unfold inR); (try unfold bkF); (try unfold bkO); (repeat' split) <;> first | omega | (exfalso; omega) | rfl), rfl, Ext0 hO⟩)
set_option maxHeartbeats 3000000 in
set_option maxRecDepth 100000 in
theorem c_X6_near (l : Launch) (D : va_G) (y : Nat → ClassId) (L : List Nat) (F : Nat → va_E) (sz : Nat) (O : Nat → Prop) (G : MG) (μ : MS) (xb : Int) (xk : Int) (xt : Int) (xw : Int) (hC : MP y L F O G μ) (hW : MW μ) (h_xb : -2147483648 ≤ xb ∧ xb ≤ 2147483647) (h_xk : -2147483648 ≤ xk ∧ xk ≤ 2147483647) (h_xt : -2147483648 ≤ xt ∧ xt ≤ 2147483647) (h_xw : 0 ≤ xw ∧ xw ≤ 1) : Met l yX6_near (.code yX6_near cX6_near 5 (some .int) :: Tt) ({ frames := 3, cells := 0, slots := 0, locals := 69 }) (PcM D y L F sz [.ref ((ubg G)), .int (iI xb), .int (iI xk), .int (iI xt), .int (iI xw)]) (cMi D (AL L sz) (fun r L1 F1 => r = jR_near μ xb xk xt xw ∧ ∃ (O1 : Nat → Prop) (G1 : MG), MP y L1 F1 O1 G1 (jS_near μ xb xk xt xw) ∧ ubg G1 = ubg G ∧ Ext O O1 L L1 F F1)) 0 0 (AL L sz) := by
  have hO : OE O F F := fun _ _ => rfl
  have hw5 := hW.2.2.2.2.2.1
  have hw6 := hW.2.2.2.2.2.2.1
  have hw7 := hW.2.2.2.2.2.2.2.1
  refine q_ofM (lv := [(0, .ref ((ubg G))), (1, .int (iI xb)), (2, .int (iI xk)), (3, .int (iI xt)), (4, .int (iI xw))]) (by decide) (Nat.le_of_ble_eq_true rfl) rfl (fun p e s m below meth c C0 hret hlk hnm hA hP hD hS ls hl => ?_)
  have hx := C0.1.1
  have hb := C0.1.2.1
  have hts := C0.1.2.2.2.2
  refine lv_aload_n hx hb dX6_near_0 rfl (lv_at hl 0 rfl) ?_
  refine lv_iload_n hx hb dX6_near_1 rfl (lv_at hl 1 rfl) ?_
  refine q_sS C0 lX6_60 (c_X6_isBook l D y L F xb (by omega)) ⟨rfl, rfl⟩ rfl hP rfl hl rfl (Nat.le_of_ble_eq_true rfl) dX6_near_2 ⟨Nat.zero_le _, Nat.zero_le _⟩ (fun r1 e_r1 => ?_)
  subst e_r1
  have b_2 := inR_d xb 0 3
  refine lv_iload_n hx hb dX6_near_5 rfl (lv_at hl 2 rfl) ?_
  refine q_sS C0 lX6_86 (c_X6_isKey l D y L F xk (by omega)) ⟨rfl, rfl⟩ rfl hP rfl hl rfl (Nat.le_of_ble_eq_true rfl) dX6_near_6 ⟨Nat.zero_le _, Nat.zero_le _⟩ (fun r3 e_r3 => ?_)
  subst e_r3
  have b_4 := inR_d xk 0 99
  refine q_if_eq hx hb dX6_near_9 (tgt := 25) (by decide) (by omega) (fun c5 => ?_) (fun c5 => ?_)
  · replace b_4 := b_4.resolve_left (fun h => absurd (h.1.symm.trans c5) (by decide))
    refine q_iconst hx hb dX6_near_25 ?_
    refine q_vMi C0 lX6_63 (c_X6_isLet l D y L F _ O G μ (inR xb 0 3) 0 hC (by omega) (by omega)) ⟨rfl, rfl⟩ rfl hP hD hS hA hC.1.1 hC.1.2 rfl rfl rfl hl rfl (Nat.le_of_ble_eq_true rfl) dX6_near_26 ⟨Nat.le_of_ble_eq_true rfl, Nat.le_of_ble_eq_true rfl⟩ (fun r6 H locs L7 F7 hP hD hS hz7 hp7 => ?_)
    obtain ⟨eL, hC, er, hO1⟩ := hp7
    subst eL
    replace er := (er.trans (okR_z _)).symm
    subst er
    have hO := hO.tr hO1
    refine q_if_eq hx hb dX6_near_29 (tgt := 60) (by decide) (by omega) (fun c8 => ?_) (fun c8 => absurd c8 (by omega))
    refine q_iconst hx hb dX6_near_60 ?_
    exact q_retMi C0 hret rfl hlk dX6_near_61 hP hD hS (⟨(by unfold jR_near; (try unfold bkF); (try unfold bkO); (repeat' split) <;> first | omega | (exfalso; omega) | rfl), O, G, MP_eq hC (by unfold jS_near; (try unfold ltR); (try unfold inR); (try unfold bkF); (try unfold bkO); (repeat' split) <;> first | omega | (exfalso; omega) | rfl), rfl, Ext0 hO⟩)
  · replace b_4 := b_4.resolve_right (fun h => c5 h.1)
    refine lv_iload_n hx hb dX6_near_12 rfl (lv_at hl 3 rfl) ?_
    refine q_iconst hx hb dX6_near_13 ?_
    refine q_iconst hx hb dX6_near_14 ?_
    refine q_sS C0 lX6_41 (c_X6_isIn l D y L F xt 0 4 (by omega) (by omega) (by omega)) ⟨rfl, rfl⟩ rfl hP rfl hl rfl (Nat.le_of_ble_eq_true rfl) dX6_near_15 ⟨Nat.zero_le _, Nat.zero_le _⟩ (fun r9 e_r9 => ?_)
    subst e_r9
    have b_10 := inR_d xt 0 4
    refine q_if_eq hx hb dX6_near_18 (tgt := 25) (by decide) (by omega) (fun c11 => ?_) (fun c11 => ?_)
    · replace b_10 := b_10.resolve_left (fun h => absurd (h.1.symm.trans c11) (by decide))
      refine q_iconst hx hb dX6_near_25 ?_
      refine q_vMi C0 lX6_63 (c_X6_isLet l D y L F _ O G μ (inR xb 0 3) 0 hC (by omega) (by omega)) ⟨rfl, rfl⟩ rfl hP hD hS hA hC.1.1 hC.1.2 rfl rfl rfl hl rfl (Nat.le_of_ble_eq_true rfl) dX6_near_26 ⟨Nat.le_of_ble_eq_true rfl, Nat.le_of_ble_eq_true rfl⟩ (fun r12 H locs L13 F13 hP hD hS hz13 hp13 => ?_)
      obtain ⟨eL, hC, er, hO1⟩ := hp13
      subst eL
      replace er := (er.trans (okR_z _)).symm
      subst er
      have hO := hO.tr hO1
      refine q_if_eq hx hb dX6_near_29 (tgt := 60) (by decide) (by omega) (fun c14 => ?_) (fun c14 => absurd c14 (by omega))
      refine q_iconst hx hb dX6_near_60 ?_
      exact q_retMi C0 hret rfl hlk dX6_near_61 hP hD hS (⟨(by unfold jR_near; (try unfold bkF); (try unfold bkO); (repeat' split) <;> first | omega | (exfalso; omega) | rfl), O, G, MP_eq hC (by unfold jS_near; (try unfold ltR); (try unfold inR); (try unfold bkF); (try unfold bkO); (repeat' split) <;> first | omega | (exfalso; omega) | rfl), rfl, Ext0 hO⟩)
    · replace b_10 := b_10.resolve_right (fun h => c11 h.1)
      refine q_iconst hx hb dX6_near_21 ?_
      refine lv_goto (tgt := 26) hx hb dX6_near_22 (by decide) ?_
      refine q_vMi C0 lX6_63 (c_X6_isLet l D y L F _ O G μ (inR xb 0 3) 1 hC (by omega) (by omega)) ⟨rfl, rfl⟩ rfl hP hD hS hA hC.1.1 hC.1.2 rfl rfl rfl hl rfl (Nat.le_of_ble_eq_true rfl) dX6_near_26 ⟨Nat.le_of_ble_eq_true rfl, Nat.le_of_ble_eq_true rfl⟩ (fun r15 H locs L16 F16 hP hD hS hz16 hp16 => ?_)
      obtain ⟨eL, hC, er, hO1⟩ := hp16
      subst eL
      replace er := er.symm
      subst er
      have hO := hO.tr hO1
      have k_17 := okR_d (inR xb 0 3) 1
      refine q_if_eq hx hb dX6_near_29 (tgt := 60) (by decide) (by omega) (fun c18 => ?_) (fun c18 => ?_)
      · replace k_17 := k_17.resolve_left (fun h => absurd (h.1.symm.trans c18) (by decide))
        refine q_iconst hx hb dX6_near_60 ?_
        exact q_retMi C0 hret rfl hlk dX6_near_61 hP hD hS (⟨(by unfold jR_near; (try unfold bkF); (try unfold bkO); (repeat' split) <;> first | omega | (exfalso; omega) | rfl), O, G, MP_eq hC (by unfold jS_near; (try unfold ltR); (try unfold inR); (try unfold bkF); (try unfold bkO); (repeat' split) <;> first | omega | (exfalso; omega) | rfl), rfl, Ext0 hO⟩)
      · replace k_17 := k_17.resolve_right (fun h => c18 h.1)
        refine lv_aload_n hx hb dX6_near_32 rfl (lv_at hl 0 rfl) ?_
        refine q_get C0 iX6 hP hC.1.1 hC.1.2 rfl 0 (by decide) flX6_11 rfl (v := .ref ((uab G))) rfl dX6_near_33 ?_
        refine lv_iload_n hx hb dX6_near_36 rfl (lv_at hl 1 rfl) ?_
        refine q_aald C0 hP hC.2.1.1 hC.2.1.2 (t := 3) rfl (by omega) (by decide) (v := .ref ((urh G (vbk μ xb)))) rfl dX6_near_37 ?_
        refine lv_aload_n hx hb dX6_near_38 rfl (lv_at hl 0 rfl) ?_
        refine q_get C0 iX6 hP hC.1.1 hC.1.2 rfl 0 (by decide) flX6_11 rfl (v := .ref ((uab G))) rfl dX6_near_39 ?_
        refine lv_iload_n hx hb dX6_near_42 rfl (lv_at hl 1 rfl) ?_
        refine q_aald C0 hP hC.2.1.1 hC.2.1.2 (t := 3) rfl (by omega) (by decide) (v := .ref ((urh G (vbk μ xb)))) rfl dX6_near_43 ?_
        refine lv_iload_n hx hb dX6_near_44 rfl (lv_at hl 2 rfl) ?_
        refine lv_iload_n hx hb dX6_near_45 rfl (lv_at hl 3 rfl) ?_
        refine q_iconst hx hb dX6_near_46 ?_
        refine q_bipush hx hb dX6_near_47 (by decide) ?_
        refine q_vS C0 lX6_124 (c_X5_near l D y L F16 (urh G (vbk μ xb)) (urw G (vbk μ xb)) (vod μ (vbk μ xb)) (vst μ (vbk μ xb)) xk xt 0 99 (MP_r hC (hW.1 xb)) (by omega) (by omega) (by omega) (by omega)) ⟨rfl, rfl⟩ rfl hP (MP_r hC (hW.1 xb)).1 (MP_r hC (hW.1 xb)).2.1 rfl rfl rfl hl rfl (Nat.le_of_ble_eq_true rfl) dX6_near_49 ⟨Nat.zero_le _, Nat.zero_le _⟩ (fun r19 e_r19 => ?_)
        subst e_r19
        have b_20 := @keyR_b (vod μ (vbk μ xb)) (nearP (vod μ (vbk μ xb)) (vst μ (vbk μ xb)) 0 99 xk xt) (nearP_r (vod μ (vbk μ xb)) (vst μ (vbk μ xb)) 0 99 xk xt)
        refine lv_iload hx hb dX6_near_52 (lv_at hl 4 rfl) ?_
        refine q_sS C0 lX6_128 (c_X6_told l D y L F16 (urh G (vbk μ xb)) (urw G (vbk μ xb)) (vod μ (vbk μ xb)) (vst μ (vbk μ xb)) (keyR (vod μ (vbk μ xb)) (nearP (vod μ (vbk μ xb)) (vst μ (vbk μ xb)) 0 99 xk xt)) xw (MP_r hC (hW.1 xb)) (by omega) (by omega)) ⟨rfl, rfl⟩ rfl hP rfl hl rfl (Nat.le_of_ble_eq_true rfl) dX6_near_54 ⟨Nat.zero_le _, Nat.zero_le _⟩ (fun r21 e_r21 => ?_)
        subst e_r21
        refine lv_goto (tgt := 61) hx hb dX6_near_57 (by decide) ?_
        exact q_retMi C0 hret rfl hlk dX6_near_61 hP hD hS (⟨(by unfold jR_near; (try unfold bkF); (try unfold bkO); (repeat' split) <;> first | omega | (exfalso; omega) | rfl), O, G, MP_eq hC (by unfold jS_near; (try unfold ltR); (try unfold inR); (try unfold bkF); (try unfold bkO); (repeat' split) <;> first | omega | (exfalso; omega) | rfl), rfl, Ext0 hO⟩)
set_option maxHeartbeats 3000000 in
set_option maxRecDepth 100000 in
theorem c_X6_tellBook (l : Launch) (D : va_G) (y : Nat → ClassId) (L : List Nat) (F : Nat → va_E) (sz : Nat) (O : Nat → Prop) (G : MG) (μ : MS) (xb : Int) (xt : Int) (hC : MP y L F O G μ) (hW : MW μ) (h_xb : -2147483648 ≤ xb ∧ xb ≤ 2147483647) (h_xt : -2147483648 ≤ xt ∧ xt ≤ 2147483647) : Met l yX6_tellBook (.code yX6_tellBook cX6_tellBook 4 (some .int) :: Tt) ({ frames := 2, cells := 0, slots := 0, locals := 45 }) (PcM D y L F sz [.ref ((ubg G)), .int (iI xb), .int (iI xt)]) (cMi D (AL L sz) (fun r L1 F1 => r = jR_tellBook μ xb xt ∧ ∃ (O1 : Nat → Prop) (G1 : MG), MP y L1 F1 O1 G1 (jS_tellBook μ xb xt) ∧ ubg G1 = ubg G ∧ Ext O O1 L L1 F F1)) 0 0 (AL L sz) := by
  have hO : OE O F F := fun _ _ => rfl
  have hw5 := hW.2.2.2.2.2.1
  have hw6 := hW.2.2.2.2.2.2.1
  have hw7 := hW.2.2.2.2.2.2.2.1
  have cb_ := cntP_b (vst μ (vbk μ xb)) (lo := 0) (hi := 99) (by omega) (by omega)
  refine q_ofM (lv := [(0, .ref ((ubg G))), (1, .int (iI xb)), (2, .int (iI xt))]) (by decide) (Nat.le_of_ble_eq_true rfl) rfl (fun p e s m below meth c C0 hret hlk hnm hA hP hD hS ls hl => ?_)
  have hx := C0.1.1
  have hb := C0.1.2.1
  have hts := C0.1.2.2.2.2
  refine lv_aload_n hx hb dX6_tellBook_0 rfl (lv_at hl 0 rfl) ?_
  refine lv_iload_n hx hb dX6_tellBook_1 rfl (lv_at hl 1 rfl) ?_
  refine q_sS C0 lX6_60 (c_X6_isBook l D y L F xb (by omega)) ⟨rfl, rfl⟩ rfl hP rfl hl rfl (Nat.le_of_ble_eq_true rfl) dX6_tellBook_2 ⟨Nat.zero_le _, Nat.zero_le _⟩ (fun r1 e_r1 => ?_)
  subst e_r1
  have b_2 := inR_d xb 0 3
  refine lv_iload_n hx hb dX6_tellBook_5 rfl (lv_at hl 2 rfl) ?_
  refine q_iconst hx hb dX6_tellBook_6 ?_
  refine q_iconst hx hb dX6_tellBook_7 ?_
  refine q_sS C0 lX6_41 (c_X6_isIn l D y L F xt 0 3 (by omega) (by omega) (by omega)) ⟨rfl, rfl⟩ rfl hP rfl hl rfl (Nat.le_of_ble_eq_true rfl) dX6_tellBook_8 ⟨Nat.zero_le _, Nat.zero_le _⟩ (fun r3 e_r3 => ?_)
  subst e_r3
  have b_4 := inR_d xt 0 3
  refine q_vMi C0 lX6_63 (c_X6_isLet l D y L F _ O G μ (inR xb 0 3) (inR xt 0 3) hC (by omega) (by omega)) ⟨rfl, rfl⟩ rfl hP hD hS hA hC.1.1 hC.1.2 rfl rfl rfl hl rfl (Nat.le_of_ble_eq_true rfl) dX6_tellBook_11 ⟨Nat.le_of_ble_eq_true rfl, Nat.le_of_ble_eq_true rfl⟩ (fun r5 H locs L6 F6 hP hD hS hz6 hp6 => ?_)
  obtain ⟨eL, hC, er, hO1⟩ := hp6
  subst eL
  replace er := er.symm
  subst er
  have hO := hO.tr hO1
  have k_7 := okR_d (inR xb 0 3) (inR xt 0 3)
  refine q_if_ne hx hb dX6_tellBook_14 (tgt := 19) (by decide) (by omega) (fun c8 => ?_) (fun c8 => ?_)
  · replace k_7 := k_7.resolve_right (fun h => c8 h.1)
    refine lv_aload_n hx hb dX6_tellBook_19 rfl (lv_at hl 0 rfl) ?_
    refine q_get C0 iX6 hP hC.1.1 hC.1.2 rfl 0 (by decide) flX6_11 rfl (v := .ref ((uab G))) rfl dX6_tellBook_20 ?_
    refine lv_iload_n hx hb dX6_tellBook_23 rfl (lv_at hl 1 rfl) ?_
    refine q_aald C0 hP hC.2.1.1 hC.2.1.2 (t := 3) rfl (by omega) (by decide) (v := .ref ((urh G (vbk μ xb)))) rfl dX6_tellBook_24 ?_
    refine q_iconst hx hb dX6_tellBook_25 ?_
    refine q_bipush hx hb dX6_tellBook_26 (by decide) ?_
    refine q_vS C0 lX6_67 (c_X5_many l D y L F6 (urh G (vbk μ xb)) (urw G (vbk μ xb)) (vod μ (vbk μ xb)) (vst μ (vbk μ xb)) 0 99 (MP_r hC (hW.1 xb)) (by omega) (by omega)) ⟨rfl, rfl⟩ rfl hP (MP_r hC (hW.1 xb)).1 (MP_r hC (hW.1 xb)).2.1 rfl rfl rfl hl rfl (Nat.le_of_ble_eq_true rfl) dX6_tellBook_28 ⟨Nat.zero_le _, Nat.zero_le _⟩ (fun r9 e_r9 => ?_)
    subst e_r9
    refine lv_istore_n (lv' := [(3, .int (iI ((cntP (vst μ (vbk μ xb)) 0 99)))), (0, .ref ((ubg G))), (1, .int (iI xb)), (2, .int (iI xt))]) hx hb dX6_tellBook_31 rfl hl (by decide) rfl (fun ls hl => ?_)
    refine lv_iload_n hx hb dX6_tellBook_32 rfl (lv_at hl 3 rfl) ?_
    refine q_if_ne hx hb dX6_tellBook_33 (tgt := 40) (by decide) (by omega) (fun c10 => ?_) (fun c10 => ?_)
    · refine lv_iload_n hx hb dX6_tellBook_40 rfl (lv_at hl 3 rfl) ?_
      refine q_iconst hx hb dX6_tellBook_41 ?_
      refine q_icmp_ne hx hb dX6_tellBook_42 (tgt := 57) (by decide) (by omega) (by omega) (fun c11 => ?_) (fun c11 => ?_)
      · refine lv_iload_n hx hb dX6_tellBook_57 rfl (lv_at hl 3 rfl) ?_
        refine q_iconst hx hb dX6_tellBook_58 ?_
        refine q_icmp_ne hx hb dX6_tellBook_59 (tgt := 74) (by decide) (by omega) (by omega) (fun c12 => ?_) (fun c12 => ?_)
        · refine lv_iload_n hx hb dX6_tellBook_74 rfl (lv_at hl 0 rfl) ?_
          refine q_if_ne hx hb dX6_tellBook_75 (tgt := 82) (by decide) (by omega) (fun c13 => ?_) (fun c13 => ?_)
          · refine q_iconst hx hb dX6_tellBook_82 ?_
            exact q_retMi C0 hret rfl hlk dX6_tellBook_83 hP hD hS (⟨(by unfold jR_tellBook; (try unfold bkF); (try unfold bkO); (repeat' split) <;> first | omega | (exfalso; omega) | rfl), O, G, MP_eq hC (by unfold jS_tellBook; (try unfold ltR); (try unfold inR); (try unfold bkF); (try unfold bkO); (repeat' split) <;> first | omega | (exfalso; omega) | rfl), rfl, Ext0 hO⟩)
          · refine q_iconst hx hb dX6_tellBook_78 ?_
            refine lv_goto (tgt := 83) hx hb dX6_tellBook_79 (by decide) ?_
            exact q_retMi C0 hret rfl hlk dX6_tellBook_83 hP hD hS (⟨(by unfold jR_tellBook; (try unfold bkF); (try unfold bkO); (repeat' split) <;> first | omega | (exfalso; omega) | rfl), O, G, MP_eq hC (by unfold jS_tellBook; (try unfold ltR); (try unfold inR); (try unfold bkF); (try unfold bkO); (repeat' split) <;> first | omega | (exfalso; omega) | rfl), rfl, Ext0 hO⟩)
        · refine lv_aload_n hx hb dX6_tellBook_62 rfl (lv_at hl 1 rfl) ?_
          refine q_get C0 iX6 hP hC.1.1 hC.1.2 rfl 0 (by decide) flX6_11 rfl (v := .ref ((uab G))) rfl dX6_tellBook_63 ?_
          refine lv_iload_n hx hb dX6_tellBook_66 rfl (lv_at hl 2 rfl) ?_
          refine q_aald C0 hP hC.2.1.1 hC.2.1.2 (t := 3) rfl (by omega) (by decide) (v := .ref ((urh G (vbk μ xb)))) rfl dX6_tellBook_67 ?_
          refine q_sS C0 lX6_131 (c_X6_hash l D y L F6 (urh G (vbk μ xb)) (urw G (vbk μ xb)) (vod μ (vbk μ xb)) (vst μ (vbk μ xb)) (MP_r hC (hW.1 xb))) ⟨rfl, rfl⟩ rfl hP rfl hl rfl (Nat.le_of_ble_eq_true rfl) dX6_tellBook_68 ⟨Nat.zero_le _, Nat.zero_le _⟩ (fun r14 e_r14 => ?_)
          subst e_r14
          refine lv_goto (tgt := 83) hx hb dX6_tellBook_71 (by decide) ?_
          exact q_retMi C0 hret rfl hlk dX6_tellBook_83 hP hD hS (⟨(by unfold jR_tellBook; (try unfold bkF); (try unfold bkO); (repeat' split) <;> first | omega | (exfalso; omega) | rfl), O, G, MP_eq hC (by unfold jS_tellBook; (try unfold ltR); (try unfold inR); (try unfold bkF); (try unfold bkO); (repeat' split) <;> first | omega | (exfalso; omega) | rfl), rfl, Ext0 hO⟩)
      · refine lv_aload_n hx hb dX6_tellBook_45 rfl (lv_at hl 1 rfl) ?_
        refine q_get C0 iX6 hP hC.1.1 hC.1.2 rfl 0 (by decide) flX6_11 rfl (v := .ref ((uab G))) rfl dX6_tellBook_46 ?_
        refine lv_iload_n hx hb dX6_tellBook_49 rfl (lv_at hl 2 rfl) ?_
        refine q_aald C0 hP hC.2.1.1 hC.2.1.2 (t := 3) rfl (by omega) (by decide) (v := .ref ((urh G (vbk μ xb)))) rfl dX6_tellBook_50 ?_
        refine q_getN C0 iX5 hP (MP_r hC (hW.1 xb)).1 (MP_r hC (hW.1 xb)).2.1 rfl 0 (by decide) C0.2.2.2.2.2.2.2.1 rfl (v := .int (iI ((vod μ (vbk μ xb))))) rfl dX6_tellBook_51 ?_
        refine lv_goto (tgt := 83) hx hb dX6_tellBook_54 (by decide) ?_
        exact q_retMi C0 hret rfl hlk dX6_tellBook_83 hP hD hS (⟨(by unfold jR_tellBook; (try unfold bkF); (try unfold bkO); (repeat' split) <;> first | omega | (exfalso; omega) | rfl), O, G, MP_eq hC (by unfold jS_tellBook; (try unfold ltR); (try unfold inR); (try unfold bkF); (try unfold bkO); (repeat' split) <;> first | omega | (exfalso; omega) | rfl), rfl, Ext0 hO⟩)
    · refine lv_iload_n hx hb dX6_tellBook_36 rfl (lv_at hl 0 rfl) ?_
      refine lv_goto (tgt := 83) hx hb dX6_tellBook_37 (by decide) ?_
      exact q_retMi C0 hret rfl hlk dX6_tellBook_83 hP hD hS (⟨(by unfold jR_tellBook; (try unfold bkF); (try unfold bkO); (repeat' split) <;> first | omega | (exfalso; omega) | rfl), O, G, MP_eq hC (by unfold jS_tellBook; (try unfold ltR); (try unfold inR); (try unfold bkF); (try unfold bkO); (repeat' split) <;> first | omega | (exfalso; omega) | rfl), rfl, Ext0 hO⟩)
  · replace k_7 := k_7.resolve_left (fun h => absurd (h.1.symm.trans c8) (by decide))
    refine q_iconst hx hb dX6_tellBook_17 ?_
    exact q_retMi C0 hret rfl hlk dX6_tellBook_18 hP hD hS (⟨(by unfold jR_tellBook; (try unfold bkF); (try unfold bkO); (repeat' split) <;> first | omega | (exfalso; omega) | rfl), O, G, MP_eq hC (by unfold jS_tellBook; (try unfold ltR); (try unfold inR); (try unfold bkF); (try unfold bkO); (repeat' split) <;> first | omega | (exfalso; omega) | rfl), rfl, Ext0 hO⟩)
set_option maxHeartbeats 3000000 in
set_option maxRecDepth 100000 in
theorem c_X6_sameBooks (l : Launch) (D : va_G) (y : Nat → ClassId) (L : List Nat) (F : Nat → va_E) (sz : Nat) (O : Nat → Prop) (G : MG) (μ : MS) (xb : Int) (xc : Int) (hC : MP y L F O G μ) (hW : MW μ) (h_xb : -2147483648 ≤ xb ∧ xb ≤ 2147483647) (h_xc : -2147483648 ≤ xc ∧ xc ≤ 2147483647) : Met l yX6_sameBooks (.code yX6_sameBooks cX6_sameBooks 3 (some .boolean) :: Tt) ({ frames := 2, cells := 0, slots := 0, locals := 42 }) (PcM D y L F sz [.ref ((ubg G)), .int (iI xb), .int (iI xc)]) (cMi D (AL L sz) (fun r L1 F1 => r = jR_sameBooks μ xb xc ∧ ∃ (O1 : Nat → Prop) (G1 : MG), MP y L1 F1 O1 G1 (jS_sameBooks μ xb xc) ∧ ubg G1 = ubg G ∧ Ext O O1 L L1 F F1)) 0 0 (AL L sz) := by
  have hO : OE O F F := fun _ _ => rfl
  have hw5 := hW.2.2.2.2.2.1
  have hw6 := hW.2.2.2.2.2.2.1
  have hw7 := hW.2.2.2.2.2.2.2.1
  have bs_ : 0 ≤ sameM (vod μ (vbk μ xb)) (vod μ (vbk μ xc)) (vst μ (vbk μ xb)) (vst μ (vbk μ xc)) ∧ sameM (vod μ (vbk μ xb)) (vod μ (vbk μ xc)) (vst μ (vbk μ xb)) (vst μ (vbk μ xc)) ≤ 1 := allP_b _ _
  refine q_ofM (lv := [(0, .ref ((ubg G))), (1, .int (iI xb)), (2, .int (iI xc))]) (by decide) (Nat.le_of_ble_eq_true rfl) rfl (fun p e s m below meth c C0 hret hlk hnm hA hP hD hS ls hl => ?_)
  have hx := C0.1.1
  have hb := C0.1.2.1
  have hts := C0.1.2.2.2.2
  refine lv_aload_n hx hb dX6_sameBooks_0 rfl (lv_at hl 0 rfl) ?_
  refine lv_iload_n hx hb dX6_sameBooks_1 rfl (lv_at hl 1 rfl) ?_
  refine q_sS C0 lX6_60 (c_X6_isBook l D y L F xb (by omega)) ⟨rfl, rfl⟩ rfl hP rfl hl rfl (Nat.le_of_ble_eq_true rfl) dX6_sameBooks_2 ⟨Nat.zero_le _, Nat.zero_le _⟩ (fun r1 e_r1 => ?_)
  subst e_r1
  have b_2 := inR_d xb 0 3
  refine q_if_eq hx hb dX6_sameBooks_5 (tgt := 19) (by decide) (by omega) (fun c3 => ?_) (fun c3 => ?_)
  · replace b_2 := b_2.resolve_left (fun h => absurd (h.1.symm.trans c3) (by decide))
    refine q_iconst hx hb dX6_sameBooks_19 ?_
    refine q_iconst hx hb dX6_sameBooks_20 ?_
    refine q_vMi C0 lX6_63 (c_X6_isLet l D y L F _ O G μ 0 1 hC (by omega) (by omega)) ⟨rfl, rfl⟩ rfl hP hD hS hA hC.1.1 hC.1.2 rfl rfl rfl hl rfl (Nat.le_of_ble_eq_true rfl) dX6_sameBooks_21 ⟨Nat.le_of_ble_eq_true rfl, Nat.le_of_ble_eq_true rfl⟩ (fun r4 H locs L5 F5 hP hD hS hz5 hp5 => ?_)
    obtain ⟨eL, hC, er, hO1⟩ := hp5
    subst eL
    replace er := (er.trans (show okR 0 1 = 0 from rfl)).symm
    subst er
    have hO := hO.tr hO1
    refine q_if_eq hx hb dX6_sameBooks_24 (tgt := 49) (by decide) (by omega) (fun c6 => ?_) (fun c6 => absurd c6 (by omega))
    refine q_iconst hx hb dX6_sameBooks_49 ?_
    exact q_retMi C0 hret (by decide) hlk dX6_sameBooks_50 hP hD hS (⟨(by unfold jR_sameBooks; (try unfold bkF); (try unfold bkO); (repeat' split) <;> first | omega | (exfalso; omega) | rfl), O, G, MP_eq hC (by unfold jS_sameBooks; (try unfold ltR); (try unfold inR); (try unfold bkF); (try unfold bkO); (repeat' split) <;> first | omega | (exfalso; omega) | rfl), rfl, Ext0 hO⟩)
  · replace b_2 := b_2.resolve_right (fun h => c3 h.1)
    refine lv_iload_n hx hb dX6_sameBooks_8 rfl (lv_at hl 2 rfl) ?_
    refine q_sS C0 lX6_60 (c_X6_isBook l D y L F xc (by omega)) ⟨rfl, rfl⟩ rfl hP rfl hl rfl (Nat.le_of_ble_eq_true rfl) dX6_sameBooks_9 ⟨Nat.zero_le _, Nat.zero_le _⟩ (fun r7 e_r7 => ?_)
    subst e_r7
    have b_8 := inR_d xc 0 3
    refine q_if_eq hx hb dX6_sameBooks_12 (tgt := 19) (by decide) (by omega) (fun c9 => ?_) (fun c9 => ?_)
    · replace b_8 := b_8.resolve_left (fun h => absurd (h.1.symm.trans c9) (by decide))
      refine q_iconst hx hb dX6_sameBooks_19 ?_
      refine q_iconst hx hb dX6_sameBooks_20 ?_
      refine q_vMi C0 lX6_63 (c_X6_isLet l D y L F _ O G μ 0 1 hC (by omega) (by omega)) ⟨rfl, rfl⟩ rfl hP hD hS hA hC.1.1 hC.1.2 rfl rfl rfl hl rfl (Nat.le_of_ble_eq_true rfl) dX6_sameBooks_21 ⟨Nat.le_of_ble_eq_true rfl, Nat.le_of_ble_eq_true rfl⟩ (fun r10 H locs L11 F11 hP hD hS hz11 hp11 => ?_)
      obtain ⟨eL, hC, er, hO1⟩ := hp11
      subst eL
      replace er := (er.trans (show okR 0 1 = 0 from rfl)).symm
      subst er
      have hO := hO.tr hO1
      refine q_if_eq hx hb dX6_sameBooks_24 (tgt := 49) (by decide) (by omega) (fun c12 => ?_) (fun c12 => absurd c12 (by omega))
      refine q_iconst hx hb dX6_sameBooks_49 ?_
      exact q_retMi C0 hret (by decide) hlk dX6_sameBooks_50 hP hD hS (⟨(by unfold jR_sameBooks; (try unfold bkF); (try unfold bkO); (repeat' split) <;> first | omega | (exfalso; omega) | rfl), O, G, MP_eq hC (by unfold jS_sameBooks; (try unfold ltR); (try unfold inR); (try unfold bkF); (try unfold bkO); (repeat' split) <;> first | omega | (exfalso; omega) | rfl), rfl, Ext0 hO⟩)
    · replace b_8 := b_8.resolve_right (fun h => c9 h.1)
      refine q_iconst hx hb dX6_sameBooks_15 ?_
      refine lv_goto (tgt := 20) hx hb dX6_sameBooks_16 (by decide) ?_
      refine q_iconst hx hb dX6_sameBooks_20 ?_
      refine q_vMi C0 lX6_63 (c_X6_isLet l D y L F _ O G μ 1 1 hC (by omega) (by omega)) ⟨rfl, rfl⟩ rfl hP hD hS hA hC.1.1 hC.1.2 rfl rfl rfl hl rfl (Nat.le_of_ble_eq_true rfl) dX6_sameBooks_21 ⟨Nat.le_of_ble_eq_true rfl, Nat.le_of_ble_eq_true rfl⟩ (fun r13 H locs L14 F14 hP hD hS hz14 hp14 => ?_)
      obtain ⟨eL, hC, er, hO1⟩ := hp14
      subst eL
      replace er := (er.trans (show okR 1 1 = 1 from rfl)).symm
      subst er
      have hO := hO.tr hO1
      refine q_if_eq hx hb dX6_sameBooks_24 (tgt := 49) (by decide) (by omega) (fun c15 => absurd c15 (by omega)) (fun c15 => ?_)
      refine lv_aload_n hx hb dX6_sameBooks_27 rfl (lv_at hl 0 rfl) ?_
      refine q_get C0 iX6 hP hC.1.1 hC.1.2 rfl 0 (by decide) flX6_11 rfl (v := .ref ((uab G))) rfl dX6_sameBooks_28 ?_
      refine lv_iload_n hx hb dX6_sameBooks_31 rfl (lv_at hl 1 rfl) ?_
      refine q_aald C0 hP hC.2.1.1 hC.2.1.2 (t := 3) rfl (by omega) (by decide) (v := .ref ((urh G (vbk μ xb)))) rfl dX6_sameBooks_32 ?_
      refine lv_aload_n hx hb dX6_sameBooks_33 rfl (lv_at hl 0 rfl) ?_
      refine q_get C0 iX6 hP hC.1.1 hC.1.2 rfl 0 (by decide) flX6_11 rfl (v := .ref ((uab G))) rfl dX6_sameBooks_34 ?_
      refine lv_iload_n hx hb dX6_sameBooks_37 rfl (lv_at hl 2 rfl) ?_
      refine q_aald C0 hP hC.2.1.1 hC.2.1.2 (t := 3) rfl (by omega) (by decide) (v := .ref ((urh G (vbk μ xc)))) rfl dX6_sameBooks_38 ?_
      refine q_sS C0 lX6_164 (c_X6_same l D y L F14 (urh G (vbk μ xb)) (urw G (vbk μ xb)) (vod μ (vbk μ xb)) (vst μ (vbk μ xb)) (urh G (vbk μ xc)) (urw G (vbk μ xc)) (vod μ (vbk μ xc)) (vst μ (vbk μ xc)) (MP_r hC (hW.1 xb)) (MP_r hC (hW.1 xc))) ⟨rfl, rfl⟩ rfl hP rfl hl rfl (Nat.le_of_ble_eq_true rfl) dX6_sameBooks_39 ⟨Nat.zero_le _, Nat.zero_le _⟩ (fun r16 e_r16 => ?_)
      subst e_r16
      have b_17 := allP_b (sm2U (vod μ (vbk μ xb)) (vod μ (vbk μ xc)) (vst μ (vbk μ xb)) (vst μ (vbk μ xc))) 0
      refine q_if_eq hx hb dX6_sameBooks_42 (tgt := 49) (by decide) (by omega) (fun c18 => ?_) (fun c18 => ?_)
      · refine q_iconst hx hb dX6_sameBooks_49 ?_
        exact q_retMi C0 hret (by decide) hlk dX6_sameBooks_50 hP hD hS (⟨(by unfold jR_sameBooks; (try unfold bkF); (try unfold bkO); (repeat' split) <;> first | omega | (exfalso; omega) | rfl), O, G, MP_eq hC (by unfold jS_sameBooks; (try unfold ltR); (try unfold inR); (try unfold bkF); (try unfold bkO); (repeat' split) <;> first | omega | (exfalso; omega) | rfl), rfl, Ext0 hO⟩)
      · refine q_iconst hx hb dX6_sameBooks_45 ?_
        refine lv_goto (tgt := 50) hx hb dX6_sameBooks_46 (by decide) ?_
        exact q_retMi C0 hret (by decide) hlk dX6_sameBooks_50 hP hD hS (⟨(by unfold jR_sameBooks; (try unfold bkF); (try unfold bkO); (repeat' split) <;> first | omega | (exfalso; omega) | rfl), O, G, MP_eq hC (by unfold jS_sameBooks; (try unfold ltR); (try unfold inR); (try unfold bkF); (try unfold bkO); (repeat' split) <;> first | omega | (exfalso; omega) | rfl), rfl, Ext0 hO⟩)
set_option maxHeartbeats 3000000 in
set_option maxRecDepth 100000 in
theorem c_X6_house (l : Launch) (D : va_G) (y : Nat → ClassId) (L : List Nat) (F : Nat → va_E) (sz : Nat) (O : Nat → Prop) (G : MG) (μ : MS) (xt : Int) (hC : MP y L F O G μ) (hW : MW μ) (h_xt : -2147483648 ≤ xt ∧ xt ≤ 2147483647) : Met l yX6_house (.code yX6_house cX6_house 2 (some .int) :: Tt) ({ frames := 1, cells := 0, slots := 0, locals := 22 }) (PcM D y L F sz [.ref ((ubg G)), .int (iI xt)]) (cMi D (AL L sz) (fun r L1 F1 => r = jR_house μ xt ∧ ∃ (O1 : Nat → Prop) (G1 : MG), MP y L1 F1 O1 G1 (jS_house μ xt) ∧ ubg G1 = ubg G ∧ Ext O O1 L L1 F F1)) 0 0 (AL L sz) := by
  have hO : OE O F F := fun _ _ => rfl
  have hw5 := hW.2.2.2.2.2.1
  have hw6 := hW.2.2.2.2.2.2.1
  have hw7 := hW.2.2.2.2.2.2.2.1
  refine q_ofM (lv := [(0, .ref ((ubg G))), (1, .int (iI xt))]) (by decide) (Nat.le_of_ble_eq_true rfl) rfl (fun p e s m below meth c C0 hret hlk hnm hA hP hD hS ls hl => ?_)
  have hx := C0.1.1
  have hb := C0.1.2.1
  have hts := C0.1.2.2.2.2
  refine lv_aload_n hx hb dX6_house_0 rfl (lv_at hl 0 rfl) ?_
  refine lv_iload_n hx hb dX6_house_1 rfl (lv_at hl 1 rfl) ?_
  refine q_iconst hx hb dX6_house_2 ?_
  refine q_iconst hx hb dX6_house_3 ?_
  refine q_sS C0 lX6_41 (c_X6_isIn l D y L F xt 0 3 (by omega) (by omega) (by omega)) ⟨rfl, rfl⟩ rfl hP rfl hl rfl (Nat.le_of_ble_eq_true rfl) dX6_house_4 ⟨Nat.zero_le _, Nat.zero_le _⟩ (fun r1 e_r1 => ?_)
  subst e_r1
  have b_2 := inR_d xt 0 3
  refine q_if_eq hx hb dX6_house_7 (tgt := 14) (by decide) (by omega) (fun c3 => ?_) (fun c3 => ?_)
  · replace b_2 := b_2.resolve_left (fun h => absurd (h.1.symm.trans c3) (by decide))
    refine q_iconst hx hb dX6_house_14 ?_
    refine q_put C0 iX6 tyX6 tyX6_ok nmX6 hP hD hS hC.1.1 hC.1.2 rfl 10 (by decide) flX6_38 rfl rfl rfl rfl (Nat.le_of_ble_eq_true rfl) dX6_house_15 (fun H locs hP hD hS => ?_)
    obtain ⟨F4, eF4⟩ : ∃ z, z = va_up F (ubg G) (.inr (8, [.ref ((uab G)), .ref ((uas G)), .ref ((uav G)), .ref ((uaf G)), .ref ((uat G)), va_rf (Option.map (urh G) (vwk μ)), .int (iI (vbr μ)), .int (iI (vtd μ)), .int (iI (vbh μ)), .ref ((uac G)), .int (iI 1)])) := ⟨_, rfl⟩
    have hP : va_P D vwCl (va_pl L F4) H := by rw [eF4]; exact hP
    have hD : va_D (AL L sz) (va_pl L F4) := by rw [eF4]; exact hD
    have hO : OE O F F4 := by rw [eF4]; exact hO.tr (OE1 (MP_O hC).1)
    have hC : MP y L F4 O G (tOb μ (vwk μ) (vbr μ) (vtd μ) (vbh μ) 1) := by rw [eF4]; exact MP_ob hC (va_up_self _ _ _) (fun q hq => va_up_ne _ _ hq)
    refine lv_aload_n hx hb dX6_house_18 rfl (lv_at hl 0 rfl) ?_
    refine q_get C0 iX6 hP hC.1.1 hC.1.2 rfl 10 (by decide) flX6_38 rfl (v := .int (iI 1)) rfl dX6_house_19 ?_
    refine q_if_ne hx hb dX6_house_22 (tgt := 34) (by decide) (by omega) (fun c5 => ?_) (fun c5 => absurd c5 (by omega))
    refine q_iconst hx hb dX6_house_34 ?_
    exact q_retMi C0 hret rfl hlk dX6_house_35 hP hD hS (⟨(by unfold jR_house; (try unfold bkF); (try unfold bkO); (repeat' split) <;> first | omega | (exfalso; omega) | rfl), O, G, MP_eq hC (by unfold jS_house; (try unfold ltR); (try unfold inR); (try unfold bkF); (try unfold bkO); (repeat' split) <;> first | omega | (exfalso; omega) | rfl), rfl, Ext0 hO⟩)
  · replace b_2 := b_2.resolve_right (fun h => c3 h.1)
    refine q_iconst hx hb dX6_house_10 ?_
    refine lv_goto (tgt := 15) hx hb dX6_house_11 (by decide) ?_
    refine q_put C0 iX6 tyX6 tyX6_ok nmX6 hP hD hS hC.1.1 hC.1.2 rfl 10 (by decide) flX6_38 rfl rfl rfl rfl (Nat.le_of_ble_eq_true rfl) dX6_house_15 (fun H locs hP hD hS => ?_)
    obtain ⟨F6, eF6⟩ : ∃ z, z = va_up F (ubg G) (.inr (8, [.ref ((uab G)), .ref ((uas G)), .ref ((uav G)), .ref ((uaf G)), .ref ((uat G)), va_rf (Option.map (urh G) (vwk μ)), .int (iI (vbr μ)), .int (iI (vtd μ)), .int (iI (vbh μ)), .ref ((uac G)), .int (iI 0)])) := ⟨_, rfl⟩
    have hP : va_P D vwCl (va_pl L F6) H := by rw [eF6]; exact hP
    have hD : va_D (AL L sz) (va_pl L F6) := by rw [eF6]; exact hD
    have hO : OE O F F6 := by rw [eF6]; exact hO.tr (OE1 (MP_O hC).1)
    have hC : MP y L F6 O G (tOb μ (vwk μ) (vbr μ) (vtd μ) (vbh μ) 0) := by rw [eF6]; exact MP_ob hC (va_up_self _ _ _) (fun q hq => va_up_ne _ _ hq)
    refine lv_aload_n hx hb dX6_house_18 rfl (lv_at hl 0 rfl) ?_
    refine q_get C0 iX6 hP hC.1.1 hC.1.2 rfl 10 (by decide) flX6_38 rfl (v := .int (iI 0)) rfl dX6_house_19 ?_
    refine q_if_ne hx hb dX6_house_22 (tgt := 34) (by decide) (by omega) (fun c7 => absurd c7 (by omega)) (fun c7 => ?_)
    refine lv_aload_n hx hb dX6_house_25 rfl (lv_at hl 0 rfl) ?_
    refine q_get C0 iX6 hP hC.1.1 hC.1.2 rfl 9 (by decide) flX6_32 rfl (v := .ref ((uac G))) rfl dX6_house_26 ?_
    refine lv_iload_n hx hb dX6_house_29 rfl (lv_at hl 1 rfl) ?_
    refine q_iald C0 hP (f := (vct μ)) hC.2.2.2.2.2.2.1.1 hC.2.2.2.2.2.2.1.2 (by omega) (by decide) dX6_house_30 ?_
    refine lv_goto (tgt := 35) hx hb dX6_house_31 (by decide) ?_
    exact q_retMi C0 hret rfl hlk dX6_house_35 hP hD hS (⟨(by unfold jR_house; (try unfold bkF); (try unfold bkO); (repeat' split) <;> first | omega | (exfalso; omega) | rfl), O, G, MP_eq hC (by unfold jS_house; (try unfold ltR); (try unfold inR); (try unfold bkF); (try unfold bkO); (repeat' split) <;> first | omega | (exfalso; omega) | rfl), rfl, Ext0 hO⟩)
set_option maxHeartbeats 3000000 in
set_option maxRecDepth 100000 in
theorem c_X6_knock (l : Launch) (D : va_G) (y : Nat → ClassId) (L : List Nat) (F : Nat → va_E) (sz : Nat) (O : Nat → Prop) (G : MG) (μ : MS) (hC : MP y L F O G μ) (hW : MW μ) : Met l yX6_knock (.code yX6_knock cX6_knock 1 (some .int) :: Tt) ({ frames := 0, cells := 0, slots := 0, locals := 0 }) (PcM D y L F sz [.ref ((ubg G))]) (cMi D (AL L sz) (fun r L1 F1 => r = jR_knock μ ∧ ∃ (O1 : Nat → Prop) (G1 : MG), MP y L1 F1 O1 G1 (jS_knock μ) ∧ ubg G1 = ubg G ∧ Ext O O1 L L1 F F1)) 0 0 (AL L sz) := by
  have hO : OE O F F := fun _ _ => rfl
  have hw5 := hW.2.2.2.2.2.1
  have hw6 := hW.2.2.2.2.2.2.1
  have hw7 := hW.2.2.2.2.2.2.2.1
  refine q_ofM (lv := [(0, .ref ((ubg G)))]) (by decide) (Nat.le_of_ble_eq_true rfl) rfl (fun p e s m below meth c C0 hret hlk hnm hA hP hD hS ls hl => ?_)
  have hx := C0.1.1
  have hb := C0.1.2.1
  have hts := C0.1.2.2.2.2
  refine lv_aload_n hx hb dX6_knock_0 rfl (lv_at hl 0 rfl) ?_
  refine q_iconst hx hb dX6_knock_1 ?_
  refine q_put C0 iX6 tyX6 tyX6_ok nmX6 hP hD hS hC.1.1 hC.1.2 rfl 10 (by decide) flX6_38 rfl rfl rfl rfl (Nat.le_of_ble_eq_true rfl) dX6_knock_2 (fun H locs hP hD hS => ?_)
  obtain ⟨F1, eF1⟩ : ∃ z, z = va_up F (ubg G) (.inr (8, [.ref ((uab G)), .ref ((uas G)), .ref ((uav G)), .ref ((uaf G)), .ref ((uat G)), va_rf (Option.map (urh G) (vwk μ)), .int (iI (vbr μ)), .int (iI (vtd μ)), .int (iI (vbh μ)), .ref ((uac G)), .int (iI 0)])) := ⟨_, rfl⟩
  have hP : va_P D vwCl (va_pl L F1) H := by rw [eF1]; exact hP
  have hD : va_D (AL L sz) (va_pl L F1) := by rw [eF1]; exact hD
  have hO : OE O F F1 := by rw [eF1]; exact hO.tr (OE1 (MP_O hC).1)
  have hC : MP y L F1 O G (tOb μ (vwk μ) (vbr μ) (vtd μ) (vbh μ) 0) := by rw [eF1]; exact MP_ob hC (va_up_self _ _ _) (fun q hq => va_up_ne _ _ hq)
  refine lv_aload_n hx hb dX6_knock_5 rfl (lv_at hl 0 rfl) ?_
  refine q_get C0 iX6 hP hC.1.1 hC.1.2 rfl 9 (by decide) flX6_32 rfl (v := .ref ((uac G))) rfl dX6_knock_6 ?_
  refine q_iconst hx hb dX6_knock_9 ?_
  refine lv_dup2_11 hx hb dX6_knock_10 rfl rfl ?_
  refine q_iald C0 hP (f := (vct μ)) hC.2.2.2.2.2.2.1.1 hC.2.2.2.2.2.2.1.2 (by omega) (by decide) dX6_knock_11 ?_
  refine q_iconst hx hb dX6_knock_12 ?_
  refine q_iadd hx hb dX6_knock_13 ?_
  refine q_iast C0 hP hD hS hC.2.2.2.2.2.2.1.1 hC.2.2.2.2.2.2.1.2 (i := 3) (v := (((vct μ) 3) + 1)) (by omega) (by decide) dX6_knock_14 (fun H locs hP hD hS => ?_)
  obtain ⟨F2, eF2⟩ : ∃ z, z = va_up F1 (uac G) (arrI (y 0) 4 (iu (vct μ) 3 (((vct μ) 3) + 1))) := ⟨_, rfl⟩
  have hP : va_P D vwCl (va_pl L F2) H := by rw [eF2]; exact hP
  have hD : va_D (AL L sz) (va_pl L F2) := by rw [eF2]; exact hD
  have hO : OE O F F2 := by rw [eF2]; exact hO.tr (OE1 (MP_O hC).2.2.2.2.2.2.1)
  have hC : MP y L F2 O G (tCt (tOb μ (vwk μ) (vbr μ) (vtd μ) (vbh μ) 0) 3 (((vct μ) 3) + 1)) := by rw [eF2]; exact MP_ct hC (va_up_self _ _ _) (fun q hq => va_up_ne _ _ hq)
  refine lv_aload_n hx hb dX6_knock_15 rfl (lv_at hl 0 rfl) ?_
  refine q_get C0 iX6 hP hC.1.1 hC.1.2 rfl 9 (by decide) flX6_32 rfl (v := .ref ((uac G))) rfl dX6_knock_16 ?_
  refine q_iconst hx hb dX6_knock_19 ?_
  refine q_iald C0 hP (f := (vct (tCt (tOb μ (vwk μ) (vbr μ) (vtd μ) (vbh μ) 0) 3 (((vct μ) 3) + 1)))) hC.2.2.2.2.2.2.1.1 hC.2.2.2.2.2.2.1.2 (by omega) (by decide) dX6_knock_20 ?_
  exact q_retMi C0 hret rfl hlk dX6_knock_21 hP hD hS (⟨(by unfold jR_knock; (try unfold bkF); (try unfold bkO); (repeat' split) <;> first | omega | (exfalso; omega) | rfl), O, G, MP_eq hC (by unfold jS_knock; (try unfold ltR); (try unfold inR); (try unfold bkF); (try unfold bkO); (repeat' split) <;> first | omega | (exfalso; omega) | rfl), rfl, Ext0 hO⟩)
set_option maxHeartbeats 3000000 in
set_option maxRecDepth 100000 in
theorem c_X6_exchange (l : Launch) (D : va_G) (y : Nat → ClassId) (L : List Nat) (F : Nat → va_E) (sz : Nat) (O : Nat → Prop) (G : MG) (μ : MS) (xb : Int) (xk : Int) (xo : Int) (xw : Int) (hC : MP y L F O G μ) (hW : MW μ) (h_xb : -2147483648 ≤ xb ∧ xb ≤ 2147483647) (h_xk : -2147483648 ≤ xk ∧ xk ≤ 2147483647) (h_xo : -2147483648 ≤ xo ∧ xo ≤ 2147483647) (h_xw : -2147483648 ≤ xw ∧ xw ≤ 2147483647) : Met l yX6_exchange (.code yX6_exchange cX6_exchange 5 (some .int) :: Tt) ({ frames := 3, cells := 0, slots := 0, locals := 70 }) (PcM D y L F sz [.ref ((ubg G)), .int (iI xb), .int (iI xk), .int (iI xo), .int (iI xw)]) (cMi D (AL L sz) (fun r L1 F1 => r = jR_exchange μ xb xk xo xw ∧ ∃ (O1 : Nat → Prop) (G1 : MG), MP y L1 F1 O1 G1 (jS_exchange μ xb xk xo xw) ∧ ubg G1 = ubg G ∧ Ext O O1 L L1 F F1)) 0 0 (AL L sz) := by
  have hO : OE O F F := fun _ _ => rfl
  have hw5 := hW.2.2.2.2.2.1
  have hw6 := hW.2.2.2.2.2.2.1
  have hw7 := hW.2.2.2.2.2.2.2.1
  have fb_ := (MP_r hC (hW.1 xb)).2.2.2.2.2 (turn (vod μ (vbk μ xb)) xk)
  have em_ : mwd (vod μ (vbk μ xb)) (vst μ (vbk μ xb)) xk = vst μ (vbk μ xb) (turn (vod μ (vbk μ xb)) xk) := rfl
  refine q_ofM (lv := [(0, .ref ((ubg G))), (1, .int (iI xb)), (2, .int (iI xk)), (3, .int (iI xo)), (4, .int (iI xw))]) (by decide) (Nat.le_of_ble_eq_true rfl) rfl (fun p e s m below meth c C0 hret hlk hnm hA hP hD hS ls hl => ?_)
  have hx := C0.1.1
  have hb := C0.1.2.1
  have hts := C0.1.2.2.2.2
  refine lv_aload_n hx hb dX6_exchange_0 rfl (lv_at hl 0 rfl) ?_
  refine lv_iload_n hx hb dX6_exchange_1 rfl (lv_at hl 1 rfl) ?_
  refine q_sS C0 lX6_60 (c_X6_isBook l D y L F xb (by omega)) ⟨rfl, rfl⟩ rfl hP rfl hl rfl (Nat.le_of_ble_eq_true rfl) dX6_exchange_2 ⟨Nat.zero_le _, Nat.zero_le _⟩ (fun r1 e_r1 => ?_)
  subst e_r1
  have b_2 := inR_d xb 0 3
  refine lv_iload_n hx hb dX6_exchange_5 rfl (lv_at hl 2 rfl) ?_
  refine q_sS C0 lX6_86 (c_X6_isKey l D y L F xk (by omega)) ⟨rfl, rfl⟩ rfl hP rfl hl rfl (Nat.le_of_ble_eq_true rfl) dX6_exchange_6 ⟨Nat.zero_le _, Nat.zero_le _⟩ (fun r3 e_r3 => ?_)
  subst e_r3
  have b_4 := inR_d xk 0 99
  refine q_if_eq hx hb dX6_exchange_9 (tgt := 34) (by decide) (by omega) (fun c5 => ?_) (fun c5 => ?_)
  · replace b_4 := b_4.resolve_left (fun h => absurd (h.1.symm.trans c5) (by decide))
    refine q_iconst hx hb dX6_exchange_34 ?_
    refine q_vMi C0 lX6_63 (c_X6_isLet l D y L F _ O G μ (inR xb 0 3) 0 hC (by omega) (by omega)) ⟨rfl, rfl⟩ rfl hP hD hS hA hC.1.1 hC.1.2 rfl rfl rfl hl rfl (Nat.le_of_ble_eq_true rfl) dX6_exchange_35 ⟨Nat.le_of_ble_eq_true rfl, Nat.le_of_ble_eq_true rfl⟩ (fun r6 H locs L7 F7 hP hD hS hz7 hp7 => ?_)
    obtain ⟨eL, hC, er, hO1⟩ := hp7
    subst eL
    replace er := (er.trans (okR_z _)).symm
    subst er
    have hO := hO.tr hO1
    refine q_if_ne hx hb dX6_exchange_38 (tgt := 43) (by decide) (by omega) (fun c8 => absurd c8 (by omega)) (fun c8 => ?_)
    refine q_iconst hx hb dX6_exchange_41 ?_
    exact q_retMi C0 hret rfl hlk dX6_exchange_42 hP hD hS (⟨(by unfold jR_exchange; (try unfold bkF); (try unfold bkO); (repeat' split) <;> first | omega | (exfalso; omega) | rfl), O, G, MP_eq hC (by unfold jS_exchange; (try unfold ltR); (try unfold inR); (try unfold bkF); (try unfold bkO); (repeat' split) <;> first | omega | (exfalso; omega) | rfl), rfl, Ext0 hO⟩)
  · replace b_4 := b_4.resolve_right (fun h => c5 h.1)
    refine lv_iload_n hx hb dX6_exchange_12 rfl (lv_at hl 3 rfl) ?_
    refine q_sS C0 lX6_86 (c_X6_isKey l D y L F xo (by omega)) ⟨rfl, rfl⟩ rfl hP rfl hl rfl (Nat.le_of_ble_eq_true rfl) dX6_exchange_13 ⟨Nat.zero_le _, Nat.zero_le _⟩ (fun r9 e_r9 => ?_)
    subst e_r9
    have b_10 := inR_d xo 0 99
    refine q_if_eq hx hb dX6_exchange_16 (tgt := 34) (by decide) (by omega) (fun c11 => ?_) (fun c11 => ?_)
    · replace b_10 := b_10.resolve_left (fun h => absurd (h.1.symm.trans c11) (by decide))
      refine q_iconst hx hb dX6_exchange_34 ?_
      refine q_vMi C0 lX6_63 (c_X6_isLet l D y L F _ O G μ (inR xb 0 3) 0 hC (by omega) (by omega)) ⟨rfl, rfl⟩ rfl hP hD hS hA hC.1.1 hC.1.2 rfl rfl rfl hl rfl (Nat.le_of_ble_eq_true rfl) dX6_exchange_35 ⟨Nat.le_of_ble_eq_true rfl, Nat.le_of_ble_eq_true rfl⟩ (fun r12 H locs L13 F13 hP hD hS hz13 hp13 => ?_)
      obtain ⟨eL, hC, er, hO1⟩ := hp13
      subst eL
      replace er := (er.trans (okR_z _)).symm
      subst er
      have hO := hO.tr hO1
      refine q_if_ne hx hb dX6_exchange_38 (tgt := 43) (by decide) (by omega) (fun c14 => absurd c14 (by omega)) (fun c14 => ?_)
      refine q_iconst hx hb dX6_exchange_41 ?_
      exact q_retMi C0 hret rfl hlk dX6_exchange_42 hP hD hS (⟨(by unfold jR_exchange; (try unfold bkF); (try unfold bkO); (repeat' split) <;> first | omega | (exfalso; omega) | rfl), O, G, MP_eq hC (by unfold jS_exchange; (try unfold ltR); (try unfold inR); (try unfold bkF); (try unfold bkO); (repeat' split) <;> first | omega | (exfalso; omega) | rfl), rfl, Ext0 hO⟩)
    · replace b_10 := b_10.resolve_right (fun h => c11 h.1)
      refine lv_iload hx hb dX6_exchange_19 (lv_at hl 4 rfl) ?_
      refine q_iconst hx hb dX6_exchange_21 ?_
      refine q_bipush hx hb dX6_exchange_22 (by decide) ?_
      refine q_sS C0 lX6_41 (c_X6_isIn l D y L F xw (-1) 99 (by omega) (by omega) (by omega)) ⟨rfl, rfl⟩ rfl hP rfl hl rfl (Nat.le_of_ble_eq_true rfl) dX6_exchange_24 ⟨Nat.zero_le _, Nat.zero_le _⟩ (fun r15 e_r15 => ?_)
      subst e_r15
      have b_16 := inR_d xw (-1) 99
      refine q_if_eq hx hb dX6_exchange_27 (tgt := 34) (by decide) (by omega) (fun c17 => ?_) (fun c17 => ?_)
      · replace b_16 := b_16.resolve_left (fun h => absurd (h.1.symm.trans c17) (by decide))
        refine q_iconst hx hb dX6_exchange_34 ?_
        refine q_vMi C0 lX6_63 (c_X6_isLet l D y L F _ O G μ (inR xb 0 3) 0 hC (by omega) (by omega)) ⟨rfl, rfl⟩ rfl hP hD hS hA hC.1.1 hC.1.2 rfl rfl rfl hl rfl (Nat.le_of_ble_eq_true rfl) dX6_exchange_35 ⟨Nat.le_of_ble_eq_true rfl, Nat.le_of_ble_eq_true rfl⟩ (fun r18 H locs L19 F19 hP hD hS hz19 hp19 => ?_)
        obtain ⟨eL, hC, er, hO1⟩ := hp19
        subst eL
        replace er := (er.trans (okR_z _)).symm
        subst er
        have hO := hO.tr hO1
        refine q_if_ne hx hb dX6_exchange_38 (tgt := 43) (by decide) (by omega) (fun c20 => absurd c20 (by omega)) (fun c20 => ?_)
        refine q_iconst hx hb dX6_exchange_41 ?_
        exact q_retMi C0 hret rfl hlk dX6_exchange_42 hP hD hS (⟨(by unfold jR_exchange; (try unfold bkF); (try unfold bkO); (repeat' split) <;> first | omega | (exfalso; omega) | rfl), O, G, MP_eq hC (by unfold jS_exchange; (try unfold ltR); (try unfold inR); (try unfold bkF); (try unfold bkO); (repeat' split) <;> first | omega | (exfalso; omega) | rfl), rfl, Ext0 hO⟩)
      · replace b_16 := b_16.resolve_right (fun h => c17 h.1)
        refine q_iconst hx hb dX6_exchange_30 ?_
        refine lv_goto (tgt := 35) hx hb dX6_exchange_31 (by decide) ?_
        refine q_vMi C0 lX6_63 (c_X6_isLet l D y L F _ O G μ (inR xb 0 3) 1 hC (by omega) (by omega)) ⟨rfl, rfl⟩ rfl hP hD hS hA hC.1.1 hC.1.2 rfl rfl rfl hl rfl (Nat.le_of_ble_eq_true rfl) dX6_exchange_35 ⟨Nat.le_of_ble_eq_true rfl, Nat.le_of_ble_eq_true rfl⟩ (fun r21 H locs L22 F22 hP hD hS hz22 hp22 => ?_)
        obtain ⟨eL, hC, er, hO1⟩ := hp22
        subst eL
        replace er := er.symm
        subst er
        have hO := hO.tr hO1
        have k_23 := okR_d (inR xb 0 3) 1
        refine q_if_ne hx hb dX6_exchange_38 (tgt := 43) (by decide) (by omega) (fun c24 => ?_) (fun c24 => ?_)
        · replace k_23 := k_23.resolve_right (fun h => c24 h.1)
          refine lv_aload_n hx hb dX6_exchange_43 rfl (lv_at hl 0 rfl) ?_
          refine lv_aload_n hx hb dX6_exchange_44 rfl (lv_at hl 0 rfl) ?_
          refine q_get C0 iX6 hP hC.1.1 hC.1.2 rfl 0 (by decide) flX6_11 rfl (v := .ref ((uab G))) rfl dX6_exchange_45 ?_
          refine lv_iload_n hx hb dX6_exchange_48 rfl (lv_at hl 1 rfl) ?_
          refine q_aald C0 hP hC.2.1.1 hC.2.1.2 (t := 3) rfl (by omega) (by decide) (v := .ref ((urh G (vbk μ xb)))) rfl dX6_exchange_49 ?_
          refine lv_iload_n hx hb dX6_exchange_50 rfl (lv_at hl 2 rfl) ?_
          refine lv_aload_n hx hb dX6_exchange_51 rfl (lv_at hl 0 rfl) ?_
          refine q_get C0 iX6 hP hC.1.1 hC.1.2 rfl 0 (by decide) flX6_11 rfl (v := .ref ((uab G))) rfl dX6_exchange_52 ?_
          refine lv_iload_n hx hb dX6_exchange_55 rfl (lv_at hl 1 rfl) ?_
          refine q_aald C0 hP hC.2.1.1 hC.2.1.2 (t := 3) rfl (by omega) (by decide) (v := .ref ((urh G (vbk μ xb)))) rfl dX6_exchange_56 ?_
          refine q_getN C0 iX5 hP (MP_r hC (hW.1 xb)).1 (MP_r hC (hW.1 xb)).2.1 rfl 1 (by decide) C0.2.2.2.2.2.2.1 rfl (v := .ref ((urw G (vbk μ xb)))) rfl dX6_exchange_57 ?_
          refine lv_iload_n hx hb dX6_exchange_60 rfl (lv_at hl 2 rfl) ?_
          refine q_iald C0 hP (f := (mwd (vod μ (vbk μ xb)) (vst μ (vbk μ xb)))) (MP_r hC (hW.1 xb)).2.2.1 (MP_r hC (hW.1 xb)).2.2.2.1 (by omega) (by decide) dX6_exchange_61 ?_
          have b_25 := (fun k => show -1 ≤ mwd (vod μ (vbk μ xb)) (vst μ (vbk μ xb)) k ∧ mwd (vod μ (vbk μ xb)) (vst μ (vbk μ xb)) k ≤ 99 from (MP_r hC (hW.1 xb)).2.2.2.2.2 (turn (vod μ (vbk μ xb)) k)) xk
          refine lv_iload_n hx hb dX6_exchange_62 rfl (lv_at hl 3 rfl) ?_
          refine q_icmp_ne hx hb dX6_exchange_63 (tgt := 70) (by decide) (by omega) (by omega) (fun c26 => ?_) (fun c26 => ?_)
          · refine q_iconst hx hb dX6_exchange_70 ?_
            refine lv_iload hx hb dX6_exchange_71 (lv_at hl 4 rfl) ?_
            refine q_vMi C0 lX6_107 (c_X6_change l D y L F22 _ O G (tTh μ (ltR (inR xb 0 3) 1)) (vbk μ xb) xk 0 xw hC hW (hW.1 xb) (by omega) (by omega) (by omega)) ⟨rfl, rfl⟩ rfl hP hD hS hA hC.1.1 hC.1.2 rfl rfl rfl hl rfl (Nat.le_of_ble_eq_true rfl) dX6_exchange_73 ⟨Nat.le_of_ble_eq_true rfl, Nat.le_of_ble_eq_true rfl⟩ (fun r27 H locs L28 F28 hP hD hS hz28 hp28 => ?_)
            obtain ⟨eL, hC, er, hO1⟩ := hp28
            subst eL
            replace er : (vst μ (vbk μ xb) (turn (vod μ (vbk μ xb)) xk)) = r27 := er.symm
            subst er
            have hO := hO.tr hO1
            refine lv_iload_n hx hb dX6_exchange_76 rfl (lv_at hl 3 rfl) ?_
            refine q_icmp_ne hx hb dX6_exchange_77 (tgt := 84) (by decide) (by omega) (by omega) (fun c29 => ?_) (fun c29 => ?_)
            · refine q_iconst hx hb dX6_exchange_84 ?_
              exact q_retMi C0 hret rfl hlk dX6_exchange_85 hP hD hS (⟨(by unfold jR_exchange; (try unfold bkF); (try unfold bkO); (repeat' split) <;> first | omega | (exfalso; omega) | rfl), O, G, MP_eq hC (by unfold jS_exchange; (try unfold ltR); (try unfold inR); (try unfold bkF); (try unfold bkO); (repeat' split) <;> first | omega | (exfalso; omega) | rfl), rfl, Ext0 hO⟩)
            · refine q_iconst hx hb dX6_exchange_80 ?_
              refine lv_goto (tgt := 85) hx hb dX6_exchange_81 (by decide) ?_
              exact q_retMi C0 hret rfl hlk dX6_exchange_85 hP hD hS (⟨(by unfold jR_exchange; (try unfold bkF); (try unfold bkO); (repeat' split) <;> first | omega | (exfalso; omega) | rfl), O, G, MP_eq hC (by unfold jS_exchange; (try unfold ltR); (try unfold inR); (try unfold bkF); (try unfold bkO); (repeat' split) <;> first | omega | (exfalso; omega) | rfl), rfl, Ext0 hO⟩)
          · refine q_iconst hx hb dX6_exchange_66 ?_
            refine lv_goto (tgt := 71) hx hb dX6_exchange_67 (by decide) ?_
            refine lv_iload hx hb dX6_exchange_71 (lv_at hl 4 rfl) ?_
            refine q_vMi C0 lX6_107 (c_X6_change l D y L F22 _ O G (tTh μ (ltR (inR xb 0 3) 1)) (vbk μ xb) xk 1 xw hC hW (hW.1 xb) (by omega) (by omega) (by omega)) ⟨rfl, rfl⟩ rfl hP hD hS hA hC.1.1 hC.1.2 rfl rfl rfl hl rfl (Nat.le_of_ble_eq_true rfl) dX6_exchange_73 ⟨Nat.le_of_ble_eq_true rfl, Nat.le_of_ble_eq_true rfl⟩ (fun r30 H locs L31 F31 hP hD hS hz31 hp31 => ?_)
            obtain ⟨eL, hC, er, hO1⟩ := hp31
            subst eL
            replace er : (vst μ (vbk μ xb) (turn (vod μ (vbk μ xb)) xk)) = r30 := er.symm
            subst er
            have hO := hO.tr hO1
            refine lv_iload_n hx hb dX6_exchange_76 rfl (lv_at hl 3 rfl) ?_
            refine q_icmp_ne hx hb dX6_exchange_77 (tgt := 84) (by decide) (by omega) (by omega) (fun c32 => ?_) (fun c32 => ?_)
            · refine q_iconst hx hb dX6_exchange_84 ?_
              exact q_retMi C0 hret rfl hlk dX6_exchange_85 hP hD hS (⟨(by unfold jR_exchange; (try unfold bkF); (try unfold bkO); (repeat' split) <;> first | omega | (exfalso; omega) | rfl), O, G, MP_eq hC (by unfold jS_exchange; (try unfold ltR); (try unfold inR); (try unfold bkF); (try unfold bkO); (repeat' split) <;> first | omega | (exfalso; omega) | rfl), rfl, Ext0 hO⟩)
            · refine q_iconst hx hb dX6_exchange_80 ?_
              refine lv_goto (tgt := 85) hx hb dX6_exchange_81 (by decide) ?_
              exact q_retMi C0 hret rfl hlk dX6_exchange_85 hP hD hS (⟨(by unfold jR_exchange; (try unfold bkF); (try unfold bkO); (repeat' split) <;> first | omega | (exfalso; omega) | rfl), O, G, MP_eq hC (by unfold jS_exchange; (try unfold ltR); (try unfold inR); (try unfold bkF); (try unfold bkO); (repeat' split) <;> first | omega | (exfalso; omega) | rfl), rfl, Ext0 hO⟩)
        · replace k_23 := k_23.resolve_left (fun h => absurd (h.1.symm.trans c24) (by decide))
          refine q_iconst hx hb dX6_exchange_41 ?_
          exact q_retMi C0 hret rfl hlk dX6_exchange_42 hP hD hS (⟨(by unfold jR_exchange; (try unfold bkF); (try unfold bkO); (repeat' split) <;> first | omega | (exfalso; omega) | rfl), O, G, MP_eq hC (by unfold jS_exchange; (try unfold ltR); (try unfold inR); (try unfold bkF); (try unfold bkO); (repeat' split) <;> first | omega | (exfalso; omega) | rfl), rfl, Ext0 hO⟩)
set_option maxHeartbeats 3000000 in
set_option maxRecDepth 100000 in
theorem c_X6_end (l : Launch) (D : va_G) (y : Nat → ClassId) (L : List Nat) (F : Nat → va_E) (sz : Nat) (O : Nat → Prop) (G : MG) (μ : MS) (xb : Int) (xw : Int) (xv : Int) (hC : MP y L F O G μ) (hW : MW μ) (h_xb : -2147483648 ≤ xb ∧ xb ≤ 2147483647) (h_xw : 0 ≤ xw ∧ xw ≤ 1) (h_xv : 0 ≤ xv ∧ xv ≤ 1) : Met l yX6_end (.code yX6_end cX6_end 5 (some .int) :: Tt) ({ frames := 2, cells := 0, slots := 0, locals := 44 }) (PcM D y L F sz [.ref ((ubg G)), .int (iI xb), .int (iI xw), .int (iI xv)]) (cMi D (AL L sz) (fun r L1 F1 => r = jR_end μ xb xw xv ∧ ∃ (O1 : Nat → Prop) (G1 : MG), MP y L1 F1 O1 G1 (jS_end μ xb xw xv) ∧ ubg G1 = ubg G ∧ Ext O O1 L L1 F F1)) 0 0 (AL L sz) := by
  have hO : OE O F F := fun _ _ => rfl
  have hw5 := hW.2.2.2.2.2.1
  have hw6 := hW.2.2.2.2.2.2.1
  have hw7 := hW.2.2.2.2.2.2.2.1
  have m1_ := @keyR_m1 (vod μ (vbk μ xb)) (lasP (vst μ (vbk μ xb)) 0 99) (lasP_r _ _ _)
  have m2_ := @keyR_m1 (vod μ (vbk μ xb)) (firP (vst μ (vbk μ xb)) 0 99) (firP_r _ _ _)
  refine q_ofM (lv := [(0, .ref ((ubg G))), (1, .int (iI xb)), (2, .int (iI xw)), (3, .int (iI xv))]) (by decide) (Nat.le_of_ble_eq_true rfl) rfl (fun p e s m below meth c C0 hret hlk hnm hA hP hD hS ls hl => ?_)
  have hx := C0.1.1
  have hb := C0.1.2.1
  have hts := C0.1.2.2.2.2
  refine lv_aload_n hx hb dX6_end_0 rfl (lv_at hl 0 rfl) ?_
  refine lv_iload_n hx hb dX6_end_1 rfl (lv_at hl 1 rfl) ?_
  refine q_sS C0 lX6_60 (c_X6_isBook l D y L F xb (by omega)) ⟨rfl, rfl⟩ rfl hP rfl hl rfl (Nat.le_of_ble_eq_true rfl) dX6_end_2 ⟨Nat.zero_le _, Nat.zero_le _⟩ (fun r1 e_r1 => ?_)
  subst e_r1
  have b_2 := inR_d xb 0 3
  refine q_iconst hx hb dX6_end_5 ?_
  refine q_vMi C0 lX6_63 (c_X6_isLet l D y L F _ O G μ (inR xb 0 3) 1 hC (by omega) (by omega)) ⟨rfl, rfl⟩ rfl hP hD hS hA hC.1.1 hC.1.2 rfl rfl rfl hl rfl (Nat.le_of_ble_eq_true rfl) dX6_end_6 ⟨Nat.le_of_ble_eq_true rfl, Nat.le_of_ble_eq_true rfl⟩ (fun r3 H locs L4 F4 hP hD hS hz4 hp4 => ?_)
  obtain ⟨eL, hC, er, hO1⟩ := hp4
  subst eL
  replace er := er.symm
  subst er
  have hO := hO.tr hO1
  have k_5 := okR_d (inR xb 0 3) 1
  refine q_if_ne hx hb dX6_end_9 (tgt := 14) (by decide) (by omega) (fun c6 => ?_) (fun c6 => ?_)
  · replace k_5 := k_5.resolve_right (fun h => c6 h.1)
    refine lv_iload_n hx hb dX6_end_14 rfl (lv_at hl 2 rfl) ?_
    refine q_if_eq hx hb dX6_end_15 (tgt := 33) (by decide) (by omega) (fun c7 => ?_) (fun c7 => ?_)
    · refine lv_aload_n hx hb dX6_end_33 rfl (lv_at hl 0 rfl) ?_
      refine q_get C0 iX6 hP hC.1.1 hC.1.2 rfl 0 (by decide) flX6_11 rfl (v := .ref ((uab G))) rfl dX6_end_34 ?_
      refine lv_iload_n hx hb dX6_end_37 rfl (lv_at hl 1 rfl) ?_
      refine q_aald C0 hP hC.2.1.1 hC.2.1.2 (t := 3) rfl (by omega) (by decide) (v := .ref ((urh G (vbk μ xb)))) rfl dX6_end_38 ?_
      refine q_iconst hx hb dX6_end_39 ?_
      refine q_bipush hx hb dX6_end_40 (by decide) ?_
      refine q_vS C0 lX6_111 (c_X5_first l D y L F4 (urh G (vbk μ xb)) (urw G (vbk μ xb)) (vod μ (vbk μ xb)) (vst μ (vbk μ xb)) 0 99 (MP_r hC (hW.1 xb)) (by omega) (by omega)) ⟨rfl, rfl⟩ rfl hP (MP_r hC (hW.1 xb)).1 (MP_r hC (hW.1 xb)).2.1 rfl rfl rfl hl rfl (Nat.le_of_ble_eq_true rfl) dX6_end_42 ⟨Nat.zero_le _, Nat.zero_le _⟩ (fun r8 e_r8 => ?_)
      subst e_r8
      have b_9 := @keyR_b (vod μ (vbk μ xb)) (firP (vst μ (vbk μ xb)) 0 99) (firP_r (vst μ (vbk μ xb)) 0 99)
      refine lv_istore (lv' := [(4, .int (iI ((keyR (vod μ (vbk μ xb)) (firP (vst μ (vbk μ xb)) 0 99))))), (0, .ref ((ubg G))), (1, .int (iI xb)), (2, .int (iI xw)), (3, .int (iI xv))]) hx hb dX6_end_45 hl (by decide) rfl (fun ls hl => ?_)
      refine lv_iload hx hb dX6_end_47 (lv_at hl 0 rfl) ?_
      refine q_iconst hx hb dX6_end_49 ?_
      refine q_icmp_ne hx hb dX6_end_50 (tgt := 64) (by decide) (by omega) (by omega) (fun c10 => ?_) (fun c10 => ?_)
      · refine lv_aload_n hx hb dX6_end_64 rfl (lv_at hl 1 rfl) ?_
        refine q_get C0 iX6 hP hC.1.1 hC.1.2 rfl 0 (by decide) flX6_11 rfl (v := .ref ((uab G))) rfl dX6_end_65 ?_
        refine lv_iload_n hx hb dX6_end_68 rfl (lv_at hl 2 rfl) ?_
        refine q_aald C0 hP hC.2.1.1 hC.2.1.2 (t := 3) rfl (by omega) (by decide) (v := .ref ((urh G (vbk μ xb)))) rfl dX6_end_69 ?_
        refine lv_iload hx hb dX6_end_70 (lv_at hl 0 rfl) ?_
        refine lv_iload_n hx hb dX6_end_72 rfl (lv_at hl 4 rfl) ?_
        refine q_sS C0 lX6_128 (c_X6_told l D y L F4 (urh G (vbk μ xb)) (urw G (vbk μ xb)) (vod μ (vbk μ xb)) (vst μ (vbk μ xb)) (keyR (vod μ (vbk μ xb)) (firP (vst μ (vbk μ xb)) 0 99)) xv (MP_r hC (hW.1 xb)) (by omega) (by omega)) ⟨rfl, rfl⟩ rfl hP rfl hl rfl (Nat.le_of_ble_eq_true rfl) dX6_end_73 ⟨Nat.zero_le _, Nat.zero_le _⟩ (fun r11 e_r11 => ?_)
        subst e_r11
        exact q_retMi C0 hret rfl hlk dX6_end_76 hP hD hS (⟨(by unfold jR_end; (try unfold bkF); (try unfold bkO); (try unfold endP); (repeat' split) <;> first | omega | (exfalso; omega) | rfl), O, G, MP_eq hC (by unfold jS_end; (try unfold ltR); (try unfold inR); (try unfold bkF); (try unfold bkO); (try unfold endP); (repeat' split) <;> first | omega | (exfalso; omega) | rfl), rfl, Ext0 hO⟩)
      · refine lv_iload_n hx hb dX6_end_53 rfl (lv_at hl 4 rfl) ?_
        refine q_if_ne hx hb dX6_end_54 (tgt := 64) (by decide) (by omega) (fun c12 => ?_) (fun c12 => ?_)
        · refine lv_aload_n hx hb dX6_end_64 rfl (lv_at hl 1 rfl) ?_
          refine q_get C0 iX6 hP hC.1.1 hC.1.2 rfl 0 (by decide) flX6_11 rfl (v := .ref ((uab G))) rfl dX6_end_65 ?_
          refine lv_iload_n hx hb dX6_end_68 rfl (lv_at hl 2 rfl) ?_
          refine q_aald C0 hP hC.2.1.1 hC.2.1.2 (t := 3) rfl (by omega) (by decide) (v := .ref ((urh G (vbk μ xb)))) rfl dX6_end_69 ?_
          refine lv_iload hx hb dX6_end_70 (lv_at hl 0 rfl) ?_
          refine lv_iload_n hx hb dX6_end_72 rfl (lv_at hl 4 rfl) ?_
          refine q_sS C0 lX6_128 (c_X6_told l D y L F4 (urh G (vbk μ xb)) (urw G (vbk μ xb)) (vod μ (vbk μ xb)) (vst μ (vbk μ xb)) (keyR (vod μ (vbk μ xb)) (firP (vst μ (vbk μ xb)) 0 99)) xv (MP_r hC (hW.1 xb)) (by omega) (by omega)) ⟨rfl, rfl⟩ rfl hP rfl hl rfl (Nat.le_of_ble_eq_true rfl) dX6_end_73 ⟨Nat.zero_le _, Nat.zero_le _⟩ (fun r13 e_r13 => ?_)
          subst e_r13
          exact q_retMi C0 hret rfl hlk dX6_end_76 hP hD hS (⟨(by unfold jR_end; (try unfold bkF); (try unfold bkO); (try unfold endP); (repeat' split) <;> first | omega | (exfalso; omega) | rfl), O, G, MP_eq hC (by unfold jS_end; (try unfold ltR); (try unfold inR); (try unfold bkF); (try unfold bkO); (try unfold endP); (repeat' split) <;> first | omega | (exfalso; omega) | rfl), rfl, Ext0 hO⟩)
        · refine lv_aload_n hx hb dX6_end_57 rfl (lv_at hl 1 rfl) ?_
          refine q_vMi C0 lX6_89 (c_X6_refuse l D y L F4 _ O G (tTh μ (ltR (inR xb 0 3) 1)) hC) ⟨rfl, rfl⟩ rfl hP hD hS hA hC.1.1 hC.1.2 rfl rfl rfl hl rfl (Nat.le_of_ble_eq_true rfl) dX6_end_58 ⟨Nat.le_of_ble_eq_true rfl, Nat.le_of_ble_eq_true rfl⟩ (fun r14 H locs L15 F15 hP hD hS hz15 hp15 => ?_)
          obtain ⟨eL, hC, er, hO1⟩ := hp15
          subst eL
          replace er : (-9) = r14 := er.symm
          subst er
          have hO := hO.tr hO1
          refine lv_goto (tgt := 76) hx hb dX6_end_61 (by decide) ?_
          exact q_retMi C0 hret rfl hlk dX6_end_76 hP hD hS (⟨(by unfold jR_end; (try unfold bkF); (try unfold bkO); (try unfold endP); (repeat' split) <;> first | omega | (exfalso; omega) | rfl), O, G, MP_eq hC (by unfold jS_end; (try unfold ltR); (try unfold inR); (try unfold bkF); (try unfold bkO); (try unfold endP); (repeat' split) <;> first | omega | (exfalso; omega) | rfl), rfl, Ext0 hO⟩)
    · refine lv_aload_n hx hb dX6_end_18 rfl (lv_at hl 0 rfl) ?_
      refine q_get C0 iX6 hP hC.1.1 hC.1.2 rfl 0 (by decide) flX6_11 rfl (v := .ref ((uab G))) rfl dX6_end_19 ?_
      refine lv_iload_n hx hb dX6_end_22 rfl (lv_at hl 1 rfl) ?_
      refine q_aald C0 hP hC.2.1.1 hC.2.1.2 (t := 3) rfl (by omega) (by decide) (v := .ref ((urh G (vbk μ xb)))) rfl dX6_end_23 ?_
      refine q_iconst hx hb dX6_end_24 ?_
      refine q_bipush hx hb dX6_end_25 (by decide) ?_
      refine q_vS C0 lX6_114 (c_X5_last l D y L F4 (urh G (vbk μ xb)) (urw G (vbk μ xb)) (vod μ (vbk μ xb)) (vst μ (vbk μ xb)) 0 99 (MP_r hC (hW.1 xb)) (by omega) (by omega)) ⟨rfl, rfl⟩ rfl hP (MP_r hC (hW.1 xb)).1 (MP_r hC (hW.1 xb)).2.1 rfl rfl rfl hl rfl (Nat.le_of_ble_eq_true rfl) dX6_end_27 ⟨Nat.zero_le _, Nat.zero_le _⟩ (fun r16 e_r16 => ?_)
      subst e_r16
      have b_17 := @keyR_b (vod μ (vbk μ xb)) (lasP (vst μ (vbk μ xb)) 0 99) (lasP_r (vst μ (vbk μ xb)) 0 99)
      refine lv_goto (tgt := 45) hx hb dX6_end_30 (by decide) ?_
      refine lv_istore (lv' := [(4, .int (iI ((keyR (vod μ (vbk μ xb)) (lasP (vst μ (vbk μ xb)) 0 99))))), (0, .ref ((ubg G))), (1, .int (iI xb)), (2, .int (iI xw)), (3, .int (iI xv))]) hx hb dX6_end_45 hl (by decide) rfl (fun ls hl => ?_)
      refine lv_iload hx hb dX6_end_47 (lv_at hl 0 rfl) ?_
      refine q_iconst hx hb dX6_end_49 ?_
      refine q_icmp_ne hx hb dX6_end_50 (tgt := 64) (by decide) (by omega) (by omega) (fun c18 => ?_) (fun c18 => ?_)
      · refine lv_aload_n hx hb dX6_end_64 rfl (lv_at hl 1 rfl) ?_
        refine q_get C0 iX6 hP hC.1.1 hC.1.2 rfl 0 (by decide) flX6_11 rfl (v := .ref ((uab G))) rfl dX6_end_65 ?_
        refine lv_iload_n hx hb dX6_end_68 rfl (lv_at hl 2 rfl) ?_
        refine q_aald C0 hP hC.2.1.1 hC.2.1.2 (t := 3) rfl (by omega) (by decide) (v := .ref ((urh G (vbk μ xb)))) rfl dX6_end_69 ?_
        refine lv_iload hx hb dX6_end_70 (lv_at hl 0 rfl) ?_
        refine lv_iload_n hx hb dX6_end_72 rfl (lv_at hl 4 rfl) ?_
        refine q_sS C0 lX6_128 (c_X6_told l D y L F4 (urh G (vbk μ xb)) (urw G (vbk μ xb)) (vod μ (vbk μ xb)) (vst μ (vbk μ xb)) (keyR (vod μ (vbk μ xb)) (lasP (vst μ (vbk μ xb)) 0 99)) xv (MP_r hC (hW.1 xb)) (by omega) (by omega)) ⟨rfl, rfl⟩ rfl hP rfl hl rfl (Nat.le_of_ble_eq_true rfl) dX6_end_73 ⟨Nat.zero_le _, Nat.zero_le _⟩ (fun r19 e_r19 => ?_)
        subst e_r19
        exact q_retMi C0 hret rfl hlk dX6_end_76 hP hD hS (⟨(by unfold jR_end; (try unfold bkF); (try unfold bkO); (try unfold endP); (repeat' split) <;> first | omega | (exfalso; omega) | rfl), O, G, MP_eq hC (by unfold jS_end; (try unfold ltR); (try unfold inR); (try unfold bkF); (try unfold bkO); (try unfold endP); (repeat' split) <;> first | omega | (exfalso; omega) | rfl), rfl, Ext0 hO⟩)
      · refine lv_iload_n hx hb dX6_end_53 rfl (lv_at hl 4 rfl) ?_
        refine q_if_ne hx hb dX6_end_54 (tgt := 64) (by decide) (by omega) (fun c20 => ?_) (fun c20 => ?_)
        · refine lv_aload_n hx hb dX6_end_64 rfl (lv_at hl 1 rfl) ?_
          refine q_get C0 iX6 hP hC.1.1 hC.1.2 rfl 0 (by decide) flX6_11 rfl (v := .ref ((uab G))) rfl dX6_end_65 ?_
          refine lv_iload_n hx hb dX6_end_68 rfl (lv_at hl 2 rfl) ?_
          refine q_aald C0 hP hC.2.1.1 hC.2.1.2 (t := 3) rfl (by omega) (by decide) (v := .ref ((urh G (vbk μ xb)))) rfl dX6_end_69 ?_
          refine lv_iload hx hb dX6_end_70 (lv_at hl 0 rfl) ?_
          refine lv_iload_n hx hb dX6_end_72 rfl (lv_at hl 4 rfl) ?_
          refine q_sS C0 lX6_128 (c_X6_told l D y L F4 (urh G (vbk μ xb)) (urw G (vbk μ xb)) (vod μ (vbk μ xb)) (vst μ (vbk μ xb)) (keyR (vod μ (vbk μ xb)) (lasP (vst μ (vbk μ xb)) 0 99)) xv (MP_r hC (hW.1 xb)) (by omega) (by omega)) ⟨rfl, rfl⟩ rfl hP rfl hl rfl (Nat.le_of_ble_eq_true rfl) dX6_end_73 ⟨Nat.zero_le _, Nat.zero_le _⟩ (fun r21 e_r21 => ?_)
          subst e_r21
          exact q_retMi C0 hret rfl hlk dX6_end_76 hP hD hS (⟨(by unfold jR_end; (try unfold bkF); (try unfold bkO); (try unfold endP); (repeat' split) <;> first | omega | (exfalso; omega) | rfl), O, G, MP_eq hC (by unfold jS_end; (try unfold ltR); (try unfold inR); (try unfold bkF); (try unfold bkO); (try unfold endP); (repeat' split) <;> first | omega | (exfalso; omega) | rfl), rfl, Ext0 hO⟩)
        · refine lv_aload_n hx hb dX6_end_57 rfl (lv_at hl 1 rfl) ?_
          refine q_vMi C0 lX6_89 (c_X6_refuse l D y L F4 _ O G (tTh μ (ltR (inR xb 0 3) 1)) hC) ⟨rfl, rfl⟩ rfl hP hD hS hA hC.1.1 hC.1.2 rfl rfl rfl hl rfl (Nat.le_of_ble_eq_true rfl) dX6_end_58 ⟨Nat.le_of_ble_eq_true rfl, Nat.le_of_ble_eq_true rfl⟩ (fun r22 H locs L23 F23 hP hD hS hz23 hp23 => ?_)
          obtain ⟨eL, hC, er, hO1⟩ := hp23
          subst eL
          replace er : (-9) = r22 := er.symm
          subst er
          have hO := hO.tr hO1
          refine lv_goto (tgt := 76) hx hb dX6_end_61 (by decide) ?_
          exact q_retMi C0 hret rfl hlk dX6_end_76 hP hD hS (⟨(by unfold jR_end; (try unfold bkF); (try unfold bkO); (try unfold endP); (repeat' split) <;> first | omega | (exfalso; omega) | rfl), O, G, MP_eq hC (by unfold jS_end; (try unfold ltR); (try unfold inR); (try unfold bkF); (try unfold bkO); (try unfold endP); (repeat' split) <;> first | omega | (exfalso; omega) | rfl), rfl, Ext0 hO⟩)
  · replace k_5 := k_5.resolve_left (fun h => absurd (h.1.symm.trans c6) (by decide))
    refine q_iconst hx hb dX6_end_12 ?_
    exact q_retMi C0 hret rfl hlk dX6_end_13 hP hD hS (⟨(by unfold jR_end; (try unfold bkF); (try unfold bkO); (try unfold endP); (repeat' split) <;> first | omega | (exfalso; omega) | rfl), O, G, MP_eq hC (by unfold jS_end; (try unfold ltR); (try unfold inR); (try unfold bkF); (try unfold bkO); (try unfold endP); (repeat' split) <;> first | omega | (exfalso; omega) | rfl), rfl, Ext0 hO⟩)
set_option maxHeartbeats 3000000 in
set_option maxRecDepth 100000 in
theorem c_X6_startWalk (l : Launch) (D : va_G) (y : Nat → ClassId) (L : List Nat) (F : Nat → va_E) (sz : Nat) (O : Nat → Prop) (G : MG) (μ : MS) (xb : Int) (hC : MP y L F O G μ) (hW : MW μ) (h_xb : -2147483648 ≤ xb ∧ xb ≤ 2147483647) : Met l yX6_startWalk (.code yX6_startWalk cX6_startWalk 2 (some .int) :: Tt) ({ frames := 2, cells := 0, slots := 0, locals := 45 }) (PcM D y L F sz [.ref ((ubg G)), .int (iI xb)]) (cMi D (AL L sz) (fun r L1 F1 => r = jR_startWalk μ xb ∧ ∃ (O1 : Nat → Prop) (G1 : MG), MP y L1 F1 O1 G1 (jS_startWalk μ xb) ∧ ubg G1 = ubg G ∧ Ext O O1 L L1 F F1)) 0 0 (AL L sz) := by
  have hO : OE O F F := fun _ _ => rfl
  have hw5 := hW.2.2.2.2.2.1
  have hw6 := hW.2.2.2.2.2.2.1
  have hw7 := hW.2.2.2.2.2.2.2.1
  refine q_ofM (lv := [(0, .ref ((ubg G))), (1, .int (iI xb))]) (by decide) (Nat.le_of_ble_eq_true rfl) rfl (fun p e s m below meth c C0 hret hlk hnm hA hP hD hS ls hl => ?_)
  have hx := C0.1.1
  have hb := C0.1.2.1
  have hts := C0.1.2.2.2.2
  refine lv_aload_n hx hb dX6_startWalk_0 rfl (lv_at hl 0 rfl) ?_
  refine lv_iload_n hx hb dX6_startWalk_1 rfl (lv_at hl 1 rfl) ?_
  refine q_sS C0 lX6_60 (c_X6_isBook l D y L F xb (by omega)) ⟨rfl, rfl⟩ rfl hP rfl hl rfl (Nat.le_of_ble_eq_true rfl) dX6_startWalk_2 ⟨Nat.zero_le _, Nat.zero_le _⟩ (fun r1 e_r1 => ?_)
  subst e_r1
  have b_2 := inR_d xb 0 3
  refine q_iconst hx hb dX6_startWalk_5 ?_
  refine q_vMi C0 lX6_63 (c_X6_isLet l D y L F _ O G μ (inR xb 0 3) 1 hC (by omega) (by omega)) ⟨rfl, rfl⟩ rfl hP hD hS hA hC.1.1 hC.1.2 rfl rfl rfl hl rfl (Nat.le_of_ble_eq_true rfl) dX6_startWalk_6 ⟨Nat.le_of_ble_eq_true rfl, Nat.le_of_ble_eq_true rfl⟩ (fun r3 H locs L4 F4 hP hD hS hz4 hp4 => ?_)
  obtain ⟨eL, hC, er, hO1⟩ := hp4
  subst eL
  replace er := er.symm
  subst er
  have hO := hO.tr hO1
  have k_5 := okR_d (inR xb 0 3) 1
  refine q_if_ne hx hb dX6_startWalk_9 (tgt := 14) (by decide) (by omega) (fun c6 => ?_) (fun c6 => ?_)
  · replace k_5 := k_5.resolve_right (fun h => c6 h.1)
    refine lv_aload_n hx hb dX6_startWalk_14 rfl (lv_at hl 0 rfl) ?_
    refine lv_aload_n hx hb dX6_startWalk_15 rfl (lv_at hl 0 rfl) ?_
    refine q_get C0 iX6 hP hC.1.1 hC.1.2 rfl 0 (by decide) flX6_11 rfl (v := .ref ((uab G))) rfl dX6_startWalk_16 ?_
    refine lv_iload_n hx hb dX6_startWalk_19 rfl (lv_at hl 1 rfl) ?_
    refine q_aald C0 hP hC.2.1.1 hC.2.1.2 (t := 3) rfl (by omega) (by decide) (v := .ref ((urh G (vbk μ xb)))) rfl dX6_startWalk_20 ?_
    refine q_put C0 iX6 tyX6 tyX6_ok nmX6 hP hD hS hC.1.1 hC.1.2 rfl 5 (by decide) flX6_45 rfl rfl rfl rfl (Nat.le_of_ble_eq_true rfl) dX6_startWalk_21 (fun H locs hP hD hS => ?_)
    obtain ⟨F7, eF7⟩ : ∃ z, z = va_up F4 (ubg G) (.inr (8, [.ref ((uab G)), .ref ((uas G)), .ref ((uav G)), .ref ((uaf G)), .ref ((uat G)), .ref ((urh G (vbk μ xb))), .int (iI (vbr μ)), .int (iI (vtd μ)), .int (iI (vbh μ)), .ref ((uac G)), .int (iI ((ltR (inR xb 0 3) 1)))])) := ⟨_, rfl⟩
    have hP : va_P D vwCl (va_pl L F7) H := by rw [eF7]; exact hP
    have hD : va_D (AL L sz) (va_pl L F7) := by rw [eF7]; exact hD
    have hO : OE O F F7 := by rw [eF7]; exact hO.tr (OE1 (MP_O hC).1)
    have hC : MP y L F7 O G (tOb μ (some (vbk μ xb)) (vbr μ) (vtd μ) (vbh μ) (ltR (inR xb 0 3) 1)) := by rw [eF7]; exact MP_ob2 hC (va_up_self _ _ _) (fun q hq => va_up_ne _ _ hq)
    refine lv_aload_n hx hb dX6_startWalk_24 rfl (lv_at hl 0 rfl) ?_
    refine q_iconst hx hb dX6_startWalk_25 ?_
    refine q_put C0 iX6 tyX6 tyX6_ok nmX6 hP hD hS hC.1.1 hC.1.2 rfl 6 (by decide) flX6_56 rfl rfl (by decide) (by decide) (Nat.le_of_ble_eq_true rfl) dX6_startWalk_26 (fun H locs hP hD hS => ?_)
    obtain ⟨F8, eF8⟩ : ∃ z, z = va_up F7 (ubg G) (.inr (8, [.ref ((uab G)), .ref ((uas G)), .ref ((uav G)), .ref ((uaf G)), .ref ((uat G)), .ref ((urh G (vbk μ xb))), .int (iI 0), .int (iI (vtd μ)), .int (iI (vbh μ)), .ref ((uac G)), .int (iI ((ltR (inR xb 0 3) 1)))])) := ⟨_, rfl⟩
    have hP : va_P D vwCl (va_pl L F8) H := by rw [eF8]; exact hP
    have hD : va_D (AL L sz) (va_pl L F8) := by rw [eF8]; exact hD
    have hO : OE O F F8 := by rw [eF8]; exact hO.tr (OE1 (MP_O hC).1)
    have hC : MP y L F8 O G (tOb μ (some (vbk μ xb)) 0 (vtd μ) (vbh μ) (ltR (inR xb 0 3) 1)) := by rw [eF8]; exact MP_ob2 hC (va_up_self _ _ _) (fun q hq => va_up_ne _ _ hq)
    refine lv_aload_n hx hb dX6_startWalk_29 rfl (lv_at hl 0 rfl) ?_
    refine q_iconst hx hb dX6_startWalk_30 ?_
    refine q_put C0 iX6 tyX6 tyX6_ok nmX6 hP hD hS hC.1.1 hC.1.2 rfl 7 (by decide) flX6_28 rfl rfl rfl rfl (Nat.le_of_ble_eq_true rfl) dX6_startWalk_31 (fun H locs hP hD hS => ?_)
    obtain ⟨F9, eF9⟩ : ∃ z, z = va_up F8 (ubg G) (.inr (8, [.ref ((uab G)), .ref ((uas G)), .ref ((uav G)), .ref ((uaf G)), .ref ((uat G)), .ref ((urh G (vbk μ xb))), .int (iI 0), .int (iI ((-1))), .int (iI (vbh μ)), .ref ((uac G)), .int (iI ((ltR (inR xb 0 3) 1)))])) := ⟨_, rfl⟩
    have hP : va_P D vwCl (va_pl L F9) H := by rw [eF9]; exact hP
    have hD : va_D (AL L sz) (va_pl L F9) := by rw [eF9]; exact hD
    have hO : OE O F F9 := by rw [eF9]; exact hO.tr (OE1 (MP_O hC).1)
    have hC : MP y L F9 O G (tOb μ (some (vbk μ xb)) 0 (-1) (vbh μ) (ltR (inR xb 0 3) 1)) := by rw [eF9]; exact MP_ob2 hC (va_up_self _ _ _) (fun q hq => va_up_ne _ _ hq)
    refine lv_aload_n hx hb dX6_startWalk_34 rfl (lv_at hl 0 rfl) ?_
    refine q_iconst hx hb dX6_startWalk_35 ?_
    refine q_put C0 iX6 tyX6 tyX6_ok nmX6 hP hD hS hC.1.1 hC.1.2 rfl 8 (by decide) flX6_186 rfl rfl rfl rfl (Nat.le_of_ble_eq_true rfl) dX6_startWalk_36 (fun H locs hP hD hS => ?_)
    obtain ⟨F10, eF10⟩ : ∃ z, z = va_up F9 (ubg G) (.inr (8, [.ref ((uab G)), .ref ((uas G)), .ref ((uav G)), .ref ((uaf G)), .ref ((uat G)), .ref ((urh G (vbk μ xb))), .int (iI 0), .int (iI ((-1))), .int (iI 0), .ref ((uac G)), .int (iI ((ltR (inR xb 0 3) 1)))])) := ⟨_, rfl⟩
    have hP : va_P D vwCl (va_pl L F10) H := by rw [eF10]; exact hP
    have hD : va_D (AL L sz) (va_pl L F10) := by rw [eF10]; exact hD
    have hO : OE O F F10 := by rw [eF10]; exact hO.tr (OE1 (MP_O hC).1)
    have hC : MP y L F10 O G (tOb μ (some (vbk μ xb)) 0 (-1) 0 (ltR (inR xb 0 3) 1)) := by rw [eF10]; exact MP_ob2 hC (va_up_self _ _ _) (fun q hq => va_up_ne _ _ hq)
    refine lv_aload_n hx hb dX6_startWalk_39 rfl (lv_at hl 0 rfl) ?_
    refine q_get C0 iX6 hP hC.1.1 hC.1.2 rfl 5 (by decide) flX6_45 rfl (v := .ref ((urh G (vbk μ xb)))) rfl dX6_startWalk_40 ?_
    refine q_iconst hx hb dX6_startWalk_43 ?_
    refine q_bipush hx hb dX6_startWalk_44 (by decide) ?_
    refine q_vS C0 lX6_67 (c_X5_many l D y L F10 (urh G (vbk μ xb)) (urw G (vbk μ xb)) (vod μ (vbk μ xb)) (vst μ (vbk μ xb)) 0 99 (MP_r hC (hW.1 xb)) (by omega) (by omega)) ⟨rfl, rfl⟩ rfl hP (MP_r hC (hW.1 xb)).1 (MP_r hC (hW.1 xb)).2.1 rfl rfl rfl hl rfl (Nat.le_of_ble_eq_true rfl) dX6_startWalk_46 ⟨Nat.zero_le _, Nat.zero_le _⟩ (fun r11 e_r11 => ?_)
    subst e_r11
    exact q_retMi C0 hret rfl hlk dX6_startWalk_49 hP hD hS (⟨(by unfold jR_startWalk; (try unfold bkF); (try unfold bkO); (repeat' split) <;> first | omega | (exfalso; omega) | rfl), O, G, MP_eq hC (by unfold jS_startWalk; (try unfold ltR); (try unfold inR); (try unfold bkF); (try unfold bkO); (repeat' split) <;> first | omega | (exfalso; omega) | rfl), rfl, Ext0 hO⟩)
  · replace k_5 := k_5.resolve_left (fun h => absurd (h.1.symm.trans c6) (by decide))
    refine q_iconst hx hb dX6_startWalk_12 ?_
    exact q_retMi C0 hret rfl hlk dX6_startWalk_13 hP hD hS (⟨(by unfold jR_startWalk; (try unfold bkF); (try unfold bkO); (repeat' split) <;> first | omega | (exfalso; omega) | rfl), O, G, MP_eq hC (by unfold jS_startWalk; (try unfold ltR); (try unfold inR); (try unfold bkF); (try unfold bkO); (repeat' split) <;> first | omega | (exfalso; omega) | rfl), rfl, Ext0 hO⟩)
set_option maxHeartbeats 3000000 in
set_option maxRecDepth 100000 in
theorem c_X6_viewNear (l : Launch) (D : va_G) (y : Nat → ClassId) (L : List Nat) (F : Nat → va_E) (sz : Nat) (O : Nat → Prop) (G : MG) (μ : MS) (xv : Int) (xk : Int) (xt : Int) (hC : MP y L F O G μ) (hW : MW μ) (h_xv : -2147483648 ≤ xv ∧ xv ≤ 2147483647) (h_xk : -2147483648 ≤ xk ∧ xk ≤ 2147483647) (h_xt : -2147483648 ≤ xt ∧ xt ≤ 2147483647) : Met l yX6_viewNear (.code yX6_viewNear cX6_viewNear 4 (some .int) :: Tt) ({ frames := 3, cells := 0, slots := 0, locals := 69 }) (PcM D y L F sz [.ref ((ubg G)), .int (iI xv), .int (iI xk), .int (iI xt)]) (cMi D (AL L sz) (fun r L1 F1 => r = jR_viewNear μ xv xk xt ∧ ∃ (O1 : Nat → Prop) (G1 : MG), MP y L1 F1 O1 G1 (jS_viewNear μ xv xk xt) ∧ ubg G1 = ubg G ∧ Ext O O1 L L1 F F1)) 0 0 (AL L sz) := by
  have hO : OE O F F := fun _ _ => rfl
  have hw5 := hW.2.2.2.2.2.1
  have hw6 := hW.2.2.2.2.2.2.1
  have hw7 := hW.2.2.2.2.2.2.2.1
  have vb_ := hW.2.2.2.2.1 xv
  refine q_ofM (lv := [(0, .ref ((ubg G))), (1, .int (iI xv)), (2, .int (iI xk)), (3, .int (iI xt))]) (by decide) (Nat.le_of_ble_eq_true rfl) rfl (fun p e s m below meth c C0 hret hlk hnm hA hP hD hS ls hl => ?_)
  have hx := C0.1.1
  have hb := C0.1.2.1
  have hts := C0.1.2.2.2.2
  refine lv_aload_n hx hb dX6_viewNear_0 rfl (lv_at hl 0 rfl) ?_
  refine lv_iload_n hx hb dX6_viewNear_1 rfl (lv_at hl 1 rfl) ?_
  refine q_sS C0 lX6_168 (c_X6_isView l D y L F xv (by omega)) ⟨rfl, rfl⟩ rfl hP rfl hl rfl (Nat.le_of_ble_eq_true rfl) dX6_viewNear_2 ⟨Nat.zero_le _, Nat.zero_le _⟩ (fun r1 e_r1 => ?_)
  subst e_r1
  have b_2 := inR_d xv 0 1
  refine lv_iload_n hx hb dX6_viewNear_5 rfl (lv_at hl 2 rfl) ?_
  refine q_sS C0 lX6_86 (c_X6_isKey l D y L F xk (by omega)) ⟨rfl, rfl⟩ rfl hP rfl hl rfl (Nat.le_of_ble_eq_true rfl) dX6_viewNear_6 ⟨Nat.zero_le _, Nat.zero_le _⟩ (fun r3 e_r3 => ?_)
  subst e_r3
  have b_4 := inR_d xk 0 99
  refine q_if_eq hx hb dX6_viewNear_9 (tgt := 25) (by decide) (by omega) (fun c5 => ?_) (fun c5 => ?_)
  · replace b_4 := b_4.resolve_left (fun h => absurd (h.1.symm.trans c5) (by decide))
    refine q_iconst hx hb dX6_viewNear_25 ?_
    refine q_vMi C0 lX6_63 (c_X6_isLet l D y L F _ O G μ (inR xv 0 1) 0 hC (by omega) (by omega)) ⟨rfl, rfl⟩ rfl hP hD hS hA hC.1.1 hC.1.2 rfl rfl rfl hl rfl (Nat.le_of_ble_eq_true rfl) dX6_viewNear_26 ⟨Nat.le_of_ble_eq_true rfl, Nat.le_of_ble_eq_true rfl⟩ (fun r6 H locs L7 F7 hP hD hS hz7 hp7 => ?_)
    obtain ⟨eL, hC, er, hO1⟩ := hp7
    subst eL
    replace er := (er.trans (okR_z _)).symm
    subst er
    have hO := hO.tr hO1
    refine q_if_eq hx hb dX6_viewNear_29 (tgt := 68) (by decide) (by omega) (fun c8 => ?_) (fun c8 => absurd c8 (by omega))
    refine q_iconst hx hb dX6_viewNear_68 ?_
    exact q_retMi C0 hret rfl hlk dX6_viewNear_69 hP hD hS (⟨(by unfold jR_viewNear; (try unfold bkF); (try unfold bkO); (repeat' split) <;> first | omega | (exfalso; omega) | rfl), O, G, MP_eq hC (by unfold jS_viewNear; (try unfold ltR); (try unfold inR); (try unfold bkF); (try unfold bkO); (repeat' split) <;> first | omega | (exfalso; omega) | rfl), rfl, Ext0 hO⟩)
  · replace b_4 := b_4.resolve_right (fun h => c5 h.1)
    refine lv_iload_n hx hb dX6_viewNear_12 rfl (lv_at hl 3 rfl) ?_
    refine q_iconst hx hb dX6_viewNear_13 ?_
    refine q_iconst hx hb dX6_viewNear_14 ?_
    refine q_sS C0 lX6_41 (c_X6_isIn l D y L F xt 0 4 (by omega) (by omega) (by omega)) ⟨rfl, rfl⟩ rfl hP rfl hl rfl (Nat.le_of_ble_eq_true rfl) dX6_viewNear_15 ⟨Nat.zero_le _, Nat.zero_le _⟩ (fun r9 e_r9 => ?_)
    subst e_r9
    have b_10 := inR_d xt 0 4
    refine q_if_eq hx hb dX6_viewNear_18 (tgt := 25) (by decide) (by omega) (fun c11 => ?_) (fun c11 => ?_)
    · replace b_10 := b_10.resolve_left (fun h => absurd (h.1.symm.trans c11) (by decide))
      refine q_iconst hx hb dX6_viewNear_25 ?_
      refine q_vMi C0 lX6_63 (c_X6_isLet l D y L F _ O G μ (inR xv 0 1) 0 hC (by omega) (by omega)) ⟨rfl, rfl⟩ rfl hP hD hS hA hC.1.1 hC.1.2 rfl rfl rfl hl rfl (Nat.le_of_ble_eq_true rfl) dX6_viewNear_26 ⟨Nat.le_of_ble_eq_true rfl, Nat.le_of_ble_eq_true rfl⟩ (fun r12 H locs L13 F13 hP hD hS hz13 hp13 => ?_)
      obtain ⟨eL, hC, er, hO1⟩ := hp13
      subst eL
      replace er := (er.trans (okR_z _)).symm
      subst er
      have hO := hO.tr hO1
      refine q_if_eq hx hb dX6_viewNear_29 (tgt := 68) (by decide) (by omega) (fun c14 => ?_) (fun c14 => absurd c14 (by omega))
      refine q_iconst hx hb dX6_viewNear_68 ?_
      exact q_retMi C0 hret rfl hlk dX6_viewNear_69 hP hD hS (⟨(by unfold jR_viewNear; (try unfold bkF); (try unfold bkO); (repeat' split) <;> first | omega | (exfalso; omega) | rfl), O, G, MP_eq hC (by unfold jS_viewNear; (try unfold ltR); (try unfold inR); (try unfold bkF); (try unfold bkO); (repeat' split) <;> first | omega | (exfalso; omega) | rfl), rfl, Ext0 hO⟩)
    · replace b_10 := b_10.resolve_right (fun h => c11 h.1)
      refine q_iconst hx hb dX6_viewNear_21 ?_
      refine lv_goto (tgt := 26) hx hb dX6_viewNear_22 (by decide) ?_
      refine q_vMi C0 lX6_63 (c_X6_isLet l D y L F _ O G μ (inR xv 0 1) 1 hC (by omega) (by omega)) ⟨rfl, rfl⟩ rfl hP hD hS hA hC.1.1 hC.1.2 rfl rfl rfl hl rfl (Nat.le_of_ble_eq_true rfl) dX6_viewNear_26 ⟨Nat.le_of_ble_eq_true rfl, Nat.le_of_ble_eq_true rfl⟩ (fun r15 H locs L16 F16 hP hD hS hz16 hp16 => ?_)
      obtain ⟨eL, hC, er, hO1⟩ := hp16
      subst eL
      replace er := er.symm
      subst er
      have hO := hO.tr hO1
      have k_17 := okR_d (inR xv 0 1) 1
      refine q_if_eq hx hb dX6_viewNear_29 (tgt := 68) (by decide) (by omega) (fun c18 => ?_) (fun c18 => ?_)
      · replace k_17 := k_17.resolve_left (fun h => absurd (h.1.symm.trans c18) (by decide))
        refine q_iconst hx hb dX6_viewNear_68 ?_
        exact q_retMi C0 hret rfl hlk dX6_viewNear_69 hP hD hS (⟨(by unfold jR_viewNear; (try unfold bkF); (try unfold bkO); (repeat' split) <;> first | omega | (exfalso; omega) | rfl), O, G, MP_eq hC (by unfold jS_viewNear; (try unfold ltR); (try unfold inR); (try unfold bkF); (try unfold bkO); (repeat' split) <;> first | omega | (exfalso; omega) | rfl), rfl, Ext0 hO⟩)
      · replace k_17 := k_17.resolve_right (fun h => c18 h.1)
        refine lv_aload_n hx hb dX6_viewNear_32 rfl (lv_at hl 0 rfl) ?_
        refine q_get C0 iX6 hP hC.1.1 hC.1.2 rfl 2 (by decide) flX6_18 rfl (v := .ref ((uav G))) rfl dX6_viewNear_33 ?_
        refine lv_iload_n hx hb dX6_viewNear_36 rfl (lv_at hl 1 rfl) ?_
        refine q_aald C0 hP hC.2.2.2.1.1 hC.2.2.2.1.2 (t := 3) rfl (by omega) (by decide) (v := .ref ((urh G (vvw μ xv)))) rfl dX6_viewNear_37 ?_
        refine lv_aload_n hx hb dX6_viewNear_38 rfl (lv_at hl 0 rfl) ?_
        refine q_get C0 iX6 hP hC.1.1 hC.1.2 rfl 2 (by decide) flX6_18 rfl (v := .ref ((uav G))) rfl dX6_viewNear_39 ?_
        refine lv_iload_n hx hb dX6_viewNear_42 rfl (lv_at hl 1 rfl) ?_
        refine q_aald C0 hP hC.2.2.2.1.1 hC.2.2.2.1.2 (t := 3) rfl (by omega) (by decide) (v := .ref ((urh G (vvw μ xv)))) rfl dX6_viewNear_43 ?_
        refine lv_iload_n hx hb dX6_viewNear_44 rfl (lv_at hl 2 rfl) ?_
        refine lv_iload_n hx hb dX6_viewNear_45 rfl (lv_at hl 3 rfl) ?_
        refine lv_aload_n hx hb dX6_viewNear_46 rfl (lv_at hl 0 rfl) ?_
        refine q_get C0 iX6 hP hC.1.1 hC.1.2 rfl 3 (by decide) flX6_21 rfl (v := .ref ((uaf G))) rfl dX6_viewNear_47 ?_
        refine lv_iload_n hx hb dX6_viewNear_50 rfl (lv_at hl 1 rfl) ?_
        refine q_iald C0 hP (f := (vvl μ)) hC.2.2.2.2.1.1 hC.2.2.2.2.1.2 (by omega) (by decide) dX6_viewNear_51 ?_
        refine lv_aload_n hx hb dX6_viewNear_52 rfl (lv_at hl 0 rfl) ?_
        refine q_get C0 iX6 hP hC.1.1 hC.1.2 rfl 4 (by decide) flX6_25 rfl (v := .ref ((uat G))) rfl dX6_viewNear_53 ?_
        refine lv_iload_n hx hb dX6_viewNear_56 rfl (lv_at hl 1 rfl) ?_
        refine q_iald C0 hP (f := (vvh μ)) hC.2.2.2.2.2.1.1 hC.2.2.2.2.2.1.2 (by omega) (by decide) dX6_viewNear_57 ?_
        refine q_vS C0 lX6_124 (c_X5_near l D y L F16 (urh G (vvw μ xv)) (urw G (vvw μ xv)) (vod μ (vvw μ xv)) (vst μ (vvw μ xv)) xk xt ((vvl μ) xv) ((vvh μ) xv) (MP_r hC (hW.2.2.1 xv)) (by omega) (by omega) (by omega) (by omega)) ⟨rfl, rfl⟩ rfl hP (MP_r hC (hW.2.2.1 xv)).1 (MP_r hC (hW.2.2.1 xv)).2.1 rfl rfl rfl hl rfl (Nat.le_of_ble_eq_true rfl) dX6_viewNear_58 ⟨Nat.zero_le _, Nat.zero_le _⟩ (fun r19 e_r19 => ?_)
        subst e_r19
        have b_20 := @keyR_b (vod μ (vvw μ xv)) (nearP (vod μ (vvw μ xv)) (vst μ (vvw μ xv)) ((vvl μ) xv) ((vvh μ) xv) xk xt) (nearP_r (vod μ (vvw μ xv)) (vst μ (vvw μ xv)) ((vvl μ) xv) ((vvh μ) xv) xk xt)
        refine q_iconst hx hb dX6_viewNear_61 ?_
        refine q_sS C0 lX6_128 (c_X6_told l D y L F16 (urh G (vvw μ xv)) (urw G (vvw μ xv)) (vod μ (vvw μ xv)) (vst μ (vvw μ xv)) (keyR (vod μ (vvw μ xv)) (nearP (vod μ (vvw μ xv)) (vst μ (vvw μ xv)) ((vvl μ) xv) ((vvh μ) xv) xk xt)) 1 (MP_r hC (hW.2.2.1 xv)) (by omega) (by omega)) ⟨rfl, rfl⟩ rfl hP rfl hl rfl (Nat.le_of_ble_eq_true rfl) dX6_viewNear_62 ⟨Nat.zero_le _, Nat.zero_le _⟩ (fun r21 e_r21 => ?_)
        subst e_r21
        refine lv_goto (tgt := 69) hx hb dX6_viewNear_65 (by decide) ?_
        exact q_retMi C0 hret rfl hlk dX6_viewNear_69 hP hD hS (⟨(by unfold jR_viewNear; (try unfold bkF); (try unfold bkO); (repeat' split) <;> first | omega | (exfalso; omega) | rfl), O, G, MP_eq hC (by unfold jS_viewNear; (try unfold ltR); (try unfold inR); (try unfold bkF); (try unfold bkO); (repeat' split) <;> first | omega | (exfalso; omega) | rfl), rfl, Ext0 hO⟩)
