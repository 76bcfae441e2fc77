set_option maxHeartbeats 3000000 in
set_option maxRecDepth 100000 in
theorem c_X6_splitBook (l : Launch) (D : va_G) (y : Nat → ClassId) (L : List Nat) (F : Nat → va_E) (sz : Nat) (O : Nat → Prop) (G : MG) (μ : MS) (xb : Int) (xk : Int) (xc : Int) (hC : MP y L F O G μ) (hW : MW μ) (h_xb : -2147483648 ≤ xb ∧ xb ≤ 2147483647) (h_xk : -2147483648 ≤ xk ∧ xk ≤ 2147483647) (h_xc : -2147483648 ≤ xc ∧ xc ≤ 2147483647) : Met l yX6_splitBook (.code yX6_splitBook cX6_splitBook 8 (some .int) :: Tt) ({ frames := 3, cells := 4, slots := 204, locals := 59 }) (PcM D y L F sz [.ref ((ubg G)), .int (iI xb), .int (iI xk), .int (iI xc)]) (cMi D (AL L sz) (fun r L1 F1 => r = jR_splitBook μ xb xk xc ∧ ∃ (O1 : Nat → Prop) (G1 : MG), MP y L1 F1 O1 G1 (jS_splitBook μ xb xk xc) ∧ ubg G1 = ubg G ∧ Ext O O1 L L1 F F1)) 4 204 (AL L sz) := by
  have hO : OE O F F := fun _ _ => rfl
  have hw5 := hW.2.2.2.2.2.1
  have hw6 := hW.2.2.2.2.2.2.1
  have hw7 := hW.2.2.2.2.2.2.2.1
  have ho_ := (MP_r hC (hW.1 xb)).2.2.2.2.1
  refine q_ofM (lv := [(0, .ref ((ubg G))), (1, .int (iI xb)), (2, .int (iI xk)), (3, .int (iI xc))]) (by decide) (Nat.le_of_ble_eq_true rfl) rfl (fun p e s m below meth c C0 hret hlk hnm hA hP hD hS ls hl => ?_)
  have hx := C0.1.1
  have hb := C0.1.2.1
  have hts := C0.1.2.2.2.2
  refine lv_aload_n hx hb dX6_splitBook_0 rfl (lv_at hl 0 rfl) ?_
  refine lv_iload_n hx hb dX6_splitBook_1 rfl (lv_at hl 1 rfl) ?_
  refine q_sS C0 lX6_60 (c_X6_isBook l D y L F xb (by omega)) ⟨rfl, rfl⟩ rfl hP rfl hl rfl (Nat.le_of_ble_eq_true rfl) dX6_splitBook_2 ⟨Nat.zero_le _, Nat.zero_le _⟩ (fun r1 e_r1 => ?_)
  subst e_r1
  have b_2 := inR_d xb 0 3
  refine q_if_eq hx hb dX6_splitBook_5 (tgt := 19) (by decide) (by omega) (fun c3 => ?_) (fun c3 => ?_)
  · replace b_2 := b_2.resolve_left (fun h => absurd (h.1.symm.trans c3) (by decide))
    refine q_iconst hx hb dX6_splitBook_19 ?_
    refine lv_iload_n hx hb dX6_splitBook_20 rfl (lv_at hl 2 rfl) ?_
    refine q_sS C0 lX6_86 (c_X6_isKey l D y L F xk (by omega)) ⟨rfl, rfl⟩ rfl hP rfl hl rfl (Nat.le_of_ble_eq_true rfl) dX6_splitBook_21 ⟨Nat.zero_le _, Nat.zero_le _⟩ (fun r4 e_r4 => ?_)
    subst e_r4
    have b_5 := inR_d xk 0 99
    refine q_vMi C0 lX6_63 (c_X6_isLet l D y L F _ O G μ 0 (inR xk 0 99) hC (by omega) (by omega)) ⟨rfl, rfl⟩ rfl hP hD hS hA hC.1.1 hC.1.2 rfl rfl rfl hl rfl (Nat.le_of_ble_eq_true rfl) dX6_splitBook_24 ⟨Nat.le_of_ble_eq_true rfl, Nat.le_of_ble_eq_true rfl⟩ (fun r6 H locs L7 F7 hP hD hS hz7 hp7 => ?_)
    obtain ⟨eL, hC, er, hO1⟩ := hp7
    subst eL
    replace er := (er.trans (okR_z0 _)).symm
    subst er
    have hO := hO.tr hO1
    refine q_if_ne hx hb dX6_splitBook_27 (tgt := 32) (by decide) (by omega) (fun c8 => absurd c8 (by omega)) (fun c8 => ?_)
    refine q_iconst hx hb dX6_splitBook_30 ?_
    refine W.widen (k := 4) (n := 204) (Nat.le_of_ble_eq_true rfl) (Nat.le_of_ble_eq_true rfl) ?_
    exact q_retMi C0 hret rfl hlk dX6_splitBook_31 hP hD hS (⟨(by unfold jR_splitBook; rw [if_neg (by omega)]), O, G, MP_eq hC (by have lt_ := ltR_d 0 (inR xk 0 99); unfold jS_splitBook; rcases lt_ with lt_ | lt_ | lt_ <;> first | (rw [if_neg (by omega), lt_.1]; done) | (rw [if_pos (by omega), if_neg (by omega), lt_.1]; done) | (exfalso; omega)), rfl, Ext0 hO⟩)
  · replace b_2 := b_2.resolve_right (fun h => c3 h.1)
    refine lv_iload_n hx hb dX6_splitBook_8 rfl (lv_at hl 3 rfl) ?_
    refine q_sS C0 lX6_60 (c_X6_isBook l D y L F xc (by omega)) ⟨rfl, rfl⟩ rfl hP rfl hl rfl (Nat.le_of_ble_eq_true rfl) dX6_splitBook_9 ⟨Nat.zero_le _, Nat.zero_le _⟩ (fun r9 e_r9 => ?_)
    subst e_r9
    have b_10 := inR_d xc 0 3
    refine q_if_eq hx hb dX6_splitBook_12 (tgt := 19) (by decide) (by omega) (fun c11 => ?_) (fun c11 => ?_)
    · replace b_10 := b_10.resolve_left (fun h => absurd (h.1.symm.trans c11) (by decide))
      refine q_iconst hx hb dX6_splitBook_19 ?_
      refine lv_iload_n hx hb dX6_splitBook_20 rfl (lv_at hl 2 rfl) ?_
      refine q_sS C0 lX6_86 (c_X6_isKey l D y L F xk (by omega)) ⟨rfl, rfl⟩ rfl hP rfl hl rfl (Nat.le_of_ble_eq_true rfl) dX6_splitBook_21 ⟨Nat.zero_le _, Nat.zero_le _⟩ (fun r12 e_r12 => ?_)
      subst e_r12
      have b_13 := inR_d xk 0 99
      refine q_vMi C0 lX6_63 (c_X6_isLet l D y L F _ O G μ 0 (inR xk 0 99) hC (by omega) (by omega)) ⟨rfl, rfl⟩ rfl hP hD hS hA hC.1.1 hC.1.2 rfl rfl rfl hl rfl (Nat.le_of_ble_eq_true rfl) dX6_splitBook_24 ⟨Nat.le_of_ble_eq_true rfl, Nat.le_of_ble_eq_true rfl⟩ (fun r14 H locs L15 F15 hP hD hS hz15 hp15 => ?_)
      obtain ⟨eL, hC, er, hO1⟩ := hp15
      subst eL
      replace er := (er.trans (okR_z0 _)).symm
      subst er
      have hO := hO.tr hO1
      refine q_if_ne hx hb dX6_splitBook_27 (tgt := 32) (by decide) (by omega) (fun c16 => absurd c16 (by omega)) (fun c16 => ?_)
      refine q_iconst hx hb dX6_splitBook_30 ?_
      refine W.widen (k := 4) (n := 204) (Nat.le_of_ble_eq_true rfl) (Nat.le_of_ble_eq_true rfl) ?_
      exact q_retMi C0 hret rfl hlk dX6_splitBook_31 hP hD hS (⟨(by unfold jR_splitBook; rw [if_neg (by omega)]), O, G, MP_eq hC (by have lt_ := ltR_d 0 (inR xk 0 99); unfold jS_splitBook; rcases lt_ with lt_ | lt_ | lt_ <;> first | (rw [if_neg (by omega), lt_.1]; done) | (rw [if_pos (by omega), if_neg (by omega), lt_.1]; done) | (exfalso; omega)), rfl, Ext0 hO⟩)
    · replace b_10 := b_10.resolve_right (fun h => c11 h.1)
      refine q_iconst hx hb dX6_splitBook_15 ?_
      refine lv_goto (tgt := 20) hx hb dX6_splitBook_16 (by decide) ?_
      refine lv_iload_n hx hb dX6_splitBook_20 rfl (lv_at hl 2 rfl) ?_
      refine q_sS C0 lX6_86 (c_X6_isKey l D y L F xk (by omega)) ⟨rfl, rfl⟩ rfl hP rfl hl rfl (Nat.le_of_ble_eq_true rfl) dX6_splitBook_21 ⟨Nat.zero_le _, Nat.zero_le _⟩ (fun r17 e_r17 => ?_)
      subst e_r17
      have b_18 := inR_d xk 0 99
      refine q_vMi C0 lX6_63 (c_X6_isLet l D y L F _ O G μ 1 (inR xk 0 99) hC (by omega) (by omega)) ⟨rfl, rfl⟩ rfl hP hD hS hA hC.1.1 hC.1.2 rfl rfl rfl hl rfl (Nat.le_of_ble_eq_true rfl) dX6_splitBook_24 ⟨Nat.le_of_ble_eq_true rfl, Nat.le_of_ble_eq_true rfl⟩ (fun r19 H locs L20 F20 hP hD hS hz20 hp20 => ?_)
      obtain ⟨eL, hC, er, hO1⟩ := hp20
      subst eL
      replace er := er.symm
      subst er
      have hO := hO.tr hO1
      have k_21 := okR_d 1 (inR xk 0 99)
      refine q_if_ne hx hb dX6_splitBook_27 (tgt := 32) (by decide) (by omega) (fun c22 => ?_) (fun c22 => ?_)
      · replace k_21 := k_21.resolve_right (fun h => c22 h.1)
        refine lv_iload_n hx hb dX6_splitBook_32 rfl (lv_at hl 1 rfl) ?_
        refine lv_iload_n hx hb dX6_splitBook_33 rfl (lv_at hl 3 rfl) ?_
        refine q_icmp_ne hx hb dX6_splitBook_34 (tgt := 42) (by decide) (by omega) (by omega) (fun c23 => ?_) (fun c23 => ?_)
        · refine lv_aload_n hx hb dX6_splitBook_42 rfl (lv_at hl 0 rfl) ?_
          refine q_get C0 iX6 hP hC.1.1 hC.1.2 rfl 0 (by decide) flX6_11 rfl (v := .ref ((uab G))) rfl dX6_splitBook_43 ?_
          refine lv_iload_n hx hb dX6_splitBook_46 rfl (lv_at hl 1 rfl) ?_
          refine q_aald C0 hP hC.2.1.1 hC.2.1.2 (t := 3) rfl (by omega) (by decide) (v := .ref ((urh G (vbk μ xb)))) rfl dX6_splitBook_47 ?_
          refine lv_astore (lv' := [(4, .ref ((urh G (vbk μ xb)))), (0, .ref ((ubg G))), (1, .int (iI xb)), (2, .int (iI xk)), (3, .int (iI xc))]) hx hb dX6_splitBook_48 hl (by decide) rfl (fun ls hl => ?_)
          refine lv_aload hx hb dX6_splitBook_50 (lv_at hl 0 rfl) ?_
          refine lv_iload_n hx hb dX6_splitBook_52 rfl (lv_at hl 3 rfl) ?_
          refine q_vS C0 lX6_93 (c_X5_rank l D y L F20 (urh G (vbk μ xb)) (urw G (vbk μ xb)) (vod μ (vbk μ xb)) (vst μ (vbk μ xb)) xk (MP_r hC (hW.1 xb)) (by omega)) ⟨rfl, rfl⟩ rfl hP (MP_r hC (hW.1 xb)).1 (MP_r hC (hW.1 xb)).2.1 rfl rfl rfl hl rfl (Nat.le_of_ble_eq_true rfl) dX6_splitBook_53 ⟨Nat.zero_le _, Nat.zero_le _⟩ (fun r24 e_r24 => ?_)
          subst e_r24
          have b_25 := @turn_b (vod μ (vbk μ xb)) xk (by omega)
          refine lv_istore (lv' := [(5, .int (iI ((turn (vod μ (vbk μ xb)) xk)))), (4, .ref ((urh G (vbk μ xb)))), (0, .ref ((ubg G))), (1, .int (iI xb)), (2, .int (iI xk)), (3, .int (iI xc))]) hx hb dX6_splitBook_56 hl (by decide) rfl (fun ls hl => ?_)
          refine lv_aload_n hx hb dX6_splitBook_58 rfl (lv_at hl 2 rfl) ?_
          refine q_get C0 iX6 hP hC.1.1 hC.1.2 rfl 0 (by decide) flX6_11 rfl (v := .ref ((uab G))) rfl dX6_splitBook_59 ?_
          refine lv_iload_n hx hb dX6_splitBook_62 rfl (lv_at hl 5 rfl) ?_
          refine lv_aload hx hb dX6_splitBook_63 (lv_at hl 1 rfl) ?_
          refine lv_aload hx hb dX6_splitBook_65 (lv_at hl 1 rfl) ?_
          refine q_getN C0 iX5 hP (MP_r hC (hW.1 xb)).1 (MP_r hC (hW.1 xb)).2.1 rfl 0 (by decide) C0.2.2.2.2.2.2.2.1 rfl (v := .int (iI ((vod μ (vbk μ xb))))) rfl dX6_splitBook_67 ?_
          refine lv_iload hx hb dX6_splitBook_70 (lv_at hl 0 rfl) ?_
          refine q_bipush hx hb dX6_splitBook_72 (by decide) ?_
          refine q_vMa C0 lX6_78 (c_X5_like l D y L F20 _ (urh G (vbk μ xb)) (urw G (vbk μ xb)) (vod μ (vbk μ xb)) (vst μ (vbk μ xb)) (vod μ (vbk μ xb)) (turn (vod μ (vbk μ xb)) xk) 99 (MP_r hC (hW.1 xb)) (by omega) (by omega) (by omega)) ⟨rfl, rfl⟩ rfl hP hD hS hA (MP_r hC (hW.1 xb)).1 (MP_r hC (hW.1 xb)).2.1 rfl rfl rfl hl rfl (Nat.le_of_ble_eq_true rfl) dX6_splitBook_74 ⟨Nat.le_of_ble_eq_true rfl, Nat.le_of_ble_eq_true rfl⟩ (fun r26 H locs L27 F27 hP hD hS hz27 hp27 => ?_)
          refine W.widen (k := 2) (n := 102) (Nat.le_of_ble_eq_true rfl) (Nat.le_of_ble_eq_true rfl) ?_
          obtain ⟨r26q, eL, hr_, hq_, hrq_, hRn, hfn⟩ := hp27
          subst eL
          have hRm : MB y ((L ++ [r26]) ++ [r26q]) F27 r26 r26q (vod μ (vbk μ xb)) (mlk (vod μ (vbk μ xb)) (vod μ (vbk μ xb)) (vst μ (vbk μ xb)) (turn (vod μ (vbk μ xb)) xk) 99 emp) := hRn
          have hC : MP y ((L ++ [r26]) ++ [r26q]) F27 (fun a => O a ∨ a ∉ L) (uNw G (vn μ) r26 r26q) (tNw (tTh μ (ltR 1 (inR xk 0 99))) (vod μ (vbk μ xb)) (mlk (vod μ (vbk μ xb)) (vod μ (vbk μ xb)) (vst μ (vbk μ xb)) (turn (vod μ (vbk μ xb)) xk) 99 emp)) := MP_new (μ := (tTh μ (ltR 1 (inR xk 0 99)))) (G := G) (o := (vod μ (vbk μ xb))) (g := (mlk (vod μ (vbk μ xb)) (vod μ (vbk μ xb)) (vst μ (vbk μ xb)) (turn (vod μ (vbk μ xb)) xk) 99 emp)) (F1 := F27) hC rfl hr_ hq_ hRm hfn ⟨hW.1, hW.2.1, hW.2.2.1, hW.2.2.2.1⟩
          have hE : ∀ q ∈ L, ¬ O q → F27 q = F q := fun q h1 h2 => (hfn q h1).trans (hO q h2)
          have hO : OE (fun a => O a ∨ a ∉ L) F27 F27 := fun _ _ => rfl
          have er : urh (uNw G (vn μ) r26 r26q) (vn μ) = r26 := va_up_self _ _ _
          have eo_0 : urh G (vbk μ xb) = urh (uNw G (vn μ) r26 r26q) (vbk μ xb) := (va_up_ne _ _ (Nat.ne_of_lt (hW.1 xb))).symm
          rw [eo_0] at hl
          refine q_aast C0 hP hD hS hC.2.1.1 hC.2.1.2 (t := 3) (r := (RX5, TX5, 2)) rfl hRm.1 hRm.2.1 rfl (by omega) (by decide) dX6_splitBook_77 (fun H locs hP hD hS => ?_)
          obtain ⟨F28, eF28⟩ : ∃ z, z = va_up F27 (uab (uNw G (vn μ) r26 r26q)) (arrQ (y 3) 4 (iu (fun j => some (urh (uNw G (vn μ) r26 r26q) (vbk (tNw (tTh μ (ltR 1 (inR xk 0 99))) (vod μ (vbk μ xb)) (mlk (vod μ (vbk μ xb)) (vod μ (vbk μ xb)) (vst μ (vbk μ xb)) (turn (vod μ (vbk μ xb)) xk) 99 emp)) j))) xc (some r26))) := ⟨_, rfl⟩
          have hP : va_P D vwCl (va_pl ((L ++ [r26]) ++ [r26q]) F28) H := by rw [eF28]; exact hP
          have hD : va_D (AL L sz) (va_pl ((L ++ [r26]) ++ [r26q]) F28) := by rw [eF28]; exact hD
          have hO : OE (fun a => O a ∨ a ∉ L) F27 F28 := by rw [eF28]; exact hO.tr (OE1 (MP_O hC).2.1)
          have hC : MP y ((L ++ [r26]) ++ [r26q]) F28 (fun a => O a ∨ a ∉ L) (uNw G (vn μ) r26 r26q) (tBk (tNw (tTh μ (ltR 1 (inR xk 0 99))) (vod μ (vbk μ xb)) (mlk (vod μ (vbk μ xb)) (vod μ (vbk μ xb)) (vst μ (vbk μ xb)) (turn (vod μ (vbk μ xb)) xk) 99 emp)) xc (vn μ)) := by rw [eF28]; exact MP_bk hC (by rw [er]; exact va_up_self _ _ _) (fun q hq => va_up_ne _ _ hq)
          refine lv_aload_n hx hb dX6_splitBook_78 rfl (lv_at hl 2 rfl) ?_
          refine lv_aload hx hb dX6_splitBook_79 (lv_at hl 1 rfl) ?_
          refine q_vMv C0 lX6_96 (c_X6_write l D y ((L ++ [r26]) ++ [r26q]) F28 _ (fun a => O a ∨ a ∉ L) (uNw G (vn μ) r26 r26q) (tBk (tNw (tTh μ (ltR 1 (inR xk 0 99))) (vod μ (vbk μ xb)) (mlk (vod μ (vbk μ xb)) (vod μ (vbk μ xb)) (vst μ (vbk μ xb)) (turn (vod μ (vbk μ xb)) xk) 99 emp)) xc (vn μ)) (vbk μ xb) hC (Nat.lt_succ_of_lt (hW.1 xb)) (fun i h => Nat.lt_succ_of_lt (hW.2.2.2.1 i h))) ⟨rfl, rfl⟩ rfl hP hD hS hA hC.1.1 hC.1.2 rfl rfl rfl hl rfl (Nat.le_of_ble_eq_true rfl) dX6_splitBook_81 ⟨Nat.le_of_ble_eq_true rfl, Nat.le_of_ble_eq_true rfl⟩ (fun _ H locs L30 F30 hP hD hS hz30 hp30 => ?_)
          obtain ⟨eL, hC, er, hO1⟩ := hp30
          subst eL
          have hO := hO.tr hO1
          refine q_iconst hx hb dX6_splitBook_84 ?_
          refine lv_istore (lv' := [(6, .int (iI 0)), (5, .int (iI ((turn (vod μ (vbk μ xb)) xk)))), (4, .ref ((urh (uNw G (vn μ) r26 r26q) (vbk μ xb)))), (0, .ref ((ubg G))), (1, .int (iI xb)), (2, .int (iI xk)), (3, .int (iI xc))]) hx hb dX6_splitBook_85 hl (by decide) rfl (fun ls hl => ?_)
          refine lv_iload hx hb dX6_splitBook_87 (lv_at hl 1 rfl) ?_
          refine lv_istore (lv' := [(7, .int (iI ((turn (vod μ (vbk μ xb)) xk)))), (6, .int (iI 0)), (5, .int (iI ((turn (vod μ (vbk μ xb)) xk)))), (4, .ref ((urh (uNw G (vn μ) r26 r26q) (vbk μ xb)))), (0, .ref ((ubg G))), (1, .int (iI xb)), (2, .int (iI xk)), (3, .int (iI xc))]) hx hb dX6_splitBook_89 hl (by decide) rfl (fun ls hl => ?_)
          have LP91 : ∀ (n_LP91 : Nat) (r : Int) (gv : Int → Int) (bv : Int) (a : Int) (Fv : Nat → va_E) (H : Heap) (locs : List Loc), (turn (vod μ (vbk μ xb)) xk ≤ r ∧ r ≤ 1001) → (va_P D vwCl (va_pl ((L ++ [r26]) ++ [r26q]) Fv) H) → (va_D (AL L sz) (va_pl ((L ++ [r26]) ++ [r26q]) Fv)) → (va_S (AL L sz) s.heap H locs) → (MP y ((L ++ [r26]) ++ [r26q]) Fv (fun a => O a ∨ a ∉ L) (uNw G (vn μ) r26 r26q) (tM (tWr (tBk (tNw (tTh μ (ltR 1 (inR xk 0 99))) (vod μ (vbk μ xb)) (mlk (vod μ (vbk μ xb)) (vod μ (vbk μ xb)) (vst μ (vbk μ xb)) (turn (vod μ (vbk μ xb)) xk) 99 emp)) xc (vn μ)) (vbk μ xb)) (vbk μ xb) gv bv)) → (OE (fun a => O a ∨ a ∉ L) F27 Fv) → (clX μ (vbk μ xb) (turn (vod μ (vbk μ xb)) xk) 99 = itrP (clU (vwk μ) (vbk μ xb) (vod μ (vbk μ xb))) r 99 (gv, bv, a)) → (100 - r).toNat = n_LP91 → ∀ ls : Array Slot, lv_has ls 8 [(0, .ref ((ubg G))), (4, .ref ((urh (uNw G (vn μ) r26 r26q) (vbk μ xb)))), (6, .int (iI a)), (7, .int (iI r))] → W p l e ({ frames := 3, cells := 4, slots := 204, locals := 59 } : Room) s m [.ref ((ubg G)), .int (iI xb), .int (iI xk), .int (iI xc)].toArray below meth c H locs 2 102 (MQ below (cMi D (AL L sz) (fun r L1 F1 => r = jR_splitBook μ xb xk xc ∧ ∃ (O1 : Nat → Prop) (G1 : MG), MP y L1 F1 O1 G1 (jS_splitBook μ xb xk xc) ∧ ubg G1 = ubg G ∧ Ext O O1 L L1 F F1)) [.ref ((ubg G)), .int (iI xb), .int (iI xk), .int (iI xc)].toArray s 4 204 (AL L sz)) (F0 m 91 ls []) := by
            intro n_LP91
            induction n_LP91 using Nat.strongRecOn with
            | ind n_LP91 ih_LP91 =>
              intro r gv bv a Fv H locs hr hP hD hS hC hO hI hm_LP91 ls hl
              refine lv_iload hx hb dX6_splitBook_91 (lv_at hl 3 rfl) ?_
              refine q_bipush hx hb dX6_splitBook_93 (by decide) ?_
              refine q_icmp_gt hx hb dX6_splitBook_95 (tgt := 123) (by decide) (by omega) (by omega) (fun c31 => ?_) (fun c31 => ?_)
              · refine lv_aload_n hx hb dX6_splitBook_123 rfl (lv_at hl 0 rfl) ?_
                refine lv_iload hx hb dX6_splitBook_124 (lv_at hl 2 rfl) ?_
                refine q_vMi C0 lX6_71 (c_X6_did l D y ((L ++ [r26]) ++ [r26q]) Fv _ (fun a => O a ∨ a ∉ L) (uNw G (vn μ) r26 r26q) (tM (tWr (tBk (tNw (tTh μ (ltR 1 (inR xk 0 99))) (vod μ (vbk μ xb)) (mlk (vod μ (vbk μ xb)) (vod μ (vbk μ xb)) (vst μ (vbk μ xb)) (turn (vod μ (vbk μ xb)) xk) 99 emp)) xc (vn μ)) (vbk μ xb)) (vbk μ xb) gv bv) a hC) ⟨rfl, rfl⟩ rfl hP hD hS hA hC.1.1 hC.1.2 rfl rfl rfl hl rfl (Nat.le_of_ble_eq_true rfl) dX6_splitBook_126 ⟨Nat.le_of_ble_eq_true rfl, Nat.le_of_ble_eq_true rfl⟩ (fun r32 H locs L33 F33 hP hD hS hz33 hp33 => ?_)
                obtain ⟨eL, hC, er, hO1⟩ := hp33
                subst eL
                replace er : a = r32 := er.symm
                subst er
                have hO := hO.tr hO1
                refine W.widen (k := 4) (n := 204) (Nat.le_of_ble_eq_true rfl) (Nat.le_of_ble_eq_true rfl) ?_
                exact q_retMi C0 hret rfl hlk dX6_splitBook_129 hP hD hS (⟨(by 
    have lt_ := ltR_d 1 (inR xk 0 99)
    unfold jR_splitBook ; (try rw [show ltR 1 (inR xk 0 99) = 0 by omega]); (repeat (first | rw [if_pos (by omega)] | rw [if_neg (by omega)])); rw [hI, itrP_e (by omega)]
    all_goals (first | rfl | omega)), (fun a => O a ∨ a ∉ L), (uNw G (vn μ) r26 r26q), MP_eq hC (by 
    have lt_ := ltR_d 1 (inR xk 0 99)
    unfold jS_splitBook tX spG; rw [show ltR 1 (inR xk 0 99) = 0 by omega]; (repeat (first | rw [if_pos (by omega)] | rw [if_neg (by omega)])); rw [hI, itrP_e (by omega)]
    all_goals rfl), rfl, ⟨fun q h => List.mem_append_left _ (List.mem_append_left _ h), fun q h1 h2 => (hO q (fun z => z.elim h2 (fun w => w h1))).trans (hE q h1 h2), fun q h => h⟩⟩)
              · refine lv_iload hx hb dX6_splitBook_98 (lv_at hl 2 rfl) ?_
                refine lv_aload_n hx hb dX6_splitBook_100 rfl (lv_at hl 0 rfl) ?_
                refine lv_aload hx hb dX6_splitBook_101 (lv_at hl 1 rfl) ?_
                refine lv_aload hx hb dX6_splitBook_103 (lv_at hl 1 rfl) ?_
                refine lv_iload hx hb dX6_splitBook_105 (lv_at hl 3 rfl) ?_
                refine q_vS C0 lX6_100 (c_X5_key l D y ((L ++ [r26]) ++ [r26q]) Fv (urh (uNw G (vn μ) r26 r26q) (vbk μ xb)) (urw (uNw G (vn μ) r26 r26q) (vbk μ xb)) (vod μ (vbk μ xb)) gv r (MP_rx hC (Nat.lt_succ_of_lt (hW.1 xb)) (va_up_ne _ _ (Nat.ne_of_lt (hW.1 xb))) (va_up_self _ _ _)) (by omega)) ⟨rfl, rfl⟩ rfl hP (MP_rx hC (Nat.lt_succ_of_lt (hW.1 xb)) (va_up_ne _ _ (Nat.ne_of_lt (hW.1 xb))) (va_up_self _ _ _)).1 (MP_rx hC (Nat.lt_succ_of_lt (hW.1 xb)) (va_up_ne _ _ (Nat.ne_of_lt (hW.1 xb))) (va_up_self _ _ _)).2.1 rfl rfl rfl hl rfl (Nat.le_of_ble_eq_true rfl) dX6_splitBook_107 ⟨Nat.le_of_ble_eq_true rfl, Nat.le_of_ble_eq_true rfl⟩ (fun r34 e_r34 => ?_)
                subst e_r34
                have b_35 := @turn_b (vod μ (vbk μ xb)) r (by omega)
                refine q_iconst hx hb dX6_splitBook_110 ?_
                refine q_vMi C0 lX6_103 (c_X6_set l D y ((L ++ [r26]) ++ [r26q]) Fv _ (fun a => O a ∨ a ∉ L) (uNw G (vn μ) r26 r26q) (tM (tWr (tBk (tNw (tTh μ (ltR 1 (inR xk 0 99))) (vod μ (vbk μ xb)) (mlk (vod μ (vbk μ xb)) (vod μ (vbk μ xb)) (vst μ (vbk μ xb)) (turn (vod μ (vbk μ xb)) xk) 99 emp)) xc (vn μ)) (vbk μ xb)) (vbk μ xb) gv bv) (vbk μ xb) (turn (vod μ (vbk μ xb)) r) (-1) hC (Nat.lt_succ_of_lt (hW.1 xb)) (fun i h => Nat.lt_succ_of_lt (hW.2.2.2.1 i h)) (by omega) (by omega)) ⟨rfl, rfl⟩ rfl hP hD hS hA hC.1.1 hC.1.2 rfl rfl rfl hl rfl (Nat.le_of_ble_eq_true rfl) dX6_splitBook_111 ⟨Nat.le_of_ble_eq_true rfl, Nat.le_of_ble_eq_true rfl⟩ (fun r36 H locs L37 F37 hP hD hS hz37 hp37 => ?_)
                obtain ⟨eL, hC, er, hO1⟩ := hp37
                subst eL
                rw [tM_st] at er
                rw [show vod (tM (tWr (tBk (tNw (tTh μ (ltR 1 (inR xk 0 99))) (vod μ (vbk μ xb)) (mlk (vod μ (vbk μ xb)) (vod μ (vbk μ xb)) (vst μ (vbk μ xb)) (turn (vod μ (vbk μ xb)) xk) 99 emp)) xc (vn μ)) (vbk μ xb)) (vbk μ xb) gv bv) (vbk μ xb) = (vod μ (vbk μ xb)) from va_up_ne _ _ (Nat.ne_of_lt (hW.1 xb))] at er hC
                replace er : (seC gv (turn (vod μ (vbk μ xb)) (turn (vod μ (vbk μ xb)) r)) (-1)) = r36 := er.symm
                subst er
                have hO := hO.tr hO1
                replace hC := MP_eq hC (tSe_tM _ _ _ _ _ _)
                refine q_iadd hx hb dX6_splitBook_114 ?_
                refine lv_istore (lv' := [(6, .int (iI ((a + (seC gv (turn (vod μ (vbk μ xb)) (turn (vod μ (vbk μ xb)) r)) (-1)))))), (0, .ref ((ubg G))), (4, .ref ((urh (uNw G (vn μ) r26 r26q) (vbk μ xb)))), (7, .int (iI r))]) hx hb dX6_splitBook_115 hl (by decide) rfl (fun ls hl => ?_)
                refine q_iinc (x := r) (n := 1) (lv' := [(7, .int (iI ((r + 1)))), (6, .int (iI ((a + (seC gv (turn (vod μ (vbk μ xb)) (turn (vod μ (vbk μ xb)) r)) (-1)))))), (0, .ref ((ubg G))), (4, .ref ((urh (uNw G (vn μ) r26 r26q) (vbk μ xb))))]) hx hb dX6_splitBook_117 hl (k := 3) rfl (by decide) rfl (fun ls hl => ?_)
                refine lv_goto (tgt := 91) hx hb dX6_splitBook_120 (by decide) ?_
                exact ih_LP91 _ (by omega) (r + 1) (iu gv (turn (vod μ (vbk μ xb)) (turn (vod μ (vbk μ xb)) r)) (-1)) (seB (vwk μ) (vbk μ xb) gv (turn (vod μ (vbk μ xb)) (turn (vod μ (vbk μ xb)) r)) (-1) bv) (a + (seC gv (turn (vod μ (vbk μ xb)) (turn (vod μ (vbk μ xb)) r)) (-1))) F37 _ _ (by omega) (hP) (hD) (hS) (hC) (hO) (by rw [hI, itrP_s (by omega)]; unfold clU; first | (rw [if_pos (by omega)]; done) | (rw [if_neg (by omega)]; done) | (rw [if_pos (by omega)]; rfl) | (rw [if_neg (by omega)]; rfl) | rfl) rfl ls (lv_sub hl [2, 3, 1, 0] rfl)
          exact LP91 _ (turn (vod μ (vbk μ xb)) xk) (vst μ (vbk μ xb)) (vbr μ) 0 F30 _ _ (by omega) (hP) (hD) (hS) (MP_eq hC (tM_1 (va_up_ne _ _ (Nat.ne_of_lt (hW.1 xb))))) (hO) (rfl) rfl ls (lv_sub hl [4, 3, 1, 0] rfl)
        · refine lv_aload_n hx hb dX6_splitBook_37 rfl (lv_at hl 0 rfl) ?_
          refine q_vMi C0 lX6_89 (c_X6_refuse l D y L F20 _ O G (tTh μ (ltR 1 (inR xk 0 99))) hC) ⟨rfl, rfl⟩ rfl hP hD hS hA hC.1.1 hC.1.2 rfl rfl rfl hl rfl (Nat.le_of_ble_eq_true rfl) dX6_splitBook_38 ⟨Nat.le_of_ble_eq_true rfl, Nat.le_of_ble_eq_true rfl⟩ (fun r38 H locs L39 F39 hP hD hS hz39 hp39 => ?_)
          obtain ⟨eL, hC, er, hO1⟩ := hp39
          subst eL
          replace er : (-9) = r38 := er.symm
          subst er
          have hO := hO.tr hO1
          refine W.widen (k := 4) (n := 204) (Nat.le_of_ble_eq_true rfl) (Nat.le_of_ble_eq_true rfl) ?_
          exact q_retMi C0 hret rfl hlk dX6_splitBook_41 hP hD hS (⟨(by 
    have lt_ := ltR_d 1 (inR xk 0 99)
    unfold jR_splitBook ; (try rw [show ltR 1 (inR xk 0 99) = 0 by omega]); (repeat (first | rw [if_pos (by omega)] | rw [if_neg (by omega)]))
    all_goals (first | rfl | omega)), O, G, MP_eq hC (by 
    have lt_ := ltR_d 1 (inR xk 0 99)
    unfold jS_splitBook tX spG; rw [show ltR 1 (inR xk 0 99) = 0 by omega]; (repeat (first | rw [if_pos (by omega)] | rw [if_neg (by omega)]))
    all_goals rfl), rfl, Ext0 hO⟩)
      · replace k_21 := k_21.resolve_left (fun h => absurd (h.1.symm.trans c22) (by decide))
        refine q_iconst hx hb dX6_splitBook_30 ?_
        refine W.widen (k := 4) (n := 204) (Nat.le_of_ble_eq_true rfl) (Nat.le_of_ble_eq_true rfl) ?_
        exact q_retMi C0 hret rfl hlk dX6_splitBook_31 hP hD hS (⟨(by unfold jR_splitBook; rw [if_neg (by omega)]), O, G, MP_eq hC (by have lt_ := ltR_d 1 (inR xk 0 99); unfold jS_splitBook; rcases lt_ with lt_ | lt_ | lt_ <;> first | (rw [if_neg (by omega), lt_.1]; done) | (rw [if_pos (by omega), if_neg (by omega), lt_.1]; done) | (exfalso; omega)), rfl, Ext0 hO⟩)
set_option maxHeartbeats 3000000 in
set_option maxRecDepth 100000 in
theorem c_X6_keysOf (l : Launch) (D : va_G) (y : Nat → ClassId) (L : List Nat) (F : Nat → va_E) (sz : Nat) (O : Nat → Prop) (G : MG) (μ : MS) (xb : Int) (xa : Int) (hC : MP y L F O G μ) (hW : MW μ) (h_xb : -2147483648 ≤ xb ∧ xb ≤ 2147483647) (h_xa : -2147483648 ≤ xa ∧ xa ≤ 2147483647) : Met l yX6_keysOf (.code yX6_keysOf cX6_keysOf 4 (some .int) :: Tt) ({ frames := 2, cells := 4, slots := 204, locals := 45 }) (PcM D y L F sz [.ref ((ubg G)), .int (iI xb), .int (iI xa)]) (cMi D (AL L sz) (fun r L1 F1 => r = jR_keysOf μ xb xa ∧ ∃ (O1 : Nat → Prop) (G1 : MG), MP y L1 F1 O1 G1 (jS_keysOf μ xb xa) ∧ ubg G1 = ubg G ∧ Ext O O1 L L1 F F1)) 4 204 (AL L sz) := by
  have hO : OE O F F := fun _ _ => rfl
  have hw5 := hW.2.2.2.2.2.1
  have hw6 := hW.2.2.2.2.2.2.1
  have hw7 := hW.2.2.2.2.2.2.2.1
  refine q_ofM (lv := [(0, .ref ((ubg G))), (1, .int (iI xb)), (2, .int (iI xa))]) (by decide) (Nat.le_of_ble_eq_true rfl) rfl (fun p e s m below meth c C0 hret hlk hnm hA hP hD hS ls hl => ?_)
  have hx := C0.1.1
  have hb := C0.1.2.1
  have hts := C0.1.2.2.2.2
  refine lv_aload_n hx hb dX6_keysOf_0 rfl (lv_at hl 0 rfl) ?_
  refine lv_iload_n hx hb dX6_keysOf_1 rfl (lv_at hl 1 rfl) ?_
  refine q_sS C0 lX6_193 (c_X6_isShelf l D y L F xb (by omega)) ⟨rfl, rfl⟩ rfl hP rfl hl rfl (Nat.le_of_ble_eq_true rfl) dX6_keysOf_2 ⟨Nat.zero_le _, Nat.zero_le _⟩ (fun r1 e_r1 => ?_)
  subst e_r1
  have b_2 := inR_d xb 0 2
  refine q_if_eq hx hb dX6_keysOf_5 (tgt := 19) (by decide) (by omega) (fun c3 => ?_) (fun c3 => ?_)
  · replace b_2 := b_2.resolve_left (fun h => absurd (h.1.symm.trans c3) (by decide))
    refine q_iconst hx hb dX6_keysOf_19 ?_
    refine q_iconst hx hb dX6_keysOf_20 ?_
    refine q_vMi C0 lX6_63 (c_X6_isLet l D y L F _ O G μ 0 1 hC (by omega) (by omega)) ⟨rfl, rfl⟩ rfl hP hD hS hA hC.1.1 hC.1.2 rfl rfl rfl hl rfl (Nat.le_of_ble_eq_true rfl) dX6_keysOf_21 ⟨Nat.le_of_ble_eq_true rfl, Nat.le_of_ble_eq_true rfl⟩ (fun r4 H locs L5 F5 hP hD hS hz5 hp5 => ?_)
    obtain ⟨eL, hC, er, hO1⟩ := hp5
    subst eL
    replace er := (er.trans (okR_z0 _)).symm
    subst er
    have hO := hO.tr hO1
    refine q_if_ne hx hb dX6_keysOf_24 (tgt := 29) (by decide) (by omega) (fun c6 => absurd c6 (by omega)) (fun c6 => ?_)
    refine q_iconst hx hb dX6_keysOf_27 ?_
    refine W.widen (k := 4) (n := 204) (Nat.le_of_ble_eq_true rfl) (Nat.le_of_ble_eq_true rfl) ?_
    exact q_retMi C0 hret rfl hlk dX6_keysOf_28 hP hD hS (⟨(by unfold jR_keysOf; rw [if_neg (by omega)]), O, G, MP_eq hC (by unfold jS_keysOf; rw [if_neg (by omega)]; first | done | rfl), rfl, Ext0 hO⟩)
  · replace b_2 := b_2.resolve_right (fun h => c3 h.1)
    refine lv_iload_n hx hb dX6_keysOf_8 rfl (lv_at hl 2 rfl) ?_
    refine q_sS C0 lX6_60 (c_X6_isBook l D y L F xa (by omega)) ⟨rfl, rfl⟩ rfl hP rfl hl rfl (Nat.le_of_ble_eq_true rfl) dX6_keysOf_9 ⟨Nat.zero_le _, Nat.zero_le _⟩ (fun r7 e_r7 => ?_)
    subst e_r7
    have b_8 := inR_d xa 0 3
    refine q_if_eq hx hb dX6_keysOf_12 (tgt := 19) (by decide) (by omega) (fun c9 => ?_) (fun c9 => ?_)
    · replace b_8 := b_8.resolve_left (fun h => absurd (h.1.symm.trans c9) (by decide))
      refine q_iconst hx hb dX6_keysOf_19 ?_
      refine q_iconst hx hb dX6_keysOf_20 ?_
      refine q_vMi C0 lX6_63 (c_X6_isLet l D y L F _ O G μ 0 1 hC (by omega) (by omega)) ⟨rfl, rfl⟩ rfl hP hD hS hA hC.1.1 hC.1.2 rfl rfl rfl hl rfl (Nat.le_of_ble_eq_true rfl) dX6_keysOf_21 ⟨Nat.le_of_ble_eq_true rfl, Nat.le_of_ble_eq_true rfl⟩ (fun r10 H locs L11 F11 hP hD hS hz11 hp11 => ?_)
      obtain ⟨eL, hC, er, hO1⟩ := hp11
      subst eL
      replace er := (er.trans (okR_z0 _)).symm
      subst er
      have hO := hO.tr hO1
      refine q_if_ne hx hb dX6_keysOf_24 (tgt := 29) (by decide) (by omega) (fun c12 => absurd c12 (by omega)) (fun c12 => ?_)
      refine q_iconst hx hb dX6_keysOf_27 ?_
      refine W.widen (k := 4) (n := 204) (Nat.le_of_ble_eq_true rfl) (Nat.le_of_ble_eq_true rfl) ?_
      exact q_retMi C0 hret rfl hlk dX6_keysOf_28 hP hD hS (⟨(by unfold jR_keysOf; rw [if_neg (by omega)]), O, G, MP_eq hC (by unfold jS_keysOf; rw [if_neg (by omega)]; first | done | rfl), rfl, Ext0 hO⟩)
    · replace b_8 := b_8.resolve_right (fun h => c9 h.1)
      refine q_iconst hx hb dX6_keysOf_15 ?_
      refine lv_goto (tgt := 20) hx hb dX6_keysOf_16 (by decide) ?_
      refine q_iconst hx hb dX6_keysOf_20 ?_
      refine q_vMi C0 lX6_63 (c_X6_isLet l D y L F _ O G μ 1 1 hC (by omega) (by omega)) ⟨rfl, rfl⟩ rfl hP hD hS hA hC.1.1 hC.1.2 rfl rfl rfl hl rfl (Nat.le_of_ble_eq_true rfl) dX6_keysOf_21 ⟨Nat.le_of_ble_eq_true rfl, Nat.le_of_ble_eq_true rfl⟩ (fun r13 H locs L14 F14 hP hD hS hz14 hp14 => ?_)
      obtain ⟨eL, hC, er, hO1⟩ := hp14
      subst eL
      replace er := (er.trans (show okR 1 1 = 1 from rfl)).symm
      subst er
      have hO := hO.tr hO1
      refine q_if_ne hx hb dX6_keysOf_24 (tgt := 29) (by decide) (by omega) (fun c15 => ?_) (fun c15 => absurd c15 (by omega))
      refine lv_aload_n hx hb dX6_keysOf_29 rfl (lv_at hl 0 rfl) ?_
      refine q_get C0 iX6 hP hC.1.1 hC.1.2 rfl 1 (by decide) flX6_15 rfl (v := .ref ((uas G))) rfl dX6_keysOf_30 ?_
      refine lv_iload_n hx hb dX6_keysOf_33 rfl (lv_at hl 1 rfl) ?_
      refine q_new C0 iX5 tyX5 tyX5_ok klX6_9 insX5 iniX5 hP hD hS hA (ci := 7) rfl (fs := [.int (iI 0), .null]) (fun j hj => by rcases (show j = 0 ∨ j = 1 by omega) with rfl | rfl <;> rfl) (Nat.le_of_ble_eq_true rfl) (Nat.le_of_ble_eq_true rfl) dX6_keysOf_34 (fun q16 H hq16 hP hD hS => ?_)
      refine W.widen (k := 1) (n := 2) (Nat.le_of_ble_eq_true rfl) (Nat.le_of_ble_eq_true rfl) ?_
      obtain ⟨F17, eF17⟩ : ∃ z, z = va_up F14 q16 (.inr (7, [.int (iI 0), .null])) := ⟨_, rfl⟩
      have hP : va_P D vwCl (va_pl (L ++ [q16]) F17) H := by rw [eF17]; exact hP
      have hD : va_D (AL L sz) (va_pl (L ++ [q16]) F17) := by rw [eF17]; exact hD
      have hfn : ∀ a ∈ L, F17 a = F14 a := by rw [eF17]; exact fun a h1 => va_up_ne _ _ (ne_in h1 hq16)
      have hFq16 : F17 q16 = .inr (7, [.int (iI 0), .null]) := by rw [eF17]; exact va_up_self _ _ _
      refine lv_dup hx hb dX6_keysOf_37 rfl ?_
      refine q_iconst hx hb dX6_keysOf_38 ?_
      refine q_iMv C0 lX6_35 (c_X5_init l D y (L ++ [q16]) F17 _ q16 0 (List.mem_append_right _ List.mem_cons_self) hFq16 (by omega)) ⟨rfl, rfl⟩ rfl hP hD hS hA rfl hl rfl (Nat.le_of_ble_eq_true rfl) dX6_keysOf_39 ⟨Nat.le_of_ble_eq_true rfl, Nat.le_of_ble_eq_true rfl⟩ (fun _ H locs L19 F19 hP hD hS hz19 hp19 => ?_)
      refine W.widen (k := 2) (n := 102) (Nat.le_of_ble_eq_true rfl) (Nat.le_of_ble_eq_true rfl) ?_
      obtain ⟨q16w, hqq16w, eL, hRn, hfr1⟩ := hp19
      subst eL
      have hfn : ∀ a ∈ L, F19 a = F14 a := fun a h1 => (hfr1 a (List.mem_append_left _ h1) (ne_in h1 hq16)).trans (hfn a h1)
      have hRm : MB y ((L ++ [q16]) ++ [q16w]) F19 q16 q16w 0 emp := hRn
      have hC : MP y ((L ++ [q16]) ++ [q16w]) F19 (fun a => O a ∨ a ∉ L) (uNw G (vn μ) q16 q16w) (tNw (tTh μ (ltR 1 1)) 0 emp) := MP_new (μ := (tTh μ (ltR 1 1))) (G := G) (o := 0) (g := emp) (F1 := F19) hC rfl hq16 (fun h1 => hqq16w (List.mem_append_left _ h1)) hRm hfn ⟨hW.1, hW.2.1, hW.2.2.1, hW.2.2.2.1⟩
      have hE : ∀ q ∈ L, ¬ O q → F19 q = F q := fun q h1 h2 => (hfn q h1).trans (hO q h2)
      have hO : OE (fun a => O a ∨ a ∉ L) F19 F19 := fun _ _ => rfl
      have er : urh (uNw G (vn μ) q16 q16w) (vn μ) = q16 := va_up_self _ _ _
      refine q_aast C0 hP hD hS hC.2.2.1.1 hC.2.2.1.2 (t := 3) (r := (RX5, TX5, 2)) rfl hRm.1 hRm.2.1 rfl (by omega) (by decide) dX6_keysOf_42 (fun H locs hP hD hS => ?_)
      obtain ⟨F20, eF20⟩ : ∃ z, z = va_up F19 (uas (uNw G (vn μ) q16 q16w)) (arrQ (y 3) 3 (iu (fun j => some (urh (uNw G (vn μ) q16 q16w) (vsh (tNw (tTh μ (ltR 1 1)) 0 emp) j))) xb (some q16))) := ⟨_, rfl⟩
      have hP : va_P D vwCl (va_pl ((L ++ [q16]) ++ [q16w]) F20) H := by rw [eF20]; exact hP
      have hD : va_D (AL L sz) (va_pl ((L ++ [q16]) ++ [q16w]) F20) := by rw [eF20]; exact hD
      have hO : OE (fun a => O a ∨ a ∉ L) F19 F20 := by rw [eF20]; exact hO.tr (OE1 (MP_O hC).2.2.1)
      have hC : MP y ((L ++ [q16]) ++ [q16w]) F20 (fun a => O a ∨ a ∉ L) (uNw G (vn μ) q16 q16w) (tSh (tNw (tTh μ (ltR 1 1)) 0 emp) xb (vn μ)) := by rw [eF20]; exact MP_sh hC (by rw [er]; exact va_up_self _ _ _) (fun q hq => va_up_ne _ _ hq)
      refine q_iconst hx hb dX6_keysOf_43 ?_
      refine lv_istore_n (lv' := [(3, .int (iI 0)), (0, .ref ((ubg G))), (1, .int (iI xb)), (2, .int (iI xa))]) hx hb dX6_keysOf_44 rfl hl (by decide) rfl (fun ls hl => ?_)
      have LP45 : ∀ (n_LP45 : Nat) (r : Int) (gv : Int → Int) (bv : Int) (Fv : Nat → va_E) (H : Heap) (locs : List Loc), (0 ≤ r ∧ r ≤ 100) → (va_P D vwCl (va_pl ((L ++ [q16]) ++ [q16w]) Fv) H) → (va_D (AL L sz) (va_pl ((L ++ [q16]) ++ [q16w]) Fv)) → (va_S (AL L sz) s.heap H locs) → (MP y ((L ++ [q16]) ++ [q16w]) Fv (fun a => O a ∨ a ∉ L) (uNw G (vn μ) q16 q16w) (tM (tSh (tNw (tTh μ (ltR 1 1)) 0 emp) xb (vn μ)) (vn μ) gv bv)) → (OE (fun a => O a ∨ a ∉ L) F19 Fv) → ((∃ av, koX μ xa = itrP (koU (vod μ (vbk μ xa)) (vst μ (vbk μ xa)) (vwk μ) (vn μ)) r 99 (gv, bv, av))) → (100 - r).toNat = n_LP45 → ∀ ls : Array Slot, lv_has ls 4 [(0, .ref ((ubg G))), (1, .int (iI xb)), (2, .int (iI xa)), (3, .int (iI r))] → W p l e ({ frames := 2, cells := 4, slots := 204, locals := 45 } : Room) s m [.ref ((ubg G)), .int (iI xb), .int (iI xa)].toArray below meth c H locs 2 102 (MQ below (cMi D (AL L sz) (fun r L1 F1 => r = jR_keysOf μ xb xa ∧ ∃ (O1 : Nat → Prop) (G1 : MG), MP y L1 F1 O1 G1 (jS_keysOf μ xb xa) ∧ ubg G1 = ubg G ∧ Ext O O1 L L1 F F1)) [.ref ((ubg G)), .int (iI xb), .int (iI xa)].toArray s 4 204 (AL L sz)) (F0 m 45 ls []) := by
        intro n_LP45
        induction n_LP45 using Nat.strongRecOn with
        | ind n_LP45 ih_LP45 =>
          intro r gv bv Fv H locs hr hP hD hS hC hO hI hm_LP45 ls hl
          refine lv_iload_n hx hb dX6_keysOf_45 rfl (lv_at hl 3 rfl) ?_
          refine q_bipush hx hb dX6_keysOf_46 (by decide) ?_
          refine q_icmp_ge hx hb dX6_keysOf_48 (tgt := 87) (by decide) (by omega) (by omega) (fun c21 => ?_) (fun c21 => ?_)
          · refine lv_aload_n hx hb dX6_keysOf_87 rfl (lv_at hl 0 rfl) ?_
            refine lv_aload_n hx hb dX6_keysOf_88 rfl (lv_at hl 0 rfl) ?_
            refine q_get C0 iX6 hP hC.1.1 hC.1.2 rfl 1 (by decide) flX6_15 rfl (v := .ref ((uas (uNw G (vn μ) q16 q16w)))) rfl dX6_keysOf_89 ?_
            refine lv_iload_n hx hb dX6_keysOf_92 rfl (lv_at hl 1 rfl) ?_
            refine q_aald C0 hP hC.2.2.1.1 hC.2.2.1.2 (t := 3) rfl (by omega) (by decide) (v := .ref ((urh (uNw G (vn μ) q16 q16w) (vn μ)))) (by first | rfl | (show va_rf (some (urh (uNw G (vn μ) q16 q16w) (iu _ _ _ xb))) = _; rw [iu_s]; rfl)) dX6_keysOf_93 ?_
            refine q_iconst hx hb dX6_keysOf_94 ?_
            refine q_bipush hx hb dX6_keysOf_95 (by decide) ?_
            refine q_vS C0 lX6_67 (c_X5_many l D y ((L ++ [q16]) ++ [q16w]) Fv (urh (uNw G (vn μ) q16 q16w) (vn μ)) (urw (uNw G (vn μ) q16 q16w) (vn μ)) 0 gv 0 99 (MP_rx hC (Nat.lt_succ_self _) (va_up_self _ _ _) (va_up_self _ _ _)) (by omega) (by omega)) ⟨rfl, rfl⟩ rfl hP (MP_rx hC (Nat.lt_succ_self _) (va_up_self _ _ _) (va_up_self _ _ _)).1 (MP_rx hC (Nat.lt_succ_self _) (va_up_self _ _ _) (va_up_self _ _ _)).2.1 rfl rfl rfl hl rfl (Nat.le_of_ble_eq_true rfl) dX6_keysOf_97 ⟨Nat.le_of_ble_eq_true rfl, Nat.le_of_ble_eq_true rfl⟩ (fun r22 e_r22 => ?_)
            subst e_r22
            refine q_vMi C0 lX6_196 (c_X6_laid l D y ((L ++ [q16]) ++ [q16w]) Fv _ (fun a => O a ∨ a ∉ L) (uNw G (vn μ) q16 q16w) (tM (tSh (tNw (tTh μ (ltR 1 1)) 0 emp) xb (vn μ)) (vn μ) gv bv) (cntP gv 0 99) hC) ⟨rfl, rfl⟩ rfl hP hD hS hA hC.1.1 hC.1.2 rfl rfl rfl hl rfl (Nat.le_of_ble_eq_true rfl) dX6_keysOf_100 ⟨Nat.le_of_ble_eq_true rfl, Nat.le_of_ble_eq_true rfl⟩ (fun r23 H locs L24 F24 hP hD hS hz24 hp24 => ?_)
            obtain ⟨eL, hC, er, hO1⟩ := hp24
            subst eL
            replace er : (cntP gv 0 99) = r23 := er.symm
            subst er
            have hO := hO.tr hO1
            refine W.widen (k := 4) (n := 204) (Nat.le_of_ble_eq_true rfl) (Nat.le_of_ble_eq_true rfl) ?_
            exact q_retMi C0 hret rfl hlk dX6_keysOf_103 hP hD hS (⟨(by 
    have lt_ := ltR_d 1 1
    unfold jR_keysOf ; (try rw [show ltR 1 1 = 0 by omega]); (repeat (first | rw [if_pos (by omega)] | rw [if_neg (by omega)])); obtain ⟨av, hI⟩ := hI; rw [hI, itrP_e (by omega)]
    all_goals (first | rfl | omega)), (fun a => O a ∨ a ∉ L), (uNw G (vn μ) q16 q16w), MP_eq hC (by 
    have lt_ := ltR_d 1 1
    unfold jS_keysOf tX; rw [show ltR 1 1 = 0 by omega]; (repeat (first | rw [if_pos (by omega)] | rw [if_neg (by omega)])); obtain ⟨av, hI⟩ := hI; rw [hI, itrP_e (by omega)]
    all_goals rfl), rfl, ⟨fun q h => List.mem_append_left _ (List.mem_append_left _ h), fun q h1 h2 => (hO q (fun z => z.elim h2 (fun w => w h1))).trans (hE q h1 h2), fun q h => h⟩⟩)
          · refine lv_aload_n hx hb dX6_keysOf_51 rfl (lv_at hl 0 rfl) ?_
            refine lv_aload_n hx hb dX6_keysOf_52 rfl (lv_at hl 0 rfl) ?_
            refine q_get C0 iX6 hP hC.1.1 hC.1.2 rfl 1 (by decide) flX6_15 rfl (v := .ref ((uas (uNw G (vn μ) q16 q16w)))) rfl dX6_keysOf_53 ?_
            refine lv_iload_n hx hb dX6_keysOf_56 rfl (lv_at hl 1 rfl) ?_
            refine q_aald C0 hP hC.2.2.1.1 hC.2.2.1.2 (t := 3) rfl (by omega) (by decide) (v := .ref ((urh (uNw G (vn μ) q16 q16w) (vn μ)))) (by first | rfl | (show va_rf (some (urh (uNw G (vn μ) q16 q16w) (iu _ _ _ xb))) = _; rw [iu_s]; rfl)) dX6_keysOf_57 ?_
            refine lv_iload_n hx hb dX6_keysOf_58 rfl (lv_at hl 3 rfl) ?_
            refine lv_aload_n hx hb dX6_keysOf_59 rfl (lv_at hl 0 rfl) ?_
            refine q_get C0 iX6 hP hC.1.1 hC.1.2 rfl 0 (by decide) flX6_11 rfl (v := .ref ((uab (uNw G (vn μ) q16 q16w)))) rfl dX6_keysOf_60 ?_
            refine lv_iload_n hx hb dX6_keysOf_63 rfl (lv_at hl 2 rfl) ?_
            refine q_aald C0 hP hC.2.1.1 hC.2.1.2 (t := 3) rfl (by omega) (by decide) (v := .ref ((urh (uNw G (vn μ) q16 q16w) (vbk μ xa)))) rfl dX6_keysOf_64 ?_
            refine lv_iload_n hx hb dX6_keysOf_65 rfl (lv_at hl 3 rfl) ?_
            refine q_vS C0 lX6_49 (c_X5_has l D y ((L ++ [q16]) ++ [q16w]) Fv (urh (uNw G (vn μ) q16 q16w) (vbk μ xa)) (urw (uNw G (vn μ) q16 q16w) (vbk μ xa)) (vod μ (vbk μ xa)) (vst μ (vbk μ xa)) r (MP_rx hC (Nat.lt_succ_of_lt (hW.1 xa)) (va_up_ne _ _ (Nat.ne_of_lt (hW.1 xa))) ((va_up_ne _ _ (Nat.ne_of_lt (hW.1 xa))).trans (va_up_ne _ _ (Nat.ne_of_lt (hW.1 xa))))) (by omega)) ⟨rfl, rfl⟩ rfl hP (MP_rx hC (Nat.lt_succ_of_lt (hW.1 xa)) (va_up_ne _ _ (Nat.ne_of_lt (hW.1 xa))) ((va_up_ne _ _ (Nat.ne_of_lt (hW.1 xa))).trans (va_up_ne _ _ (Nat.ne_of_lt (hW.1 xa))))).1 (MP_rx hC (Nat.lt_succ_of_lt (hW.1 xa)) (va_up_ne _ _ (Nat.ne_of_lt (hW.1 xa))) ((va_up_ne _ _ (Nat.ne_of_lt (hW.1 xa))).trans (va_up_ne _ _ (Nat.ne_of_lt (hW.1 xa))))).2.1 rfl rfl rfl hl rfl (Nat.le_of_ble_eq_true rfl) dX6_keysOf_66 ⟨Nat.le_of_ble_eq_true rfl, Nat.le_of_ble_eq_true rfl⟩ (fun r25 e_r25 => ?_)
            subst e_r25
            have b_26 := isT_b (vst μ (vbk μ xa)) (turn (vod μ (vbk μ xa)) r)
            refine q_if_eq hx hb dX6_keysOf_69 (tgt := 76) (by decide) (by omega) (fun c27 => ?_) (fun c27 => ?_)
            · refine q_iconst hx hb dX6_keysOf_76 ?_
              refine q_vMi C0 lX6_103 (c_X6_set l D y ((L ++ [q16]) ++ [q16w]) Fv _ (fun a => O a ∨ a ∉ L) (uNw G (vn μ) q16 q16w) (tM (tSh (tNw (tTh μ (ltR 1 1)) 0 emp) xb (vn μ)) (vn μ) gv bv) (vn μ) r (-1) hC (Nat.lt_succ_self _) (fun i h => Nat.lt_succ_of_lt (hW.2.2.2.1 i h)) (by omega) (by omega)) ⟨rfl, rfl⟩ rfl hP hD hS hA hC.1.1 hC.1.2 rfl rfl rfl hl rfl (Nat.le_of_ble_eq_true rfl) dX6_keysOf_77 ⟨Nat.le_of_ble_eq_true rfl, Nat.le_of_ble_eq_true rfl⟩ (fun r28 H locs L29 F29 hP hD hS hz29 hp29 => ?_)
              obtain ⟨eL, hC, er, hO1⟩ := hp29
              subst eL
              rw [tM_st] at er
              rw [show vod (tM (tSh (tNw (tTh μ (ltR 1 1)) 0 emp) xb (vn μ)) (vn μ) gv bv) (vn μ) = 0 from va_up_self _ _ _] at er hC
              replace er : (seC gv (turn 0 r) (-1)) = r28 := er.symm
              subst er
              have hO := hO.tr hO1
              replace hC := MP_eq hC (tSe_tM _ _ _ _ _ _)
              refine lv_pop hx hb dX6_keysOf_80 rfl ?_
              refine q_iinc (x := r) (n := 1) (lv' := [(3, .int (iI ((r + 1)))), (0, .ref ((ubg G))), (1, .int (iI xb)), (2, .int (iI xa))]) hx hb dX6_keysOf_81 hl (k := 3) rfl (by decide) rfl (fun ls hl => ?_)
              refine lv_goto (tgt := 45) hx hb dX6_keysOf_84 (by decide) ?_
              exact ih_LP45 _ (by omega) (r + 1) (iu gv (turn 0 r) (-1)) (seB (vwk μ) (vn μ) gv (turn 0 r) (-1) bv) F29 _ _ (by omega) (hP) (hD) (hS) (hC) (hO) (by obtain ⟨av, hI⟩ := hI; exact ⟨_, by rw [hI, itrP_s (by omega)]; unfold koU; first | (rw [if_pos (by omega)]; done) | (rw [if_neg (by omega)]; done) | (rw [if_pos (by omega)]; rfl) | (rw [if_neg (by omega)]; rfl) | rfl⟩) rfl ls (lv_sub hl [1, 2, 3, 0] rfl)
            · refine q_iconst hx hb dX6_keysOf_72 ?_
              refine lv_goto (tgt := 77) hx hb dX6_keysOf_73 (by decide) ?_
              refine q_vMi C0 lX6_103 (c_X6_set l D y ((L ++ [q16]) ++ [q16w]) Fv _ (fun a => O a ∨ a ∉ L) (uNw G (vn μ) q16 q16w) (tM (tSh (tNw (tTh μ (ltR 1 1)) 0 emp) xb (vn μ)) (vn μ) gv bv) (vn μ) r 0 hC (Nat.lt_succ_self _) (fun i h => Nat.lt_succ_of_lt (hW.2.2.2.1 i h)) (by omega) (by omega)) ⟨rfl, rfl⟩ rfl hP hD hS hA hC.1.1 hC.1.2 rfl rfl rfl hl rfl (Nat.le_of_ble_eq_true rfl) dX6_keysOf_77 ⟨Nat.le_of_ble_eq_true rfl, Nat.le_of_ble_eq_true rfl⟩ (fun r30 H locs L31 F31 hP hD hS hz31 hp31 => ?_)
              obtain ⟨eL, hC, er, hO1⟩ := hp31
              subst eL
              rw [tM_st] at er
              rw [show vod (tM (tSh (tNw (tTh μ (ltR 1 1)) 0 emp) xb (vn μ)) (vn μ) gv bv) (vn μ) = 0 from va_up_self _ _ _] at er hC
              replace er : (seC gv (turn 0 r) 0) = r30 := er.symm
              subst er
              have hO := hO.tr hO1
              replace hC := MP_eq hC (tSe_tM _ _ _ _ _ _)
              refine lv_pop hx hb dX6_keysOf_80 rfl ?_
              refine q_iinc (x := r) (n := 1) (lv' := [(3, .int (iI ((r + 1)))), (0, .ref ((ubg G))), (1, .int (iI xb)), (2, .int (iI xa))]) hx hb dX6_keysOf_81 hl (k := 3) rfl (by decide) rfl (fun ls hl => ?_)
              refine lv_goto (tgt := 45) hx hb dX6_keysOf_84 (by decide) ?_
              exact ih_LP45 _ (by omega) (r + 1) (iu gv (turn 0 r) 0) (seB (vwk μ) (vn μ) gv (turn 0 r) 0 bv) F31 _ _ (by omega) (hP) (hD) (hS) (hC) (hO) (by obtain ⟨av, hI⟩ := hI; exact ⟨_, by rw [hI, itrP_s (by omega)]; unfold koU; first | (rw [if_pos (by omega)]; done) | (rw [if_neg (by omega)]; done) | (rw [if_pos (by omega)]; rfl) | (rw [if_neg (by omega)]; rfl) | rfl⟩) rfl ls (lv_sub hl [1, 2, 3, 0] rfl)
      exact LP45 _ 0 emp (vbr μ) F20 _ _ (by omega) (hP) (hD) (hS) (MP_eq hC (tM_1 (va_up_self _ _ _))) (hO) (⟨_, rfl⟩) rfl ls (lv_sub hl [1, 2, 3, 0] rfl)
set_option maxHeartbeats 3000000 in
set_option maxRecDepth 100000 in
theorem c_X6_shelfCut (l : Launch) (D : va_G) (y : Nat → ClassId) (L : List Nat) (F : Nat → va_E) (sz : Nat) (O : Nat → Prop) (G : MG) (μ : MS) (xb : Int) (xlow : Int) (xhigh : Int) (xt : Int) (xc : Int) (hC : MP y L F O G μ) (hW : MW μ) (h_xb : -2147483648 ≤ xb ∧ xb ≤ 2147483647) (h_xlow : -2147483648 ≤ xlow ∧ xlow ≤ 2147483647) (h_xhigh : -2147483648 ≤ xhigh ∧ xhigh ≤ 2147483647) (h_xt : -2147483648 ≤ xt ∧ xt ≤ 2147483647) (h_xc : -2147483648 ≤ xc ∧ xc ≤ 2147483647) : Met l yX6_shelfCut (.code yX6_shelfCut cX6_shelfCut 11 (some .int) :: Tt) ({ frames := 3, cells := 4, slots := 204, locals := 71 }) (PcM D y L F sz [.ref ((ubg G)), .int (iI xb), .int (iI xlow), .int (iI xhigh), .int (iI xt), .int (iI xc)]) (cMi D (AL L sz) (fun r L1 F1 => r = jR_shelfCut μ xb xlow xhigh xt xc ∧ ∃ (O1 : Nat → Prop) (G1 : MG), MP y L1 F1 O1 G1 (jS_shelfCut μ xb xlow xhigh xt xc) ∧ ubg G1 = ubg G ∧ Ext O O1 L L1 F F1)) 4 204 (AL L sz) := by
  have hO : OE O F F := fun _ _ => rfl
  have hw5 := hW.2.2.2.2.2.1
  have hw6 := hW.2.2.2.2.2.2.1
  have hw7 := hW.2.2.2.2.2.2.2.1
  have ho_ := (MP_r hC (hW.2.1 xb)).2.2.2.2.1
  refine q_ofM (lv := [(0, .ref ((ubg G))), (1, .int (iI xb)), (2, .int (iI xlow)), (3, .int (iI xhigh)), (4, .int (iI xt)), (5, .int (iI xc))]) (by decide) (Nat.le_of_ble_eq_true rfl) rfl (fun p e s m below meth c C0 hret hlk hnm hA hP hD hS ls hl => ?_)
  have hx := C0.1.1
  have hb := C0.1.2.1
  have hts := C0.1.2.2.2.2
  refine lv_aload_n hx hb dX6_shelfCut_0 rfl (lv_at hl 0 rfl) ?_
  refine lv_iload_n hx hb dX6_shelfCut_1 rfl (lv_at hl 1 rfl) ?_
  refine q_sS C0 lX6_193 (c_X6_isShelf l D y L F xb (by omega)) ⟨rfl, rfl⟩ rfl hP rfl hl rfl (Nat.le_of_ble_eq_true rfl) dX6_shelfCut_2 ⟨Nat.zero_le _, Nat.zero_le _⟩ (fun r1 e_r1 => ?_)
  subst e_r1
  have b_2 := inR_d xb 0 2
  refine q_if_eq hx hb dX6_shelfCut_5 (tgt := 20) (by decide) (by omega) (fun c3 => ?_) (fun c3 => ?_)
  · replace b_2 := b_2.resolve_left (fun h => absurd (h.1.symm.trans c3) (by decide))
    refine q_iconst hx hb dX6_shelfCut_20 ?_
    refine lv_iload_n hx hb dX6_shelfCut_21 rfl (lv_at hl 2 rfl) ?_
    refine q_sS C0 lX6_86 (c_X6_isKey l D y L F xlow (by omega)) ⟨rfl, rfl⟩ rfl hP rfl hl rfl (Nat.le_of_ble_eq_true rfl) dX6_shelfCut_22 ⟨Nat.zero_le _, Nat.zero_le _⟩ (fun r4 e_r4 => ?_)
    subst e_r4
    have b_5 := inR_d xlow 0 99
    refine q_if_eq hx hb dX6_shelfCut_25 (tgt := 49) (by decide) (by omega) (fun c6 => ?_) (fun c6 => ?_)
    · replace b_5 := b_5.resolve_left (fun h => absurd (h.1.symm.trans c6) (by decide))
      refine q_iconst hx hb dX6_shelfCut_49 ?_
      refine q_vMi C0 lX6_63 (c_X6_isLet l D y L F _ O G μ 0 0 hC (by omega) (by omega)) ⟨rfl, rfl⟩ rfl hP hD hS hA hC.1.1 hC.1.2 rfl rfl rfl hl rfl (Nat.le_of_ble_eq_true rfl) dX6_shelfCut_50 ⟨Nat.le_of_ble_eq_true rfl, Nat.le_of_ble_eq_true rfl⟩ (fun r7 H locs L8 F8 hP hD hS hz8 hp8 => ?_)
      obtain ⟨eL, hC, er, hO1⟩ := hp8
      subst eL
      replace er := (er.trans (show okR 0 0 = 0 from rfl)).symm
      subst er
      have hO := hO.tr hO1
      refine q_if_ne hx hb dX6_shelfCut_53 (tgt := 58) (by decide) (by omega) (fun c9 => absurd c9 (by omega)) (fun c9 => ?_)
      refine q_iconst hx hb dX6_shelfCut_56 ?_
      refine W.widen (k := 4) (n := 204) (Nat.le_of_ble_eq_true rfl) (Nat.le_of_ble_eq_true rfl) ?_
      exact q_retMi C0 hret rfl hlk dX6_shelfCut_57 hP hD hS (⟨(by unfold jR_shelfCut; rw [if_neg (by omega)]), O, G, MP_eq hC (by unfold jS_shelfCut; rw [if_neg (by omega)]; first | done | rfl), rfl, Ext0 hO⟩)
    · replace b_5 := b_5.resolve_right (fun h => c6 h.1)
      refine lv_iload_n hx hb dX6_shelfCut_28 rfl (lv_at hl 3 rfl) ?_
      refine q_sS C0 lX6_86 (c_X6_isKey l D y L F xhigh (by omega)) ⟨rfl, rfl⟩ rfl hP rfl hl rfl (Nat.le_of_ble_eq_true rfl) dX6_shelfCut_29 ⟨Nat.zero_le _, Nat.zero_le _⟩ (fun r10 e_r10 => ?_)
      subst e_r10
      have b_11 := inR_d xhigh 0 99
      refine q_if_eq hx hb dX6_shelfCut_32 (tgt := 49) (by decide) (by omega) (fun c12 => ?_) (fun c12 => ?_)
      · replace b_11 := b_11.resolve_left (fun h => absurd (h.1.symm.trans c12) (by decide))
        refine q_iconst hx hb dX6_shelfCut_49 ?_
        refine q_vMi C0 lX6_63 (c_X6_isLet l D y L F _ O G μ 0 0 hC (by omega) (by omega)) ⟨rfl, rfl⟩ rfl hP hD hS hA hC.1.1 hC.1.2 rfl rfl rfl hl rfl (Nat.le_of_ble_eq_true rfl) dX6_shelfCut_50 ⟨Nat.le_of_ble_eq_true rfl, Nat.le_of_ble_eq_true rfl⟩ (fun r13 H locs L14 F14 hP hD hS hz14 hp14 => ?_)
        obtain ⟨eL, hC, er, hO1⟩ := hp14
        subst eL
        replace er := (er.trans (show okR 0 0 = 0 from rfl)).symm
        subst er
        have hO := hO.tr hO1
        refine q_if_ne hx hb dX6_shelfCut_53 (tgt := 58) (by decide) (by omega) (fun c15 => absurd c15 (by omega)) (fun c15 => ?_)
        refine q_iconst hx hb dX6_shelfCut_56 ?_
        refine W.widen (k := 4) (n := 204) (Nat.le_of_ble_eq_true rfl) (Nat.le_of_ble_eq_true rfl) ?_
        exact q_retMi C0 hret rfl hlk dX6_shelfCut_57 hP hD hS (⟨(by unfold jR_shelfCut; rw [if_neg (by omega)]), O, G, MP_eq hC (by unfold jS_shelfCut; rw [if_neg (by omega)]; first | done | rfl), rfl, Ext0 hO⟩)
      · replace b_11 := b_11.resolve_right (fun h => c12 h.1)
        refine lv_iload hx hb dX6_shelfCut_35 (lv_at hl 4 rfl) ?_
        refine q_iconst hx hb dX6_shelfCut_37 ?_
        refine q_iconst hx hb dX6_shelfCut_38 ?_
        refine q_sS C0 lX6_41 (c_X6_isIn l D y L F xt 0 4 (by omega) (by omega) (by omega)) ⟨rfl, rfl⟩ rfl hP rfl hl rfl (Nat.le_of_ble_eq_true rfl) dX6_shelfCut_39 ⟨Nat.zero_le _, Nat.zero_le _⟩ (fun r16 e_r16 => ?_)
        subst e_r16
        have b_17 := inR_d xt 0 4
        refine q_if_eq hx hb dX6_shelfCut_42 (tgt := 49) (by decide) (by omega) (fun c18 => ?_) (fun c18 => ?_)
        · replace b_17 := b_17.resolve_left (fun h => absurd (h.1.symm.trans c18) (by decide))
          refine q_iconst hx hb dX6_shelfCut_49 ?_
          refine q_vMi C0 lX6_63 (c_X6_isLet l D y L F _ O G μ 0 0 hC (by omega) (by omega)) ⟨rfl, rfl⟩ rfl hP hD hS hA hC.1.1 hC.1.2 rfl rfl rfl hl rfl (Nat.le_of_ble_eq_true rfl) dX6_shelfCut_50 ⟨Nat.le_of_ble_eq_true rfl, Nat.le_of_ble_eq_true rfl⟩ (fun r19 H locs L20 F20 hP hD hS hz20 hp20 => ?_)
          obtain ⟨eL, hC, er, hO1⟩ := hp20
          subst eL
          replace er := (er.trans (show okR 0 0 = 0 from rfl)).symm
          subst er
          have hO := hO.tr hO1
          refine q_if_ne hx hb dX6_shelfCut_53 (tgt := 58) (by decide) (by omega) (fun c21 => absurd c21 (by omega)) (fun c21 => ?_)
          refine q_iconst hx hb dX6_shelfCut_56 ?_
          refine W.widen (k := 4) (n := 204) (Nat.le_of_ble_eq_true rfl) (Nat.le_of_ble_eq_true rfl) ?_
          exact q_retMi C0 hret rfl hlk dX6_shelfCut_57 hP hD hS (⟨(by unfold jR_shelfCut; rw [if_neg (by omega)]), O, G, MP_eq hC (by unfold jS_shelfCut; rw [if_neg (by omega)]; first | done | rfl), rfl, Ext0 hO⟩)
        · replace b_17 := b_17.resolve_right (fun h => c18 h.1)
          refine q_iconst hx hb dX6_shelfCut_45 ?_
          refine lv_goto (tgt := 50) hx hb dX6_shelfCut_46 (by decide) ?_
          refine q_vMi C0 lX6_63 (c_X6_isLet l D y L F _ O G μ 0 1 hC (by omega) (by omega)) ⟨rfl, rfl⟩ rfl hP hD hS hA hC.1.1 hC.1.2 rfl rfl rfl hl rfl (Nat.le_of_ble_eq_true rfl) dX6_shelfCut_50 ⟨Nat.le_of_ble_eq_true rfl, Nat.le_of_ble_eq_true rfl⟩ (fun r22 H locs L23 F23 hP hD hS hz23 hp23 => ?_)
          obtain ⟨eL, hC, er, hO1⟩ := hp23
          subst eL
          replace er := (er.trans (okR_z0 _)).symm
          subst er
          have hO := hO.tr hO1
          refine q_if_ne hx hb dX6_shelfCut_53 (tgt := 58) (by decide) (by omega) (fun c24 => absurd c24 (by omega)) (fun c24 => ?_)
          refine q_iconst hx hb dX6_shelfCut_56 ?_
          refine W.widen (k := 4) (n := 204) (Nat.le_of_ble_eq_true rfl) (Nat.le_of_ble_eq_true rfl) ?_
          exact q_retMi C0 hret rfl hlk dX6_shelfCut_57 hP hD hS (⟨(by unfold jR_shelfCut; rw [if_neg (by omega)]), O, G, MP_eq hC (by unfold jS_shelfCut; rw [if_neg (by omega)]; first | done | rfl), rfl, Ext0 hO⟩)
  · replace b_2 := b_2.resolve_right (fun h => c3 h.1)
    refine lv_iload hx hb dX6_shelfCut_8 (lv_at hl 5 rfl) ?_
    refine q_sS C0 lX6_193 (c_X6_isShelf l D y L F xc (by omega)) ⟨rfl, rfl⟩ rfl hP rfl hl rfl (Nat.le_of_ble_eq_true rfl) dX6_shelfCut_10 ⟨Nat.zero_le _, Nat.zero_le _⟩ (fun r25 e_r25 => ?_)
    subst e_r25
    have b_26 := inR_d xc 0 2
    refine q_if_eq hx hb dX6_shelfCut_13 (tgt := 20) (by decide) (by omega) (fun c27 => ?_) (fun c27 => ?_)
    · replace b_26 := b_26.resolve_left (fun h => absurd (h.1.symm.trans c27) (by decide))
      refine q_iconst hx hb dX6_shelfCut_20 ?_
      refine lv_iload_n hx hb dX6_shelfCut_21 rfl (lv_at hl 2 rfl) ?_
      refine q_sS C0 lX6_86 (c_X6_isKey l D y L F xlow (by omega)) ⟨rfl, rfl⟩ rfl hP rfl hl rfl (Nat.le_of_ble_eq_true rfl) dX6_shelfCut_22 ⟨Nat.zero_le _, Nat.zero_le _⟩ (fun r28 e_r28 => ?_)
      subst e_r28
      have b_29 := inR_d xlow 0 99
      refine q_if_eq hx hb dX6_shelfCut_25 (tgt := 49) (by decide) (by omega) (fun c30 => ?_) (fun c30 => ?_)
      · replace b_29 := b_29.resolve_left (fun h => absurd (h.1.symm.trans c30) (by decide))
        refine q_iconst hx hb dX6_shelfCut_49 ?_
        refine q_vMi C0 lX6_63 (c_X6_isLet l D y L F _ O G μ 0 0 hC (by omega) (by omega)) ⟨rfl, rfl⟩ rfl hP hD hS hA hC.1.1 hC.1.2 rfl rfl rfl hl rfl (Nat.le_of_ble_eq_true rfl) dX6_shelfCut_50 ⟨Nat.le_of_ble_eq_true rfl, Nat.le_of_ble_eq_true rfl⟩ (fun r31 H locs L32 F32 hP hD hS hz32 hp32 => ?_)
        obtain ⟨eL, hC, er, hO1⟩ := hp32
        subst eL
        replace er := (er.trans (show okR 0 0 = 0 from rfl)).symm
        subst er
        have hO := hO.tr hO1
        refine q_if_ne hx hb dX6_shelfCut_53 (tgt := 58) (by decide) (by omega) (fun c33 => absurd c33 (by omega)) (fun c33 => ?_)
        refine q_iconst hx hb dX6_shelfCut_56 ?_
        refine W.widen (k := 4) (n := 204) (Nat.le_of_ble_eq_true rfl) (Nat.le_of_ble_eq_true rfl) ?_
        exact q_retMi C0 hret rfl hlk dX6_shelfCut_57 hP hD hS (⟨(by unfold jR_shelfCut; rw [if_neg (by omega)]), O, G, MP_eq hC (by unfold jS_shelfCut; rw [if_neg (by omega)]; first | done | rfl), rfl, Ext0 hO⟩)
      · replace b_29 := b_29.resolve_right (fun h => c30 h.1)
        refine lv_iload_n hx hb dX6_shelfCut_28 rfl (lv_at hl 3 rfl) ?_
        refine q_sS C0 lX6_86 (c_X6_isKey l D y L F xhigh (by omega)) ⟨rfl, rfl⟩ rfl hP rfl hl rfl (Nat.le_of_ble_eq_true rfl) dX6_shelfCut_29 ⟨Nat.zero_le _, Nat.zero_le _⟩ (fun r34 e_r34 => ?_)
        subst e_r34
        have b_35 := inR_d xhigh 0 99
        refine q_if_eq hx hb dX6_shelfCut_32 (tgt := 49) (by decide) (by omega) (fun c36 => ?_) (fun c36 => ?_)
        · replace b_35 := b_35.resolve_left (fun h => absurd (h.1.symm.trans c36) (by decide))
          refine q_iconst hx hb dX6_shelfCut_49 ?_
          refine q_vMi C0 lX6_63 (c_X6_isLet l D y L F _ O G μ 0 0 hC (by omega) (by omega)) ⟨rfl, rfl⟩ rfl hP hD hS hA hC.1.1 hC.1.2 rfl rfl rfl hl rfl (Nat.le_of_ble_eq_true rfl) dX6_shelfCut_50 ⟨Nat.le_of_ble_eq_true rfl, Nat.le_of_ble_eq_true rfl⟩ (fun r37 H locs L38 F38 hP hD hS hz38 hp38 => ?_)
          obtain ⟨eL, hC, er, hO1⟩ := hp38
          subst eL
          replace er := (er.trans (show okR 0 0 = 0 from rfl)).symm
          subst er
          have hO := hO.tr hO1
          refine q_if_ne hx hb dX6_shelfCut_53 (tgt := 58) (by decide) (by omega) (fun c39 => absurd c39 (by omega)) (fun c39 => ?_)
          refine q_iconst hx hb dX6_shelfCut_56 ?_
          refine W.widen (k := 4) (n := 204) (Nat.le_of_ble_eq_true rfl) (Nat.le_of_ble_eq_true rfl) ?_
          exact q_retMi C0 hret rfl hlk dX6_shelfCut_57 hP hD hS (⟨(by unfold jR_shelfCut; rw [if_neg (by omega)]), O, G, MP_eq hC (by unfold jS_shelfCut; rw [if_neg (by omega)]; first | done | rfl), rfl, Ext0 hO⟩)
        · replace b_35 := b_35.resolve_right (fun h => c36 h.1)
          refine lv_iload hx hb dX6_shelfCut_35 (lv_at hl 4 rfl) ?_
          refine q_iconst hx hb dX6_shelfCut_37 ?_
          refine q_iconst hx hb dX6_shelfCut_38 ?_
          refine q_sS C0 lX6_41 (c_X6_isIn l D y L F xt 0 4 (by omega) (by omega) (by omega)) ⟨rfl, rfl⟩ rfl hP rfl hl rfl (Nat.le_of_ble_eq_true rfl) dX6_shelfCut_39 ⟨Nat.zero_le _, Nat.zero_le _⟩ (fun r40 e_r40 => ?_)
          subst e_r40
          have b_41 := inR_d xt 0 4
          refine q_if_eq hx hb dX6_shelfCut_42 (tgt := 49) (by decide) (by omega) (fun c42 => ?_) (fun c42 => ?_)
          · replace b_41 := b_41.resolve_left (fun h => absurd (h.1.symm.trans c42) (by decide))
            refine q_iconst hx hb dX6_shelfCut_49 ?_
            refine q_vMi C0 lX6_63 (c_X6_isLet l D y L F _ O G μ 0 0 hC (by omega) (by omega)) ⟨rfl, rfl⟩ rfl hP hD hS hA hC.1.1 hC.1.2 rfl rfl rfl hl rfl (Nat.le_of_ble_eq_true rfl) dX6_shelfCut_50 ⟨Nat.le_of_ble_eq_true rfl, Nat.le_of_ble_eq_true rfl⟩ (fun r43 H locs L44 F44 hP hD hS hz44 hp44 => ?_)
            obtain ⟨eL, hC, er, hO1⟩ := hp44
            subst eL
            replace er := (er.trans (show okR 0 0 = 0 from rfl)).symm
            subst er
            have hO := hO.tr hO1
            refine q_if_ne hx hb dX6_shelfCut_53 (tgt := 58) (by decide) (by omega) (fun c45 => absurd c45 (by omega)) (fun c45 => ?_)
            refine q_iconst hx hb dX6_shelfCut_56 ?_
            refine W.widen (k := 4) (n := 204) (Nat.le_of_ble_eq_true rfl) (Nat.le_of_ble_eq_true rfl) ?_
            exact q_retMi C0 hret rfl hlk dX6_shelfCut_57 hP hD hS (⟨(by unfold jR_shelfCut; rw [if_neg (by omega)]), O, G, MP_eq hC (by unfold jS_shelfCut; rw [if_neg (by omega)]; first | done | rfl), rfl, Ext0 hO⟩)
          · replace b_41 := b_41.resolve_right (fun h => c42 h.1)
            refine q_iconst hx hb dX6_shelfCut_45 ?_
            refine lv_goto (tgt := 50) hx hb dX6_shelfCut_46 (by decide) ?_
            refine q_vMi C0 lX6_63 (c_X6_isLet l D y L F _ O G μ 0 1 hC (by omega) (by omega)) ⟨rfl, rfl⟩ rfl hP hD hS hA hC.1.1 hC.1.2 rfl rfl rfl hl rfl (Nat.le_of_ble_eq_true rfl) dX6_shelfCut_50 ⟨Nat.le_of_ble_eq_true rfl, Nat.le_of_ble_eq_true rfl⟩ (fun r46 H locs L47 F47 hP hD hS hz47 hp47 => ?_)
            obtain ⟨eL, hC, er, hO1⟩ := hp47
            subst eL
            replace er := (er.trans (okR_z0 _)).symm
            subst er
            have hO := hO.tr hO1
            refine q_if_ne hx hb dX6_shelfCut_53 (tgt := 58) (by decide) (by omega) (fun c48 => absurd c48 (by omega)) (fun c48 => ?_)
            refine q_iconst hx hb dX6_shelfCut_56 ?_
            refine W.widen (k := 4) (n := 204) (Nat.le_of_ble_eq_true rfl) (Nat.le_of_ble_eq_true rfl) ?_
            exact q_retMi C0 hret rfl hlk dX6_shelfCut_57 hP hD hS (⟨(by unfold jR_shelfCut; rw [if_neg (by omega)]), O, G, MP_eq hC (by unfold jS_shelfCut; rw [if_neg (by omega)]; first | done | rfl), rfl, Ext0 hO⟩)
    · replace b_26 := b_26.resolve_right (fun h => c27 h.1)
      refine q_iconst hx hb dX6_shelfCut_16 ?_
      refine lv_goto (tgt := 21) hx hb dX6_shelfCut_17 (by decide) ?_
      refine lv_iload_n hx hb dX6_shelfCut_21 rfl (lv_at hl 2 rfl) ?_
      refine q_sS C0 lX6_86 (c_X6_isKey l D y L F xlow (by omega)) ⟨rfl, rfl⟩ rfl hP rfl hl rfl (Nat.le_of_ble_eq_true rfl) dX6_shelfCut_22 ⟨Nat.zero_le _, Nat.zero_le _⟩ (fun r49 e_r49 => ?_)
      subst e_r49
      have b_50 := inR_d xlow 0 99
      refine q_if_eq hx hb dX6_shelfCut_25 (tgt := 49) (by decide) (by omega) (fun c51 => ?_) (fun c51 => ?_)
      · replace b_50 := b_50.resolve_left (fun h => absurd (h.1.symm.trans c51) (by decide))
        refine q_iconst hx hb dX6_shelfCut_49 ?_
        refine q_vMi C0 lX6_63 (c_X6_isLet l D y L F _ O G μ 1 0 hC (by omega) (by omega)) ⟨rfl, rfl⟩ rfl hP hD hS hA hC.1.1 hC.1.2 rfl rfl rfl hl rfl (Nat.le_of_ble_eq_true rfl) dX6_shelfCut_50 ⟨Nat.le_of_ble_eq_true rfl, Nat.le_of_ble_eq_true rfl⟩ (fun r52 H locs L53 F53 hP hD hS hz53 hp53 => ?_)
        obtain ⟨eL, hC, er, hO1⟩ := hp53
        subst eL
        replace er := (er.trans (show okR 1 0 = 0 from rfl)).symm
        subst er
        have hO := hO.tr hO1
        refine q_if_ne hx hb dX6_shelfCut_53 (tgt := 58) (by decide) (by omega) (fun c54 => absurd c54 (by omega)) (fun c54 => ?_)
        refine q_iconst hx hb dX6_shelfCut_56 ?_
        refine W.widen (k := 4) (n := 204) (Nat.le_of_ble_eq_true rfl) (Nat.le_of_ble_eq_true rfl) ?_
        exact q_retMi C0 hret rfl hlk dX6_shelfCut_57 hP hD hS (⟨(by unfold jR_shelfCut; rw [if_neg (by omega)]), O, G, MP_eq hC (by unfold jS_shelfCut; rw [if_pos (by omega), if_neg (by omega)]; first | done | rfl), rfl, Ext0 hO⟩)
      · replace b_50 := b_50.resolve_right (fun h => c51 h.1)
        refine lv_iload_n hx hb dX6_shelfCut_28 rfl (lv_at hl 3 rfl) ?_
        refine q_sS C0 lX6_86 (c_X6_isKey l D y L F xhigh (by omega)) ⟨rfl, rfl⟩ rfl hP rfl hl rfl (Nat.le_of_ble_eq_true rfl) dX6_shelfCut_29 ⟨Nat.zero_le _, Nat.zero_le _⟩ (fun r55 e_r55 => ?_)
        subst e_r55
        have b_56 := inR_d xhigh 0 99
        refine q_if_eq hx hb dX6_shelfCut_32 (tgt := 49) (by decide) (by omega) (fun c57 => ?_) (fun c57 => ?_)
        · replace b_56 := b_56.resolve_left (fun h => absurd (h.1.symm.trans c57) (by decide))
          refine q_iconst hx hb dX6_shelfCut_49 ?_
          refine q_vMi C0 lX6_63 (c_X6_isLet l D y L F _ O G μ 1 0 hC (by omega) (by omega)) ⟨rfl, rfl⟩ rfl hP hD hS hA hC.1.1 hC.1.2 rfl rfl rfl hl rfl (Nat.le_of_ble_eq_true rfl) dX6_shelfCut_50 ⟨Nat.le_of_ble_eq_true rfl, Nat.le_of_ble_eq_true rfl⟩ (fun r58 H locs L59 F59 hP hD hS hz59 hp59 => ?_)
          obtain ⟨eL, hC, er, hO1⟩ := hp59
          subst eL
          replace er := (er.trans (show okR 1 0 = 0 from rfl)).symm
          subst er
          have hO := hO.tr hO1
          refine q_if_ne hx hb dX6_shelfCut_53 (tgt := 58) (by decide) (by omega) (fun c60 => absurd c60 (by omega)) (fun c60 => ?_)
          refine q_iconst hx hb dX6_shelfCut_56 ?_
          refine W.widen (k := 4) (n := 204) (Nat.le_of_ble_eq_true rfl) (Nat.le_of_ble_eq_true rfl) ?_
          exact q_retMi C0 hret rfl hlk dX6_shelfCut_57 hP hD hS (⟨(by unfold jR_shelfCut; rw [if_neg (by omega)]), O, G, MP_eq hC (by unfold jS_shelfCut; rw [if_pos (by omega), if_neg (by omega)]; first | done | rfl), rfl, Ext0 hO⟩)
        · replace b_56 := b_56.resolve_right (fun h => c57 h.1)
          refine lv_iload hx hb dX6_shelfCut_35 (lv_at hl 4 rfl) ?_
          refine q_iconst hx hb dX6_shelfCut_37 ?_
          refine q_iconst hx hb dX6_shelfCut_38 ?_
          refine q_sS C0 lX6_41 (c_X6_isIn l D y L F xt 0 4 (by omega) (by omega) (by omega)) ⟨rfl, rfl⟩ rfl hP rfl hl rfl (Nat.le_of_ble_eq_true rfl) dX6_shelfCut_39 ⟨Nat.zero_le _, Nat.zero_le _⟩ (fun r61 e_r61 => ?_)
          subst e_r61
          have b_62 := inR_d xt 0 4
          refine q_if_eq hx hb dX6_shelfCut_42 (tgt := 49) (by decide) (by omega) (fun c63 => ?_) (fun c63 => ?_)
          · replace b_62 := b_62.resolve_left (fun h => absurd (h.1.symm.trans c63) (by decide))
            refine q_iconst hx hb dX6_shelfCut_49 ?_
            refine q_vMi C0 lX6_63 (c_X6_isLet l D y L F _ O G μ 1 0 hC (by omega) (by omega)) ⟨rfl, rfl⟩ rfl hP hD hS hA hC.1.1 hC.1.2 rfl rfl rfl hl rfl (Nat.le_of_ble_eq_true rfl) dX6_shelfCut_50 ⟨Nat.le_of_ble_eq_true rfl, Nat.le_of_ble_eq_true rfl⟩ (fun r64 H locs L65 F65 hP hD hS hz65 hp65 => ?_)
            obtain ⟨eL, hC, er, hO1⟩ := hp65
            subst eL
            replace er := (er.trans (show okR 1 0 = 0 from rfl)).symm
            subst er
            have hO := hO.tr hO1
            refine q_if_ne hx hb dX6_shelfCut_53 (tgt := 58) (by decide) (by omega) (fun c66 => absurd c66 (by omega)) (fun c66 => ?_)
            refine q_iconst hx hb dX6_shelfCut_56 ?_
            refine W.widen (k := 4) (n := 204) (Nat.le_of_ble_eq_true rfl) (Nat.le_of_ble_eq_true rfl) ?_
            exact q_retMi C0 hret rfl hlk dX6_shelfCut_57 hP hD hS (⟨(by unfold jR_shelfCut; rw [if_neg (by omega)]), O, G, MP_eq hC (by unfold jS_shelfCut; rw [if_pos (by omega), if_neg (by omega)]; first | done | rfl), rfl, Ext0 hO⟩)
          · replace b_62 := b_62.resolve_right (fun h => c63 h.1)
            refine q_iconst hx hb dX6_shelfCut_45 ?_
            refine lv_goto (tgt := 50) hx hb dX6_shelfCut_46 (by decide) ?_
            refine q_vMi C0 lX6_63 (c_X6_isLet l D y L F _ O G μ 1 1 hC (by omega) (by omega)) ⟨rfl, rfl⟩ rfl hP hD hS hA hC.1.1 hC.1.2 rfl rfl rfl hl rfl (Nat.le_of_ble_eq_true rfl) dX6_shelfCut_50 ⟨Nat.le_of_ble_eq_true rfl, Nat.le_of_ble_eq_true rfl⟩ (fun r67 H locs L68 F68 hP hD hS hz68 hp68 => ?_)
            obtain ⟨eL, hC, er, hO1⟩ := hp68
            subst eL
            replace er := (er.trans (show okR 1 1 = 1 from rfl)).symm
            subst er
            have hO := hO.tr hO1
            refine q_if_ne hx hb dX6_shelfCut_53 (tgt := 58) (by decide) (by omega) (fun c69 => ?_) (fun c69 => absurd c69 (by omega))
            refine lv_aload_n hx hb dX6_shelfCut_58 rfl (lv_at hl 0 rfl) ?_
            refine q_get C0 iX6 hP hC.1.1 hC.1.2 rfl 1 (by decide) flX6_15 rfl (v := .ref ((uas G))) rfl dX6_shelfCut_59 ?_
            refine lv_iload_n hx hb dX6_shelfCut_62 rfl (lv_at hl 1 rfl) ?_
            refine q_aald C0 hP hC.2.2.1.1 hC.2.2.1.2 (t := 3) rfl (by omega) (by decide) (v := .ref ((urh G (vsh μ xb)))) rfl dX6_shelfCut_63 ?_
            refine lv_astore (lv' := [(6, .ref ((urh G (vsh μ xb)))), (0, .ref ((ubg G))), (1, .int (iI xb)), (2, .int (iI xlow)), (3, .int (iI xhigh)), (4, .int (iI xt)), (5, .int (iI xc))]) hx hb dX6_shelfCut_64 hl (by decide) rfl (fun ls hl => ?_)
            refine lv_aload hx hb dX6_shelfCut_66 (lv_at hl 0 rfl) ?_
            refine lv_iload_n hx hb dX6_shelfCut_68 rfl (lv_at hl 3 rfl) ?_
            refine q_vS C0 lX6_93 (c_X5_rank l D y L F68 (urh G (vsh μ xb)) (urw G (vsh μ xb)) (vod μ (vsh μ xb)) (vst μ (vsh μ xb)) xlow (MP_r hC (hW.2.1 xb)) (by omega)) ⟨rfl, rfl⟩ rfl hP (MP_r hC (hW.2.1 xb)).1 (MP_r hC (hW.2.1 xb)).2.1 rfl rfl rfl hl rfl (Nat.le_of_ble_eq_true rfl) dX6_shelfCut_69 ⟨Nat.zero_le _, Nat.zero_le _⟩ (fun r70 e_r70 => ?_)
            subst e_r70
            have b_71 := @turn_b (vod μ (vsh μ xb)) xlow (by omega)
            refine lv_istore (lv' := [(7, .int (iI ((turn (vod μ (vsh μ xb)) xlow)))), (6, .ref ((urh G (vsh μ xb)))), (0, .ref ((ubg G))), (1, .int (iI xb)), (2, .int (iI xlow)), (3, .int (iI xhigh)), (4, .int (iI xt)), (5, .int (iI xc))]) hx hb dX6_shelfCut_72 hl (by decide) rfl (fun ls hl => ?_)
            refine lv_aload hx hb dX6_shelfCut_74 (lv_at hl 1 rfl) ?_
            refine lv_iload_n hx hb dX6_shelfCut_76 rfl (lv_at hl 5 rfl) ?_
            refine q_vS C0 lX6_93 (c_X5_rank l D y L F68 (urh G (vsh μ xb)) (urw G (vsh μ xb)) (vod μ (vsh μ xb)) (vst μ (vsh μ xb)) xhigh (MP_r hC (hW.2.1 xb)) (by omega)) ⟨rfl, rfl⟩ rfl hP (MP_r hC (hW.2.1 xb)).1 (MP_r hC (hW.2.1 xb)).2.1 rfl rfl rfl hl rfl (Nat.le_of_ble_eq_true rfl) dX6_shelfCut_77 ⟨Nat.zero_le _, Nat.zero_le _⟩ (fun r72 e_r72 => ?_)
            subst e_r72
            have b_73 := @turn_b (vod μ (vsh μ xb)) xhigh (by omega)
            refine q_iconst hx hb dX6_shelfCut_80 ?_
            refine q_isub hx hb dX6_shelfCut_81 ?_
            refine lv_istore (lv' := [(8, .int (iI (((turn (vod μ (vsh μ xb)) xhigh) - 1)))), (7, .int (iI ((turn (vod μ (vsh μ xb)) xlow)))), (6, .ref ((urh G (vsh μ xb)))), (0, .ref ((ubg G))), (1, .int (iI xb)), (2, .int (iI xlow)), (3, .int (iI xhigh)), (4, .int (iI xt)), (5, .int (iI xc))]) hx hb dX6_shelfCut_82 hl (by decide) rfl (fun ls hl => ?_)
            refine lv_iload hx hb dX6_shelfCut_84 (lv_at hl 1 rfl) ?_
            refine lv_iload hx hb dX6_shelfCut_86 (lv_at hl 0 rfl) ?_
            refine q_iconst hx hb dX6_shelfCut_88 ?_
            refine q_iadd hx hb dX6_shelfCut_89 ?_
            refine q_icmp_le hx hb dX6_shelfCut_90 (tgt := 98) (by decide) (by omega) (by omega) (fun c74 => ?_) (fun c74 => ?_)
            · refine lv_aload hx hb dX6_shelfCut_98 (lv_at hl 2 rfl) ?_
              refine lv_iload hx hb dX6_shelfCut_100 (lv_at hl 1 rfl) ?_
              refine lv_iload hx hb dX6_shelfCut_102 (lv_at hl 0 rfl) ?_
              refine q_vS C0 lX6_67 (c_X5_many l D y L F68 (urh G (vsh μ xb)) (urw G (vsh μ xb)) (vod μ (vsh μ xb)) (vst μ (vsh μ xb)) (turn (vod μ (vsh μ xb)) xlow) ((turn (vod μ (vsh μ xb)) xhigh) - 1) (MP_r hC (hW.2.1 xb)) (by omega) (by omega)) ⟨rfl, rfl⟩ rfl hP (MP_r hC (hW.2.1 xb)).1 (MP_r hC (hW.2.1 xb)).2.1 rfl rfl rfl hl rfl (Nat.le_of_ble_eq_true rfl) dX6_shelfCut_104 ⟨Nat.zero_le _, Nat.zero_le _⟩ (fun r75 e_r75 => ?_)
              subst e_r75
              refine lv_istore (lv' := [(9, .int (iI ((cntP (vst μ (vsh μ xb)) (turn (vod μ (vsh μ xb)) xlow) ((turn (vod μ (vsh μ xb)) xhigh) - 1))))), (8, .int (iI (((turn (vod μ (vsh μ xb)) xhigh) - 1)))), (7, .int (iI ((turn (vod μ (vsh μ xb)) xlow)))), (6, .ref ((urh G (vsh μ xb)))), (0, .ref ((ubg G))), (1, .int (iI xb)), (2, .int (iI xlow)), (3, .int (iI xhigh)), (4, .int (iI xt)), (5, .int (iI xc))]) hx hb dX6_shelfCut_107 hl (by decide) rfl (fun ls hl => ?_)
              refine lv_iload hx hb dX6_shelfCut_109 (lv_at hl 8 rfl) ?_
              refine q_if_ne hx hb dX6_shelfCut_111 (tgt := 117) (by decide) (by omega) (fun c76 => ?_) (fun c76 => ?_)
              · refine lv_iload hx hb dX6_shelfCut_117 (lv_at hl 8 rfl) ?_
                refine q_iconst hx hb dX6_shelfCut_119 ?_
                refine q_icmp_ne hx hb dX6_shelfCut_120 (tgt := 151) (by decide) (by omega) (by omega) (fun c77 => ?_) (fun c77 => ?_)
                · refine lv_aload_n hx hb dX6_shelfCut_151 rfl (lv_at hl 4 rfl) ?_
                  refine lv_aload hx hb dX6_shelfCut_152 (lv_at hl 3 rfl) ?_
                  refine lv_iload hx hb dX6_shelfCut_154 (lv_at hl 8 rfl) ?_
                  refine q_iconst hx hb dX6_shelfCut_156 ?_
                  refine q_icmp_ne hx hb dX6_shelfCut_157 (tgt := 164) (by decide) (by omega) (by omega) (fun c78 => ?_) (fun c78 => ?_)
                  · refine lv_iload hx hb dX6_shelfCut_164 (lv_at hl 8 rfl) ?_
                    refine q_iconst hx hb dX6_shelfCut_166 ?_
                    refine q_isub hx hb dX6_shelfCut_167 ?_
                    refine lv_iload hx hb dX6_shelfCut_168 (lv_at hl 2 rfl) ?_
                    refine lv_iload hx hb dX6_shelfCut_170 (lv_at hl 1 rfl) ?_
                    refine q_vMi C0 lX6_120 (c_X6_dropped l D y L F68 _ O G (tTh μ (ltR 1 1)) (vsh μ xb) (xt - 2) (turn (vod μ (vsh μ xb)) xlow) ((turn (vod μ (vsh μ xb)) xhigh) - 1) hC hW (hW.2.1 xb) (by omega) (by omega) (by omega)) ⟨rfl, rfl⟩ rfl hP hD hS hA hC.1.1 hC.1.2 rfl rfl rfl hl rfl (Nat.le_of_ble_eq_true rfl) dX6_shelfCut_172 ⟨Nat.le_of_ble_eq_true rfl, Nat.le_of_ble_eq_true rfl⟩ (fun r79 H locs L80 F80 hP hD hS hz80 hp80 => ?_)
                    have dr_81 := dpR_b hC (hW.2.1 xb) (xt - 2) (turn (vod μ (vsh μ xb)) xlow) ((turn (vod μ (vsh μ xb)) xhigh) - 1)
                    obtain ⟨eL, hC, er, hO1⟩ := hp80
                    subst eL
                    replace er : (dpR (tTh μ (ltR 1 1)) (vsh μ xb) (xt - 2) (turn (vod μ (vsh μ xb)) xlow) ((turn (vod μ (vsh μ xb)) xhigh) - 1)) = r79 := er.symm
                    subst er
                    have hO := hO.tr hO1
                    refine lv_istore (lv' := [(10, .int (iI ((dpR (tTh μ (ltR 1 1)) (vsh μ xb) (xt - 2) (turn (vod μ (vsh μ xb)) xlow) ((turn (vod μ (vsh μ xb)) xhigh) - 1))))), (9, .int (iI ((cntP (vst μ (vsh μ xb)) (turn (vod μ (vsh μ xb)) xlow) ((turn (vod μ (vsh μ xb)) xhigh) - 1))))), (8, .int (iI (((turn (vod μ (vsh μ xb)) xhigh) - 1)))), (7, .int (iI ((turn (vod μ (vsh μ xb)) xlow)))), (6, .ref ((urh G (vsh μ xb)))), (0, .ref ((ubg G))), (1, .int (iI xb)), (2, .int (iI xlow)), (3, .int (iI xhigh)), (4, .int (iI xt)), (5, .int (iI xc))]) hx hb dX6_shelfCut_175 hl (by decide) rfl (fun ls hl => ?_)
                    refine lv_aload_n hx hb dX6_shelfCut_177 rfl (lv_at hl 5 rfl) ?_
                    refine lv_iload hx hb dX6_shelfCut_178 (lv_at hl 9 rfl) ?_
                    refine q_iconst hx hb dX6_shelfCut_180 ?_
                    refine q_icmp_ne hx hb dX6_shelfCut_181 (tgt := 189) (by decide) (by omega) (by omega) (fun c82 => ?_) (fun c82 => absurd c82 (by omega))
                    refine lv_iload hx hb dX6_shelfCut_189 (lv_at hl 0 rfl) ?_
                    refine q_sS C0 lX6_199 (c_X6_key l D y L F80 (dpR (tTh μ (ltR 1 1)) (vsh μ xb) (xt - 2) (turn (vod μ (vsh μ xb)) xlow) ((turn (vod μ (vsh μ xb)) xhigh) - 1)) (by omega)) ⟨rfl, rfl⟩ rfl hP rfl hl rfl (Nat.le_of_ble_eq_true rfl) dX6_shelfCut_191 ⟨Nat.zero_le _, Nat.zero_le _⟩ (fun r83 e_r83 => ?_)
                    subst e_r83
                    refine q_vMi C0 lX6_196 (c_X6_laid l D y L F80 _ O G (dpS (tTh μ (ltR 1 1)) (vsh μ xb) (xt - 2) (turn (vod μ (vsh μ xb)) xlow) ((turn (vod μ (vsh μ xb)) xhigh) - 1)) (k100 (dpR (tTh μ (ltR 1 1)) (vsh μ xb) (xt - 2) (turn (vod μ (vsh μ xb)) xlow) ((turn (vod μ (vsh μ xb)) xhigh) - 1))) hC) ⟨rfl, rfl⟩ rfl hP hD hS hA hC.1.1 hC.1.2 rfl rfl rfl hl rfl (Nat.le_of_ble_eq_true rfl) dX6_shelfCut_194 ⟨Nat.le_of_ble_eq_true rfl, Nat.le_of_ble_eq_true rfl⟩ (fun r84 H locs L85 F85 hP hD hS hz85 hp85 => ?_)
                    obtain ⟨eL, hC, er, hO1⟩ := hp85
                    subst eL
                    replace er : (k100 (dpR (tTh μ (ltR 1 1)) (vsh μ xb) (xt - 2) (turn (vod μ (vsh μ xb)) xlow) ((turn (vod μ (vsh μ xb)) xhigh) - 1))) = r84 := er.symm
                    subst er
                    have hO := hO.tr hO1
                    refine W.widen (k := 4) (n := 204) (Nat.le_of_ble_eq_true rfl) (Nat.le_of_ble_eq_true rfl) ?_
                    exact q_retMi C0 hret rfl hlk dX6_shelfCut_197 hP hD hS (⟨(by 
    have lt_ := ltR_d 1 1
    unfold jR_shelfCut ; (try rw [show ltR 1 1 = 0 by omega]); (repeat (first | rw [if_pos (by omega)] | rw [if_neg (by omega)]))
    all_goals (first | rfl | omega | (exfalso; omega))), O, G, MP_eq hC (by 
    have lt_ := ltR_d 1 1
    unfold jS_shelfCut ; rw [show ltR 1 1 = 0 by omega]; (repeat (first | rw [if_pos (by omega)] | rw [if_neg (by omega)]))
    all_goals (first | rfl | (exfalso; omega))), rfl, Ext0 hO⟩)
                  · refine q_iconst hx hb dX6_shelfCut_160 ?_
                    refine lv_goto (tgt := 168) hx hb dX6_shelfCut_161 (by decide) ?_
                    refine lv_iload hx hb dX6_shelfCut_168 (lv_at hl 2 rfl) ?_
                    refine lv_iload hx hb dX6_shelfCut_170 (lv_at hl 1 rfl) ?_
                    refine q_vMi C0 lX6_120 (c_X6_dropped l D y L F68 _ O G (tTh μ (ltR 1 1)) (vsh μ xb) 2 (turn (vod μ (vsh μ xb)) xlow) ((turn (vod μ (vsh μ xb)) xhigh) - 1) hC hW (hW.2.1 xb) (by omega) (by omega) (by omega)) ⟨rfl, rfl⟩ rfl hP hD hS hA hC.1.1 hC.1.2 rfl rfl rfl hl rfl (Nat.le_of_ble_eq_true rfl) dX6_shelfCut_172 ⟨Nat.le_of_ble_eq_true rfl, Nat.le_of_ble_eq_true rfl⟩ (fun r86 H locs L87 F87 hP hD hS hz87 hp87 => ?_)
                    have dr_88 := dpR_b hC (hW.2.1 xb) 2 (turn (vod μ (vsh μ xb)) xlow) ((turn (vod μ (vsh μ xb)) xhigh) - 1)
                    obtain ⟨eL, hC, er, hO1⟩ := hp87
                    subst eL
                    replace er : (dpR (tTh μ (ltR 1 1)) (vsh μ xb) 2 (turn (vod μ (vsh μ xb)) xlow) ((turn (vod μ (vsh μ xb)) xhigh) - 1)) = r86 := er.symm
                    subst er
                    have hO := hO.tr hO1
                    refine lv_istore (lv' := [(10, .int (iI ((dpR (tTh μ (ltR 1 1)) (vsh μ xb) 2 (turn (vod μ (vsh μ xb)) xlow) ((turn (vod μ (vsh μ xb)) xhigh) - 1))))), (9, .int (iI ((cntP (vst μ (vsh μ xb)) (turn (vod μ (vsh μ xb)) xlow) ((turn (vod μ (vsh μ xb)) xhigh) - 1))))), (8, .int (iI (((turn (vod μ (vsh μ xb)) xhigh) - 1)))), (7, .int (iI ((turn (vod μ (vsh μ xb)) xlow)))), (6, .ref ((urh G (vsh μ xb)))), (0, .ref ((ubg G))), (1, .int (iI xb)), (2, .int (iI xlow)), (3, .int (iI xhigh)), (4, .int (iI xt)), (5, .int (iI xc))]) hx hb dX6_shelfCut_175 hl (by decide) rfl (fun ls hl => ?_)
                    refine lv_aload_n hx hb dX6_shelfCut_177 rfl (lv_at hl 5 rfl) ?_
                    refine lv_iload hx hb dX6_shelfCut_178 (lv_at hl 9 rfl) ?_
                    refine q_iconst hx hb dX6_shelfCut_180 ?_
                    refine q_icmp_ne hx hb dX6_shelfCut_181 (tgt := 189) (by decide) (by omega) (by omega) (fun c89 => absurd c89 (by omega)) (fun c89 => ?_)
                    refine lv_iload hx hb dX6_shelfCut_184 (lv_at hl 1 rfl) ?_
                    refine lv_goto (tgt := 194) hx hb dX6_shelfCut_186 (by decide) ?_
                    refine q_vMi C0 lX6_196 (c_X6_laid l D y L F87 _ O G (dpS (tTh μ (ltR 1 1)) (vsh μ xb) 2 (turn (vod μ (vsh μ xb)) xlow) ((turn (vod μ (vsh μ xb)) xhigh) - 1)) (cntP (vst μ (vsh μ xb)) (turn (vod μ (vsh μ xb)) xlow) ((turn (vod μ (vsh μ xb)) xhigh) - 1)) hC) ⟨rfl, rfl⟩ rfl hP hD hS hA hC.1.1 hC.1.2 rfl rfl rfl hl rfl (Nat.le_of_ble_eq_true rfl) dX6_shelfCut_194 ⟨Nat.le_of_ble_eq_true rfl, Nat.le_of_ble_eq_true rfl⟩ (fun r90 H locs L91 F91 hP hD hS hz91 hp91 => ?_)
                    obtain ⟨eL, hC, er, hO1⟩ := hp91
                    subst eL
                    replace er : (cntP (vst μ (vsh μ xb)) (turn (vod μ (vsh μ xb)) xlow) ((turn (vod μ (vsh μ xb)) xhigh) - 1)) = r90 := er.symm
                    subst er
                    have hO := hO.tr hO1
                    refine W.widen (k := 4) (n := 204) (Nat.le_of_ble_eq_true rfl) (Nat.le_of_ble_eq_true rfl) ?_
                    exact q_retMi C0 hret rfl hlk dX6_shelfCut_197 hP hD hS (⟨(by 
    have lt_ := ltR_d 1 1
    unfold jR_shelfCut ; (try rw [show ltR 1 1 = 0 by omega]); (repeat (first | rw [if_pos (by omega)] | rw [if_neg (by omega)]))
    all_goals (first | rfl | omega | (exfalso; omega))), O, G, MP_eq hC (by 
    have lt_ := ltR_d 1 1
    unfold jS_shelfCut ; rw [show ltR 1 1 = 0 by omega]; (repeat (first | rw [if_pos (by omega)] | rw [if_neg (by omega)]))
    all_goals (first | rfl | (exfalso; omega))), rfl, Ext0 hO⟩)
                · refine lv_aload_n hx hb dX6_shelfCut_123 rfl (lv_at hl 4 rfl) ?_
                  refine q_get C0 iX6 hP hC.1.1 hC.1.2 rfl 1 (by decide) flX6_15 rfl (v := .ref ((uas G))) rfl dX6_shelfCut_124 ?_
                  refine lv_iload hx hb dX6_shelfCut_127 (lv_at hl 9 rfl) ?_
                  refine lv_aload hx hb dX6_shelfCut_129 (lv_at hl 3 rfl) ?_
                  refine lv_aload hx hb dX6_shelfCut_131 (lv_at hl 3 rfl) ?_
                  refine q_getN C0 iX5 hP (MP_r hC (hW.2.1 xb)).1 (MP_r hC (hW.2.1 xb)).2.1 rfl 0 (by decide) C0.2.2.2.2.2.2.2.1 rfl (v := .int (iI ((vod μ (vsh μ xb))))) rfl dX6_shelfCut_133 ?_
                  refine lv_iload hx hb dX6_shelfCut_136 (lv_at hl 2 rfl) ?_
                  refine lv_iload hx hb dX6_shelfCut_138 (lv_at hl 1 rfl) ?_
                  refine q_vMa C0 lX6_78 (c_X5_like l D y L F68 _ (urh G (vsh μ xb)) (urw G (vsh μ xb)) (vod μ (vsh μ xb)) (vst μ (vsh μ xb)) (vod μ (vsh μ xb)) (turn (vod μ (vsh μ xb)) xlow) ((turn (vod μ (vsh μ xb)) xhigh) - 1) (MP_r hC (hW.2.1 xb)) (by omega) (by omega) (by omega)) ⟨rfl, rfl⟩ rfl hP hD hS hA (MP_r hC (hW.2.1 xb)).1 (MP_r hC (hW.2.1 xb)).2.1 rfl rfl rfl hl rfl (Nat.le_of_ble_eq_true rfl) dX6_shelfCut_140 ⟨Nat.le_of_ble_eq_true rfl, Nat.le_of_ble_eq_true rfl⟩ (fun r92 H locs L93 F93 hP hD hS hz93 hp93 => ?_)
                  refine W.widen (k := 2) (n := 102) (Nat.le_of_ble_eq_true rfl) (Nat.le_of_ble_eq_true rfl) ?_
                  obtain ⟨r92q, eL, hr_, hq_, hrq_, hRn, hfn⟩ := hp93
                  subst eL
                  have hRm : MB y ((L ++ [r92]) ++ [r92q]) F93 r92 r92q (vod μ (vsh μ xb)) (mlk (vod μ (vsh μ xb)) (vod μ (vsh μ xb)) (vst μ (vsh μ xb)) (turn (vod μ (vsh μ xb)) xlow) ((turn (vod μ (vsh μ xb)) xhigh) - 1) emp) := hRn
                  have hC : MP y ((L ++ [r92]) ++ [r92q]) F93 (fun a => O a ∨ a ∉ L) (uNw G (vn μ) r92 r92q) (tNw (tTh μ (ltR 1 1)) (vod μ (vsh μ xb)) (mlk (vod μ (vsh μ xb)) (vod μ (vsh μ xb)) (vst μ (vsh μ xb)) (turn (vod μ (vsh μ xb)) xlow) ((turn (vod μ (vsh μ xb)) xhigh) - 1) emp)) := MP_new (μ := (tTh μ (ltR 1 1))) (G := G) (o := (vod μ (vsh μ xb))) (g := (mlk (vod μ (vsh μ xb)) (vod μ (vsh μ xb)) (vst μ (vsh μ xb)) (turn (vod μ (vsh μ xb)) xlow) ((turn (vod μ (vsh μ xb)) xhigh) - 1) emp)) (F1 := F93) hC rfl hr_ hq_ hRm hfn ⟨hW.1, hW.2.1, hW.2.2.1, hW.2.2.2.1⟩
                  have hE : ∀ q ∈ L, ¬ O q → F93 q = F q := fun q h1 h2 => (hfn q h1).trans (hO q h2)
                  have hO : OE (fun a => O a ∨ a ∉ L) F93 F93 := fun _ _ => rfl
                  have er : urh (uNw G (vn μ) r92 r92q) (vn μ) = r92 := va_up_self _ _ _
                  have eo_0 : urh G (vsh μ xb) = urh (uNw G (vn μ) r92 r92q) (vsh μ xb) := (va_up_ne _ _ (Nat.ne_of_lt (hW.2.1 xb))).symm
                  rw [eo_0] at hl
                  refine q_aast C0 hP hD hS hC.2.2.1.1 hC.2.2.1.2 (t := 3) (r := (RX5, TX5, 2)) rfl hRm.1 hRm.2.1 rfl (by omega) (by decide) dX6_shelfCut_143 (fun H locs hP hD hS => ?_)
                  obtain ⟨F94, eF94⟩ : ∃ z, z = va_up F93 (uas (uNw G (vn μ) r92 r92q)) (arrQ (y 3) 3 (iu (fun j => some (urh (uNw G (vn μ) r92 r92q) (vsh (tNw (tTh μ (ltR 1 1)) (vod μ (vsh μ xb)) (mlk (vod μ (vsh μ xb)) (vod μ (vsh μ xb)) (vst μ (vsh μ xb)) (turn (vod μ (vsh μ xb)) xlow) ((turn (vod μ (vsh μ xb)) xhigh) - 1) emp)) j))) xc (some r92))) := ⟨_, rfl⟩
                  have hP : va_P D vwCl (va_pl ((L ++ [r92]) ++ [r92q]) F94) H := by rw [eF94]; exact hP
                  have hD : va_D (AL L sz) (va_pl ((L ++ [r92]) ++ [r92q]) F94) := by rw [eF94]; exact hD
                  have hO : OE (fun a => O a ∨ a ∉ L) F93 F94 := by rw [eF94]; exact hO.tr (OE1 (MP_O hC).2.2.1)
                  have hC : MP y ((L ++ [r92]) ++ [r92q]) F94 (fun a => O a ∨ a ∉ L) (uNw G (vn μ) r92 r92q) (tSh (tNw (tTh μ (ltR 1 1)) (vod μ (vsh μ xb)) (mlk (vod μ (vsh μ xb)) (vod μ (vsh μ xb)) (vst μ (vsh μ xb)) (turn (vod μ (vsh μ xb)) xlow) ((turn (vod μ (vsh μ xb)) xhigh) - 1) emp)) xc (vn μ)) := by rw [eF94]; exact MP_sh hC (by rw [er]; exact va_up_self _ _ _) (fun q hq => va_up_ne _ _ hq)
                  refine lv_aload_n hx hb dX6_shelfCut_144 rfl (lv_at hl 4 rfl) ?_
                  refine lv_iload hx hb dX6_shelfCut_145 (lv_at hl 0 rfl) ?_
                  refine q_vMi C0 lX6_196 (c_X6_laid l D y ((L ++ [r92]) ++ [r92q]) F94 _ (fun a => O a ∨ a ∉ L) (uNw G (vn μ) r92 r92q) (tSh (tNw (tTh μ (ltR 1 1)) (vod μ (vsh μ xb)) (mlk (vod μ (vsh μ xb)) (vod μ (vsh μ xb)) (vst μ (vsh μ xb)) (turn (vod μ (vsh μ xb)) xlow) ((turn (vod μ (vsh μ xb)) xhigh) - 1) emp)) xc (vn μ)) (cntP (vst μ (vsh μ xb)) (turn (vod μ (vsh μ xb)) xlow) ((turn (vod μ (vsh μ xb)) xhigh) - 1)) hC) ⟨rfl, rfl⟩ rfl hP hD hS hA hC.1.1 hC.1.2 rfl rfl rfl hl rfl (Nat.le_of_ble_eq_true rfl) dX6_shelfCut_147 ⟨Nat.le_of_ble_eq_true rfl, Nat.le_of_ble_eq_true rfl⟩ (fun r95 H locs L96 F96 hP hD hS hz96 hp96 => ?_)
                  obtain ⟨eL, hC, er, hO1⟩ := hp96
                  subst eL
                  replace er : (cntP (vst μ (vsh μ xb)) (turn (vod μ (vsh μ xb)) xlow) ((turn (vod μ (vsh μ xb)) xhigh) - 1)) = r95 := er.symm
                  subst er
                  have hO := hO.tr hO1
                  refine W.widen (k := 4) (n := 204) (Nat.le_of_ble_eq_true rfl) (Nat.le_of_ble_eq_true rfl) ?_
                  exact q_retMi C0 hret rfl hlk dX6_shelfCut_150 hP hD hS (⟨(by 
    have lt_ := ltR_d 1 1
    unfold jR_shelfCut ; (try rw [show ltR 1 1 = 0 by omega]); (repeat (first | rw [if_pos (by omega)] | rw [if_neg (by omega)]))
    all_goals (first | rfl | omega | (exfalso; omega))), (fun a => O a ∨ a ∉ L), (uNw G (vn μ) r92 r92q), MP_eq hC (by 
    have lt_ := ltR_d 1 1
    unfold jS_shelfCut ; rw [show ltR 1 1 = 0 by omega]; (repeat (first | rw [if_pos (by omega)] | rw [if_neg (by omega)]))
    all_goals (first | rfl | (exfalso; omega))), rfl, ⟨fun q h => List.mem_append_left _ (List.mem_append_left _ h), fun q h1 h2 => (hO q (fun z => z.elim h2 (fun w => w h1))).trans (hE q h1 h2), fun q h => h⟩⟩)
              · refine lv_iload hx hb dX6_shelfCut_114 (lv_at hl 0 rfl) ?_
                refine W.widen (k := 4) (n := 204) (Nat.le_of_ble_eq_true rfl) (Nat.le_of_ble_eq_true rfl) ?_
                exact q_retMi C0 hret rfl hlk dX6_shelfCut_116 hP hD hS (⟨(by 
    have lt_ := ltR_d 1 1
    unfold jR_shelfCut ; (try rw [show ltR 1 1 = 0 by omega]); (repeat (first | rw [if_pos (by omega)] | rw [if_neg (by omega)]))
    all_goals (first | rfl | omega | (exfalso; omega))), O, G, MP_eq hC (by 
    have lt_ := ltR_d 1 1
    unfold jS_shelfCut ; rw [show ltR 1 1 = 0 by omega]; (repeat (first | rw [if_pos (by omega)] | rw [if_neg (by omega)]))
    all_goals (first | rfl | (exfalso; omega))), rfl, Ext0 hO⟩)
            · refine lv_aload_n hx hb dX6_shelfCut_93 rfl (lv_at hl 3 rfl) ?_
              refine q_vMi C0 lX6_89 (c_X6_refuse l D y L F68 _ O G (tTh μ (ltR 1 1)) hC) ⟨rfl, rfl⟩ rfl hP hD hS hA hC.1.1 hC.1.2 rfl rfl rfl hl rfl (Nat.le_of_ble_eq_true rfl) dX6_shelfCut_94 ⟨Nat.le_of_ble_eq_true rfl, Nat.le_of_ble_eq_true rfl⟩ (fun r97 H locs L98 F98 hP hD hS hz98 hp98 => ?_)
              obtain ⟨eL, hC, er, hO1⟩ := hp98
              subst eL
              replace er : (-9) = r97 := er.symm
              subst er
              have hO := hO.tr hO1
              refine W.widen (k := 4) (n := 204) (Nat.le_of_ble_eq_true rfl) (Nat.le_of_ble_eq_true rfl) ?_
              exact q_retMi C0 hret rfl hlk dX6_shelfCut_97 hP hD hS (⟨(by 
    have lt_ := ltR_d 1 1
    unfold jR_shelfCut ; (try rw [show ltR 1 1 = 0 by omega]); (repeat (first | rw [if_pos (by omega)] | rw [if_neg (by omega)]))
    all_goals (first | rfl | omega | (exfalso; omega))), O, G, MP_eq hC (by 
    have lt_ := ltR_d 1 1
    unfold jS_shelfCut ; rw [show ltR 1 1 = 0 by omega]; (repeat (first | rw [if_pos (by omega)] | rw [if_neg (by omega)]))
    all_goals (first | rfl | (exfalso; omega))), rfl, Ext0 hO⟩)
