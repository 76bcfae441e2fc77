set_option maxHeartbeats 800000 in
set_option maxRecDepth 100000 in
theorem c_X3_isRowSound (l : Launch) (D : va_G) (y : Nat → ClassId) (L : List Nat) (F : Nat → va_E) (sz : Nat) (h : Nat) (w : Nat) (o : Int) (k : Int) (g : Int) (f : Int → Int) (hR : Rw y L F h w o k g f) (hk : -1000000 ≤ k ∧ k ≤ 1000000) : Met l yX3_isRowSound (.code yX3_isRowSound cX3_isRowSound 1 (some .boolean) :: Tt) ({ frames := 4, cells := 2, slots := 104, locals := 95 }) (PcM D y L F sz [.ref h]) (cMi D (AL L sz) (fun r L1 F1 => r = rsnd o k f ∧ (∀ a ∈ L, a ∈ L1) ∧ ∀ a ∈ L, F1 a = F a)) 2 104 (AL L sz) := by
  have hfr : ∀ a ∈ L, F a = F a := fun _ _ => rfl
  have hLs : ∀ a ∈ L, a ∈ L := fun _ h => h
  have ho := hR.2.2.2.2.1
  have qb_ := sameR_b o o f (addS o o f 0 99 (0, 0, emp)).2.2
  refine q_ofM (lv := [(0, .ref h)]) (by decide) (Nat.le_of_ble_eq_true rfl) rfl (fun p e s m below meth c C0 hret hlk hnm hA hP hD hS ls hl => ?_)
  have hx := C0.1.1
  have hb := C0.1.2.1
  have hts := C0.1.2.2.2.2
  refine lv_aload_n hx hb dX3_isRowSound_0 rfl (lv_at hl 0 rfl) ?_
  refine q_iconst hx hb dX3_isRowSound_1 ?_
  refine q_bipush hx hb dX3_isRowSound_2 (by decide) ?_
  refine lv_aload_n hx hb dX3_isRowSound_4 rfl (lv_at hl 0 rfl) ?_
  refine q_get C0 iX0 hP hR.1 hR.2.1 rfl 2 (by decide) flX3_49 rfl rfl dX3_isRowSound_5 ?_
  refine q_sS C0 lX3_306 (c_X3_isToldInOrder l D y L F h w o k g f 0 99 k hR (by omega) (by omega) (by omega)) ⟨rfl, rfl⟩ rfl hP rfl hl rfl (Nat.le_of_ble_eq_true rfl) dX3_isRowSound_8 ⟨Nat.zero_le _, Nat.zero_le _⟩ (fun r1 e_r1 => ?_)
  subst e_r1
  have b_2 := inOrd_b o f 0 99 k
  refine q_if_eq hx hb dX3_isRowSound_11 (tgt := 50) (by decide) (by omega) (fun c3 => ?_) (fun c3 => ?_)
  · refine q_iconst hx hb dX3_isRowSound_50 ?_
    refine W.widen (k := 2) (n := 104) (Nat.le_of_ble_eq_true rfl) (Nat.le_of_ble_eq_true rfl) ?_
    exact q_retMi C0 hret (by decide) hlk dX3_isRowSound_51 hP hD hS (⟨(by unfold rsnd; (repeat' split) <;> first | rfl | omega | (exfalso; omega)), hLs, hfr⟩)
  · refine lv_aload_n hx hb dX3_isRowSound_14 rfl (lv_at hl 0 rfl) ?_
    refine q_sS C0 lX3_310 (c_X3_isToldBackwards l D y L F h w o k g f hR (by omega)) ⟨rfl, rfl⟩ rfl hP rfl hl rfl (Nat.le_of_ble_eq_true rfl) dX3_isRowSound_15 ⟨Nat.zero_le _, Nat.zero_le _⟩ (fun r4 e_r4 => ?_)
    subst e_r4
    have b_5 := bwOrd_b o f k
    refine q_if_eq hx hb dX3_isRowSound_18 (tgt := 50) (by decide) (by omega) (fun c6 => ?_) (fun c6 => ?_)
    · refine q_iconst hx hb dX3_isRowSound_50 ?_
      refine W.widen (k := 2) (n := 104) (Nat.le_of_ble_eq_true rfl) (Nat.le_of_ble_eq_true rfl) ?_
      exact q_retMi C0 hret (by decide) hlk dX3_isRowSound_51 hP hD hS (⟨(by unfold rsnd; (repeat' split) <;> first | rfl | omega | (exfalso; omega)), hLs, hfr⟩)
    · refine lv_aload_n hx hb dX3_isRowSound_21 rfl (lv_at hl 0 rfl) ?_
      refine q_sS C0 lX3_313 (c_X3_areNeighboursFound l D y L F h w o k g f hR) ⟨rfl, rfl⟩ rfl hP rfl hl rfl (Nat.le_of_ble_eq_true rfl) dX3_isRowSound_22 ⟨Nat.zero_le _, Nat.zero_le _⟩ (fun r7 e_r7 => ?_)
      subst e_r7
      have b_8 := nbP_b o f 0 (-1)
      refine q_if_eq hx hb dX3_isRowSound_25 (tgt := 50) (by decide) (by omega) (fun c9 => ?_) (fun c9 => ?_)
      · refine q_iconst hx hb dX3_isRowSound_50 ?_
        refine W.widen (k := 2) (n := 104) (Nat.le_of_ble_eq_true rfl) (Nat.le_of_ble_eq_true rfl) ?_
        exact q_retMi C0 hret (by decide) hlk dX3_isRowSound_51 hP hD hS (⟨(by unfold rsnd; (repeat' split) <;> first | rfl | omega | (exfalso; omega)), hLs, hfr⟩)
      · refine lv_aload_n hx hb dX3_isRowSound_28 rfl (lv_at hl 0 rfl) ?_
        refine lv_aload_n hx hb dX3_isRowSound_29 rfl (lv_at hl 0 rfl) ?_
        refine q_iconst hx hb dX3_isRowSound_30 ?_
        refine q_bipush hx hb dX3_isRowSound_31 (by decide) ?_
        refine lv_aload_n hx hb dX3_isRowSound_33 rfl (lv_at hl 0 rfl) ?_
        refine q_get C0 iX0 hP hR.1 hR.2.1 rfl 0 (by decide) flX3_74 rfl rfl dX3_isRowSound_34 ?_
        refine q_vMa C0 lX3_56 (c_X0_copyOfPart l D y L F _ h w o k g f 0 99 o hR (by omega) (by omega) (by omega)) ⟨rfl, rfl⟩ rfl hP hD hS hA hR.1 hR.2.1 rfl rfl rfl hl rfl (Nat.le_of_ble_eq_true rfl) dX3_isRowSound_37 ⟨Nat.le_of_ble_eq_true rfl, Nat.le_of_ble_eq_true rfl⟩ (fun r10 H locs L11 F11 hP hD hS hz11 hp11 => ?_)
        refine W.widen (k := 2) (n := 104) (Nat.le_of_ble_eq_true rfl) (Nat.le_of_ble_eq_true rfl) ?_
        obtain ⟨r10q, eL, hr_, hq_, hrq_, hRn, hfn⟩ := hp11
        subst eL
        have hfr : ∀ a ∈ L, F11 a = F a := fun a h1 => (hfn a h1).trans (hfr a h1)
        have hLs : ∀ a ∈ L, a ∈ ((L ++ [r10]) ++ [r10q]) := fun a h1 => List.mem_append_left _ (List.mem_append_left _ h1)
        have hR := Rw_mono hR hLs hfr
        refine q_vS C0 lX3_167 (c_X0_isSameAs l D y ((L ++ [r10]) ++ [r10q]) F11 h w o k g f r10 r10q o ((addS o o f 0 99 (0, 0, emp)).1) ((addS o o f 0 99 (0, 0, emp)).2.1) ((addS o o f 0 99 (0, 0, emp)).2.2) hR hRn) ⟨rfl, rfl⟩ rfl hP hR.1 hR.2.1 rfl rfl rfl hl rfl (Nat.le_of_ble_eq_true rfl) dX3_isRowSound_40 ⟨Nat.le_of_ble_eq_true rfl, Nat.le_of_ble_eq_true rfl⟩ (fun r12 e_r12 => ?_)
        subst e_r12
        have b_13 := sameR_b o o f ((addS o o f 0 99 (0, 0, emp)).2.2)
        refine q_if_eq hx hb dX3_isRowSound_43 (tgt := 50) (by decide) (by omega) (fun c14 => ?_) (fun c14 => ?_)
        · refine q_iconst hx hb dX3_isRowSound_50 ?_
          exact q_retMi C0 hret (by decide) hlk dX3_isRowSound_51 hP hD hS (⟨(by unfold rsnd; (repeat' split) <;> first | rfl | omega | (exfalso; omega)), hLs, hfr⟩)
        · refine q_iconst hx hb dX3_isRowSound_46 ?_
          refine lv_goto (tgt := 51) hx hb dX3_isRowSound_47 (by decide) ?_
          exact q_retMi C0 hret (by decide) hlk dX3_isRowSound_51 hP hD hS (⟨(by unfold rsnd; (repeat' split) <;> first | rfl | omega | (exfalso; omega)), hLs, hfr⟩)
