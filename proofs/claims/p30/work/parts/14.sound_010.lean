set_option maxHeartbeats 800000 in
set_option maxRecDepth 100000 in
theorem c_X3_isSound (l : Launch) (D : va_G) (y : Nat → ClassId) (L : List Nat) (F : Nat → va_E) (sz : Nat) (O : Nat → Prop) (G : CG) (σ : CS) (hC : CP y L F O G σ) (hW : CW σ) : Met l yX3_isSound (.code yX3_isSound cX3_isSound 2 (some .boolean) :: Tt) ({ frames := 5, cells := 14, slots := 728, locals := 116 }) (PcM D y L F sz [.ref ((gbg G))]) (cMi D (AL L sz) (fun r L1 F1 => r = kR_isSound σ ∧ CP y L1 F1 O G σ ∧ (∀ a ∈ L, a ∈ L1) ∧ ∀ a ∈ L, F1 a = F a)) 14 728 (AL L sz) := by
  have hfr : ∀ a ∈ L, F a = F a := fun _ _ => rfl
  have hLs : ∀ a ∈ L, a ∈ L := fun _ h => h
  refine q_ofM (lv := [(0, .ref ((gbg G)))]) (by decide) (Nat.le_of_ble_eq_true rfl) rfl (fun p e s m below meth c C0 hret hlk hnm hA hP hD hS ls hl => ?_)
  have hx := C0.1.1
  have hb := C0.1.2.1
  have hts := C0.1.2.2.2.2
  refine q_iconst hx hb dX3_isSound_0 ?_
  refine lv_istore_n (lv' := [(1, .int (iI 0)), (0, .ref ((gbg G)))]) hx hb dX3_isSound_1 rfl hl (by decide) rfl (fun ls hl => ?_)
  refine lv_iload_n hx hb dX3_isSound_2 rfl (lv_at hl 0 rfl) ?_
  refine q_iconst hx hb dX3_isSound_3 ?_
  refine q_icmp_ge hx hb dX3_isSound_4 (tgt := 27) (by decide) (by omega) (by omega) (fun c1 => absurd c1 (by omega)) (fun c1 => ?_)
  refine lv_aload_n hx hb dX3_isSound_7 rfl (lv_at hl 1 rfl) ?_
  refine q_get C0 iX3 hP hC.1.1 hC.1.2 rfl 0 (by decide) flX3_11 rfl rfl dX3_isSound_8 ?_
  refine lv_iload_n hx hb dX3_isSound_11 rfl (lv_at hl 0 rfl) ?_
  refine q_aald C0 hP hC.2.1.1 hC.2.1.2 (t := 1) rfl (by omega) (by decide) (v := .ref ((grh G (zbk σ 0)))) rfl dX3_isSound_12 ?_
  refine q_sMi C0 lX3_244 (c_X3_isRowSound l D y L F _ (grh G (zbk σ 0)) (grw G (zbk σ 0)) (zod σ (zbk σ 0)) ((zst σ (zbk σ 0)).1) ((zst σ (zbk σ 0)).2.1) ((zst σ (zbk σ 0)).2.2) (CP_r hC (hW.1 0)) (by have := hW.2.2.2.2.2.2.2.2.2.1 _ (hW.1 0); omega)) ⟨rfl, rfl⟩ rfl hP hD hS hA rfl hl rfl (Nat.le_of_ble_eq_true rfl) dX3_isSound_13 ⟨Nat.le_of_ble_eq_true rfl, Nat.le_of_ble_eq_true rfl⟩ (fun r2 H locs L3 F3 hP hD hS hz3 hp3 => ?_)
  refine W.widen (k := 2) (n := 104) (Nat.le_of_ble_eq_true rfl) (Nat.le_of_ble_eq_true rfl) ?_
  obtain ⟨er, hLs4, hfr4⟩ := hp3
  replace er : (rS σ (zbk σ 0)) = r2 := er.symm
  subst er
  have hfr : ∀ a ∈ L, F3 a = F a := fun a h1 => (hfr4 a (hLs a h1)).trans (hfr a h1)
  have hLs : ∀ a ∈ L, a ∈ L3 := fun a h1 => hLs4 a (hLs a h1)
  have hC := CP_mono hC hLs4 hfr4
  have b_r2 := rS_b σ (zbk σ 0)
  refine q_if_ne hx hb dX3_isSound_16 (tgt := 21) (by decide) (by omega) (fun c5 => ?_) (fun c5 => ?_)
  · refine q_iinc (x := 0) (n := 1) (lv' := [(1, .int (iI 1)), (0, .ref ((gbg G)))]) hx hb dX3_isSound_21 hl (k := 0) rfl (by decide) rfl (fun ls hl => ?_)
    refine lv_goto (tgt := 2) hx hb dX3_isSound_24 (by decide) ?_
    refine lv_iload_n hx hb dX3_isSound_2 rfl (lv_at hl 0 rfl) ?_
    refine q_iconst hx hb dX3_isSound_3 ?_
    refine q_icmp_ge hx hb dX3_isSound_4 (tgt := 27) (by decide) (by omega) (by omega) (fun c6 => absurd c6 (by omega)) (fun c6 => ?_)
    refine lv_aload_n hx hb dX3_isSound_7 rfl (lv_at hl 1 rfl) ?_
    refine q_get C0 iX3 hP hC.1.1 hC.1.2 rfl 0 (by decide) flX3_11 rfl rfl dX3_isSound_8 ?_
    refine lv_iload_n hx hb dX3_isSound_11 rfl (lv_at hl 0 rfl) ?_
    refine q_aald C0 hP hC.2.1.1 hC.2.1.2 (t := 1) rfl (by omega) (by decide) (v := .ref ((grh G (zbk σ 1)))) rfl dX3_isSound_12 ?_
    refine q_sMi C0 lX3_244 (c_X3_isRowSound l D y L3 F3 _ (grh G (zbk σ 1)) (grw G (zbk σ 1)) (zod σ (zbk σ 1)) ((zst σ (zbk σ 1)).1) ((zst σ (zbk σ 1)).2.1) ((zst σ (zbk σ 1)).2.2) (CP_r hC (hW.1 1)) (by have := hW.2.2.2.2.2.2.2.2.2.1 _ (hW.1 1); omega)) ⟨rfl, rfl⟩ rfl hP hD hS hA rfl hl rfl (Nat.le_of_ble_eq_true rfl) dX3_isSound_13 ⟨Nat.le_of_ble_eq_true rfl, Nat.le_of_ble_eq_true rfl⟩ (fun r7 H locs L8 F8 hP hD hS hz8 hp8 => ?_)
    refine W.widen (k := 4) (n := 208) (Nat.le_of_ble_eq_true rfl) (Nat.le_of_ble_eq_true rfl) ?_
    obtain ⟨er, hLs9, hfr9⟩ := hp8
    replace er : (rS σ (zbk σ 1)) = r7 := er.symm
    subst er
    have hfr : ∀ a ∈ L, F8 a = F a := fun a h1 => (hfr9 a (hLs a h1)).trans (hfr a h1)
    have hLs : ∀ a ∈ L, a ∈ L8 := fun a h1 => hLs9 a (hLs a h1)
    have hC := CP_mono hC hLs9 hfr9
    have b_r7 := rS_b σ (zbk σ 1)
    refine q_if_ne hx hb dX3_isSound_16 (tgt := 21) (by decide) (by omega) (fun c10 => ?_) (fun c10 => ?_)
    · refine q_iinc (x := 1) (n := 1) (lv' := [(1, .int (iI 2)), (0, .ref ((gbg G)))]) hx hb dX3_isSound_21 hl (k := 0) rfl (by decide) rfl (fun ls hl => ?_)
      refine lv_goto (tgt := 2) hx hb dX3_isSound_24 (by decide) ?_
      refine lv_iload_n hx hb dX3_isSound_2 rfl (lv_at hl 0 rfl) ?_
      refine q_iconst hx hb dX3_isSound_3 ?_
      refine q_icmp_ge hx hb dX3_isSound_4 (tgt := 27) (by decide) (by omega) (by omega) (fun c11 => absurd c11 (by omega)) (fun c11 => ?_)
      refine lv_aload_n hx hb dX3_isSound_7 rfl (lv_at hl 1 rfl) ?_
      refine q_get C0 iX3 hP hC.1.1 hC.1.2 rfl 0 (by decide) flX3_11 rfl rfl dX3_isSound_8 ?_
      refine lv_iload_n hx hb dX3_isSound_11 rfl (lv_at hl 0 rfl) ?_
      refine q_aald C0 hP hC.2.1.1 hC.2.1.2 (t := 1) rfl (by omega) (by decide) (v := .ref ((grh G (zbk σ 2)))) rfl dX3_isSound_12 ?_
      refine q_sMi C0 lX3_244 (c_X3_isRowSound l D y L8 F8 _ (grh G (zbk σ 2)) (grw G (zbk σ 2)) (zod σ (zbk σ 2)) ((zst σ (zbk σ 2)).1) ((zst σ (zbk σ 2)).2.1) ((zst σ (zbk σ 2)).2.2) (CP_r hC (hW.1 2)) (by have := hW.2.2.2.2.2.2.2.2.2.1 _ (hW.1 2); omega)) ⟨rfl, rfl⟩ rfl hP hD hS hA rfl hl rfl (Nat.le_of_ble_eq_true rfl) dX3_isSound_13 ⟨Nat.le_of_ble_eq_true rfl, Nat.le_of_ble_eq_true rfl⟩ (fun r12 H locs L13 F13 hP hD hS hz13 hp13 => ?_)
      refine W.widen (k := 6) (n := 312) (Nat.le_of_ble_eq_true rfl) (Nat.le_of_ble_eq_true rfl) ?_
      obtain ⟨er, hLs14, hfr14⟩ := hp13
      replace er : (rS σ (zbk σ 2)) = r12 := er.symm
      subst er
      have hfr : ∀ a ∈ L, F13 a = F a := fun a h1 => (hfr14 a (hLs a h1)).trans (hfr a h1)
      have hLs : ∀ a ∈ L, a ∈ L13 := fun a h1 => hLs14 a (hLs a h1)
      have hC := CP_mono hC hLs14 hfr14
      have b_r12 := rS_b σ (zbk σ 2)
      refine q_if_ne hx hb dX3_isSound_16 (tgt := 21) (by decide) (by omega) (fun c15 => ?_) (fun c15 => ?_)
      · refine q_iinc (x := 2) (n := 1) (lv' := [(1, .int (iI 3)), (0, .ref ((gbg G)))]) hx hb dX3_isSound_21 hl (k := 0) rfl (by decide) rfl (fun ls hl => ?_)
        refine lv_goto (tgt := 2) hx hb dX3_isSound_24 (by decide) ?_
        refine lv_iload_n hx hb dX3_isSound_2 rfl (lv_at hl 0 rfl) ?_
        refine q_iconst hx hb dX3_isSound_3 ?_
        refine q_icmp_ge hx hb dX3_isSound_4 (tgt := 27) (by decide) (by omega) (by omega) (fun c16 => absurd c16 (by omega)) (fun c16 => ?_)
        refine lv_aload_n hx hb dX3_isSound_7 rfl (lv_at hl 1 rfl) ?_
        refine q_get C0 iX3 hP hC.1.1 hC.1.2 rfl 0 (by decide) flX3_11 rfl rfl dX3_isSound_8 ?_
        refine lv_iload_n hx hb dX3_isSound_11 rfl (lv_at hl 0 rfl) ?_
        refine q_aald C0 hP hC.2.1.1 hC.2.1.2 (t := 1) rfl (by omega) (by decide) (v := .ref ((grh G (zbk σ 3)))) rfl dX3_isSound_12 ?_
        refine q_sMi C0 lX3_244 (c_X3_isRowSound l D y L13 F13 _ (grh G (zbk σ 3)) (grw G (zbk σ 3)) (zod σ (zbk σ 3)) ((zst σ (zbk σ 3)).1) ((zst σ (zbk σ 3)).2.1) ((zst σ (zbk σ 3)).2.2) (CP_r hC (hW.1 3)) (by have := hW.2.2.2.2.2.2.2.2.2.1 _ (hW.1 3); omega)) ⟨rfl, rfl⟩ rfl hP hD hS hA rfl hl rfl (Nat.le_of_ble_eq_true rfl) dX3_isSound_13 ⟨Nat.le_of_ble_eq_true rfl, Nat.le_of_ble_eq_true rfl⟩ (fun r17 H locs L18 F18 hP hD hS hz18 hp18 => ?_)
        refine W.widen (k := 8) (n := 416) (Nat.le_of_ble_eq_true rfl) (Nat.le_of_ble_eq_true rfl) ?_
        obtain ⟨er, hLs19, hfr19⟩ := hp18
        replace er : (rS σ (zbk σ 3)) = r17 := er.symm
        subst er
        have hfr : ∀ a ∈ L, F18 a = F a := fun a h1 => (hfr19 a (hLs a h1)).trans (hfr a h1)
        have hLs : ∀ a ∈ L, a ∈ L18 := fun a h1 => hLs19 a (hLs a h1)
        have hC := CP_mono hC hLs19 hfr19
        have b_r17 := rS_b σ (zbk σ 3)
        refine q_if_ne hx hb dX3_isSound_16 (tgt := 21) (by decide) (by omega) (fun c20 => ?_) (fun c20 => ?_)
        · refine q_iinc (x := 3) (n := 1) (lv' := [(1, .int (iI 4)), (0, .ref ((gbg G)))]) hx hb dX3_isSound_21 hl (k := 0) rfl (by decide) rfl (fun ls hl => ?_)
          refine lv_goto (tgt := 2) hx hb dX3_isSound_24 (by decide) ?_
          refine lv_iload_n hx hb dX3_isSound_2 rfl (lv_at hl 0 rfl) ?_
          refine q_iconst hx hb dX3_isSound_3 ?_
          refine q_icmp_ge hx hb dX3_isSound_4 (tgt := 27) (by decide) (by omega) (by omega) (fun c21 => ?_) (fun c21 => absurd c21 (by omega))
          refine q_iconst hx hb dX3_isSound_27 ?_
          refine lv_istore_n (lv' := [(1, .int (iI 0)), (0, .ref ((gbg G)))]) hx hb dX3_isSound_28 rfl hl (by decide) rfl (fun ls hl => ?_)
          refine lv_iload_n hx hb dX3_isSound_29 rfl (lv_at hl 0 rfl) ?_
          refine q_iconst hx hb dX3_isSound_30 ?_
          refine q_icmp_ge hx hb dX3_isSound_31 (tgt := 54) (by decide) (by omega) (by omega) (fun c22 => absurd c22 (by omega)) (fun c22 => ?_)
          refine lv_aload_n hx hb dX3_isSound_34 rfl (lv_at hl 1 rfl) ?_
          refine q_get C0 iX3 hP hC.1.1 hC.1.2 rfl 1 (by decide) flX3_18 rfl rfl dX3_isSound_35 ?_
          refine lv_iload_n hx hb dX3_isSound_38 rfl (lv_at hl 0 rfl) ?_
          refine q_aald C0 hP hC.2.2.1.1 hC.2.2.1.2 (t := 1) rfl (by omega) (by decide) (v := .ref ((grh G (zsh σ 0)))) rfl dX3_isSound_39 ?_
          refine q_sMi C0 lX3_244 (c_X3_isRowSound l D y L18 F18 _ (grh G (zsh σ 0)) (grw G (zsh σ 0)) (zod σ (zsh σ 0)) ((zst σ (zsh σ 0)).1) ((zst σ (zsh σ 0)).2.1) ((zst σ (zsh σ 0)).2.2) (CP_r hC (hW.2.1 0)) (by have := hW.2.2.2.2.2.2.2.2.2.1 _ (hW.2.1 0); omega)) ⟨rfl, rfl⟩ rfl hP hD hS hA rfl hl rfl (Nat.le_of_ble_eq_true rfl) dX3_isSound_40 ⟨Nat.le_of_ble_eq_true rfl, Nat.le_of_ble_eq_true rfl⟩ (fun r23 H locs L24 F24 hP hD hS hz24 hp24 => ?_)
          refine W.widen (k := 10) (n := 520) (Nat.le_of_ble_eq_true rfl) (Nat.le_of_ble_eq_true rfl) ?_
          obtain ⟨er, hLs25, hfr25⟩ := hp24
          replace er : (rS σ (zsh σ 0)) = r23 := er.symm
          subst er
          have hfr : ∀ a ∈ L, F24 a = F a := fun a h1 => (hfr25 a (hLs a h1)).trans (hfr a h1)
          have hLs : ∀ a ∈ L, a ∈ L24 := fun a h1 => hLs25 a (hLs a h1)
          have hC := CP_mono hC hLs25 hfr25
          have b_r23 := rS_b σ (zsh σ 0)
          refine q_if_ne hx hb dX3_isSound_43 (tgt := 48) (by decide) (by omega) (fun c26 => ?_) (fun c26 => ?_)
          · refine q_iinc (x := 0) (n := 1) (lv' := [(1, .int (iI 1)), (0, .ref ((gbg G)))]) hx hb dX3_isSound_48 hl (k := 0) rfl (by decide) rfl (fun ls hl => ?_)
            refine lv_goto (tgt := 29) hx hb dX3_isSound_51 (by decide) ?_
            refine lv_iload_n hx hb dX3_isSound_29 rfl (lv_at hl 0 rfl) ?_
            refine q_iconst hx hb dX3_isSound_30 ?_
            refine q_icmp_ge hx hb dX3_isSound_31 (tgt := 54) (by decide) (by omega) (by omega) (fun c27 => absurd c27 (by omega)) (fun c27 => ?_)
            refine lv_aload_n hx hb dX3_isSound_34 rfl (lv_at hl 1 rfl) ?_
            refine q_get C0 iX3 hP hC.1.1 hC.1.2 rfl 1 (by decide) flX3_18 rfl rfl dX3_isSound_35 ?_
            refine lv_iload_n hx hb dX3_isSound_38 rfl (lv_at hl 0 rfl) ?_
            refine q_aald C0 hP hC.2.2.1.1 hC.2.2.1.2 (t := 1) rfl (by omega) (by decide) (v := .ref ((grh G (zsh σ 1)))) rfl dX3_isSound_39 ?_
            refine q_sMi C0 lX3_244 (c_X3_isRowSound l D y L24 F24 _ (grh G (zsh σ 1)) (grw G (zsh σ 1)) (zod σ (zsh σ 1)) ((zst σ (zsh σ 1)).1) ((zst σ (zsh σ 1)).2.1) ((zst σ (zsh σ 1)).2.2) (CP_r hC (hW.2.1 1)) (by have := hW.2.2.2.2.2.2.2.2.2.1 _ (hW.2.1 1); omega)) ⟨rfl, rfl⟩ rfl hP hD hS hA rfl hl rfl (Nat.le_of_ble_eq_true rfl) dX3_isSound_40 ⟨Nat.le_of_ble_eq_true rfl, Nat.le_of_ble_eq_true rfl⟩ (fun r28 H locs L29 F29 hP hD hS hz29 hp29 => ?_)
            refine W.widen (k := 12) (n := 624) (Nat.le_of_ble_eq_true rfl) (Nat.le_of_ble_eq_true rfl) ?_
            obtain ⟨er, hLs30, hfr30⟩ := hp29
            replace er : (rS σ (zsh σ 1)) = r28 := er.symm
            subst er
            have hfr : ∀ a ∈ L, F29 a = F a := fun a h1 => (hfr30 a (hLs a h1)).trans (hfr a h1)
            have hLs : ∀ a ∈ L, a ∈ L29 := fun a h1 => hLs30 a (hLs a h1)
            have hC := CP_mono hC hLs30 hfr30
            have b_r28 := rS_b σ (zsh σ 1)
            refine q_if_ne hx hb dX3_isSound_43 (tgt := 48) (by decide) (by omega) (fun c31 => ?_) (fun c31 => ?_)
            · refine q_iinc (x := 1) (n := 1) (lv' := [(1, .int (iI 2)), (0, .ref ((gbg G)))]) hx hb dX3_isSound_48 hl (k := 0) rfl (by decide) rfl (fun ls hl => ?_)
              refine lv_goto (tgt := 29) hx hb dX3_isSound_51 (by decide) ?_
              refine lv_iload_n hx hb dX3_isSound_29 rfl (lv_at hl 0 rfl) ?_
              refine q_iconst hx hb dX3_isSound_30 ?_
              refine q_icmp_ge hx hb dX3_isSound_31 (tgt := 54) (by decide) (by omega) (by omega) (fun c32 => absurd c32 (by omega)) (fun c32 => ?_)
              refine lv_aload_n hx hb dX3_isSound_34 rfl (lv_at hl 1 rfl) ?_
              refine q_get C0 iX3 hP hC.1.1 hC.1.2 rfl 1 (by decide) flX3_18 rfl rfl dX3_isSound_35 ?_
              refine lv_iload_n hx hb dX3_isSound_38 rfl (lv_at hl 0 rfl) ?_
              refine q_aald C0 hP hC.2.2.1.1 hC.2.2.1.2 (t := 1) rfl (by omega) (by decide) (v := .ref ((grh G (zsh σ 2)))) rfl dX3_isSound_39 ?_
              refine q_sMi C0 lX3_244 (c_X3_isRowSound l D y L29 F29 _ (grh G (zsh σ 2)) (grw G (zsh σ 2)) (zod σ (zsh σ 2)) ((zst σ (zsh σ 2)).1) ((zst σ (zsh σ 2)).2.1) ((zst σ (zsh σ 2)).2.2) (CP_r hC (hW.2.1 2)) (by have := hW.2.2.2.2.2.2.2.2.2.1 _ (hW.2.1 2); omega)) ⟨rfl, rfl⟩ rfl hP hD hS hA rfl hl rfl (Nat.le_of_ble_eq_true rfl) dX3_isSound_40 ⟨Nat.le_of_ble_eq_true rfl, Nat.le_of_ble_eq_true rfl⟩ (fun r33 H locs L34 F34 hP hD hS hz34 hp34 => ?_)
              refine W.widen (k := 14) (n := 728) (Nat.le_of_ble_eq_true rfl) (Nat.le_of_ble_eq_true rfl) ?_
              obtain ⟨er, hLs35, hfr35⟩ := hp34
              replace er : (rS σ (zsh σ 2)) = r33 := er.symm
              subst er
              have hfr : ∀ a ∈ L, F34 a = F a := fun a h1 => (hfr35 a (hLs a h1)).trans (hfr a h1)
              have hLs : ∀ a ∈ L, a ∈ L34 := fun a h1 => hLs35 a (hLs a h1)
              have hC := CP_mono hC hLs35 hfr35
              have b_r33 := rS_b σ (zsh σ 2)
              refine q_if_ne hx hb dX3_isSound_43 (tgt := 48) (by decide) (by omega) (fun c36 => ?_) (fun c36 => ?_)
              · refine q_iinc (x := 2) (n := 1) (lv' := [(1, .int (iI 3)), (0, .ref ((gbg G)))]) hx hb dX3_isSound_48 hl (k := 0) rfl (by decide) rfl (fun ls hl => ?_)
                refine lv_goto (tgt := 29) hx hb dX3_isSound_51 (by decide) ?_
                refine lv_iload_n hx hb dX3_isSound_29 rfl (lv_at hl 0 rfl) ?_
                refine q_iconst hx hb dX3_isSound_30 ?_
                refine q_icmp_ge hx hb dX3_isSound_31 (tgt := 54) (by decide) (by omega) (by omega) (fun c37 => ?_) (fun c37 => absurd c37 (by omega))
                refine q_iconst hx hb dX3_isSound_54 ?_
                refine lv_istore_n (lv' := [(1, .int (iI 0)), (0, .ref ((gbg G)))]) hx hb dX3_isSound_55 rfl hl (by decide) rfl (fun ls hl => ?_)
                refine lv_iload_n hx hb dX3_isSound_56 rfl (lv_at hl 0 rfl) ?_
                refine q_iconst hx hb dX3_isSound_57 ?_
                refine q_icmp_ge hx hb dX3_isSound_58 (tgt := 81) (by decide) (by omega) (by omega) (fun c38 => absurd c38 (by omega)) (fun c38 => ?_)
                refine lv_aload_n hx hb dX3_isSound_61 rfl (lv_at hl 1 rfl) ?_
                refine q_get C0 iX3 hP hC.1.1 hC.1.2 rfl 2 (by decide) flX3_23 rfl rfl dX3_isSound_62 ?_
                refine lv_iload_n hx hb dX3_isSound_65 rfl (lv_at hl 0 rfl) ?_
                refine q_aald C0 hP hC.2.2.2.1.1 hC.2.2.2.1.2 (t := 2) rfl (by omega) (by decide) (v := .ref ((gva G 0))) rfl dX3_isSound_66 ?_
                refine q_sS C0 lX3_247 (c_X3_isViewSound l D y L34 F34 O G σ 0 hC (by omega) (hW.2.2.1 0) (by have := hW.2.2.2.2.1 0; omega) (by have := hW.2.2.2.2.1 0; omega) (by have := hW.2.2.2.2.2.2.2.2.2.1 _ (hW.2.2.1 0); omega)) ⟨rfl, rfl⟩ rfl hP rfl hl rfl (Nat.le_of_ble_eq_true rfl) dX3_isSound_67 ⟨Nat.le_of_ble_eq_true rfl, Nat.le_of_ble_eq_true rfl⟩ (fun r39 e_r39 => ?_)
                replace e_r39 := e_r39.symm
                subst e_r39
                have b_40 := vS_b σ 0
                refine q_if_ne hx hb dX3_isSound_70 (tgt := 75) (by decide) (by omega) (fun c41 => ?_) (fun c41 => ?_)
                · refine q_iinc (x := 0) (n := 1) (lv' := [(1, .int (iI 1)), (0, .ref ((gbg G)))]) hx hb dX3_isSound_75 hl (k := 0) rfl (by decide) rfl (fun ls hl => ?_)
                  refine lv_goto (tgt := 56) hx hb dX3_isSound_78 (by decide) ?_
                  refine lv_iload_n hx hb dX3_isSound_56 rfl (lv_at hl 0 rfl) ?_
                  refine q_iconst hx hb dX3_isSound_57 ?_
                  refine q_icmp_ge hx hb dX3_isSound_58 (tgt := 81) (by decide) (by omega) (by omega) (fun c42 => absurd c42 (by omega)) (fun c42 => ?_)
                  refine lv_aload_n hx hb dX3_isSound_61 rfl (lv_at hl 1 rfl) ?_
                  refine q_get C0 iX3 hP hC.1.1 hC.1.2 rfl 2 (by decide) flX3_23 rfl rfl dX3_isSound_62 ?_
                  refine lv_iload_n hx hb dX3_isSound_65 rfl (lv_at hl 0 rfl) ?_
                  refine q_aald C0 hP hC.2.2.2.1.1 hC.2.2.2.1.2 (t := 2) rfl (by omega) (by decide) (v := .ref ((gva G 1))) rfl dX3_isSound_66 ?_
                  refine q_sS C0 lX3_247 (c_X3_isViewSound l D y L34 F34 O G σ 1 hC (by omega) (hW.2.2.1 1) (by have := hW.2.2.2.2.1 1; omega) (by have := hW.2.2.2.2.1 1; omega) (by have := hW.2.2.2.2.2.2.2.2.2.1 _ (hW.2.2.1 1); omega)) ⟨rfl, rfl⟩ rfl hP rfl hl rfl (Nat.le_of_ble_eq_true rfl) dX3_isSound_67 ⟨Nat.le_of_ble_eq_true rfl, Nat.le_of_ble_eq_true rfl⟩ (fun r43 e_r43 => ?_)
                  replace e_r43 := e_r43.symm
                  subst e_r43
                  have b_44 := vS_b σ 1
                  refine q_if_ne hx hb dX3_isSound_70 (tgt := 75) (by decide) (by omega) (fun c45 => ?_) (fun c45 => ?_)
                  · refine q_iinc (x := 1) (n := 1) (lv' := [(1, .int (iI 2)), (0, .ref ((gbg G)))]) hx hb dX3_isSound_75 hl (k := 0) rfl (by decide) rfl (fun ls hl => ?_)
                    refine lv_goto (tgt := 56) hx hb dX3_isSound_78 (by decide) ?_
                    refine lv_iload_n hx hb dX3_isSound_56 rfl (lv_at hl 0 rfl) ?_
                    refine q_iconst hx hb dX3_isSound_57 ?_
                    refine q_icmp_ge hx hb dX3_isSound_58 (tgt := 81) (by decide) (by omega) (by omega) (fun c46 => ?_) (fun c46 => absurd c46 (by omega))
                    refine q_iconst hx hb dX3_isSound_81 ?_
                    exact q_retMi C0 hret (by decide) hlk dX3_isSound_82 hP hD hS (⟨(by unfold kR_isSound; (repeat' split) <;> first | rfl | omega | (exfalso; omega)), hC, hLs, hfr⟩)
                  · refine q_iconst hx hb dX3_isSound_73 ?_
                    exact q_retMi C0 hret (by decide) hlk dX3_isSound_74 hP hD hS (⟨(by unfold kR_isSound; (repeat' split) <;> first | rfl | omega | (exfalso; omega)), hC, hLs, hfr⟩)
                · refine q_iconst hx hb dX3_isSound_73 ?_
                  exact q_retMi C0 hret (by decide) hlk dX3_isSound_74 hP hD hS (⟨(by unfold kR_isSound; (repeat' split) <;> first | rfl | omega | (exfalso; omega)), hC, hLs, hfr⟩)
              · refine q_iconst hx hb dX3_isSound_46 ?_
                exact q_retMi C0 hret (by decide) hlk dX3_isSound_47 hP hD hS (⟨(by unfold kR_isSound; (repeat' split) <;> first | rfl | omega | (exfalso; omega)), hC, hLs, hfr⟩)
            · refine q_iconst hx hb dX3_isSound_46 ?_
              refine W.widen (k := 14) (n := 728) (Nat.le_of_ble_eq_true rfl) (Nat.le_of_ble_eq_true rfl) ?_
              exact q_retMi C0 hret (by decide) hlk dX3_isSound_47 hP hD hS (⟨(by unfold kR_isSound; (repeat' split) <;> first | rfl | omega | (exfalso; omega)), hC, hLs, hfr⟩)
          · refine q_iconst hx hb dX3_isSound_46 ?_
            refine W.widen (k := 14) (n := 728) (Nat.le_of_ble_eq_true rfl) (Nat.le_of_ble_eq_true rfl) ?_
            exact q_retMi C0 hret (by decide) hlk dX3_isSound_47 hP hD hS (⟨(by unfold kR_isSound; (repeat' split) <;> first | rfl | omega | (exfalso; omega)), hC, hLs, hfr⟩)
        · refine q_iconst hx hb dX3_isSound_19 ?_
          refine W.widen (k := 14) (n := 728) (Nat.le_of_ble_eq_true rfl) (Nat.le_of_ble_eq_true rfl) ?_
          exact q_retMi C0 hret (by decide) hlk dX3_isSound_20 hP hD hS (⟨(by unfold kR_isSound; (repeat' split) <;> first | rfl | omega | (exfalso; omega)), hC, hLs, hfr⟩)
      · refine q_iconst hx hb dX3_isSound_19 ?_
        refine W.widen (k := 14) (n := 728) (Nat.le_of_ble_eq_true rfl) (Nat.le_of_ble_eq_true rfl) ?_
        exact q_retMi C0 hret (by decide) hlk dX3_isSound_20 hP hD hS (⟨(by unfold kR_isSound; (repeat' split) <;> first | rfl | omega | (exfalso; omega)), hC, hLs, hfr⟩)
    · refine q_iconst hx hb dX3_isSound_19 ?_
      refine W.widen (k := 14) (n := 728) (Nat.le_of_ble_eq_true rfl) (Nat.le_of_ble_eq_true rfl) ?_
      exact q_retMi C0 hret (by decide) hlk dX3_isSound_20 hP hD hS (⟨(by unfold kR_isSound; (repeat' split) <;> first | rfl | omega | (exfalso; omega)), hC, hLs, hfr⟩)
  · refine q_iconst hx hb dX3_isSound_19 ?_
    refine W.widen (k := 14) (n := 728) (Nat.le_of_ble_eq_true rfl) (Nat.le_of_ble_eq_true rfl) ?_
    exact q_retMi C0 hret (by decide) hlk dX3_isSound_20 hP hD hS (⟨(by unfold kR_isSound; (repeat' split) <;> first | rfl | omega | (exfalso; omega)), hC, hLs, hfr⟩)
