set_option maxHeartbeats 1600000 in
set_option maxRecDepth 100000 in
theorem K_keep {p : Program} {l : Launch} {e : Env} {s : State} {m : MethodId} {below : List Frame} {meth : Method} {c : Code} {b N : Nat} {xs : Nat → Int32} {D : va_G} {y : Nat → ClassId} {sl : List (Nat × Nat × Nat)} {Q : State → Prop} (hfl : l.stackTraces = false) (X : LX D y sl p c s m b N xs) {k : Int} (hk : 0 ≤ k ∧ 7 * k + 6 < N) {L : List Nat} {F : Nat → va_E} {σ : CS} {μ : MS} {H : Heap} {locs : List Loc} {cells slots bg mg ou : Nat} (hcs : cells + 3600 ≤ 600128 ∧ slots + 10000 ≤ 7301098) (hP : va_P D vwCl (va_pl L F) H) (hD : va_D (AL [] s.heap.size) (va_pl L F)) (hS : va_S (AL [] s.heap.size) s.heap H locs) (hI : LI y L F bg mg ou σ μ) (hW : CW σ) (hM : MW μ)
    (kk : ∀ (H1 : Heap) (locs1 : List Loc) (L1 : List Nat) (F1 : Nat → va_E), va_P D vwCl (va_pl L1 F1) H1 → va_D (AL [] s.heap.size) (va_pl L1 F1) → va_S (AL [] s.heap.size) s.heap H1 locs1 → LI y L1 F1 bg mg ou (cS_keep σ (sxI xs (7 * k + 1)) (sxI xs (7 * k + 2)) (zb (sxI xs (7 * k + 3)))) (jS_keep μ (sxI xs (7 * k + 1)) (sxI xs (7 * k + 2)) (zb (sxI xs (7 * k + 3)))) → ∀ ls : Array Slot, lv_has ls 7 [(0, .ref b), (1, .ref bg), (2, .ref mg), (3, .ref ou), (4, .int (iI (7 * k)))] → W p l e room_1 s m #[.ref b] below meth c H1 locs1 (cells + 3600) (slots + 10000) Q (F0 m 2320 ls [])) : ∀ ls : Array Slot, lv_has ls 7 [(0, .ref b), (1, .ref bg), (2, .ref mg), (3, .ref ou), (4, .int (iI (7 * k)))] → W p l e room_1 s m #[.ref b] below meth c H locs cells slots Q (F0 m 521 ls []) := by
  intro ls hl
  obtain ⟨C0, hJ, hN, hXS, hXs, hbl, hN4⟩ := X
  have hx := C0.1.1
  have hb := C0.1.2.1
  have hts := C0.1.2.2.2.2
  have hbA := AL_nil hbl
  have hA : ∀ q, s.heap.size ≤ q → AL [] s.heap.size q := fun q h => Or.inr h
  obtain ⟨O, G, U, V, nv, sv, hC, hg, hMP, hv, d1, d2, ha_ou, hF_ou⟩ := hI
  refine lv_aload_n hx hb dL_law_521 rfl (lv_at hl 1 rfl) ?_
  refine lv_aload_n hx hb dL_law_522 rfl (lv_at hl 0 rfl) ?_
  refine lv_iload hx hb dL_law_523 (lv_at hl 4 rfl) ?_
  refine q_iconst hx hb dL_law_525 ?_
  refine q_iadd hx hb dL_law_526 ?_
  refine q_sld hx hb hXs hbl hbA hS (by omega) hN4 dL_law_527 ?_
  have sb_0 := sxI_b xs (7 * k + 1)
  refine lv_aload_n hx hb dL_law_528 rfl (lv_at hl 0 rfl) ?_
  refine lv_iload hx hb dL_law_529 (lv_at hl 4 rfl) ?_
  refine q_iconst hx hb dL_law_531 ?_
  refine q_iadd hx hb dL_law_532 ?_
  refine q_sld hx hb hXs hbl hbA hS (by omega) hN4 dL_law_533 ?_
  have sb_1 := sxI_b xs (7 * k + 2)
  refine lv_aload_n hx hb dL_law_534 rfl (lv_at hl 0 rfl) ?_
  refine lv_iload hx hb dL_law_535 (lv_at hl 4 rfl) ?_
  refine q_iconst hx hb dL_law_537 ?_
  refine q_iadd hx hb dL_law_538 ?_
  refine q_sld hx hb hXs hbl hbA hS (by omega) hN4 dL_law_539 ?_
  have sb_2 := sxI_b xs (7 * k + 3)
  refine q_if_eq hx hb dL_law_540 (tgt := 547) (by decide) (by omega) (fun c1 => ?_) (fun c1 => ?_)
  · have hz2 : zb (sxI xs (7 * k + 3)) = 0 := if_pos c1
    refine q_iconst hx hb dL_law_547 ?_
    refine lv_aload_n hx hb dL_law_548 rfl (lv_at hl 3 rfl) ?_
    have t_ := c_L_keep l hfl D y sl L F H.size O G σ (sxI xs (7 * k + 1)) (sxI xs (7 * k + 2)) 0 ou nv sv hC hW (by omega) (by omega) (by omega) ha_ou hF_ou (fun z => (d1 ou z).2.2 rfl)
    rw [hg] at t_
    refine q_sT C0 tL_180 t_ ⟨rfl, rfl⟩ rfl hJ hN (XS_of hXS hS hD) hP hD hS hA rfl hl rfl (Nat.le_of_ble_eq_true rfl) dL_law_549 ⟨by show _ ≤ 600128; omega, by show _ ≤ 7301098; omega⟩ (fun r H locs L1 F1 hP hD hS hz_ hp => ?_)
    obtain ⟨O1, G1, σ1, n1, s1, hC1, hg1, hs1, hf1, hO1, hF1, hq⟩ := hp
    have e1 : σ1 = cS_keep σ (sxI xs (7 * k + 1)) (sxI xs (7 * k + 2)) 0 := cS_of hq
    have hI1 := LI_c hg hMP hv d1 d2 ha_ou hC1 hg1 hs1 hf1 hO1 hF1
    rw [e1] at hI1
    obtain ⟨O, G, U, V, nv, sv, hC, hg, hMP, hv, d1, d2, ha_ou, hF_ou⟩ := hI1
    refine lv_istore (lv' := [(5, .int (iI r)), (0, .ref b), (1, .ref bg), (2, .ref mg), (3, .ref ou), (4, .int (iI (7 * k)))]) hx hb dL_law_552 hl (by decide) rfl (fun ls hl => ?_)
    refine lv_aload_n hx hb dL_law_554 rfl (lv_at hl 3 rfl) ?_
    refine lv_aload_n hx hb dL_law_555 rfl (lv_at hl 1 rfl) ?_
    refine lv_iload hx hb dL_law_556 (lv_at hl 5 rfl) ?_
    refine q_iconst hx hb dL_law_558 ?_
    refine q_iadd hx hb dL_law_559 ?_
    refine q_sld hx hb hXs hbl hbA hS (by omega) hN4 dL_law_560 ?_
    refine lv_aload_n hx hb dL_law_561 rfl (lv_at hl 1 rfl) ?_
    refine lv_iload hx hb dL_law_562 (lv_at hl 5 rfl) ?_
    refine q_iconst hx hb dL_law_564 ?_
    refine q_iadd hx hb dL_law_565 ?_
    refine q_sld hx hb hXs hbl hbA hS (by omega) hN4 dL_law_566 ?_
    refine lv_aload_n hx hb dL_law_567 rfl (lv_at hl 1 rfl) ?_
    refine lv_iload hx hb dL_law_568 (lv_at hl 5 rfl) ?_
    refine q_iconst hx hb dL_law_570 ?_
    refine q_iadd hx hb dL_law_571 ?_
    refine q_sld hx hb hXs hbl hbA hS (by omega) hN4 dL_law_572 ?_
    refine q_if_eq hx hb dL_law_573 (tgt := 580) (by decide) (by omega) (fun c0 => ?_) (fun c0 => absurd c1 c0)
    refine q_iconst hx hb dL_law_580 ?_
    have t_ := c_X6_keep l D y L1 F1 H.size U V μ (sxI xs (7 * k + 1)) (sxI xs (7 * k + 2)) 0 hMP hM (by omega) (by omega) (by omega)
    rw [hv] at t_
    refine q_vMi C0 lL_183 t_ ⟨rfl, rfl⟩ rfl hP hD hS hA (by rw [← hv]; exact hMP.1.1) (show F1 mg = mE V μ from by rw [← hv]; exact hMP.1.2) rfl rfl rfl hl rfl (Nat.le_of_ble_eq_true rfl) dL_law_581 ⟨by show _ ≤ 600128; omega, by show _ ≤ 7301098; omega⟩ (fun r9 H locs L2 F2 hP hD hS hz_ hp => ?_)
    obtain ⟨er9, U1, V1, hM1, hv1, hE1⟩ := hp
    have hI2 := LI_m hC hg d1 d2 ha_ou hF_ou hM1 hv1 hE1
    refine lv_istore (lv' := [(6, .int (iI r9)), (5, .int (iI r)), (0, .ref b), (1, .ref bg), (2, .ref mg), (3, .ref ou), (4, .int (iI (7 * k)))]) hx hb dL_law_584 hl (by decide) rfl (fun ls hl => ?_)
    refine lv_goto (tgt := 2320) hx hb dL_law_586 (by decide) ?_
    refine W.widen (k := cells + 3600) (n := slots + 10000) (by omega) (by omega) ?_
    exact kk _ _ _ _ hP hD hS (by rw [hz2]; exact hI2) ls (lv_sub hl [2, 3, 4, 5, 6] rfl)
  · have hz2 : zb (sxI xs (7 * k + 3)) = 1 := if_neg c1
    refine q_iconst hx hb dL_law_543 ?_
    refine lv_goto (tgt := 548) hx hb dL_law_544 (by decide) ?_
    refine lv_aload_n hx hb dL_law_548 rfl (lv_at hl 3 rfl) ?_
    have t_ := c_L_keep l hfl D y sl L F H.size O G σ (sxI xs (7 * k + 1)) (sxI xs (7 * k + 2)) 1 ou nv sv hC hW (by omega) (by omega) (by omega) ha_ou hF_ou (fun z => (d1 ou z).2.2 rfl)
    rw [hg] at t_
    refine q_sT C0 tL_180 t_ ⟨rfl, rfl⟩ rfl hJ hN (XS_of hXS hS hD) hP hD hS hA rfl hl rfl (Nat.le_of_ble_eq_true rfl) dL_law_549 ⟨by show _ ≤ 600128; omega, by show _ ≤ 7301098; omega⟩ (fun r H locs L1 F1 hP hD hS hz_ hp => ?_)
    obtain ⟨O1, G1, σ1, n1, s1, hC1, hg1, hs1, hf1, hO1, hF1, hq⟩ := hp
    have e1 : σ1 = cS_keep σ (sxI xs (7 * k + 1)) (sxI xs (7 * k + 2)) 1 := cS_of hq
    have hI1 := LI_c hg hMP hv d1 d2 ha_ou hC1 hg1 hs1 hf1 hO1 hF1
    rw [e1] at hI1
    obtain ⟨O, G, U, V, nv, sv, hC, hg, hMP, hv, d1, d2, ha_ou, hF_ou⟩ := hI1
    refine lv_istore (lv' := [(5, .int (iI r)), (0, .ref b), (1, .ref bg), (2, .ref mg), (3, .ref ou), (4, .int (iI (7 * k)))]) hx hb dL_law_552 hl (by decide) rfl (fun ls hl => ?_)
    refine lv_aload_n hx hb dL_law_554 rfl (lv_at hl 3 rfl) ?_
    refine lv_aload_n hx hb dL_law_555 rfl (lv_at hl 1 rfl) ?_
    refine lv_iload hx hb dL_law_556 (lv_at hl 5 rfl) ?_
    refine q_iconst hx hb dL_law_558 ?_
    refine q_iadd hx hb dL_law_559 ?_
    refine q_sld hx hb hXs hbl hbA hS (by omega) hN4 dL_law_560 ?_
    refine lv_aload_n hx hb dL_law_561 rfl (lv_at hl 1 rfl) ?_
    refine lv_iload hx hb dL_law_562 (lv_at hl 5 rfl) ?_
    refine q_iconst hx hb dL_law_564 ?_
    refine q_iadd hx hb dL_law_565 ?_
    refine q_sld hx hb hXs hbl hbA hS (by omega) hN4 dL_law_566 ?_
    refine lv_aload_n hx hb dL_law_567 rfl (lv_at hl 1 rfl) ?_
    refine lv_iload hx hb dL_law_568 (lv_at hl 5 rfl) ?_
    refine q_iconst hx hb dL_law_570 ?_
    refine q_iadd hx hb dL_law_571 ?_
    refine q_sld hx hb hXs hbl hbA hS (by omega) hN4 dL_law_572 ?_
    refine q_if_eq hx hb dL_law_573 (tgt := 580) (by decide) (by omega) (fun c0 => absurd c0 c1) (fun c0 => ?_)
    refine q_iconst hx hb dL_law_576 ?_
    refine lv_goto (tgt := 581) hx hb dL_law_577 (by decide) ?_
    have t_ := c_X6_keep l D y L1 F1 H.size U V μ (sxI xs (7 * k + 1)) (sxI xs (7 * k + 2)) 1 hMP hM (by omega) (by omega) (by omega)
    rw [hv] at t_
    refine q_vMi C0 lL_183 t_ ⟨rfl, rfl⟩ rfl hP hD hS hA (by rw [← hv]; exact hMP.1.1) (show F1 mg = mE V μ from by rw [← hv]; exact hMP.1.2) rfl rfl rfl hl rfl (Nat.le_of_ble_eq_true rfl) dL_law_581 ⟨by show _ ≤ 600128; omega, by show _ ≤ 7301098; omega⟩ (fun r9 H locs L2 F2 hP hD hS hz_ hp => ?_)
    obtain ⟨er9, U1, V1, hM1, hv1, hE1⟩ := hp
    have hI2 := LI_m hC hg d1 d2 ha_ou hF_ou hM1 hv1 hE1
    refine lv_istore (lv' := [(6, .int (iI r9)), (5, .int (iI r)), (0, .ref b), (1, .ref bg), (2, .ref mg), (3, .ref ou), (4, .int (iI (7 * k)))]) hx hb dL_law_584 hl (by decide) rfl (fun ls hl => ?_)
    refine lv_goto (tgt := 2320) hx hb dL_law_586 (by decide) ?_
    refine W.widen (k := cells + 3600) (n := slots + 10000) (by omega) (by omega) ?_
    exact kk _ _ _ _ hP hD hS (by rw [hz2]; exact hI2) ls (lv_sub hl [2, 3, 4, 5, 6] rfl)
