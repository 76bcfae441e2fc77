set_option maxHeartbeats 1600000 in
set_option maxRecDepth 100000 in
theorem K_viewPut {p : Program} {l : Launch} {e : Env} {s : State} {m : MethodId} {below : List Frame} {meth : Method} {c : Code} {b N : Nat} {xs : Nat → Int32} {D : va_G} {y : Nat → ClassId} {sl : List (Nat × Nat × Nat)} {Q : State → Prop} (hfl : l.stackTraces = false) (X : LX D y sl p c s m b N xs) {k : Int} (hk : 0 ≤ k ∧ 7 * k + 6 < N) {L : List Nat} {F : Nat → va_E} {σ : CS} {μ : MS} {H : Heap} {locs : List Loc} {cells slots bg mg ou : Nat} (hcs : cells + 3600 ≤ 600128 ∧ slots + 10000 ≤ 7301098) (hP : va_P D vwCl (va_pl L F) H) (hD : va_D (AL [] s.heap.size) (va_pl L F)) (hS : va_S (AL [] s.heap.size) s.heap H locs) (hI : LI y L F bg mg ou σ μ) (hW : CW σ) (hM : MW μ)
    (kk : ∀ (H1 : Heap) (locs1 : List Loc) (L1 : List Nat) (F1 : Nat → va_E), va_P D vwCl (va_pl L1 F1) H1 → va_D (AL [] s.heap.size) (va_pl L1 F1) → va_S (AL [] s.heap.size) s.heap H1 locs1 → LI y L1 F1 bg mg ou (cS_viewPut σ (sxI xs (7 * k + 1)) (sxI xs (7 * k + 2)) (sxI xs (7 * k + 3))) (jS_viewPut μ (sxI xs (7 * k + 1)) (sxI xs (7 * k + 2)) (sxI xs (7 * k + 3))) → ∀ ls : Array Slot, lv_has ls 7 [(0, .ref b), (1, .ref bg), (2, .ref mg), (3, .ref ou), (4, .int (iI (7 * k)))] → W p l e room_1 s m #[.ref b] below meth c H1 locs1 (cells + 3600) (slots + 10000) Q (F0 m 2320 ls [])) : ∀ ls : Array Slot, lv_has ls 7 [(0, .ref b), (1, .ref bg), (2, .ref mg), (3, .ref ou), (4, .int (iI (7 * k)))] → W p l e room_1 s m #[.ref b] below meth c H locs cells slots Q (F0 m 1411 ls []) := by
  intro ls hl
  obtain ⟨C0, hJ, hN, hXS, hXs, hbl, hN4⟩ := X
  have hx := C0.1.1
  have hb := C0.1.2.1
  have hts := C0.1.2.2.2.2
  have hbA := AL_nil hbl
  have hA : ∀ q, s.heap.size ≤ q → AL [] s.heap.size q := fun q h => Or.inr h
  obtain ⟨O, G, U, V, nv, sv, hC, hg, hMP, hv, d1, d2, ha_ou, hF_ou⟩ := hI
  refine lv_aload_n hx hb dL_law_1411 rfl (lv_at hl 1 rfl) ?_
  refine lv_aload_n hx hb dL_law_1412 rfl (lv_at hl 0 rfl) ?_
  refine lv_iload hx hb dL_law_1413 (lv_at hl 4 rfl) ?_
  refine q_iconst hx hb dL_law_1415 ?_
  refine q_iadd hx hb dL_law_1416 ?_
  refine q_sld hx hb hXs hbl hbA hS (by omega) hN4 dL_law_1417 ?_
  have sb_0 := sxI_b xs (7 * k + 1)
  refine lv_aload_n hx hb dL_law_1418 rfl (lv_at hl 0 rfl) ?_
  refine lv_iload hx hb dL_law_1419 (lv_at hl 4 rfl) ?_
  refine q_iconst hx hb dL_law_1421 ?_
  refine q_iadd hx hb dL_law_1422 ?_
  refine q_sld hx hb hXs hbl hbA hS (by omega) hN4 dL_law_1423 ?_
  have sb_1 := sxI_b xs (7 * k + 2)
  refine lv_aload_n hx hb dL_law_1424 rfl (lv_at hl 0 rfl) ?_
  refine lv_iload hx hb dL_law_1425 (lv_at hl 4 rfl) ?_
  refine q_iconst hx hb dL_law_1427 ?_
  refine q_iadd hx hb dL_law_1428 ?_
  refine q_sld hx hb hXs hbl hbA hS (by omega) hN4 dL_law_1429 ?_
  have sb_2 := sxI_b xs (7 * k + 3)
  refine lv_aload_n hx hb dL_law_1430 rfl (lv_at hl 3 rfl) ?_
  have t_ := c_L_viewPut l hfl D y sl L F H.size O G σ (sxI xs (7 * k + 1)) (sxI xs (7 * k + 2)) (sxI xs (7 * k + 3)) ou nv sv hC hW (by omega) (by omega) (by omega) ha_ou hF_ou (fun z => (d1 ou z).2.2 rfl)
  rw [hg] at t_
  refine q_sT C0 tL_232 t_ ⟨rfl, rfl⟩ rfl hJ hN (XS_of hXS hS hD) hP hD hS hA rfl hl rfl (Nat.le_of_ble_eq_true rfl) dL_law_1431 ⟨by show _ ≤ 600128; omega, by show _ ≤ 7301098; omega⟩ (fun r H locs L1 F1 hP hD hS hz_ hp => ?_)
  obtain ⟨O1, G1, σ1, n1, s1, hC1, hg1, hs1, hf1, hO1, hF1, hq⟩ := hp
  have e1 : σ1 = cS_viewPut σ (sxI xs (7 * k + 1)) (sxI xs (7 * k + 2)) (sxI xs (7 * k + 3)) := cS_of hq
  have hI1 := LI_c hg hMP hv d1 d2 ha_ou hC1 hg1 hs1 hf1 hO1 hF1
  rw [e1] at hI1
  obtain ⟨O, G, U, V, nv, sv, hC, hg, hMP, hv, d1, d2, ha_ou, hF_ou⟩ := hI1
  refine lv_istore (lv' := [(5, .int (iI r)), (0, .ref b), (1, .ref bg), (2, .ref mg), (3, .ref ou), (4, .int (iI (7 * k)))]) hx hb dL_law_1434 hl (by decide) rfl (fun ls hl => ?_)
  refine lv_aload_n hx hb dL_law_1436 rfl (lv_at hl 3 rfl) ?_
  refine lv_aload_n hx hb dL_law_1437 rfl (lv_at hl 1 rfl) ?_
  refine lv_iload hx hb dL_law_1438 (lv_at hl 5 rfl) ?_
  refine q_iconst hx hb dL_law_1440 ?_
  refine q_iadd hx hb dL_law_1441 ?_
  refine q_sld hx hb hXs hbl hbA hS (by omega) hN4 dL_law_1442 ?_
  refine lv_aload_n hx hb dL_law_1443 rfl (lv_at hl 1 rfl) ?_
  refine lv_iload hx hb dL_law_1444 (lv_at hl 5 rfl) ?_
  refine q_iconst hx hb dL_law_1446 ?_
  refine q_iadd hx hb dL_law_1447 ?_
  refine q_sld hx hb hXs hbl hbA hS (by omega) hN4 dL_law_1448 ?_
  refine lv_aload_n hx hb dL_law_1449 rfl (lv_at hl 1 rfl) ?_
  refine lv_iload hx hb dL_law_1450 (lv_at hl 5 rfl) ?_
  refine q_iconst hx hb dL_law_1452 ?_
  refine q_iadd hx hb dL_law_1453 ?_
  refine q_sld hx hb hXs hbl hbA hS (by omega) hN4 dL_law_1454 ?_
  have t_ := c_X6_viewPut l D y L1 F1 H.size U V μ (sxI xs (7 * k + 1)) (sxI xs (7 * k + 2)) (sxI xs (7 * k + 3)) hMP hM (by omega) (by omega) (by omega)
  rw [hv] at t_
  refine q_vMi C0 lL_234 t_ ⟨rfl, rfl⟩ rfl hP hD hS hA (by rw [← hv]; exact hMP.1.1) (show F1 mg = mE V μ from by rw [← hv]; exact hMP.1.2) rfl rfl rfl hl rfl (Nat.le_of_ble_eq_true rfl) dL_law_1455 ⟨by show _ ≤ 600128; omega, by show _ ≤ 7301098; omega⟩ (fun r9 H locs L2 F2 hP hD hS hz_ hp => ?_)
  obtain ⟨er9, U1, V1, hM1, hv1, hE1⟩ := hp
  have hI2 := LI_m hC hg d1 d2 ha_ou hF_ou hM1 hv1 hE1
  refine lv_istore (lv' := [(6, .int (iI r9)), (5, .int (iI r)), (0, .ref b), (1, .ref bg), (2, .ref mg), (3, .ref ou), (4, .int (iI (7 * k)))]) hx hb dL_law_1458 hl (by decide) rfl (fun ls hl => ?_)
  refine lv_goto (tgt := 2320) hx hb dL_law_1460 (by decide) ?_
  refine W.widen (k := cells + 3600) (n := slots + 10000) (by omega) (by omega) ?_
  exact kk _ _ _ _ hP hD hS hI2 ls (lv_sub hl [2, 3, 4, 5, 6] rfl)
