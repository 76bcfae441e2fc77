set_option maxHeartbeats 1600000 in
set_option maxRecDepth 100000 in
theorem K_freshBook {p : Program} {l : Launch} {e : Env} {s : State} {m : MethodId} {below : List Frame} {meth : Method} {c : Code} {b N : Nat} {xs : Nat → Int32} {D : va_G} {y : Nat → ClassId} {sl : List (Nat × Nat × Nat)} {Q : State → Prop} (hfl : l.stackTraces = false) (X : LX D y sl p c s m b N xs) {k : Int} (hk : 0 ≤ k ∧ 7 * k + 6 < N) {L : List Nat} {F : Nat → va_E} {σ : CS} {μ : MS} {H : Heap} {locs : List Loc} {cells slots bg mg ou : Nat} (hcs : cells + 3600 ≤ 600128 ∧ slots + 10000 ≤ 7301098) (hP : va_P D vwCl (va_pl L F) H) (hD : va_D (AL [] s.heap.size) (va_pl L F)) (hS : va_S (AL [] s.heap.size) s.heap H locs) (hI : LI y L F bg mg ou σ μ) (hW : CW σ) (hM : MW μ)
    (kk : ∀ (H1 : Heap) (locs1 : List Loc) (L1 : List Nat) (F1 : Nat → va_E), va_P D vwCl (va_pl L1 F1) H1 → va_D (AL [] s.heap.size) (va_pl L1 F1) → va_S (AL [] s.heap.size) s.heap H1 locs1 → LI y L1 F1 bg mg ou (cS_freshBook σ (sxI xs (7 * k + 1)) (sxI xs (7 * k + 2))) (jS_freshBook μ (sxI xs (7 * k + 1)) (sxI xs (7 * k + 2))) → ∀ ls : Array Slot, lv_has ls 7 [(0, .ref b), (1, .ref bg), (2, .ref mg), (3, .ref ou), (4, .int (iI (7 * k)))] → W p l e room_1 s m #[.ref b] below meth c H1 locs1 (cells + 3600) (slots + 10000) Q (F0 m 2327 ls [])) : ∀ ls : Array Slot, lv_has ls 7 [(0, .ref b), (1, .ref bg), (2, .ref mg), (3, .ref ou), (4, .int (iI (7 * k)))] → W p l e room_1 s m #[.ref b] below meth c H locs cells slots Q (F0 m 232 ls []) := by
  intro ls hl
  obtain ⟨C0, hJ, hN, hXS, hXs, hbl, hN4⟩ := X
  have hx := C0.1.1
  have hb := C0.1.2.1
  have hts := C0.1.2.2.2.2
  have hbA := AL_nil hbl
  have hA : ∀ q, s.heap.size ≤ q → AL [] s.heap.size q := fun q h => Or.inr h
  obtain ⟨O, G, U, V, nv, sv, hC, hg, hMP, hv, d1, d2, ha_ou, hF_ou⟩ := hI
  refine lv_aload_n hx hb dL_law_232 rfl (lv_at hl 1 rfl) ?_
  refine lv_aload_n hx hb dL_law_233 rfl (lv_at hl 0 rfl) ?_
  refine lv_iload hx hb dL_law_234 (lv_at hl 4 rfl) ?_
  refine q_iconst hx hb dL_law_236 ?_
  refine q_iadd hx hb dL_law_237 ?_
  refine q_sld hx hb hXs hbl hbA hS (by omega) hN4 dL_law_238 ?_
  have sb_0 := sxI_b xs (7 * k + 1)
  refine lv_aload_n hx hb dL_law_239 rfl (lv_at hl 0 rfl) ?_
  refine lv_iload hx hb dL_law_240 (lv_at hl 4 rfl) ?_
  refine q_iconst hx hb dL_law_242 ?_
  refine q_iadd hx hb dL_law_243 ?_
  refine q_sld hx hb hXs hbl hbA hS (by omega) hN4 dL_law_244 ?_
  have sb_1 := sxI_b xs (7 * k + 2)
  refine lv_aload_n hx hb dL_law_245 rfl (lv_at hl 3 rfl) ?_
  have t_ := c_L_freshBook l hfl D y sl L F H.size O G σ (sxI xs (7 * k + 1)) (sxI xs (7 * k + 2)) ou nv sv hC hW (by omega) (by omega) ha_ou hF_ou (fun z => (d1 ou z).2.2 rfl)
  rw [hg] at t_
  refine q_sT C0 tL_156 t_ ⟨rfl, rfl⟩ rfl hJ hN (XS_of hXS hS hD) hP hD hS hA rfl hl rfl (Nat.le_of_ble_eq_true rfl) dL_law_246 ⟨by show _ ≤ 600128; omega, by show _ ≤ 7301098; omega⟩ (fun r H locs L1 F1 hP hD hS hz_ hp => ?_)
  obtain ⟨O1, G1, σ1, n1, s1, hC1, hg1, hs1, hf1, hO1, hF1, hq⟩ := hp
  have e1 : σ1 = cS_freshBook σ (sxI xs (7 * k + 1)) (sxI xs (7 * k + 2)) := cS_of hq
  have hI1 := LI_c hg hMP hv d1 d2 ha_ou hC1 hg1 hs1 hf1 hO1 hF1
  rw [e1] at hI1
  obtain ⟨O, G, U, V, nv, sv, hC, hg, hMP, hv, d1, d2, ha_ou, hF_ou⟩ := hI1
  refine lv_istore (lv' := [(5, .int (iI r)), (0, .ref b), (1, .ref bg), (2, .ref mg), (3, .ref ou), (4, .int (iI (7 * k)))]) hx hb dL_law_249 hl (by decide) rfl (fun ls hl => ?_)
  refine lv_aload_n hx hb dL_law_251 rfl (lv_at hl 3 rfl) ?_
  refine lv_aload_n hx hb dL_law_252 rfl (lv_at hl 1 rfl) ?_
  refine lv_iload hx hb dL_law_253 (lv_at hl 5 rfl) ?_
  refine q_iconst hx hb dL_law_255 ?_
  refine q_iadd hx hb dL_law_256 ?_
  refine q_sld hx hb hXs hbl hbA hS (by omega) hN4 dL_law_257 ?_
  refine lv_aload_n hx hb dL_law_258 rfl (lv_at hl 1 rfl) ?_
  refine lv_iload hx hb dL_law_259 (lv_at hl 5 rfl) ?_
  refine q_iconst hx hb dL_law_261 ?_
  refine q_iadd hx hb dL_law_262 ?_
  refine q_sld hx hb hXs hbl hbA hS (by omega) hN4 dL_law_263 ?_
  have t_ := c_X6_freshBook l D y L1 F1 H.size U V μ (sxI xs (7 * k + 1)) (sxI xs (7 * k + 2)) hMP hM (by omega) (by omega)
  rw [hv] at t_
  refine q_vMi C0 lL_161 t_ ⟨rfl, rfl⟩ rfl hP hD hS hA (by rw [← hv]; exact hMP.1.1) (show F1 mg = mE V μ from by rw [← hv]; exact hMP.1.2) rfl rfl rfl hl rfl (Nat.le_of_ble_eq_true rfl) dL_law_264 ⟨by show _ ≤ 600128; omega, by show _ ≤ 7301098; omega⟩ (fun r9 H locs L2 F2 hP hD hS hz_ hp => ?_)
  obtain ⟨er9, U1, V1, hM1, hv1, hE1⟩ := hp
  have hI2 := LI_m hC hg d1 d2 ha_ou hF_ou hM1 hv1 hE1
  refine lv_istore (lv' := [(6, .int (iI r9)), (5, .int (iI r)), (0, .ref b), (1, .ref bg), (2, .ref mg), (3, .ref ou), (4, .int (iI (7 * k)))]) hx hb dL_law_267 hl (by decide) rfl (fun ls hl => ?_)
  refine lv_goto (tgt := 2327) hx hb dL_law_269 (by decide) ?_
  refine W.widen (k := cells + 3600) (n := slots + 10000) (by omega) (by omega) ?_
  exact kk _ _ _ _ hP hD hS hI2 ls (lv_sub hl [2, 3, 4, 5, 6] rfl)
set_option maxHeartbeats 1600000 in
set_option maxRecDepth 100000 in
theorem K_buildBook {p : Program} {l : Launch} {e : Env} {s : State} {m : MethodId} {below : List Frame} {meth : Method} {c : Code} {b N : Nat} {xs : Nat → Int32} {D : va_G} {y : Nat → ClassId} {sl : List (Nat × Nat × Nat)} {Q : State → Prop} (hfl : l.stackTraces = false) (X : LX D y sl p c s m b N xs) {k : Int} (hk : 0 ≤ k ∧ 7 * k + 6 < N) {L : List Nat} {F : Nat → va_E} {σ : CS} {μ : MS} {H : Heap} {locs : List Loc} {cells slots bg mg ou : Nat} (hcs : cells + 3600 ≤ 600128 ∧ slots + 10000 ≤ 7301098) (hP : va_P D vwCl (va_pl L F) H) (hD : va_D (AL [] s.heap.size) (va_pl L F)) (hS : va_S (AL [] s.heap.size) s.heap H locs) (hI : LI y L F bg mg ou σ μ) (hW : CW σ) (hM : MW μ)
    (kk : ∀ (H1 : Heap) (locs1 : List Loc) (L1 : List Nat) (F1 : Nat → va_E), va_P D vwCl (va_pl L1 F1) H1 → va_D (AL [] s.heap.size) (va_pl L1 F1) → va_S (AL [] s.heap.size) s.heap H1 locs1 → LI y L1 F1 bg mg ou (cS_buildBook σ (sxI xs (7 * k + 1)) (sxI xs (7 * k + 2)) (sxI xs (7 * k + 3))) (jS_buildBook μ (sxI xs (7 * k + 1)) (sxI xs (7 * k + 2)) (sxI xs (7 * k + 3))) → ∀ ls : Array Slot, lv_has ls 7 [(0, .ref b), (1, .ref bg), (2, .ref mg), (3, .ref ou), (4, .int (iI (7 * k)))] → W p l e room_1 s m #[.ref b] below meth c H1 locs1 (cells + 3600) (slots + 10000) Q (F0 m 2327 ls [])) : ∀ ls : Array Slot, lv_has ls 7 [(0, .ref b), (1, .ref bg), (2, .ref mg), (3, .ref ou), (4, .int (iI (7 * k)))] → W p l e room_1 s m #[.ref b] below meth c H locs cells slots Q (F0 m 272 ls []) := by
  intro ls hl
  obtain ⟨C0, hJ, hN, hXS, hXs, hbl, hN4⟩ := X
  have hx := C0.1.1
  have hb := C0.1.2.1
  have hts := C0.1.2.2.2.2
  have hbA := AL_nil hbl
  have hA : ∀ q, s.heap.size ≤ q → AL [] s.heap.size q := fun q h => Or.inr h
  obtain ⟨O, G, U, V, nv, sv, hC, hg, hMP, hv, d1, d2, ha_ou, hF_ou⟩ := hI
  refine lv_aload_n hx hb dL_law_272 rfl (lv_at hl 1 rfl) ?_
  refine lv_aload_n hx hb dL_law_273 rfl (lv_at hl 0 rfl) ?_
  refine lv_iload hx hb dL_law_274 (lv_at hl 4 rfl) ?_
  refine q_iconst hx hb dL_law_276 ?_
  refine q_iadd hx hb dL_law_277 ?_
  refine q_sld hx hb hXs hbl hbA hS (by omega) hN4 dL_law_278 ?_
  have sb_0 := sxI_b xs (7 * k + 1)
  refine lv_aload_n hx hb dL_law_279 rfl (lv_at hl 0 rfl) ?_
  refine lv_iload hx hb dL_law_280 (lv_at hl 4 rfl) ?_
  refine q_iconst hx hb dL_law_282 ?_
  refine q_iadd hx hb dL_law_283 ?_
  refine q_sld hx hb hXs hbl hbA hS (by omega) hN4 dL_law_284 ?_
  have sb_1 := sxI_b xs (7 * k + 2)
  refine lv_aload_n hx hb dL_law_285 rfl (lv_at hl 0 rfl) ?_
  refine lv_iload hx hb dL_law_286 (lv_at hl 4 rfl) ?_
  refine q_iconst hx hb dL_law_288 ?_
  refine q_iadd hx hb dL_law_289 ?_
  refine q_sld hx hb hXs hbl hbA hS (by omega) hN4 dL_law_290 ?_
  have sb_2 := sxI_b xs (7 * k + 3)
  refine lv_aload_n hx hb dL_law_291 rfl (lv_at hl 3 rfl) ?_
  have t_ := c_L_buildBook l hfl D y sl L F H.size O G σ (sxI xs (7 * k + 1)) (sxI xs (7 * k + 2)) (sxI xs (7 * k + 3)) ou nv sv hC hW (by omega) (by omega) (by omega) ha_ou hF_ou (fun z => (d1 ou z).2.2 rfl)
  rw [hg] at t_
  refine q_sT C0 tL_162 t_ ⟨rfl, rfl⟩ rfl hJ hN (XS_of hXS hS hD) hP hD hS hA rfl hl rfl (Nat.le_of_ble_eq_true rfl) dL_law_292 ⟨by show _ ≤ 600128; omega, by show _ ≤ 7301098; omega⟩ (fun r H locs L1 F1 hP hD hS hz_ hp => ?_)
  obtain ⟨O1, G1, σ1, n1, s1, hC1, hg1, hs1, hf1, hO1, hF1, hq⟩ := hp
  have e1 : σ1 = cS_buildBook σ (sxI xs (7 * k + 1)) (sxI xs (7 * k + 2)) (sxI xs (7 * k + 3)) := cS_of hq
  have hI1 := LI_c hg hMP hv d1 d2 ha_ou hC1 hg1 hs1 hf1 hO1 hF1
  rw [e1] at hI1
  obtain ⟨O, G, U, V, nv, sv, hC, hg, hMP, hv, d1, d2, ha_ou, hF_ou⟩ := hI1
  refine lv_istore (lv' := [(5, .int (iI r)), (0, .ref b), (1, .ref bg), (2, .ref mg), (3, .ref ou), (4, .int (iI (7 * k)))]) hx hb dL_law_295 hl (by decide) rfl (fun ls hl => ?_)
  refine lv_aload_n hx hb dL_law_297 rfl (lv_at hl 3 rfl) ?_
  refine lv_aload_n hx hb dL_law_298 rfl (lv_at hl 1 rfl) ?_
  refine lv_iload hx hb dL_law_299 (lv_at hl 5 rfl) ?_
  refine q_iconst hx hb dL_law_301 ?_
  refine q_iadd hx hb dL_law_302 ?_
  refine q_sld hx hb hXs hbl hbA hS (by omega) hN4 dL_law_303 ?_
  refine lv_aload_n hx hb dL_law_304 rfl (lv_at hl 1 rfl) ?_
  refine lv_iload hx hb dL_law_305 (lv_at hl 5 rfl) ?_
  refine q_iconst hx hb dL_law_307 ?_
  refine q_iadd hx hb dL_law_308 ?_
  refine q_sld hx hb hXs hbl hbA hS (by omega) hN4 dL_law_309 ?_
  refine lv_aload_n hx hb dL_law_310 rfl (lv_at hl 1 rfl) ?_
  refine lv_iload hx hb dL_law_311 (lv_at hl 5 rfl) ?_
  refine q_iconst hx hb dL_law_313 ?_
  refine q_iadd hx hb dL_law_314 ?_
  refine q_sld hx hb hXs hbl hbA hS (by omega) hN4 dL_law_315 ?_
  have t_ := c_X6_buildBook l D y L1 F1 H.size U V μ (sxI xs (7 * k + 1)) (sxI xs (7 * k + 2)) (sxI xs (7 * k + 3)) hMP hM (by omega) (by omega) (by omega)
  rw [hv] at t_
  refine q_vMi C0 lL_165 t_ ⟨rfl, rfl⟩ rfl hP hD hS hA (by rw [← hv]; exact hMP.1.1) (show F1 mg = mE V μ from by rw [← hv]; exact hMP.1.2) rfl rfl rfl hl rfl (Nat.le_of_ble_eq_true rfl) dL_law_316 ⟨by show _ ≤ 600128; omega, by show _ ≤ 7301098; omega⟩ (fun r9 H locs L2 F2 hP hD hS hz_ hp => ?_)
  obtain ⟨er9, U1, V1, hM1, hv1, hE1⟩ := hp
  have hI2 := LI_m hC hg d1 d2 ha_ou hF_ou hM1 hv1 hE1
  refine lv_istore (lv' := [(6, .int (iI r9)), (5, .int (iI r)), (0, .ref b), (1, .ref bg), (2, .ref mg), (3, .ref ou), (4, .int (iI (7 * k)))]) hx hb dL_law_319 hl (by decide) rfl (fun ls hl => ?_)
  refine lv_goto (tgt := 2327) hx hb dL_law_321 (by decide) ?_
  refine W.widen (k := cells + 3600) (n := slots + 10000) (by omega) (by omega) ?_
  exact kk _ _ _ _ hP hD hS hI2 ls (lv_sub hl [2, 3, 4, 5, 6] rfl)
set_option maxHeartbeats 1600000 in
set_option maxRecDepth 100000 in
theorem K_splitBook {p : Program} {l : Launch} {e : Env} {s : State} {m : MethodId} {below : List Frame} {meth : Method} {c : Code} {b N : Nat} {xs : Nat → Int32} {D : va_G} {y : Nat → ClassId} {sl : List (Nat × Nat × Nat)} {Q : State → Prop} (hfl : l.stackTraces = false) (X : LX D y sl p c s m b N xs) {k : Int} (hk : 0 ≤ k ∧ 7 * k + 6 < N) {L : List Nat} {F : Nat → va_E} {σ : CS} {μ : MS} {H : Heap} {locs : List Loc} {cells slots bg mg ou : Nat} (hcs : cells + 3600 ≤ 600128 ∧ slots + 10000 ≤ 7301098) (hP : va_P D vwCl (va_pl L F) H) (hD : va_D (AL [] s.heap.size) (va_pl L F)) (hS : va_S (AL [] s.heap.size) s.heap H locs) (hI : LI y L F bg mg ou σ μ) (hW : CW σ) (hM : MW μ)
    (kk : ∀ (H1 : Heap) (locs1 : List Loc) (L1 : List Nat) (F1 : Nat → va_E), va_P D vwCl (va_pl L1 F1) H1 → va_D (AL [] s.heap.size) (va_pl L1 F1) → va_S (AL [] s.heap.size) s.heap H1 locs1 → LI y L1 F1 bg mg ou (cS_splitBook σ (sxI xs (7 * k + 1)) (sxI xs (7 * k + 2)) (sxI xs (7 * k + 3))) (jS_splitBook μ (sxI xs (7 * k + 1)) (sxI xs (7 * k + 2)) (sxI xs (7 * k + 3))) → ∀ ls : Array Slot, lv_has ls 7 [(0, .ref b), (1, .ref bg), (2, .ref mg), (3, .ref ou), (4, .int (iI (7 * k)))] → W p l e room_1 s m #[.ref b] below meth c H1 locs1 (cells + 3600) (slots + 10000) Q (F0 m 2327 ls [])) : ∀ ls : Array Slot, lv_has ls 7 [(0, .ref b), (1, .ref bg), (2, .ref mg), (3, .ref ou), (4, .int (iI (7 * k)))] → W p l e room_1 s m #[.ref b] below meth c H locs cells slots Q (F0 m 324 ls []) := by
  intro ls hl
  obtain ⟨C0, hJ, hN, hXS, hXs, hbl, hN4⟩ := X
  have hx := C0.1.1
  have hb := C0.1.2.1
  have hts := C0.1.2.2.2.2
  have hbA := AL_nil hbl
  have hA : ∀ q, s.heap.size ≤ q → AL [] s.heap.size q := fun q h => Or.inr h
  obtain ⟨O, G, U, V, nv, sv, hC, hg, hMP, hv, d1, d2, ha_ou, hF_ou⟩ := hI
  refine lv_aload_n hx hb dL_law_324 rfl (lv_at hl 1 rfl) ?_
  refine lv_aload_n hx hb dL_law_325 rfl (lv_at hl 0 rfl) ?_
  refine lv_iload hx hb dL_law_326 (lv_at hl 4 rfl) ?_
  refine q_iconst hx hb dL_law_328 ?_
  refine q_iadd hx hb dL_law_329 ?_
  refine q_sld hx hb hXs hbl hbA hS (by omega) hN4 dL_law_330 ?_
  have sb_0 := sxI_b xs (7 * k + 1)
  refine lv_aload_n hx hb dL_law_331 rfl (lv_at hl 0 rfl) ?_
  refine lv_iload hx hb dL_law_332 (lv_at hl 4 rfl) ?_
  refine q_iconst hx hb dL_law_334 ?_
  refine q_iadd hx hb dL_law_335 ?_
  refine q_sld hx hb hXs hbl hbA hS (by omega) hN4 dL_law_336 ?_
  have sb_1 := sxI_b xs (7 * k + 2)
  refine lv_aload_n hx hb dL_law_337 rfl (lv_at hl 0 rfl) ?_
  refine lv_iload hx hb dL_law_338 (lv_at hl 4 rfl) ?_
  refine q_iconst hx hb dL_law_340 ?_
  refine q_iadd hx hb dL_law_341 ?_
  refine q_sld hx hb hXs hbl hbA hS (by omega) hN4 dL_law_342 ?_
  have sb_2 := sxI_b xs (7 * k + 3)
  refine lv_aload_n hx hb dL_law_343 rfl (lv_at hl 3 rfl) ?_
  have t_ := c_L_splitBook l hfl D y sl L F H.size O G σ (sxI xs (7 * k + 1)) (sxI xs (7 * k + 2)) (sxI xs (7 * k + 3)) ou nv sv hC hW (by omega) (by omega) (by omega) ha_ou hF_ou (fun z => (d1 ou z).2.2 rfl)
  rw [hg] at t_
  refine q_sT C0 tL_166 t_ ⟨rfl, rfl⟩ rfl hJ hN (XS_of hXS hS hD) hP hD hS hA rfl hl rfl (Nat.le_of_ble_eq_true rfl) dL_law_344 ⟨by show _ ≤ 600128; omega, by show _ ≤ 7301098; omega⟩ (fun r H locs L1 F1 hP hD hS hz_ hp => ?_)
  obtain ⟨O1, G1, σ1, n1, s1, hC1, hg1, hs1, hf1, hO1, hF1, hq⟩ := hp
  have e1 : σ1 = cS_splitBook σ (sxI xs (7 * k + 1)) (sxI xs (7 * k + 2)) (sxI xs (7 * k + 3)) := cS_of hq
  have hI1 := LI_c hg hMP hv d1 d2 ha_ou hC1 hg1 hs1 hf1 hO1 hF1
  rw [e1] at hI1
  obtain ⟨O, G, U, V, nv, sv, hC, hg, hMP, hv, d1, d2, ha_ou, hF_ou⟩ := hI1
  refine lv_istore (lv' := [(5, .int (iI r)), (0, .ref b), (1, .ref bg), (2, .ref mg), (3, .ref ou), (4, .int (iI (7 * k)))]) hx hb dL_law_347 hl (by decide) rfl (fun ls hl => ?_)
  refine lv_aload_n hx hb dL_law_349 rfl (lv_at hl 3 rfl) ?_
  refine lv_aload_n hx hb dL_law_350 rfl (lv_at hl 1 rfl) ?_
  refine lv_iload hx hb dL_law_351 (lv_at hl 5 rfl) ?_
  refine q_iconst hx hb dL_law_353 ?_
  refine q_iadd hx hb dL_law_354 ?_
  refine q_sld hx hb hXs hbl hbA hS (by omega) hN4 dL_law_355 ?_
  refine lv_aload_n hx hb dL_law_356 rfl (lv_at hl 1 rfl) ?_
  refine lv_iload hx hb dL_law_357 (lv_at hl 5 rfl) ?_
  refine q_iconst hx hb dL_law_359 ?_
  refine q_iadd hx hb dL_law_360 ?_
  refine q_sld hx hb hXs hbl hbA hS (by omega) hN4 dL_law_361 ?_
  refine lv_aload_n hx hb dL_law_362 rfl (lv_at hl 1 rfl) ?_
  refine lv_iload hx hb dL_law_363 (lv_at hl 5 rfl) ?_
  refine q_iconst hx hb dL_law_365 ?_
  refine q_iadd hx hb dL_law_366 ?_
  refine q_sld hx hb hXs hbl hbA hS (by omega) hN4 dL_law_367 ?_
  have t_ := c_X6_splitBook l D y L1 F1 H.size U V μ (sxI xs (7 * k + 1)) (sxI xs (7 * k + 2)) (sxI xs (7 * k + 3)) hMP hM (by omega) (by omega) (by omega)
  rw [hv] at t_
  refine q_vMi C0 lL_168 t_ ⟨rfl, rfl⟩ rfl hP hD hS hA (by rw [← hv]; exact hMP.1.1) (show F1 mg = mE V μ from by rw [← hv]; exact hMP.1.2) rfl rfl rfl hl rfl (Nat.le_of_ble_eq_true rfl) dL_law_368 ⟨by show _ ≤ 600128; omega, by show _ ≤ 7301098; omega⟩ (fun r9 H locs L2 F2 hP hD hS hz_ hp => ?_)
  obtain ⟨er9, U1, V1, hM1, hv1, hE1⟩ := hp
  have hI2 := LI_m hC hg d1 d2 ha_ou hF_ou hM1 hv1 hE1
  refine lv_istore (lv' := [(6, .int (iI r9)), (5, .int (iI r)), (0, .ref b), (1, .ref bg), (2, .ref mg), (3, .ref ou), (4, .int (iI (7 * k)))]) hx hb dL_law_371 hl (by decide) rfl (fun ls hl => ?_)
  refine lv_goto (tgt := 2327) hx hb dL_law_373 (by decide) ?_
  refine W.widen (k := cells + 3600) (n := slots + 10000) (by omega) (by omega) ?_
  exact kk _ _ _ _ hP hD hS hI2 ls (lv_sub hl [2, 3, 4, 5, 6] rfl)
set_option maxHeartbeats 1600000 in
set_option maxRecDepth 100000 in
theorem K_fill {p : Program} {l : Launch} {e : Env} {s : State} {m : MethodId} {below : List Frame} {meth : Method} {c : Code} {b N : Nat} {xs : Nat → Int32} {D : va_G} {y : Nat → ClassId} {sl : List (Nat × Nat × Nat)} {Q : State → Prop} (hfl : l.stackTraces = false) (X : LX D y sl p c s m b N xs) {k : Int} (hk : 0 ≤ k ∧ 7 * k + 6 < N) {L : List Nat} {F : Nat → va_E} {σ : CS} {μ : MS} {H : Heap} {locs : List Loc} {cells slots bg mg ou : Nat} (hcs : cells + 3600 ≤ 600128 ∧ slots + 10000 ≤ 7301098) (hP : va_P D vwCl (va_pl L F) H) (hD : va_D (AL [] s.heap.size) (va_pl L F)) (hS : va_S (AL [] s.heap.size) s.heap H locs) (hI : LI y L F bg mg ou σ μ) (hW : CW σ) (hM : MW μ)
    (kk : ∀ (H1 : Heap) (locs1 : List Loc) (L1 : List Nat) (F1 : Nat → va_E), va_P D vwCl (va_pl L1 F1) H1 → va_D (AL [] s.heap.size) (va_pl L1 F1) → va_S (AL [] s.heap.size) s.heap H1 locs1 → LI y L1 F1 bg mg ou (cS_fill σ (sxI xs (7 * k + 1)) (sxI xs (7 * k + 2)) (sxI xs (7 * k + 3)) (sxI xs (7 * k + 4)) (sxI xs (7 * k + 5))) (jS_fill μ (sxI xs (7 * k + 1)) (sxI xs (7 * k + 2)) (sxI xs (7 * k + 3)) (sxI xs (7 * k + 4)) (sxI xs (7 * k + 5))) → ∀ ls : Array Slot, lv_has ls 7 [(0, .ref b), (1, .ref bg), (2, .ref mg), (3, .ref ou), (4, .int (iI (7 * k)))] → W p l e room_1 s m #[.ref b] below meth c H1 locs1 (cells + 3600) (slots + 10000) Q (F0 m 2327 ls [])) : ∀ ls : Array Slot, lv_has ls 7 [(0, .ref b), (1, .ref bg), (2, .ref mg), (3, .ref ou), (4, .int (iI (7 * k)))] → W p l e room_1 s m #[.ref b] below meth c H locs cells slots Q (F0 m 376 ls []) := by
  intro ls hl
  obtain ⟨C0, hJ, hN, hXS, hXs, hbl, hN4⟩ := X
  have hx := C0.1.1
  have hb := C0.1.2.1
  have hts := C0.1.2.2.2.2
  have hbA := AL_nil hbl
  have hA : ∀ q, s.heap.size ≤ q → AL [] s.heap.size q := fun q h => Or.inr h
  obtain ⟨O, G, U, V, nv, sv, hC, hg, hMP, hv, d1, d2, ha_ou, hF_ou⟩ := hI
  refine lv_aload_n hx hb dL_law_376 rfl (lv_at hl 1 rfl) ?_
  refine lv_aload_n hx hb dL_law_377 rfl (lv_at hl 0 rfl) ?_
  refine lv_iload hx hb dL_law_378 (lv_at hl 4 rfl) ?_
  refine q_iconst hx hb dL_law_380 ?_
  refine q_iadd hx hb dL_law_381 ?_
  refine q_sld hx hb hXs hbl hbA hS (by omega) hN4 dL_law_382 ?_
  have sb_0 := sxI_b xs (7 * k + 1)
  refine lv_aload_n hx hb dL_law_383 rfl (lv_at hl 0 rfl) ?_
  refine lv_iload hx hb dL_law_384 (lv_at hl 4 rfl) ?_
  refine q_iconst hx hb dL_law_386 ?_
  refine q_iadd hx hb dL_law_387 ?_
  refine q_sld hx hb hXs hbl hbA hS (by omega) hN4 dL_law_388 ?_
  have sb_1 := sxI_b xs (7 * k + 2)
  refine lv_aload_n hx hb dL_law_389 rfl (lv_at hl 0 rfl) ?_
  refine lv_iload hx hb dL_law_390 (lv_at hl 4 rfl) ?_
  refine q_iconst hx hb dL_law_392 ?_
  refine q_iadd hx hb dL_law_393 ?_
  refine q_sld hx hb hXs hbl hbA hS (by omega) hN4 dL_law_394 ?_
  have sb_2 := sxI_b xs (7 * k + 3)
  refine lv_aload_n hx hb dL_law_395 rfl (lv_at hl 0 rfl) ?_
  refine lv_iload hx hb dL_law_396 (lv_at hl 4 rfl) ?_
  refine q_iconst hx hb dL_law_398 ?_
  refine q_iadd hx hb dL_law_399 ?_
  refine q_sld hx hb hXs hbl hbA hS (by omega) hN4 dL_law_400 ?_
  have sb_3 := sxI_b xs (7 * k + 4)
  refine lv_aload_n hx hb dL_law_401 rfl (lv_at hl 0 rfl) ?_
  refine lv_iload hx hb dL_law_402 (lv_at hl 4 rfl) ?_
  refine q_iconst hx hb dL_law_404 ?_
  refine q_iadd hx hb dL_law_405 ?_
  refine q_sld hx hb hXs hbl hbA hS (by omega) hN4 dL_law_406 ?_
  have sb_4 := sxI_b xs (7 * k + 5)
  refine lv_aload_n hx hb dL_law_407 rfl (lv_at hl 3 rfl) ?_
  have t_ := c_L_fill l hfl D y sl L F H.size O G σ (sxI xs (7 * k + 1)) (sxI xs (7 * k + 2)) (sxI xs (7 * k + 3)) (sxI xs (7 * k + 4)) (sxI xs (7 * k + 5)) ou nv sv hC hW (by omega) (by omega) (by omega) (by omega) (by omega) ha_ou hF_ou (fun z => (d1 ou z).2.2 rfl)
  rw [hg] at t_
  refine q_sT C0 tL_169 t_ ⟨rfl, rfl⟩ rfl hJ hN (XS_of hXS hS hD) hP hD hS hA rfl hl rfl (Nat.le_of_ble_eq_true rfl) dL_law_408 ⟨by show _ ≤ 600128; omega, by show _ ≤ 7301098; omega⟩ (fun r H locs L1 F1 hP hD hS hz_ hp => ?_)
  obtain ⟨O1, G1, σ1, n1, s1, hC1, hg1, hs1, hf1, hO1, hF1, hq⟩ := hp
  have e1 : σ1 = cS_fill σ (sxI xs (7 * k + 1)) (sxI xs (7 * k + 2)) (sxI xs (7 * k + 3)) (sxI xs (7 * k + 4)) (sxI xs (7 * k + 5)) := cS_of hq
  have hI1 := LI_c hg hMP hv d1 d2 ha_ou hC1 hg1 hs1 hf1 hO1 hF1
  rw [e1] at hI1
  obtain ⟨O, G, U, V, nv, sv, hC, hg, hMP, hv, d1, d2, ha_ou, hF_ou⟩ := hI1
  refine lv_istore (lv' := [(5, .int (iI r)), (0, .ref b), (1, .ref bg), (2, .ref mg), (3, .ref ou), (4, .int (iI (7 * k)))]) hx hb dL_law_411 hl (by decide) rfl (fun ls hl => ?_)
  refine lv_aload_n hx hb dL_law_413 rfl (lv_at hl 3 rfl) ?_
  refine lv_aload_n hx hb dL_law_414 rfl (lv_at hl 1 rfl) ?_
  refine lv_iload hx hb dL_law_415 (lv_at hl 5 rfl) ?_
  refine q_iconst hx hb dL_law_417 ?_
  refine q_iadd hx hb dL_law_418 ?_
  refine q_sld hx hb hXs hbl hbA hS (by omega) hN4 dL_law_419 ?_
  refine lv_aload_n hx hb dL_law_420 rfl (lv_at hl 1 rfl) ?_
  refine lv_iload hx hb dL_law_421 (lv_at hl 5 rfl) ?_
  refine q_iconst hx hb dL_law_423 ?_
  refine q_iadd hx hb dL_law_424 ?_
  refine q_sld hx hb hXs hbl hbA hS (by omega) hN4 dL_law_425 ?_
  refine lv_aload_n hx hb dL_law_426 rfl (lv_at hl 1 rfl) ?_
  refine lv_iload hx hb dL_law_427 (lv_at hl 5 rfl) ?_
  refine q_iconst hx hb dL_law_429 ?_
  refine q_iadd hx hb dL_law_430 ?_
  refine q_sld hx hb hXs hbl hbA hS (by omega) hN4 dL_law_431 ?_
  refine lv_aload_n hx hb dL_law_432 rfl (lv_at hl 1 rfl) ?_
  refine lv_iload hx hb dL_law_433 (lv_at hl 5 rfl) ?_
  refine q_iconst hx hb dL_law_435 ?_
  refine q_iadd hx hb dL_law_436 ?_
  refine q_sld hx hb hXs hbl hbA hS (by omega) hN4 dL_law_437 ?_
  refine lv_aload_n hx hb dL_law_438 rfl (lv_at hl 1 rfl) ?_
  refine lv_iload hx hb dL_law_439 (lv_at hl 5 rfl) ?_
  refine q_iconst hx hb dL_law_441 ?_
  refine q_iadd hx hb dL_law_442 ?_
  refine q_sld hx hb hXs hbl hbA hS (by omega) hN4 dL_law_443 ?_
  have t_ := c_X6_fill l D y L1 F1 H.size U V μ (sxI xs (7 * k + 1)) (sxI xs (7 * k + 2)) (sxI xs (7 * k + 3)) (sxI xs (7 * k + 4)) (sxI xs (7 * k + 5)) hMP hM (by omega) (by omega) (by omega) (by omega) (by omega)
  rw [hv] at t_
  refine q_vMi C0 lL_172 t_ ⟨rfl, rfl⟩ rfl hP hD hS hA (by rw [← hv]; exact hMP.1.1) (show F1 mg = mE V μ from by rw [← hv]; exact hMP.1.2) rfl rfl rfl hl rfl (Nat.le_of_ble_eq_true rfl) dL_law_444 ⟨by show _ ≤ 600128; omega, by show _ ≤ 7301098; omega⟩ (fun r9 H locs L2 F2 hP hD hS hz_ hp => ?_)
  obtain ⟨er9, U1, V1, hM1, hv1, hE1⟩ := hp
  have hI2 := LI_m hC hg d1 d2 ha_ou hF_ou hM1 hv1 hE1
  refine lv_istore (lv' := [(6, .int (iI r9)), (5, .int (iI r)), (0, .ref b), (1, .ref bg), (2, .ref mg), (3, .ref ou), (4, .int (iI (7 * k)))]) hx hb dL_law_447 hl (by decide) rfl (fun ls hl => ?_)
  refine lv_goto (tgt := 2327) hx hb dL_law_449 (by decide) ?_
  refine W.widen (k := cells + 3600) (n := slots + 10000) (by omega) (by omega) ?_
  exact kk _ _ _ _ hP hD hS hI2 ls (lv_sub hl [2, 3, 4, 5, 6] rfl)
set_option maxHeartbeats 1600000 in
set_option maxRecDepth 100000 in
theorem K_pour {p : Program} {l : Launch} {e : Env} {s : State} {m : MethodId} {below : List Frame} {meth : Method} {c : Code} {b N : Nat} {xs : Nat → Int32} {D : va_G} {y : Nat → ClassId} {sl : List (Nat × Nat × Nat)} {Q : State → Prop} (hfl : l.stackTraces = false) (X : LX D y sl p c s m b N xs) {k : Int} (hk : 0 ≤ k ∧ 7 * k + 6 < N) {L : List Nat} {F : Nat → va_E} {σ : CS} {μ : MS} {H : Heap} {locs : List Loc} {cells slots bg mg ou : Nat} (hcs : cells + 3600 ≤ 600128 ∧ slots + 10000 ≤ 7301098) (hP : va_P D vwCl (va_pl L F) H) (hD : va_D (AL [] s.heap.size) (va_pl L F)) (hS : va_S (AL [] s.heap.size) s.heap H locs) (hI : LI y L F bg mg ou σ μ) (hW : CW σ) (hM : MW μ)
    (kk : ∀ (H1 : Heap) (locs1 : List Loc) (L1 : List Nat) (F1 : Nat → va_E), va_P D vwCl (va_pl L1 F1) H1 → va_D (AL [] s.heap.size) (va_pl L1 F1) → va_S (AL [] s.heap.size) s.heap H1 locs1 → LI y L1 F1 bg mg ou (cS_pour σ (sxI xs (7 * k + 1)) (sxI xs (7 * k + 2))) (jS_pour μ (sxI xs (7 * k + 1)) (sxI xs (7 * k + 2))) → ∀ ls : Array Slot, lv_has ls 7 [(0, .ref b), (1, .ref bg), (2, .ref mg), (3, .ref ou), (4, .int (iI (7 * k)))] → W p l e room_1 s m #[.ref b] below meth c H1 locs1 (cells + 3600) (slots + 10000) Q (F0 m 2327 ls [])) : ∀ ls : Array Slot, lv_has ls 7 [(0, .ref b), (1, .ref bg), (2, .ref mg), (3, .ref ou), (4, .int (iI (7 * k)))] → W p l e room_1 s m #[.ref b] below meth c H locs cells slots Q (F0 m 452 ls []) := by
  intro ls hl
  obtain ⟨C0, hJ, hN, hXS, hXs, hbl, hN4⟩ := X
  have hx := C0.1.1
  have hb := C0.1.2.1
  have hts := C0.1.2.2.2.2
  have hbA := AL_nil hbl
  have hA : ∀ q, s.heap.size ≤ q → AL [] s.heap.size q := fun q h => Or.inr h
  obtain ⟨O, G, U, V, nv, sv, hC, hg, hMP, hv, d1, d2, ha_ou, hF_ou⟩ := hI
  refine lv_aload_n hx hb dL_law_452 rfl (lv_at hl 1 rfl) ?_
  refine lv_aload_n hx hb dL_law_453 rfl (lv_at hl 0 rfl) ?_
  refine lv_iload hx hb dL_law_454 (lv_at hl 4 rfl) ?_
  refine q_iconst hx hb dL_law_456 ?_
  refine q_iadd hx hb dL_law_457 ?_
  refine q_sld hx hb hXs hbl hbA hS (by omega) hN4 dL_law_458 ?_
  have sb_0 := sxI_b xs (7 * k + 1)
  refine lv_aload_n hx hb dL_law_459 rfl (lv_at hl 0 rfl) ?_
  refine lv_iload hx hb dL_law_460 (lv_at hl 4 rfl) ?_
  refine q_iconst hx hb dL_law_462 ?_
  refine q_iadd hx hb dL_law_463 ?_
  refine q_sld hx hb hXs hbl hbA hS (by omega) hN4 dL_law_464 ?_
  have sb_1 := sxI_b xs (7 * k + 2)
  refine lv_aload_n hx hb dL_law_465 rfl (lv_at hl 3 rfl) ?_
  have t_ := c_L_pour l hfl D y sl L F H.size O G σ (sxI xs (7 * k + 1)) (sxI xs (7 * k + 2)) ou nv sv hC hW (by omega) (by omega) ha_ou hF_ou (fun z => (d1 ou z).2.2 rfl)
  rw [hg] at t_
  refine q_sT C0 tL_173 t_ ⟨rfl, rfl⟩ rfl hJ hN (XS_of hXS hS hD) hP hD hS hA rfl hl rfl (Nat.le_of_ble_eq_true rfl) dL_law_466 ⟨by show _ ≤ 600128; omega, by show _ ≤ 7301098; omega⟩ (fun r H locs L1 F1 hP hD hS hz_ hp => ?_)
  obtain ⟨O1, G1, σ1, n1, s1, hC1, hg1, hs1, hf1, hO1, hF1, hq⟩ := hp
  have e1 : σ1 = cS_pour σ (sxI xs (7 * k + 1)) (sxI xs (7 * k + 2)) := cS_of hq
  have hI1 := LI_c hg hMP hv d1 d2 ha_ou hC1 hg1 hs1 hf1 hO1 hF1
  rw [e1] at hI1
  obtain ⟨O, G, U, V, nv, sv, hC, hg, hMP, hv, d1, d2, ha_ou, hF_ou⟩ := hI1
  refine lv_istore (lv' := [(5, .int (iI r)), (0, .ref b), (1, .ref bg), (2, .ref mg), (3, .ref ou), (4, .int (iI (7 * k)))]) hx hb dL_law_469 hl (by decide) rfl (fun ls hl => ?_)
  refine lv_aload_n hx hb dL_law_471 rfl (lv_at hl 3 rfl) ?_
  refine lv_aload_n hx hb dL_law_472 rfl (lv_at hl 1 rfl) ?_
  refine lv_iload hx hb dL_law_473 (lv_at hl 5 rfl) ?_
  refine q_iconst hx hb dL_law_475 ?_
  refine q_iadd hx hb dL_law_476 ?_
  refine q_sld hx hb hXs hbl hbA hS (by omega) hN4 dL_law_477 ?_
  refine lv_aload_n hx hb dL_law_478 rfl (lv_at hl 1 rfl) ?_
  refine lv_iload hx hb dL_law_479 (lv_at hl 5 rfl) ?_
  refine q_iconst hx hb dL_law_481 ?_
  refine q_iadd hx hb dL_law_482 ?_
  refine q_sld hx hb hXs hbl hbA hS (by omega) hN4 dL_law_483 ?_
  have t_ := c_X6_pour l D y L1 F1 H.size U V μ (sxI xs (7 * k + 1)) (sxI xs (7 * k + 2)) hMP hM (by omega) (by omega)
  rw [hv] at t_
  refine q_vMi C0 lL_175 t_ ⟨rfl, rfl⟩ rfl hP hD hS hA (by rw [← hv]; exact hMP.1.1) (show F1 mg = mE V μ from by rw [← hv]; exact hMP.1.2) rfl rfl rfl hl rfl (Nat.le_of_ble_eq_true rfl) dL_law_484 ⟨by show _ ≤ 600128; omega, by show _ ≤ 7301098; omega⟩ (fun r9 H locs L2 F2 hP hD hS hz_ hp => ?_)
  obtain ⟨er9, U1, V1, hM1, hv1, hE1⟩ := hp
  have hI2 := LI_m hC hg d1 d2 ha_ou hF_ou hM1 hv1 hE1
  refine lv_istore (lv' := [(6, .int (iI r9)), (5, .int (iI r)), (0, .ref b), (1, .ref bg), (2, .ref mg), (3, .ref ou), (4, .int (iI (7 * k)))]) hx hb dL_law_487 hl (by decide) rfl (fun ls hl => ?_)
  refine lv_goto (tgt := 2327) hx hb dL_law_489 (by decide) ?_
  refine W.widen (k := cells + 3600) (n := slots + 10000) (by omega) (by omega) ?_
  exact kk _ _ _ _ hP hD hS hI2 ls (lv_sub hl [2, 3, 4, 5, 6] rfl)
set_option maxHeartbeats 1600000 in
set_option maxRecDepth 100000 in
theorem K_keep {p : Program} {l : Launch} {e : Env} {s : State} {m : MethodId} {below : List Frame} {meth : Method} {c : Code} {b N : Nat} {xs : Nat → Int32} {D : va_G} {y : Nat → ClassId} {sl : List (Nat × Nat × Nat)} {Q : State → Prop} (hfl : l.stackTraces = false) (X : LX D y sl p c s m b N xs) {k : Int} (hk : 0 ≤ k ∧ 7 * k + 6 < N) {L : List Nat} {F : Nat → va_E} {σ : CS} {μ : MS} {H : Heap} {locs : List Loc} {cells slots bg mg ou : Nat} (hcs : cells + 3600 ≤ 600128 ∧ slots + 10000 ≤ 7301098) (hP : va_P D vwCl (va_pl L F) H) (hD : va_D (AL [] s.heap.size) (va_pl L F)) (hS : va_S (AL [] s.heap.size) s.heap H locs) (hI : LI y L F bg mg ou σ μ) (hW : CW σ) (hM : MW μ)
    (kk : ∀ (H1 : Heap) (locs1 : List Loc) (L1 : List Nat) (F1 : Nat → va_E), va_P D vwCl (va_pl L1 F1) H1 → va_D (AL [] s.heap.size) (va_pl L1 F1) → va_S (AL [] s.heap.size) s.heap H1 locs1 → LI y L1 F1 bg mg ou (cS_keep σ (sxI xs (7 * k + 1)) (sxI xs (7 * k + 2)) (zb (sxI xs (7 * k + 3)))) (jS_keep μ (sxI xs (7 * k + 1)) (sxI xs (7 * k + 2)) (zb (sxI xs (7 * k + 3)))) → ∀ ls : Array Slot, lv_has ls 7 [(0, .ref b), (1, .ref bg), (2, .ref mg), (3, .ref ou), (4, .int (iI (7 * k)))] → W p l e room_1 s m #[.ref b] below meth c H1 locs1 (cells + 3600) (slots + 10000) Q (F0 m 2327 ls [])) : ∀ ls : Array Slot, lv_has ls 7 [(0, .ref b), (1, .ref bg), (2, .ref mg), (3, .ref ou), (4, .int (iI (7 * k)))] → W p l e room_1 s m #[.ref b] below meth c H locs cells slots Q (F0 m 492 ls []) := by
  intro ls hl
  obtain ⟨C0, hJ, hN, hXS, hXs, hbl, hN4⟩ := X
  have hx := C0.1.1
  have hb := C0.1.2.1
  have hts := C0.1.2.2.2.2
  have hbA := AL_nil hbl
  have hA : ∀ q, s.heap.size ≤ q → AL [] s.heap.size q := fun q h => Or.inr h
  obtain ⟨O, G, U, V, nv, sv, hC, hg, hMP, hv, d1, d2, ha_ou, hF_ou⟩ := hI
  refine lv_aload_n hx hb dL_law_492 rfl (lv_at hl 1 rfl) ?_
  refine lv_aload_n hx hb dL_law_493 rfl (lv_at hl 0 rfl) ?_
  refine lv_iload hx hb dL_law_494 (lv_at hl 4 rfl) ?_
  refine q_iconst hx hb dL_law_496 ?_
  refine q_iadd hx hb dL_law_497 ?_
  refine q_sld hx hb hXs hbl hbA hS (by omega) hN4 dL_law_498 ?_
  have sb_0 := sxI_b xs (7 * k + 1)
  refine lv_aload_n hx hb dL_law_499 rfl (lv_at hl 0 rfl) ?_
  refine lv_iload hx hb dL_law_500 (lv_at hl 4 rfl) ?_
  refine q_iconst hx hb dL_law_502 ?_
  refine q_iadd hx hb dL_law_503 ?_
  refine q_sld hx hb hXs hbl hbA hS (by omega) hN4 dL_law_504 ?_
  have sb_1 := sxI_b xs (7 * k + 2)
  refine lv_aload_n hx hb dL_law_505 rfl (lv_at hl 0 rfl) ?_
  refine lv_iload hx hb dL_law_506 (lv_at hl 4 rfl) ?_
  refine q_iconst hx hb dL_law_508 ?_
  refine q_iadd hx hb dL_law_509 ?_
  refine q_sld hx hb hXs hbl hbA hS (by omega) hN4 dL_law_510 ?_
  have sb_2 := sxI_b xs (7 * k + 3)
  refine q_if_eq hx hb dL_law_511 (tgt := 518) (by decide) (by omega) (fun c1 => ?_) (fun c1 => ?_)
  · have hz2 : zb (sxI xs (7 * k + 3)) = 0 := if_pos c1
    refine q_iconst hx hb dL_law_518 ?_
    refine lv_aload_n hx hb dL_law_519 rfl (lv_at hl 3 rfl) ?_
    have t_ := c_L_keep l hfl D y sl L F H.size O G σ (sxI xs (7 * k + 1)) (sxI xs (7 * k + 2)) 0 ou nv sv hC hW (by omega) (by omega) (by omega) ha_ou hF_ou (fun z => (d1 ou z).2.2 rfl)
    rw [hg] at t_
    refine q_sT C0 tL_176 t_ ⟨rfl, rfl⟩ rfl hJ hN (XS_of hXS hS hD) hP hD hS hA rfl hl rfl (Nat.le_of_ble_eq_true rfl) dL_law_520 ⟨by show _ ≤ 600128; omega, by show _ ≤ 7301098; omega⟩ (fun r H locs L1 F1 hP hD hS hz_ hp => ?_)
    obtain ⟨O1, G1, σ1, n1, s1, hC1, hg1, hs1, hf1, hO1, hF1, hq⟩ := hp
    have e1 : σ1 = cS_keep σ (sxI xs (7 * k + 1)) (sxI xs (7 * k + 2)) 0 := cS_of hq
    have hI1 := LI_c hg hMP hv d1 d2 ha_ou hC1 hg1 hs1 hf1 hO1 hF1
    rw [e1] at hI1
    obtain ⟨O, G, U, V, nv, sv, hC, hg, hMP, hv, d1, d2, ha_ou, hF_ou⟩ := hI1
    refine lv_istore (lv' := [(5, .int (iI r)), (0, .ref b), (1, .ref bg), (2, .ref mg), (3, .ref ou), (4, .int (iI (7 * k)))]) hx hb dL_law_523 hl (by decide) rfl (fun ls hl => ?_)
    refine lv_aload_n hx hb dL_law_525 rfl (lv_at hl 3 rfl) ?_
    refine lv_aload_n hx hb dL_law_526 rfl (lv_at hl 1 rfl) ?_
    refine lv_iload hx hb dL_law_527 (lv_at hl 5 rfl) ?_
    refine q_iconst hx hb dL_law_529 ?_
    refine q_iadd hx hb dL_law_530 ?_
    refine q_sld hx hb hXs hbl hbA hS (by omega) hN4 dL_law_531 ?_
    refine lv_aload_n hx hb dL_law_532 rfl (lv_at hl 1 rfl) ?_
    refine lv_iload hx hb dL_law_533 (lv_at hl 5 rfl) ?_
    refine q_iconst hx hb dL_law_535 ?_
    refine q_iadd hx hb dL_law_536 ?_
    refine q_sld hx hb hXs hbl hbA hS (by omega) hN4 dL_law_537 ?_
    refine lv_aload_n hx hb dL_law_538 rfl (lv_at hl 1 rfl) ?_
    refine lv_iload hx hb dL_law_539 (lv_at hl 5 rfl) ?_
    refine q_iconst hx hb dL_law_541 ?_
    refine q_iadd hx hb dL_law_542 ?_
    refine q_sld hx hb hXs hbl hbA hS (by omega) hN4 dL_law_543 ?_
    refine q_if_eq hx hb dL_law_544 (tgt := 551) (by decide) (by omega) (fun c0 => ?_) (fun c0 => absurd c1 c0)
    refine q_iconst hx hb dL_law_551 ?_
    have t_ := c_X6_keep l D y L1 F1 H.size U V μ (sxI xs (7 * k + 1)) (sxI xs (7 * k + 2)) 0 hMP hM (by omega) (by omega) (by omega)
    rw [hv] at t_
    refine q_vMi C0 lL_179 t_ ⟨rfl, rfl⟩ rfl hP hD hS hA (by rw [← hv]; exact hMP.1.1) (show F1 mg = mE V μ from by rw [← hv]; exact hMP.1.2) rfl rfl rfl hl rfl (Nat.le_of_ble_eq_true rfl) dL_law_552 ⟨by show _ ≤ 600128; omega, by show _ ≤ 7301098; omega⟩ (fun r9 H locs L2 F2 hP hD hS hz_ hp => ?_)
    obtain ⟨er9, U1, V1, hM1, hv1, hE1⟩ := hp
    have hI2 := LI_m hC hg d1 d2 ha_ou hF_ou hM1 hv1 hE1
    refine lv_istore (lv' := [(6, .int (iI r9)), (5, .int (iI r)), (0, .ref b), (1, .ref bg), (2, .ref mg), (3, .ref ou), (4, .int (iI (7 * k)))]) hx hb dL_law_555 hl (by decide) rfl (fun ls hl => ?_)
    refine lv_goto (tgt := 2327) hx hb dL_law_557 (by decide) ?_
    refine W.widen (k := cells + 3600) (n := slots + 10000) (by omega) (by omega) ?_
    exact kk _ _ _ _ hP hD hS (by rw [hz2]; exact hI2) ls (lv_sub hl [2, 3, 4, 5, 6] rfl)
  · have hz2 : zb (sxI xs (7 * k + 3)) = 1 := if_neg c1
    refine q_iconst hx hb dL_law_514 ?_
    refine lv_goto (tgt := 519) hx hb dL_law_515 (by decide) ?_
    refine lv_aload_n hx hb dL_law_519 rfl (lv_at hl 3 rfl) ?_
    have t_ := c_L_keep l hfl D y sl L F H.size O G σ (sxI xs (7 * k + 1)) (sxI xs (7 * k + 2)) 1 ou nv sv hC hW (by omega) (by omega) (by omega) ha_ou hF_ou (fun z => (d1 ou z).2.2 rfl)
    rw [hg] at t_
    refine q_sT C0 tL_176 t_ ⟨rfl, rfl⟩ rfl hJ hN (XS_of hXS hS hD) hP hD hS hA rfl hl rfl (Nat.le_of_ble_eq_true rfl) dL_law_520 ⟨by show _ ≤ 600128; omega, by show _ ≤ 7301098; omega⟩ (fun r H locs L1 F1 hP hD hS hz_ hp => ?_)
    obtain ⟨O1, G1, σ1, n1, s1, hC1, hg1, hs1, hf1, hO1, hF1, hq⟩ := hp
    have e1 : σ1 = cS_keep σ (sxI xs (7 * k + 1)) (sxI xs (7 * k + 2)) 1 := cS_of hq
    have hI1 := LI_c hg hMP hv d1 d2 ha_ou hC1 hg1 hs1 hf1 hO1 hF1
    rw [e1] at hI1
    obtain ⟨O, G, U, V, nv, sv, hC, hg, hMP, hv, d1, d2, ha_ou, hF_ou⟩ := hI1
    refine lv_istore (lv' := [(5, .int (iI r)), (0, .ref b), (1, .ref bg), (2, .ref mg), (3, .ref ou), (4, .int (iI (7 * k)))]) hx hb dL_law_523 hl (by decide) rfl (fun ls hl => ?_)
    refine lv_aload_n hx hb dL_law_525 rfl (lv_at hl 3 rfl) ?_
    refine lv_aload_n hx hb dL_law_526 rfl (lv_at hl 1 rfl) ?_
    refine lv_iload hx hb dL_law_527 (lv_at hl 5 rfl) ?_
    refine q_iconst hx hb dL_law_529 ?_
    refine q_iadd hx hb dL_law_530 ?_
    refine q_sld hx hb hXs hbl hbA hS (by omega) hN4 dL_law_531 ?_
    refine lv_aload_n hx hb dL_law_532 rfl (lv_at hl 1 rfl) ?_
    refine lv_iload hx hb dL_law_533 (lv_at hl 5 rfl) ?_
    refine q_iconst hx hb dL_law_535 ?_
    refine q_iadd hx hb dL_law_536 ?_
    refine q_sld hx hb hXs hbl hbA hS (by omega) hN4 dL_law_537 ?_
    refine lv_aload_n hx hb dL_law_538 rfl (lv_at hl 1 rfl) ?_
    refine lv_iload hx hb dL_law_539 (lv_at hl 5 rfl) ?_
    refine q_iconst hx hb dL_law_541 ?_
    refine q_iadd hx hb dL_law_542 ?_
    refine q_sld hx hb hXs hbl hbA hS (by omega) hN4 dL_law_543 ?_
    refine q_if_eq hx hb dL_law_544 (tgt := 551) (by decide) (by omega) (fun c0 => absurd c0 c1) (fun c0 => ?_)
    refine q_iconst hx hb dL_law_547 ?_
    refine lv_goto (tgt := 552) hx hb dL_law_548 (by decide) ?_
    have t_ := c_X6_keep l D y L1 F1 H.size U V μ (sxI xs (7 * k + 1)) (sxI xs (7 * k + 2)) 1 hMP hM (by omega) (by omega) (by omega)
    rw [hv] at t_
    refine q_vMi C0 lL_179 t_ ⟨rfl, rfl⟩ rfl hP hD hS hA (by rw [← hv]; exact hMP.1.1) (show F1 mg = mE V μ from by rw [← hv]; exact hMP.1.2) rfl rfl rfl hl rfl (Nat.le_of_ble_eq_true rfl) dL_law_552 ⟨by show _ ≤ 600128; omega, by show _ ≤ 7301098; omega⟩ (fun r9 H locs L2 F2 hP hD hS hz_ hp => ?_)
    obtain ⟨er9, U1, V1, hM1, hv1, hE1⟩ := hp
    have hI2 := LI_m hC hg d1 d2 ha_ou hF_ou hM1 hv1 hE1
    refine lv_istore (lv' := [(6, .int (iI r9)), (5, .int (iI r)), (0, .ref b), (1, .ref bg), (2, .ref mg), (3, .ref ou), (4, .int (iI (7 * k)))]) hx hb dL_law_555 hl (by decide) rfl (fun ls hl => ?_)
    refine lv_goto (tgt := 2327) hx hb dL_law_557 (by decide) ?_
    refine W.widen (k := cells + 3600) (n := slots + 10000) (by omega) (by omega) ?_
    exact kk _ _ _ _ hP hD hS (by rw [hz2]; exact hI2) ls (lv_sub hl [2, 3, 4, 5, 6] rfl)
set_option maxHeartbeats 1600000 in
set_option maxRecDepth 100000 in
theorem K_put {p : Program} {l : Launch} {e : Env} {s : State} {m : MethodId} {below : List Frame} {meth : Method} {c : Code} {b N : Nat} {xs : Nat → Int32} {D : va_G} {y : Nat → ClassId} {sl : List (Nat × Nat × Nat)} {Q : State → Prop} (hfl : l.stackTraces = false) (X : LX D y sl p c s m b N xs) {k : Int} (hk : 0 ≤ k ∧ 7 * k + 6 < N) {L : List Nat} {F : Nat → va_E} {σ : CS} {μ : MS} {H : Heap} {locs : List Loc} {cells slots bg mg ou : Nat} (hcs : cells + 3600 ≤ 600128 ∧ slots + 10000 ≤ 7301098) (hP : va_P D vwCl (va_pl L F) H) (hD : va_D (AL [] s.heap.size) (va_pl L F)) (hS : va_S (AL [] s.heap.size) s.heap H locs) (hI : LI y L F bg mg ou σ μ) (hW : CW σ) (hM : MW μ)
    (kk : ∀ (H1 : Heap) (locs1 : List Loc) (L1 : List Nat) (F1 : Nat → va_E), va_P D vwCl (va_pl L1 F1) H1 → va_D (AL [] s.heap.size) (va_pl L1 F1) → va_S (AL [] s.heap.size) s.heap H1 locs1 → LI y L1 F1 bg mg ou (cS_put σ (sxI xs (7 * k + 1)) (sxI xs (7 * k + 2)) (sxI xs (7 * k + 3)) (sxI xs (7 * k + 4))) (jS_put μ (sxI xs (7 * k + 1)) (sxI xs (7 * k + 2)) (sxI xs (7 * k + 3)) (sxI xs (7 * k + 4))) → ∀ ls : Array Slot, lv_has ls 7 [(0, .ref b), (1, .ref bg), (2, .ref mg), (3, .ref ou), (4, .int (iI (7 * k)))] → W p l e room_1 s m #[.ref b] below meth c H1 locs1 (cells + 3600) (slots + 10000) Q (F0 m 2327 ls [])) : ∀ ls : Array Slot, lv_has ls 7 [(0, .ref b), (1, .ref bg), (2, .ref mg), (3, .ref ou), (4, .int (iI (7 * k)))] → W p l e room_1 s m #[.ref b] below meth c H locs cells slots Q (F0 m 560 ls []) := by
  intro ls hl
  obtain ⟨C0, hJ, hN, hXS, hXs, hbl, hN4⟩ := X
  have hx := C0.1.1
  have hb := C0.1.2.1
  have hts := C0.1.2.2.2.2
  have hbA := AL_nil hbl
  have hA : ∀ q, s.heap.size ≤ q → AL [] s.heap.size q := fun q h => Or.inr h
  obtain ⟨O, G, U, V, nv, sv, hC, hg, hMP, hv, d1, d2, ha_ou, hF_ou⟩ := hI
  refine lv_aload_n hx hb dL_law_560 rfl (lv_at hl 1 rfl) ?_
  refine lv_aload_n hx hb dL_law_561 rfl (lv_at hl 0 rfl) ?_
  refine lv_iload hx hb dL_law_562 (lv_at hl 4 rfl) ?_
  refine q_iconst hx hb dL_law_564 ?_
  refine q_iadd hx hb dL_law_565 ?_
  refine q_sld hx hb hXs hbl hbA hS (by omega) hN4 dL_law_566 ?_
  have sb_0 := sxI_b xs (7 * k + 1)
  refine lv_aload_n hx hb dL_law_567 rfl (lv_at hl 0 rfl) ?_
  refine lv_iload hx hb dL_law_568 (lv_at hl 4 rfl) ?_
  refine q_iconst hx hb dL_law_570 ?_
  refine q_iadd hx hb dL_law_571 ?_
  refine q_sld hx hb hXs hbl hbA hS (by omega) hN4 dL_law_572 ?_
  have sb_1 := sxI_b xs (7 * k + 2)
  refine lv_aload_n hx hb dL_law_573 rfl (lv_at hl 0 rfl) ?_
  refine lv_iload hx hb dL_law_574 (lv_at hl 4 rfl) ?_
  refine q_iconst hx hb dL_law_576 ?_
  refine q_iadd hx hb dL_law_577 ?_
  refine q_sld hx hb hXs hbl hbA hS (by omega) hN4 dL_law_578 ?_
  have sb_2 := sxI_b xs (7 * k + 3)
  refine lv_aload_n hx hb dL_law_579 rfl (lv_at hl 0 rfl) ?_
  refine lv_iload hx hb dL_law_580 (lv_at hl 4 rfl) ?_
  refine q_iconst hx hb dL_law_582 ?_
  refine q_iadd hx hb dL_law_583 ?_
  refine q_sld hx hb hXs hbl hbA hS (by omega) hN4 dL_law_584 ?_
  have sb_3 := sxI_b xs (7 * k + 4)
  refine lv_aload_n hx hb dL_law_585 rfl (lv_at hl 3 rfl) ?_
  have t_ := c_L_put l hfl D y sl L F H.size O G σ (sxI xs (7 * k + 1)) (sxI xs (7 * k + 2)) (sxI xs (7 * k + 3)) (sxI xs (7 * k + 4)) ou nv sv hC hW (by omega) (by omega) (by omega) (by omega) ha_ou hF_ou (fun z => (d1 ou z).2.2 rfl)
  rw [hg] at t_
  refine q_sT C0 tL_180 t_ ⟨rfl, rfl⟩ rfl hJ hN (XS_of hXS hS hD) hP hD hS hA rfl hl rfl (Nat.le_of_ble_eq_true rfl) dL_law_586 ⟨by show _ ≤ 600128; omega, by show _ ≤ 7301098; omega⟩ (fun r H locs L1 F1 hP hD hS hz_ hp => ?_)
  obtain ⟨O1, G1, σ1, n1, s1, hC1, hg1, hs1, hf1, hO1, hF1, hq⟩ := hp
  have e1 : σ1 = cS_put σ (sxI xs (7 * k + 1)) (sxI xs (7 * k + 2)) (sxI xs (7 * k + 3)) (sxI xs (7 * k + 4)) := cS_of hq
  have hI1 := LI_c hg hMP hv d1 d2 ha_ou hC1 hg1 hs1 hf1 hO1 hF1
  rw [e1] at hI1
  obtain ⟨O, G, U, V, nv, sv, hC, hg, hMP, hv, d1, d2, ha_ou, hF_ou⟩ := hI1
  refine lv_istore (lv' := [(5, .int (iI r)), (0, .ref b), (1, .ref bg), (2, .ref mg), (3, .ref ou), (4, .int (iI (7 * k)))]) hx hb dL_law_589 hl (by decide) rfl (fun ls hl => ?_)
  refine lv_aload_n hx hb dL_law_591 rfl (lv_at hl 3 rfl) ?_
  refine lv_aload_n hx hb dL_law_592 rfl (lv_at hl 1 rfl) ?_
  refine lv_iload hx hb dL_law_593 (lv_at hl 5 rfl) ?_
  refine q_iconst hx hb dL_law_595 ?_
  refine q_iadd hx hb dL_law_596 ?_
  refine q_sld hx hb hXs hbl hbA hS (by omega) hN4 dL_law_597 ?_
  refine lv_aload_n hx hb dL_law_598 rfl (lv_at hl 1 rfl) ?_
  refine lv_iload hx hb dL_law_599 (lv_at hl 5 rfl) ?_
  refine q_iconst hx hb dL_law_601 ?_
  refine q_iadd hx hb dL_law_602 ?_
  refine q_sld hx hb hXs hbl hbA hS (by omega) hN4 dL_law_603 ?_
  refine lv_aload_n hx hb dL_law_604 rfl (lv_at hl 1 rfl) ?_
  refine lv_iload hx hb dL_law_605 (lv_at hl 5 rfl) ?_
  refine q_iconst hx hb dL_law_607 ?_
  refine q_iadd hx hb dL_law_608 ?_
  refine q_sld hx hb hXs hbl hbA hS (by omega) hN4 dL_law_609 ?_
  refine lv_aload_n hx hb dL_law_610 rfl (lv_at hl 1 rfl) ?_
  refine lv_iload hx hb dL_law_611 (lv_at hl 5 rfl) ?_
  refine q_iconst hx hb dL_law_613 ?_
  refine q_iadd hx hb dL_law_614 ?_
  refine q_sld hx hb hXs hbl hbA hS (by omega) hN4 dL_law_615 ?_
  have t_ := c_X6_put l D y L1 F1 H.size U V μ (sxI xs (7 * k + 1)) (sxI xs (7 * k + 2)) (sxI xs (7 * k + 3)) (sxI xs (7 * k + 4)) hMP hM (by omega) (by omega) (by omega) (by omega)
  rw [hv] at t_
  refine q_vMi C0 lL_183 t_ ⟨rfl, rfl⟩ rfl hP hD hS hA (by rw [← hv]; exact hMP.1.1) (show F1 mg = mE V μ from by rw [← hv]; exact hMP.1.2) rfl rfl rfl hl rfl (Nat.le_of_ble_eq_true rfl) dL_law_616 ⟨by show _ ≤ 600128; omega, by show _ ≤ 7301098; omega⟩ (fun r9 H locs L2 F2 hP hD hS hz_ hp => ?_)
  obtain ⟨er9, U1, V1, hM1, hv1, hE1⟩ := hp
  have hI2 := LI_m hC hg d1 d2 ha_ou hF_ou hM1 hv1 hE1
  refine lv_istore (lv' := [(6, .int (iI r9)), (5, .int (iI r)), (0, .ref b), (1, .ref bg), (2, .ref mg), (3, .ref ou), (4, .int (iI (7 * k)))]) hx hb dL_law_619 hl (by decide) rfl (fun ls hl => ?_)
  refine lv_goto (tgt := 2327) hx hb dL_law_621 (by decide) ?_
  refine W.widen (k := cells + 3600) (n := slots + 10000) (by omega) (by omega) ?_
  exact kk _ _ _ _ hP hD hS hI2 ls (lv_sub hl [2, 3, 4, 5, 6] rfl)
set_option maxHeartbeats 1600000 in
set_option maxRecDepth 100000 in
theorem K_exchange {p : Program} {l : Launch} {e : Env} {s : State} {m : MethodId} {below : List Frame} {meth : Method} {c : Code} {b N : Nat} {xs : Nat → Int32} {D : va_G} {y : Nat → ClassId} {sl : List (Nat × Nat × Nat)} {Q : State → Prop} (hfl : l.stackTraces = false) (X : LX D y sl p c s m b N xs) {k : Int} (hk : 0 ≤ k ∧ 7 * k + 6 < N) {L : List Nat} {F : Nat → va_E} {σ : CS} {μ : MS} {H : Heap} {locs : List Loc} {cells slots bg mg ou : Nat} (hcs : cells + 3600 ≤ 600128 ∧ slots + 10000 ≤ 7301098) (hP : va_P D vwCl (va_pl L F) H) (hD : va_D (AL [] s.heap.size) (va_pl L F)) (hS : va_S (AL [] s.heap.size) s.heap H locs) (hI : LI y L F bg mg ou σ μ) (hW : CW σ) (hM : MW μ)
    (kk : ∀ (H1 : Heap) (locs1 : List Loc) (L1 : List Nat) (F1 : Nat → va_E), va_P D vwCl (va_pl L1 F1) H1 → va_D (AL [] s.heap.size) (va_pl L1 F1) → va_S (AL [] s.heap.size) s.heap H1 locs1 → LI y L1 F1 bg mg ou (cS_exchange σ (sxI xs (7 * k + 1)) (sxI xs (7 * k + 2)) (sxI xs (7 * k + 3)) (sxI xs (7 * k + 4))) (jS_exchange μ (sxI xs (7 * k + 1)) (sxI xs (7 * k + 2)) (sxI xs (7 * k + 3)) (sxI xs (7 * k + 4))) → ∀ ls : Array Slot, lv_has ls 7 [(0, .ref b), (1, .ref bg), (2, .ref mg), (3, .ref ou), (4, .int (iI (7 * k)))] → W p l e room_1 s m #[.ref b] below meth c H1 locs1 (cells + 3600) (slots + 10000) Q (F0 m 2327 ls [])) : ∀ ls : Array Slot, lv_has ls 7 [(0, .ref b), (1, .ref bg), (2, .ref mg), (3, .ref ou), (4, .int (iI (7 * k)))] → W p l e room_1 s m #[.ref b] below meth c H locs cells slots Q (F0 m 624 ls []) := by
  intro ls hl
  obtain ⟨C0, hJ, hN, hXS, hXs, hbl, hN4⟩ := X
  have hx := C0.1.1
  have hb := C0.1.2.1
  have hts := C0.1.2.2.2.2
  have hbA := AL_nil hbl
  have hA : ∀ q, s.heap.size ≤ q → AL [] s.heap.size q := fun q h => Or.inr h
  obtain ⟨O, G, U, V, nv, sv, hC, hg, hMP, hv, d1, d2, ha_ou, hF_ou⟩ := hI
  refine lv_aload_n hx hb dL_law_624 rfl (lv_at hl 1 rfl) ?_
  refine lv_aload_n hx hb dL_law_625 rfl (lv_at hl 0 rfl) ?_
  refine lv_iload hx hb dL_law_626 (lv_at hl 4 rfl) ?_
  refine q_iconst hx hb dL_law_628 ?_
  refine q_iadd hx hb dL_law_629 ?_
  refine q_sld hx hb hXs hbl hbA hS (by omega) hN4 dL_law_630 ?_
  have sb_0 := sxI_b xs (7 * k + 1)
  refine lv_aload_n hx hb dL_law_631 rfl (lv_at hl 0 rfl) ?_
  refine lv_iload hx hb dL_law_632 (lv_at hl 4 rfl) ?_
  refine q_iconst hx hb dL_law_634 ?_
  refine q_iadd hx hb dL_law_635 ?_
  refine q_sld hx hb hXs hbl hbA hS (by omega) hN4 dL_law_636 ?_
  have sb_1 := sxI_b xs (7 * k + 2)
  refine lv_aload_n hx hb dL_law_637 rfl (lv_at hl 0 rfl) ?_
  refine lv_iload hx hb dL_law_638 (lv_at hl 4 rfl) ?_
  refine q_iconst hx hb dL_law_640 ?_
  refine q_iadd hx hb dL_law_641 ?_
  refine q_sld hx hb hXs hbl hbA hS (by omega) hN4 dL_law_642 ?_
  have sb_2 := sxI_b xs (7 * k + 3)
  refine lv_aload_n hx hb dL_law_643 rfl (lv_at hl 0 rfl) ?_
  refine lv_iload hx hb dL_law_644 (lv_at hl 4 rfl) ?_
  refine q_iconst hx hb dL_law_646 ?_
  refine q_iadd hx hb dL_law_647 ?_
  refine q_sld hx hb hXs hbl hbA hS (by omega) hN4 dL_law_648 ?_
  have sb_3 := sxI_b xs (7 * k + 4)
  refine lv_aload_n hx hb dL_law_649 rfl (lv_at hl 3 rfl) ?_
  have t_ := c_L_exchange l hfl D y sl L F H.size O G σ (sxI xs (7 * k + 1)) (sxI xs (7 * k + 2)) (sxI xs (7 * k + 3)) (sxI xs (7 * k + 4)) ou nv sv hC hW (by omega) (by omega) (by omega) (by omega) ha_ou hF_ou (fun z => (d1 ou z).2.2 rfl)
  rw [hg] at t_
  refine q_sT C0 tL_184 t_ ⟨rfl, rfl⟩ rfl hJ hN (XS_of hXS hS hD) hP hD hS hA rfl hl rfl (Nat.le_of_ble_eq_true rfl) dL_law_650 ⟨by show _ ≤ 600128; omega, by show _ ≤ 7301098; omega⟩ (fun r H locs L1 F1 hP hD hS hz_ hp => ?_)
  obtain ⟨O1, G1, σ1, n1, s1, hC1, hg1, hs1, hf1, hO1, hF1, hq⟩ := hp
  have e1 : σ1 = cS_exchange σ (sxI xs (7 * k + 1)) (sxI xs (7 * k + 2)) (sxI xs (7 * k + 3)) (sxI xs (7 * k + 4)) := cS_of hq
  have hI1 := LI_c hg hMP hv d1 d2 ha_ou hC1 hg1 hs1 hf1 hO1 hF1
  rw [e1] at hI1
  obtain ⟨O, G, U, V, nv, sv, hC, hg, hMP, hv, d1, d2, ha_ou, hF_ou⟩ := hI1
  refine lv_istore (lv' := [(5, .int (iI r)), (0, .ref b), (1, .ref bg), (2, .ref mg), (3, .ref ou), (4, .int (iI (7 * k)))]) hx hb dL_law_653 hl (by decide) rfl (fun ls hl => ?_)
  refine lv_aload_n hx hb dL_law_655 rfl (lv_at hl 3 rfl) ?_
  refine lv_aload_n hx hb dL_law_656 rfl (lv_at hl 1 rfl) ?_
  refine lv_iload hx hb dL_law_657 (lv_at hl 5 rfl) ?_
  refine q_iconst hx hb dL_law_659 ?_
  refine q_iadd hx hb dL_law_660 ?_
  refine q_sld hx hb hXs hbl hbA hS (by omega) hN4 dL_law_661 ?_
  refine lv_aload_n hx hb dL_law_662 rfl (lv_at hl 1 rfl) ?_
  refine lv_iload hx hb dL_law_663 (lv_at hl 5 rfl) ?_
  refine q_iconst hx hb dL_law_665 ?_
  refine q_iadd hx hb dL_law_666 ?_
  refine q_sld hx hb hXs hbl hbA hS (by omega) hN4 dL_law_667 ?_
  refine lv_aload_n hx hb dL_law_668 rfl (lv_at hl 1 rfl) ?_
  refine lv_iload hx hb dL_law_669 (lv_at hl 5 rfl) ?_
  refine q_iconst hx hb dL_law_671 ?_
  refine q_iadd hx hb dL_law_672 ?_
  refine q_sld hx hb hXs hbl hbA hS (by omega) hN4 dL_law_673 ?_
  refine lv_aload_n hx hb dL_law_674 rfl (lv_at hl 1 rfl) ?_
  refine lv_iload hx hb dL_law_675 (lv_at hl 5 rfl) ?_
  refine q_iconst hx hb dL_law_677 ?_
  refine q_iadd hx hb dL_law_678 ?_
  refine q_sld hx hb hXs hbl hbA hS (by omega) hN4 dL_law_679 ?_
  have t_ := c_X6_exchange l D y L1 F1 H.size U V μ (sxI xs (7 * k + 1)) (sxI xs (7 * k + 2)) (sxI xs (7 * k + 3)) (sxI xs (7 * k + 4)) hMP hM (by omega) (by omega) (by omega) (by omega)
  rw [hv] at t_
  refine q_vMi C0 lL_186 t_ ⟨rfl, rfl⟩ rfl hP hD hS hA (by rw [← hv]; exact hMP.1.1) (show F1 mg = mE V μ from by rw [← hv]; exact hMP.1.2) rfl rfl rfl hl rfl (Nat.le_of_ble_eq_true rfl) dL_law_680 ⟨by show _ ≤ 600128; omega, by show _ ≤ 7301098; omega⟩ (fun r9 H locs L2 F2 hP hD hS hz_ hp => ?_)
  obtain ⟨er9, U1, V1, hM1, hv1, hE1⟩ := hp
  have hI2 := LI_m hC hg d1 d2 ha_ou hF_ou hM1 hv1 hE1
  refine lv_istore (lv' := [(6, .int (iI r9)), (5, .int (iI r)), (0, .ref b), (1, .ref bg), (2, .ref mg), (3, .ref ou), (4, .int (iI (7 * k)))]) hx hb dL_law_683 hl (by decide) rfl (fun ls hl => ?_)
  refine lv_goto (tgt := 2327) hx hb dL_law_685 (by decide) ?_
  refine W.widen (k := cells + 3600) (n := slots + 10000) (by omega) (by omega) ?_
  exact kk _ _ _ _ hP hD hS hI2 ls (lv_sub hl [2, 3, 4, 5, 6] rfl)
set_option maxHeartbeats 1600000 in
set_option maxRecDepth 100000 in
theorem K_take {p : Program} {l : Launch} {e : Env} {s : State} {m : MethodId} {below : List Frame} {meth : Method} {c : Code} {b N : Nat} {xs : Nat → Int32} {D : va_G} {y : Nat → ClassId} {sl : List (Nat × Nat × Nat)} {Q : State → Prop} (hfl : l.stackTraces = false) (X : LX D y sl p c s m b N xs) {k : Int} (hk : 0 ≤ k ∧ 7 * k + 6 < N) {L : List Nat} {F : Nat → va_E} {σ : CS} {μ : MS} {H : Heap} {locs : List Loc} {cells slots bg mg ou : Nat} (hcs : cells + 3600 ≤ 600128 ∧ slots + 10000 ≤ 7301098) (hP : va_P D vwCl (va_pl L F) H) (hD : va_D (AL [] s.heap.size) (va_pl L F)) (hS : va_S (AL [] s.heap.size) s.heap H locs) (hI : LI y L F bg mg ou σ μ) (hW : CW σ) (hM : MW μ)
    (kk : ∀ (H1 : Heap) (locs1 : List Loc) (L1 : List Nat) (F1 : Nat → va_E), va_P D vwCl (va_pl L1 F1) H1 → va_D (AL [] s.heap.size) (va_pl L1 F1) → va_S (AL [] s.heap.size) s.heap H1 locs1 → LI y L1 F1 bg mg ou (cS_take σ (sxI xs (7 * k + 1)) (sxI xs (7 * k + 2))) (jS_take μ (sxI xs (7 * k + 1)) (sxI xs (7 * k + 2))) → ∀ ls : Array Slot, lv_has ls 7 [(0, .ref b), (1, .ref bg), (2, .ref mg), (3, .ref ou), (4, .int (iI (7 * k)))] → W p l e room_1 s m #[.ref b] below meth c H1 locs1 (cells + 3600) (slots + 10000) Q (F0 m 2327 ls [])) : ∀ ls : Array Slot, lv_has ls 7 [(0, .ref b), (1, .ref bg), (2, .ref mg), (3, .ref ou), (4, .int (iI (7 * k)))] → W p l e room_1 s m #[.ref b] below meth c H locs cells slots Q (F0 m 688 ls []) := by
  intro ls hl
  obtain ⟨C0, hJ, hN, hXS, hXs, hbl, hN4⟩ := X
  have hx := C0.1.1
  have hb := C0.1.2.1
  have hts := C0.1.2.2.2.2
  have hbA := AL_nil hbl
  have hA : ∀ q, s.heap.size ≤ q → AL [] s.heap.size q := fun q h => Or.inr h
  obtain ⟨O, G, U, V, nv, sv, hC, hg, hMP, hv, d1, d2, ha_ou, hF_ou⟩ := hI
  refine lv_aload_n hx hb dL_law_688 rfl (lv_at hl 1 rfl) ?_
  refine lv_aload_n hx hb dL_law_689 rfl (lv_at hl 0 rfl) ?_
  refine lv_iload hx hb dL_law_690 (lv_at hl 4 rfl) ?_
  refine q_iconst hx hb dL_law_692 ?_
  refine q_iadd hx hb dL_law_693 ?_
  refine q_sld hx hb hXs hbl hbA hS (by omega) hN4 dL_law_694 ?_
  have sb_0 := sxI_b xs (7 * k + 1)
  refine lv_aload_n hx hb dL_law_695 rfl (lv_at hl 0 rfl) ?_
  refine lv_iload hx hb dL_law_696 (lv_at hl 4 rfl) ?_
  refine q_iconst hx hb dL_law_698 ?_
  refine q_iadd hx hb dL_law_699 ?_
  refine q_sld hx hb hXs hbl hbA hS (by omega) hN4 dL_law_700 ?_
  have sb_1 := sxI_b xs (7 * k + 2)
  refine lv_aload_n hx hb dL_law_701 rfl (lv_at hl 3 rfl) ?_
  have t_ := c_L_take l hfl D y sl L F H.size O G σ (sxI xs (7 * k + 1)) (sxI xs (7 * k + 2)) ou nv sv hC hW (by omega) (by omega) ha_ou hF_ou (fun z => (d1 ou z).2.2 rfl)
  rw [hg] at t_
  refine q_sT C0 tL_187 t_ ⟨rfl, rfl⟩ rfl hJ hN (XS_of hXS hS hD) hP hD hS hA rfl hl rfl (Nat.le_of_ble_eq_true rfl) dL_law_702 ⟨by show _ ≤ 600128; omega, by show _ ≤ 7301098; omega⟩ (fun r H locs L1 F1 hP hD hS hz_ hp => ?_)
  obtain ⟨O1, G1, σ1, n1, s1, hC1, hg1, hs1, hf1, hO1, hF1, hq⟩ := hp
  have e1 : σ1 = cS_take σ (sxI xs (7 * k + 1)) (sxI xs (7 * k + 2)) := cS_of hq
  have hI1 := LI_c hg hMP hv d1 d2 ha_ou hC1 hg1 hs1 hf1 hO1 hF1
  rw [e1] at hI1
  obtain ⟨O, G, U, V, nv, sv, hC, hg, hMP, hv, d1, d2, ha_ou, hF_ou⟩ := hI1
  refine lv_istore (lv' := [(5, .int (iI r)), (0, .ref b), (1, .ref bg), (2, .ref mg), (3, .ref ou), (4, .int (iI (7 * k)))]) hx hb dL_law_705 hl (by decide) rfl (fun ls hl => ?_)
  refine lv_aload_n hx hb dL_law_707 rfl (lv_at hl 3 rfl) ?_
  refine lv_aload_n hx hb dL_law_708 rfl (lv_at hl 1 rfl) ?_
  refine lv_iload hx hb dL_law_709 (lv_at hl 5 rfl) ?_
  refine q_iconst hx hb dL_law_711 ?_
  refine q_iadd hx hb dL_law_712 ?_
  refine q_sld hx hb hXs hbl hbA hS (by omega) hN4 dL_law_713 ?_
  refine lv_aload_n hx hb dL_law_714 rfl (lv_at hl 1 rfl) ?_
  refine lv_iload hx hb dL_law_715 (lv_at hl 5 rfl) ?_
  refine q_iconst hx hb dL_law_717 ?_
  refine q_iadd hx hb dL_law_718 ?_
  refine q_sld hx hb hXs hbl hbA hS (by omega) hN4 dL_law_719 ?_
  have t_ := c_X6_take l D y L1 F1 H.size U V μ (sxI xs (7 * k + 1)) (sxI xs (7 * k + 2)) hMP hM (by omega) (by omega)
  rw [hv] at t_
  refine q_vMi C0 lL_189 t_ ⟨rfl, rfl⟩ rfl hP hD hS hA (by rw [← hv]; exact hMP.1.1) (show F1 mg = mE V μ from by rw [← hv]; exact hMP.1.2) rfl rfl rfl hl rfl (Nat.le_of_ble_eq_true rfl) dL_law_720 ⟨by show _ ≤ 600128; omega, by show _ ≤ 7301098; omega⟩ (fun r9 H locs L2 F2 hP hD hS hz_ hp => ?_)
  obtain ⟨er9, U1, V1, hM1, hv1, hE1⟩ := hp
  have hI2 := LI_m hC hg d1 d2 ha_ou hF_ou hM1 hv1 hE1
  refine lv_istore (lv' := [(6, .int (iI r9)), (5, .int (iI r)), (0, .ref b), (1, .ref bg), (2, .ref mg), (3, .ref ou), (4, .int (iI (7 * k)))]) hx hb dL_law_723 hl (by decide) rfl (fun ls hl => ?_)
  refine lv_goto (tgt := 2327) hx hb dL_law_725 (by decide) ?_
  refine W.widen (k := cells + 3600) (n := slots + 10000) (by omega) (by omega) ?_
  exact kk _ _ _ _ hP hD hS hI2 ls (lv_sub hl [2, 3, 4, 5, 6] rfl)
set_option maxHeartbeats 1600000 in
set_option maxRecDepth 100000 in
theorem K_drop {p : Program} {l : Launch} {e : Env} {s : State} {m : MethodId} {below : List Frame} {meth : Method} {c : Code} {b N : Nat} {xs : Nat → Int32} {D : va_G} {y : Nat → ClassId} {sl : List (Nat × Nat × Nat)} {Q : State → Prop} (hfl : l.stackTraces = false) (X : LX D y sl p c s m b N xs) {k : Int} (hk : 0 ≤ k ∧ 7 * k + 6 < N) {L : List Nat} {F : Nat → va_E} {σ : CS} {μ : MS} {H : Heap} {locs : List Loc} {cells slots bg mg ou : Nat} (hcs : cells + 3600 ≤ 600128 ∧ slots + 10000 ≤ 7301098) (hP : va_P D vwCl (va_pl L F) H) (hD : va_D (AL [] s.heap.size) (va_pl L F)) (hS : va_S (AL [] s.heap.size) s.heap H locs) (hI : LI y L F bg mg ou σ μ) (hW : CW σ) (hM : MW μ)
    (kk : ∀ (H1 : Heap) (locs1 : List Loc) (L1 : List Nat) (F1 : Nat → va_E), va_P D vwCl (va_pl L1 F1) H1 → va_D (AL [] s.heap.size) (va_pl L1 F1) → va_S (AL [] s.heap.size) s.heap H1 locs1 → LI y L1 F1 bg mg ou (cS_drop σ (sxI xs (7 * k + 1)) (sxI xs (7 * k + 2))) (jS_drop μ (sxI xs (7 * k + 1)) (sxI xs (7 * k + 2))) → ∀ ls : Array Slot, lv_has ls 7 [(0, .ref b), (1, .ref bg), (2, .ref mg), (3, .ref ou), (4, .int (iI (7 * k)))] → W p l e room_1 s m #[.ref b] below meth c H1 locs1 (cells + 3600) (slots + 10000) Q (F0 m 2327 ls [])) : ∀ ls : Array Slot, lv_has ls 7 [(0, .ref b), (1, .ref bg), (2, .ref mg), (3, .ref ou), (4, .int (iI (7 * k)))] → W p l e room_1 s m #[.ref b] below meth c H locs cells slots Q (F0 m 728 ls []) := by
  intro ls hl
  obtain ⟨C0, hJ, hN, hXS, hXs, hbl, hN4⟩ := X
  have hx := C0.1.1
  have hb := C0.1.2.1
  have hts := C0.1.2.2.2.2
  have hbA := AL_nil hbl
  have hA : ∀ q, s.heap.size ≤ q → AL [] s.heap.size q := fun q h => Or.inr h
  obtain ⟨O, G, U, V, nv, sv, hC, hg, hMP, hv, d1, d2, ha_ou, hF_ou⟩ := hI
  refine lv_aload_n hx hb dL_law_728 rfl (lv_at hl 1 rfl) ?_
  refine lv_aload_n hx hb dL_law_729 rfl (lv_at hl 0 rfl) ?_
  refine lv_iload hx hb dL_law_730 (lv_at hl 4 rfl) ?_
  refine q_iconst hx hb dL_law_732 ?_
  refine q_iadd hx hb dL_law_733 ?_
  refine q_sld hx hb hXs hbl hbA hS (by omega) hN4 dL_law_734 ?_
  have sb_0 := sxI_b xs (7 * k + 1)
  refine lv_aload_n hx hb dL_law_735 rfl (lv_at hl 0 rfl) ?_
  refine lv_iload hx hb dL_law_736 (lv_at hl 4 rfl) ?_
  refine q_iconst hx hb dL_law_738 ?_
  refine q_iadd hx hb dL_law_739 ?_
  refine q_sld hx hb hXs hbl hbA hS (by omega) hN4 dL_law_740 ?_
  have sb_1 := sxI_b xs (7 * k + 2)
  refine lv_aload_n hx hb dL_law_741 rfl (lv_at hl 3 rfl) ?_
  have t_ := c_L_drop l hfl D y sl L F H.size O G σ (sxI xs (7 * k + 1)) (sxI xs (7 * k + 2)) ou nv sv hC hW (by omega) (by omega) ha_ou hF_ou (fun z => (d1 ou z).2.2 rfl)
  rw [hg] at t_
  refine q_sT C0 tL_190 t_ ⟨rfl, rfl⟩ rfl hJ hN (XS_of hXS hS hD) hP hD hS hA rfl hl rfl (Nat.le_of_ble_eq_true rfl) dL_law_742 ⟨by show _ ≤ 600128; omega, by show _ ≤ 7301098; omega⟩ (fun r H locs L1 F1 hP hD hS hz_ hp => ?_)
  obtain ⟨O1, G1, σ1, n1, s1, hC1, hg1, hs1, hf1, hO1, hF1, hq⟩ := hp
  have e1 : σ1 = cS_drop σ (sxI xs (7 * k + 1)) (sxI xs (7 * k + 2)) := cS_of hq
  have hI1 := LI_c hg hMP hv d1 d2 ha_ou hC1 hg1 hs1 hf1 hO1 hF1
  rw [e1] at hI1
  obtain ⟨O, G, U, V, nv, sv, hC, hg, hMP, hv, d1, d2, ha_ou, hF_ou⟩ := hI1
  refine lv_istore (lv' := [(5, .int (iI r)), (0, .ref b), (1, .ref bg), (2, .ref mg), (3, .ref ou), (4, .int (iI (7 * k)))]) hx hb dL_law_745 hl (by decide) rfl (fun ls hl => ?_)
  refine lv_aload_n hx hb dL_law_747 rfl (lv_at hl 3 rfl) ?_
  refine lv_aload_n hx hb dL_law_748 rfl (lv_at hl 1 rfl) ?_
  refine lv_iload hx hb dL_law_749 (lv_at hl 5 rfl) ?_
  refine q_iconst hx hb dL_law_751 ?_
  refine q_iadd hx hb dL_law_752 ?_
  refine q_sld hx hb hXs hbl hbA hS (by omega) hN4 dL_law_753 ?_
  refine lv_aload_n hx hb dL_law_754 rfl (lv_at hl 1 rfl) ?_
  refine lv_iload hx hb dL_law_755 (lv_at hl 5 rfl) ?_
  refine q_iconst hx hb dL_law_757 ?_
  refine q_iadd hx hb dL_law_758 ?_
  refine q_sld hx hb hXs hbl hbA hS (by omega) hN4 dL_law_759 ?_
  have t_ := c_X6_drop l D y L1 F1 H.size U V μ (sxI xs (7 * k + 1)) (sxI xs (7 * k + 2)) hMP hM (by omega) (by omega)
  rw [hv] at t_
  refine q_vMi C0 lL_192 t_ ⟨rfl, rfl⟩ rfl hP hD hS hA (by rw [← hv]; exact hMP.1.1) (show F1 mg = mE V μ from by rw [← hv]; exact hMP.1.2) rfl rfl rfl hl rfl (Nat.le_of_ble_eq_true rfl) dL_law_760 ⟨by show _ ≤ 600128; omega, by show _ ≤ 7301098; omega⟩ (fun r9 H locs L2 F2 hP hD hS hz_ hp => ?_)
  obtain ⟨er9, U1, V1, hM1, hv1, hE1⟩ := hp
  have hI2 := LI_m hC hg d1 d2 ha_ou hF_ou hM1 hv1 hE1
  refine lv_istore (lv' := [(6, .int (iI r9)), (5, .int (iI r)), (0, .ref b), (1, .ref bg), (2, .ref mg), (3, .ref ou), (4, .int (iI (7 * k)))]) hx hb dL_law_763 hl (by decide) rfl (fun ls hl => ?_)
  refine lv_goto (tgt := 2327) hx hb dL_law_765 (by decide) ?_
  refine W.widen (k := cells + 3600) (n := slots + 10000) (by omega) (by omega) ?_
  exact kk _ _ _ _ hP hD hS hI2 ls (lv_sub hl [2, 3, 4, 5, 6] rfl)
set_option maxHeartbeats 1600000 in
set_option maxRecDepth 100000 in
theorem K_has {p : Program} {l : Launch} {e : Env} {s : State} {m : MethodId} {below : List Frame} {meth : Method} {c : Code} {b N : Nat} {xs : Nat → Int32} {D : va_G} {y : Nat → ClassId} {sl : List (Nat × Nat × Nat)} {Q : State → Prop} (hfl : l.stackTraces = false) (X : LX D y sl p c s m b N xs) {k : Int} (hk : 0 ≤ k ∧ 7 * k + 6 < N) {L : List Nat} {F : Nat → va_E} {σ : CS} {μ : MS} {H : Heap} {locs : List Loc} {cells slots bg mg ou : Nat} (hcs : cells + 3600 ≤ 600128 ∧ slots + 10000 ≤ 7301098) (hP : va_P D vwCl (va_pl L F) H) (hD : va_D (AL [] s.heap.size) (va_pl L F)) (hS : va_S (AL [] s.heap.size) s.heap H locs) (hI : LI y L F bg mg ou σ μ) (hW : CW σ) (hM : MW μ)
    (kk : ∀ (H1 : Heap) (locs1 : List Loc) (L1 : List Nat) (F1 : Nat → va_E), va_P D vwCl (va_pl L1 F1) H1 → va_D (AL [] s.heap.size) (va_pl L1 F1) → va_S (AL [] s.heap.size) s.heap H1 locs1 → LI y L1 F1 bg mg ou (cS_has σ (sxI xs (7 * k + 1)) (zb (sxI xs (7 * k + 2))) (sxI xs (7 * k + 3))) (jS_has μ (sxI xs (7 * k + 1)) (zb (sxI xs (7 * k + 2))) (sxI xs (7 * k + 3))) → ∀ ls : Array Slot, lv_has ls 7 [(0, .ref b), (1, .ref bg), (2, .ref mg), (3, .ref ou), (4, .int (iI (7 * k)))] → W p l e room_1 s m #[.ref b] below meth c H1 locs1 (cells + 3600) (slots + 10000) Q (F0 m 2327 ls [])) : ∀ ls : Array Slot, lv_has ls 7 [(0, .ref b), (1, .ref bg), (2, .ref mg), (3, .ref ou), (4, .int (iI (7 * k)))] → W p l e room_1 s m #[.ref b] below meth c H locs cells slots Q (F0 m 768 ls []) := by
  intro ls hl
  obtain ⟨C0, hJ, hN, hXS, hXs, hbl, hN4⟩ := X
  have hx := C0.1.1
  have hb := C0.1.2.1
  have hts := C0.1.2.2.2.2
  have hbA := AL_nil hbl
  have hA : ∀ q, s.heap.size ≤ q → AL [] s.heap.size q := fun q h => Or.inr h
  obtain ⟨O, G, U, V, nv, sv, hC, hg, hMP, hv, d1, d2, ha_ou, hF_ou⟩ := hI
  refine lv_aload_n hx hb dL_law_768 rfl (lv_at hl 1 rfl) ?_
  refine lv_aload_n hx hb dL_law_769 rfl (lv_at hl 0 rfl) ?_
  refine lv_iload hx hb dL_law_770 (lv_at hl 4 rfl) ?_
  refine q_iconst hx hb dL_law_772 ?_
  refine q_iadd hx hb dL_law_773 ?_
  refine q_sld hx hb hXs hbl hbA hS (by omega) hN4 dL_law_774 ?_
  have sb_0 := sxI_b xs (7 * k + 1)
  refine lv_aload_n hx hb dL_law_775 rfl (lv_at hl 0 rfl) ?_
  refine lv_iload hx hb dL_law_776 (lv_at hl 4 rfl) ?_
  refine q_iconst hx hb dL_law_778 ?_
  refine q_iadd hx hb dL_law_779 ?_
  refine q_sld hx hb hXs hbl hbA hS (by omega) hN4 dL_law_780 ?_
  have sb_1 := sxI_b xs (7 * k + 2)
  refine q_if_eq hx hb dL_law_781 (tgt := 788) (by decide) (by omega) (fun c1 => ?_) (fun c1 => ?_)
  · have hz2 : zb (sxI xs (7 * k + 2)) = 0 := if_pos c1
    refine q_iconst hx hb dL_law_788 ?_
    refine lv_aload_n hx hb dL_law_789 rfl (lv_at hl 0 rfl) ?_
    refine lv_iload hx hb dL_law_790 (lv_at hl 4 rfl) ?_
    refine q_iconst hx hb dL_law_792 ?_
    refine q_iadd hx hb dL_law_793 ?_
    refine q_sld hx hb hXs hbl hbA hS (by omega) hN4 dL_law_794 ?_
    have sb_2 := sxI_b xs (7 * k + 3)
    refine lv_aload_n hx hb dL_law_795 rfl (lv_at hl 3 rfl) ?_
    have t_ := c_L_has l hfl D y sl L F H.size O G σ (sxI xs (7 * k + 1)) 0 (sxI xs (7 * k + 3)) ou nv sv hC hW (by omega) (by omega) (by omega) ha_ou hF_ou (fun z => (d1 ou z).2.2 rfl)
    rw [hg] at t_
    refine q_sT C0 tL_193 t_ ⟨rfl, rfl⟩ rfl hJ hN (XS_of hXS hS hD) hP hD hS hA rfl hl rfl (Nat.le_of_ble_eq_true rfl) dL_law_796 ⟨by show _ ≤ 600128; omega, by show _ ≤ 7301098; omega⟩ (fun r H locs L1 F1 hP hD hS hz_ hp => ?_)
    obtain ⟨O1, G1, σ1, n1, s1, hC1, hg1, hs1, hf1, hO1, hF1, hq⟩ := hp
    have e1 : σ1 = cS_has σ (sxI xs (7 * k + 1)) 0 (sxI xs (7 * k + 3)) := cS_of hq
    have hI1 := LI_c hg hMP hv d1 d2 ha_ou hC1 hg1 hs1 hf1 hO1 hF1
    rw [e1] at hI1
    obtain ⟨O, G, U, V, nv, sv, hC, hg, hMP, hv, d1, d2, ha_ou, hF_ou⟩ := hI1
    refine lv_istore (lv' := [(5, .int (iI r)), (0, .ref b), (1, .ref bg), (2, .ref mg), (3, .ref ou), (4, .int (iI (7 * k)))]) hx hb dL_law_799 hl (by decide) rfl (fun ls hl => ?_)
    refine lv_aload_n hx hb dL_law_801 rfl (lv_at hl 3 rfl) ?_
    refine lv_aload_n hx hb dL_law_802 rfl (lv_at hl 1 rfl) ?_
    refine lv_iload hx hb dL_law_803 (lv_at hl 5 rfl) ?_
    refine q_iconst hx hb dL_law_805 ?_
    refine q_iadd hx hb dL_law_806 ?_
    refine q_sld hx hb hXs hbl hbA hS (by omega) hN4 dL_law_807 ?_
    refine lv_aload_n hx hb dL_law_808 rfl (lv_at hl 1 rfl) ?_
    refine lv_iload hx hb dL_law_809 (lv_at hl 5 rfl) ?_
    refine q_iconst hx hb dL_law_811 ?_
    refine q_iadd hx hb dL_law_812 ?_
    refine q_sld hx hb hXs hbl hbA hS (by omega) hN4 dL_law_813 ?_
    refine q_if_eq hx hb dL_law_814 (tgt := 821) (by decide) (by omega) (fun c0 => ?_) (fun c0 => absurd c1 c0)
    refine q_iconst hx hb dL_law_821 ?_
    refine lv_aload_n hx hb dL_law_822 rfl (lv_at hl 1 rfl) ?_
    refine lv_iload hx hb dL_law_823 (lv_at hl 5 rfl) ?_
    refine q_iconst hx hb dL_law_825 ?_
    refine q_iadd hx hb dL_law_826 ?_
    refine q_sld hx hb hXs hbl hbA hS (by omega) hN4 dL_law_827 ?_
    have t_ := c_X6_has l D y L1 F1 H.size U V μ (sxI xs (7 * k + 1)) 0 (sxI xs (7 * k + 3)) hMP hM (by omega) (by omega) (by omega)
    rw [hv] at t_
    refine q_vMi C0 lL_196 t_ ⟨rfl, rfl⟩ rfl hP hD hS hA (by rw [← hv]; exact hMP.1.1) (show F1 mg = mE V μ from by rw [← hv]; exact hMP.1.2) rfl rfl rfl hl rfl (Nat.le_of_ble_eq_true rfl) dL_law_828 ⟨by show _ ≤ 600128; omega, by show _ ≤ 7301098; omega⟩ (fun r9 H locs L2 F2 hP hD hS hz_ hp => ?_)
    obtain ⟨er9, U1, V1, hM1, hv1, hE1⟩ := hp
    have hI2 := LI_m hC hg d1 d2 ha_ou hF_ou hM1 hv1 hE1
    refine lv_istore (lv' := [(6, .int (iI r9)), (5, .int (iI r)), (0, .ref b), (1, .ref bg), (2, .ref mg), (3, .ref ou), (4, .int (iI (7 * k)))]) hx hb dL_law_831 hl (by decide) rfl (fun ls hl => ?_)
    refine lv_goto (tgt := 2327) hx hb dL_law_833 (by decide) ?_
    refine W.widen (k := cells + 3600) (n := slots + 10000) (by omega) (by omega) ?_
    exact kk _ _ _ _ hP hD hS (by rw [hz2]; exact hI2) ls (lv_sub hl [2, 3, 4, 5, 6] rfl)
  · have hz2 : zb (sxI xs (7 * k + 2)) = 1 := if_neg c1
    refine q_iconst hx hb dL_law_784 ?_
    refine lv_goto (tgt := 789) hx hb dL_law_785 (by decide) ?_
    refine lv_aload_n hx hb dL_law_789 rfl (lv_at hl 0 rfl) ?_
    refine lv_iload hx hb dL_law_790 (lv_at hl 4 rfl) ?_
    refine q_iconst hx hb dL_law_792 ?_
    refine q_iadd hx hb dL_law_793 ?_
    refine q_sld hx hb hXs hbl hbA hS (by omega) hN4 dL_law_794 ?_
    have sb_2 := sxI_b xs (7 * k + 3)
    refine lv_aload_n hx hb dL_law_795 rfl (lv_at hl 3 rfl) ?_
    have t_ := c_L_has l hfl D y sl L F H.size O G σ (sxI xs (7 * k + 1)) 1 (sxI xs (7 * k + 3)) ou nv sv hC hW (by omega) (by omega) (by omega) ha_ou hF_ou (fun z => (d1 ou z).2.2 rfl)
    rw [hg] at t_
    refine q_sT C0 tL_193 t_ ⟨rfl, rfl⟩ rfl hJ hN (XS_of hXS hS hD) hP hD hS hA rfl hl rfl (Nat.le_of_ble_eq_true rfl) dL_law_796 ⟨by show _ ≤ 600128; omega, by show _ ≤ 7301098; omega⟩ (fun r H locs L1 F1 hP hD hS hz_ hp => ?_)
    obtain ⟨O1, G1, σ1, n1, s1, hC1, hg1, hs1, hf1, hO1, hF1, hq⟩ := hp
    have e1 : σ1 = cS_has σ (sxI xs (7 * k + 1)) 1 (sxI xs (7 * k + 3)) := cS_of hq
    have hI1 := LI_c hg hMP hv d1 d2 ha_ou hC1 hg1 hs1 hf1 hO1 hF1
    rw [e1] at hI1
    obtain ⟨O, G, U, V, nv, sv, hC, hg, hMP, hv, d1, d2, ha_ou, hF_ou⟩ := hI1
    refine lv_istore (lv' := [(5, .int (iI r)), (0, .ref b), (1, .ref bg), (2, .ref mg), (3, .ref ou), (4, .int (iI (7 * k)))]) hx hb dL_law_799 hl (by decide) rfl (fun ls hl => ?_)
    refine lv_aload_n hx hb dL_law_801 rfl (lv_at hl 3 rfl) ?_
    refine lv_aload_n hx hb dL_law_802 rfl (lv_at hl 1 rfl) ?_
    refine lv_iload hx hb dL_law_803 (lv_at hl 5 rfl) ?_
    refine q_iconst hx hb dL_law_805 ?_
    refine q_iadd hx hb dL_law_806 ?_
    refine q_sld hx hb hXs hbl hbA hS (by omega) hN4 dL_law_807 ?_
    refine lv_aload_n hx hb dL_law_808 rfl (lv_at hl 1 rfl) ?_
    refine lv_iload hx hb dL_law_809 (lv_at hl 5 rfl) ?_
    refine q_iconst hx hb dL_law_811 ?_
    refine q_iadd hx hb dL_law_812 ?_
    refine q_sld hx hb hXs hbl hbA hS (by omega) hN4 dL_law_813 ?_
    refine q_if_eq hx hb dL_law_814 (tgt := 821) (by decide) (by omega) (fun c0 => absurd c0 c1) (fun c0 => ?_)
    refine q_iconst hx hb dL_law_817 ?_
    refine lv_goto (tgt := 822) hx hb dL_law_818 (by decide) ?_
    refine lv_aload_n hx hb dL_law_822 rfl (lv_at hl 1 rfl) ?_
    refine lv_iload hx hb dL_law_823 (lv_at hl 5 rfl) ?_
    refine q_iconst hx hb dL_law_825 ?_
    refine q_iadd hx hb dL_law_826 ?_
    refine q_sld hx hb hXs hbl hbA hS (by omega) hN4 dL_law_827 ?_
    have t_ := c_X6_has l D y L1 F1 H.size U V μ (sxI xs (7 * k + 1)) 1 (sxI xs (7 * k + 3)) hMP hM (by omega) (by omega) (by omega)
    rw [hv] at t_
    refine q_vMi C0 lL_196 t_ ⟨rfl, rfl⟩ rfl hP hD hS hA (by rw [← hv]; exact hMP.1.1) (show F1 mg = mE V μ from by rw [← hv]; exact hMP.1.2) rfl rfl rfl hl rfl (Nat.le_of_ble_eq_true rfl) dL_law_828 ⟨by show _ ≤ 600128; omega, by show _ ≤ 7301098; omega⟩ (fun r9 H locs L2 F2 hP hD hS hz_ hp => ?_)
    obtain ⟨er9, U1, V1, hM1, hv1, hE1⟩ := hp
    have hI2 := LI_m hC hg d1 d2 ha_ou hF_ou hM1 hv1 hE1
    refine lv_istore (lv' := [(6, .int (iI r9)), (5, .int (iI r)), (0, .ref b), (1, .ref bg), (2, .ref mg), (3, .ref ou), (4, .int (iI (7 * k)))]) hx hb dL_law_831 hl (by decide) rfl (fun ls hl => ?_)
    refine lv_goto (tgt := 2327) hx hb dL_law_833 (by decide) ?_
    refine W.widen (k := cells + 3600) (n := slots + 10000) (by omega) (by omega) ?_
    exact kk _ _ _ _ hP hD hS (by rw [hz2]; exact hI2) ls (lv_sub hl [2, 3, 4, 5, 6] rfl)
set_option maxHeartbeats 1600000 in
set_option maxRecDepth 100000 in
theorem K_near {p : Program} {l : Launch} {e : Env} {s : State} {m : MethodId} {below : List Frame} {meth : Method} {c : Code} {b N : Nat} {xs : Nat → Int32} {D : va_G} {y : Nat → ClassId} {sl : List (Nat × Nat × Nat)} {Q : State → Prop} (hfl : l.stackTraces = false) (X : LX D y sl p c s m b N xs) {k : Int} (hk : 0 ≤ k ∧ 7 * k + 6 < N) {L : List Nat} {F : Nat → va_E} {σ : CS} {μ : MS} {H : Heap} {locs : List Loc} {cells slots bg mg ou : Nat} (hcs : cells + 3600 ≤ 600128 ∧ slots + 10000 ≤ 7301098) (hP : va_P D vwCl (va_pl L F) H) (hD : va_D (AL [] s.heap.size) (va_pl L F)) (hS : va_S (AL [] s.heap.size) s.heap H locs) (hI : LI y L F bg mg ou σ μ) (hW : CW σ) (hM : MW μ)
    (kk : ∀ (H1 : Heap) (locs1 : List Loc) (L1 : List Nat) (F1 : Nat → va_E), va_P D vwCl (va_pl L1 F1) H1 → va_D (AL [] s.heap.size) (va_pl L1 F1) → va_S (AL [] s.heap.size) s.heap H1 locs1 → LI y L1 F1 bg mg ou (cS_near σ (sxI xs (7 * k + 1)) (sxI xs (7 * k + 2)) (sxI xs (7 * k + 3)) (zb (sxI xs (7 * k + 4)))) (jS_near μ (sxI xs (7 * k + 1)) (sxI xs (7 * k + 2)) (sxI xs (7 * k + 3)) (zb (sxI xs (7 * k + 4)))) → ∀ ls : Array Slot, lv_has ls 7 [(0, .ref b), (1, .ref bg), (2, .ref mg), (3, .ref ou), (4, .int (iI (7 * k)))] → W p l e room_1 s m #[.ref b] below meth c H1 locs1 (cells + 3600) (slots + 10000) Q (F0 m 2327 ls [])) : ∀ ls : Array Slot, lv_has ls 7 [(0, .ref b), (1, .ref bg), (2, .ref mg), (3, .ref ou), (4, .int (iI (7 * k)))] → W p l e room_1 s m #[.ref b] below meth c H locs cells slots Q (F0 m 836 ls []) := by
  intro ls hl
  obtain ⟨C0, hJ, hN, hXS, hXs, hbl, hN4⟩ := X
  have hx := C0.1.1
  have hb := C0.1.2.1
  have hts := C0.1.2.2.2.2
  have hbA := AL_nil hbl
  have hA : ∀ q, s.heap.size ≤ q → AL [] s.heap.size q := fun q h => Or.inr h
  obtain ⟨O, G, U, V, nv, sv, hC, hg, hMP, hv, d1, d2, ha_ou, hF_ou⟩ := hI
  refine lv_aload_n hx hb dL_law_836 rfl (lv_at hl 1 rfl) ?_
  refine lv_aload_n hx hb dL_law_837 rfl (lv_at hl 0 rfl) ?_
  refine lv_iload hx hb dL_law_838 (lv_at hl 4 rfl) ?_
  refine q_iconst hx hb dL_law_840 ?_
  refine q_iadd hx hb dL_law_841 ?_
  refine q_sld hx hb hXs hbl hbA hS (by omega) hN4 dL_law_842 ?_
  have sb_0 := sxI_b xs (7 * k + 1)
  refine lv_aload_n hx hb dL_law_843 rfl (lv_at hl 0 rfl) ?_
  refine lv_iload hx hb dL_law_844 (lv_at hl 4 rfl) ?_
  refine q_iconst hx hb dL_law_846 ?_
  refine q_iadd hx hb dL_law_847 ?_
  refine q_sld hx hb hXs hbl hbA hS (by omega) hN4 dL_law_848 ?_
  have sb_1 := sxI_b xs (7 * k + 2)
  refine lv_aload_n hx hb dL_law_849 rfl (lv_at hl 0 rfl) ?_
  refine lv_iload hx hb dL_law_850 (lv_at hl 4 rfl) ?_
  refine q_iconst hx hb dL_law_852 ?_
  refine q_iadd hx hb dL_law_853 ?_
  refine q_sld hx hb hXs hbl hbA hS (by omega) hN4 dL_law_854 ?_
  have sb_2 := sxI_b xs (7 * k + 3)
  refine lv_aload_n hx hb dL_law_855 rfl (lv_at hl 0 rfl) ?_
  refine lv_iload hx hb dL_law_856 (lv_at hl 4 rfl) ?_
  refine q_iconst hx hb dL_law_858 ?_
  refine q_iadd hx hb dL_law_859 ?_
  refine q_sld hx hb hXs hbl hbA hS (by omega) hN4 dL_law_860 ?_
  have sb_3 := sxI_b xs (7 * k + 4)
  refine q_if_eq hx hb dL_law_861 (tgt := 868) (by decide) (by omega) (fun c1 => ?_) (fun c1 => ?_)
  · have hz2 : zb (sxI xs (7 * k + 4)) = 0 := if_pos c1
    refine q_iconst hx hb dL_law_868 ?_
    refine lv_aload_n hx hb dL_law_869 rfl (lv_at hl 3 rfl) ?_
    have t_ := c_L_near l hfl D y sl L F H.size O G σ (sxI xs (7 * k + 1)) (sxI xs (7 * k + 2)) (sxI xs (7 * k + 3)) 0 ou nv sv hC hW (by omega) (by omega) (by omega) (by omega) ha_ou hF_ou (fun z => (d1 ou z).2.2 rfl)
    rw [hg] at t_
    refine q_sT C0 tL_197 t_ ⟨rfl, rfl⟩ rfl hJ hN (XS_of hXS hS hD) hP hD hS hA rfl hl rfl (Nat.le_of_ble_eq_true rfl) dL_law_870 ⟨by show _ ≤ 600128; omega, by show _ ≤ 7301098; omega⟩ (fun r H locs L1 F1 hP hD hS hz_ hp => ?_)
    obtain ⟨O1, G1, σ1, n1, s1, hC1, hg1, hs1, hf1, hO1, hF1, hq⟩ := hp
    have e1 : σ1 = cS_near σ (sxI xs (7 * k + 1)) (sxI xs (7 * k + 2)) (sxI xs (7 * k + 3)) 0 := cS_of hq
    have hI1 := LI_c hg hMP hv d1 d2 ha_ou hC1 hg1 hs1 hf1 hO1 hF1
    rw [e1] at hI1
    obtain ⟨O, G, U, V, nv, sv, hC, hg, hMP, hv, d1, d2, ha_ou, hF_ou⟩ := hI1
    refine lv_istore (lv' := [(5, .int (iI r)), (0, .ref b), (1, .ref bg), (2, .ref mg), (3, .ref ou), (4, .int (iI (7 * k)))]) hx hb dL_law_873 hl (by decide) rfl (fun ls hl => ?_)
    refine lv_aload_n hx hb dL_law_875 rfl (lv_at hl 3 rfl) ?_
    refine lv_aload_n hx hb dL_law_876 rfl (lv_at hl 1 rfl) ?_
    refine lv_iload hx hb dL_law_877 (lv_at hl 5 rfl) ?_
    refine q_iconst hx hb dL_law_879 ?_
    refine q_iadd hx hb dL_law_880 ?_
    refine q_sld hx hb hXs hbl hbA hS (by omega) hN4 dL_law_881 ?_
    refine lv_aload_n hx hb dL_law_882 rfl (lv_at hl 1 rfl) ?_
    refine lv_iload hx hb dL_law_883 (lv_at hl 5 rfl) ?_
    refine q_iconst hx hb dL_law_885 ?_
    refine q_iadd hx hb dL_law_886 ?_
    refine q_sld hx hb hXs hbl hbA hS (by omega) hN4 dL_law_887 ?_
    refine lv_aload_n hx hb dL_law_888 rfl (lv_at hl 1 rfl) ?_
    refine lv_iload hx hb dL_law_889 (lv_at hl 5 rfl) ?_
    refine q_iconst hx hb dL_law_891 ?_
    refine q_iadd hx hb dL_law_892 ?_
    refine q_sld hx hb hXs hbl hbA hS (by omega) hN4 dL_law_893 ?_
    refine lv_aload_n hx hb dL_law_894 rfl (lv_at hl 1 rfl) ?_
    refine lv_iload hx hb dL_law_895 (lv_at hl 5 rfl) ?_
    refine q_iconst hx hb dL_law_897 ?_
    refine q_iadd hx hb dL_law_898 ?_
    refine q_sld hx hb hXs hbl hbA hS (by omega) hN4 dL_law_899 ?_
    refine q_if_eq hx hb dL_law_900 (tgt := 907) (by decide) (by omega) (fun c0 => ?_) (fun c0 => absurd c1 c0)
    refine q_iconst hx hb dL_law_907 ?_
    have t_ := c_X6_near l D y L1 F1 H.size U V μ (sxI xs (7 * k + 1)) (sxI xs (7 * k + 2)) (sxI xs (7 * k + 3)) 0 hMP hM (by omega) (by omega) (by omega) (by omega)
    rw [hv] at t_
    refine q_vMi C0 lL_200 t_ ⟨rfl, rfl⟩ rfl hP hD hS hA (by rw [← hv]; exact hMP.1.1) (show F1 mg = mE V μ from by rw [← hv]; exact hMP.1.2) rfl rfl rfl hl rfl (Nat.le_of_ble_eq_true rfl) dL_law_908 ⟨by show _ ≤ 600128; omega, by show _ ≤ 7301098; omega⟩ (fun r9 H locs L2 F2 hP hD hS hz_ hp => ?_)
    obtain ⟨er9, U1, V1, hM1, hv1, hE1⟩ := hp
    have hI2 := LI_m hC hg d1 d2 ha_ou hF_ou hM1 hv1 hE1
    refine lv_istore (lv' := [(6, .int (iI r9)), (5, .int (iI r)), (0, .ref b), (1, .ref bg), (2, .ref mg), (3, .ref ou), (4, .int (iI (7 * k)))]) hx hb dL_law_911 hl (by decide) rfl (fun ls hl => ?_)
    refine lv_goto (tgt := 2327) hx hb dL_law_913 (by decide) ?_
    refine W.widen (k := cells + 3600) (n := slots + 10000) (by omega) (by omega) ?_
    exact kk _ _ _ _ hP hD hS (by rw [hz2]; exact hI2) ls (lv_sub hl [2, 3, 4, 5, 6] rfl)
  · have hz2 : zb (sxI xs (7 * k + 4)) = 1 := if_neg c1
    refine q_iconst hx hb dL_law_864 ?_
    refine lv_goto (tgt := 869) hx hb dL_law_865 (by decide) ?_
    refine lv_aload_n hx hb dL_law_869 rfl (lv_at hl 3 rfl) ?_
    have t_ := c_L_near l hfl D y sl L F H.size O G σ (sxI xs (7 * k + 1)) (sxI xs (7 * k + 2)) (sxI xs (7 * k + 3)) 1 ou nv sv hC hW (by omega) (by omega) (by omega) (by omega) ha_ou hF_ou (fun z => (d1 ou z).2.2 rfl)
    rw [hg] at t_
    refine q_sT C0 tL_197 t_ ⟨rfl, rfl⟩ rfl hJ hN (XS_of hXS hS hD) hP hD hS hA rfl hl rfl (Nat.le_of_ble_eq_true rfl) dL_law_870 ⟨by show _ ≤ 600128; omega, by show _ ≤ 7301098; omega⟩ (fun r H locs L1 F1 hP hD hS hz_ hp => ?_)
    obtain ⟨O1, G1, σ1, n1, s1, hC1, hg1, hs1, hf1, hO1, hF1, hq⟩ := hp
    have e1 : σ1 = cS_near σ (sxI xs (7 * k + 1)) (sxI xs (7 * k + 2)) (sxI xs (7 * k + 3)) 1 := cS_of hq
    have hI1 := LI_c hg hMP hv d1 d2 ha_ou hC1 hg1 hs1 hf1 hO1 hF1
    rw [e1] at hI1
    obtain ⟨O, G, U, V, nv, sv, hC, hg, hMP, hv, d1, d2, ha_ou, hF_ou⟩ := hI1
    refine lv_istore (lv' := [(5, .int (iI r)), (0, .ref b), (1, .ref bg), (2, .ref mg), (3, .ref ou), (4, .int (iI (7 * k)))]) hx hb dL_law_873 hl (by decide) rfl (fun ls hl => ?_)
    refine lv_aload_n hx hb dL_law_875 rfl (lv_at hl 3 rfl) ?_
    refine lv_aload_n hx hb dL_law_876 rfl (lv_at hl 1 rfl) ?_
    refine lv_iload hx hb dL_law_877 (lv_at hl 5 rfl) ?_
    refine q_iconst hx hb dL_law_879 ?_
    refine q_iadd hx hb dL_law_880 ?_
    refine q_sld hx hb hXs hbl hbA hS (by omega) hN4 dL_law_881 ?_
    refine lv_aload_n hx hb dL_law_882 rfl (lv_at hl 1 rfl) ?_
    refine lv_iload hx hb dL_law_883 (lv_at hl 5 rfl) ?_
    refine q_iconst hx hb dL_law_885 ?_
    refine q_iadd hx hb dL_law_886 ?_
    refine q_sld hx hb hXs hbl hbA hS (by omega) hN4 dL_law_887 ?_
    refine lv_aload_n hx hb dL_law_888 rfl (lv_at hl 1 rfl) ?_
    refine lv_iload hx hb dL_law_889 (lv_at hl 5 rfl) ?_
    refine q_iconst hx hb dL_law_891 ?_
    refine q_iadd hx hb dL_law_892 ?_
    refine q_sld hx hb hXs hbl hbA hS (by omega) hN4 dL_law_893 ?_
    refine lv_aload_n hx hb dL_law_894 rfl (lv_at hl 1 rfl) ?_
    refine lv_iload hx hb dL_law_895 (lv_at hl 5 rfl) ?_
    refine q_iconst hx hb dL_law_897 ?_
    refine q_iadd hx hb dL_law_898 ?_
    refine q_sld hx hb hXs hbl hbA hS (by omega) hN4 dL_law_899 ?_
    refine q_if_eq hx hb dL_law_900 (tgt := 907) (by decide) (by omega) (fun c0 => absurd c0 c1) (fun c0 => ?_)
    refine q_iconst hx hb dL_law_903 ?_
    refine lv_goto (tgt := 908) hx hb dL_law_904 (by decide) ?_
    have t_ := c_X6_near l D y L1 F1 H.size U V μ (sxI xs (7 * k + 1)) (sxI xs (7 * k + 2)) (sxI xs (7 * k + 3)) 1 hMP hM (by omega) (by omega) (by omega) (by omega)
    rw [hv] at t_
    refine q_vMi C0 lL_200 t_ ⟨rfl, rfl⟩ rfl hP hD hS hA (by rw [← hv]; exact hMP.1.1) (show F1 mg = mE V μ from by rw [← hv]; exact hMP.1.2) rfl rfl rfl hl rfl (Nat.le_of_ble_eq_true rfl) dL_law_908 ⟨by show _ ≤ 600128; omega, by show _ ≤ 7301098; omega⟩ (fun r9 H locs L2 F2 hP hD hS hz_ hp => ?_)
    obtain ⟨er9, U1, V1, hM1, hv1, hE1⟩ := hp
    have hI2 := LI_m hC hg d1 d2 ha_ou hF_ou hM1 hv1 hE1
    refine lv_istore (lv' := [(6, .int (iI r9)), (5, .int (iI r)), (0, .ref b), (1, .ref bg), (2, .ref mg), (3, .ref ou), (4, .int (iI (7 * k)))]) hx hb dL_law_911 hl (by decide) rfl (fun ls hl => ?_)
    refine lv_goto (tgt := 2327) hx hb dL_law_913 (by decide) ?_
    refine W.widen (k := cells + 3600) (n := slots + 10000) (by omega) (by omega) ?_
    exact kk _ _ _ _ hP hD hS (by rw [hz2]; exact hI2) ls (lv_sub hl [2, 3, 4, 5, 6] rfl)
set_option maxHeartbeats 1600000 in
set_option maxRecDepth 100000 in
theorem K_end {p : Program} {l : Launch} {e : Env} {s : State} {m : MethodId} {below : List Frame} {meth : Method} {c : Code} {b N : Nat} {xs : Nat → Int32} {D : va_G} {y : Nat → ClassId} {sl : List (Nat × Nat × Nat)} {Q : State → Prop} (hfl : l.stackTraces = false) (X : LX D y sl p c s m b N xs) {k : Int} (hk : 0 ≤ k ∧ 7 * k + 6 < N) {L : List Nat} {F : Nat → va_E} {σ : CS} {μ : MS} {H : Heap} {locs : List Loc} {cells slots bg mg ou : Nat} (hcs : cells + 3600 ≤ 600128 ∧ slots + 10000 ≤ 7301098) (hP : va_P D vwCl (va_pl L F) H) (hD : va_D (AL [] s.heap.size) (va_pl L F)) (hS : va_S (AL [] s.heap.size) s.heap H locs) (hI : LI y L F bg mg ou σ μ) (hW : CW σ) (hM : MW μ)
    (kk : ∀ (H1 : Heap) (locs1 : List Loc) (L1 : List Nat) (F1 : Nat → va_E), va_P D vwCl (va_pl L1 F1) H1 → va_D (AL [] s.heap.size) (va_pl L1 F1) → va_S (AL [] s.heap.size) s.heap H1 locs1 → LI y L1 F1 bg mg ou (cS_end σ (sxI xs (7 * k + 1)) (zb (sxI xs (7 * k + 2))) (zb (sxI xs (7 * k + 3)))) (jS_end μ (sxI xs (7 * k + 1)) (zb (sxI xs (7 * k + 2))) (zb (sxI xs (7 * k + 3)))) → ∀ ls : Array Slot, lv_has ls 7 [(0, .ref b), (1, .ref bg), (2, .ref mg), (3, .ref ou), (4, .int (iI (7 * k)))] → W p l e room_1 s m #[.ref b] below meth c H1 locs1 (cells + 3600) (slots + 10000) Q (F0 m 2327 ls [])) : ∀ ls : Array Slot, lv_has ls 7 [(0, .ref b), (1, .ref bg), (2, .ref mg), (3, .ref ou), (4, .int (iI (7 * k)))] → W p l e room_1 s m #[.ref b] below meth c H locs cells slots Q (F0 m 916 ls []) := by
  intro ls hl
  obtain ⟨C0, hJ, hN, hXS, hXs, hbl, hN4⟩ := X
  have hx := C0.1.1
  have hb := C0.1.2.1
  have hts := C0.1.2.2.2.2
  have hbA := AL_nil hbl
  have hA : ∀ q, s.heap.size ≤ q → AL [] s.heap.size q := fun q h => Or.inr h
  obtain ⟨O, G, U, V, nv, sv, hC, hg, hMP, hv, d1, d2, ha_ou, hF_ou⟩ := hI
  refine lv_aload_n hx hb dL_law_916 rfl (lv_at hl 1 rfl) ?_
  refine lv_aload_n hx hb dL_law_917 rfl (lv_at hl 0 rfl) ?_
  refine lv_iload hx hb dL_law_918 (lv_at hl 4 rfl) ?_
  refine q_iconst hx hb dL_law_920 ?_
  refine q_iadd hx hb dL_law_921 ?_
  refine q_sld hx hb hXs hbl hbA hS (by omega) hN4 dL_law_922 ?_
  have sb_0 := sxI_b xs (7 * k + 1)
  refine lv_aload_n hx hb dL_law_923 rfl (lv_at hl 0 rfl) ?_
  refine lv_iload hx hb dL_law_924 (lv_at hl 4 rfl) ?_
  refine q_iconst hx hb dL_law_926 ?_
  refine q_iadd hx hb dL_law_927 ?_
  refine q_sld hx hb hXs hbl hbA hS (by omega) hN4 dL_law_928 ?_
  have sb_1 := sxI_b xs (7 * k + 2)
  refine q_if_eq hx hb dL_law_929 (tgt := 936) (by decide) (by omega) (fun c1 => ?_) (fun c1 => ?_)
  · have hz2 : zb (sxI xs (7 * k + 2)) = 0 := if_pos c1
    refine q_iconst hx hb dL_law_936 ?_
    refine lv_aload_n hx hb dL_law_937 rfl (lv_at hl 0 rfl) ?_
    refine lv_iload hx hb dL_law_938 (lv_at hl 4 rfl) ?_
    refine q_iconst hx hb dL_law_940 ?_
    refine q_iadd hx hb dL_law_941 ?_
    refine q_sld hx hb hXs hbl hbA hS (by omega) hN4 dL_law_942 ?_
    have sb_2 := sxI_b xs (7 * k + 3)
    refine q_if_eq hx hb dL_law_943 (tgt := 950) (by decide) (by omega) (fun c3 => ?_) (fun c3 => ?_)
    · have hz4 : zb (sxI xs (7 * k + 3)) = 0 := if_pos c3
      refine q_iconst hx hb dL_law_950 ?_
      refine lv_aload_n hx hb dL_law_951 rfl (lv_at hl 3 rfl) ?_
      have t_ := c_L_end l hfl D y sl L F H.size O G σ (sxI xs (7 * k + 1)) 0 0 ou nv sv hC hW (by omega) (by omega) (by omega) ha_ou hF_ou (fun z => (d1 ou z).2.2 rfl)
      rw [hg] at t_
      refine q_sT C0 tL_201 t_ ⟨rfl, rfl⟩ rfl hJ hN (XS_of hXS hS hD) hP hD hS hA rfl hl rfl (Nat.le_of_ble_eq_true rfl) dL_law_952 ⟨by show _ ≤ 600128; omega, by show _ ≤ 7301098; omega⟩ (fun r H locs L1 F1 hP hD hS hz_ hp => ?_)
      obtain ⟨O1, G1, σ1, n1, s1, hC1, hg1, hs1, hf1, hO1, hF1, hq⟩ := hp
      have e1 : σ1 = cS_end σ (sxI xs (7 * k + 1)) 0 0 := cS_of hq
      have hI1 := LI_c hg hMP hv d1 d2 ha_ou hC1 hg1 hs1 hf1 hO1 hF1
      rw [e1] at hI1
      obtain ⟨O, G, U, V, nv, sv, hC, hg, hMP, hv, d1, d2, ha_ou, hF_ou⟩ := hI1
      refine lv_istore (lv' := [(5, .int (iI r)), (0, .ref b), (1, .ref bg), (2, .ref mg), (3, .ref ou), (4, .int (iI (7 * k)))]) hx hb dL_law_955 hl (by decide) rfl (fun ls hl => ?_)
      refine lv_aload_n hx hb dL_law_957 rfl (lv_at hl 3 rfl) ?_
      refine lv_aload_n hx hb dL_law_958 rfl (lv_at hl 1 rfl) ?_
      refine lv_iload hx hb dL_law_959 (lv_at hl 5 rfl) ?_
      refine q_iconst hx hb dL_law_961 ?_
      refine q_iadd hx hb dL_law_962 ?_
      refine q_sld hx hb hXs hbl hbA hS (by omega) hN4 dL_law_963 ?_
      refine lv_aload_n hx hb dL_law_964 rfl (lv_at hl 1 rfl) ?_
      refine lv_iload hx hb dL_law_965 (lv_at hl 5 rfl) ?_
      refine q_iconst hx hb dL_law_967 ?_
      refine q_iadd hx hb dL_law_968 ?_
      refine q_sld hx hb hXs hbl hbA hS (by omega) hN4 dL_law_969 ?_
      refine q_if_eq hx hb dL_law_970 (tgt := 977) (by decide) (by omega) (fun c0 => ?_) (fun c0 => absurd c1 c0)
      refine q_iconst hx hb dL_law_977 ?_
      refine lv_aload_n hx hb dL_law_978 rfl (lv_at hl 1 rfl) ?_
      refine lv_iload hx hb dL_law_979 (lv_at hl 5 rfl) ?_
      refine q_iconst hx hb dL_law_981 ?_
      refine q_iadd hx hb dL_law_982 ?_
      refine q_sld hx hb hXs hbl hbA hS (by omega) hN4 dL_law_983 ?_
      refine q_if_eq hx hb dL_law_984 (tgt := 991) (by decide) (by omega) (fun c0 => ?_) (fun c0 => absurd c3 c0)
      refine q_iconst hx hb dL_law_991 ?_
      have t_ := c_X6_end l D y L1 F1 H.size U V μ (sxI xs (7 * k + 1)) 0 0 hMP hM (by omega) (by omega) (by omega)
      rw [hv] at t_
      refine q_vMi C0 lL_204 t_ ⟨rfl, rfl⟩ rfl hP hD hS hA (by rw [← hv]; exact hMP.1.1) (show F1 mg = mE V μ from by rw [← hv]; exact hMP.1.2) rfl rfl rfl hl rfl (Nat.le_of_ble_eq_true rfl) dL_law_992 ⟨by show _ ≤ 600128; omega, by show _ ≤ 7301098; omega⟩ (fun r9 H locs L2 F2 hP hD hS hz_ hp => ?_)
      obtain ⟨er9, U1, V1, hM1, hv1, hE1⟩ := hp
      have hI2 := LI_m hC hg d1 d2 ha_ou hF_ou hM1 hv1 hE1
      refine lv_istore (lv' := [(6, .int (iI r9)), (5, .int (iI r)), (0, .ref b), (1, .ref bg), (2, .ref mg), (3, .ref ou), (4, .int (iI (7 * k)))]) hx hb dL_law_995 hl (by decide) rfl (fun ls hl => ?_)
      refine lv_goto (tgt := 2327) hx hb dL_law_997 (by decide) ?_
      refine W.widen (k := cells + 3600) (n := slots + 10000) (by omega) (by omega) ?_
      exact kk _ _ _ _ hP hD hS (by rw [hz2, hz4]; exact hI2) ls (lv_sub hl [2, 3, 4, 5, 6] rfl)
    · have hz4 : zb (sxI xs (7 * k + 3)) = 1 := if_neg c3
      refine q_iconst hx hb dL_law_946 ?_
      refine lv_goto (tgt := 951) hx hb dL_law_947 (by decide) ?_
      refine lv_aload_n hx hb dL_law_951 rfl (lv_at hl 3 rfl) ?_
      have t_ := c_L_end l hfl D y sl L F H.size O G σ (sxI xs (7 * k + 1)) 0 1 ou nv sv hC hW (by omega) (by omega) (by omega) ha_ou hF_ou (fun z => (d1 ou z).2.2 rfl)
      rw [hg] at t_
      refine q_sT C0 tL_201 t_ ⟨rfl, rfl⟩ rfl hJ hN (XS_of hXS hS hD) hP hD hS hA rfl hl rfl (Nat.le_of_ble_eq_true rfl) dL_law_952 ⟨by show _ ≤ 600128; omega, by show _ ≤ 7301098; omega⟩ (fun r H locs L1 F1 hP hD hS hz_ hp => ?_)
      obtain ⟨O1, G1, σ1, n1, s1, hC1, hg1, hs1, hf1, hO1, hF1, hq⟩ := hp
      have e1 : σ1 = cS_end σ (sxI xs (7 * k + 1)) 0 1 := cS_of hq
      have hI1 := LI_c hg hMP hv d1 d2 ha_ou hC1 hg1 hs1 hf1 hO1 hF1
      rw [e1] at hI1
      obtain ⟨O, G, U, V, nv, sv, hC, hg, hMP, hv, d1, d2, ha_ou, hF_ou⟩ := hI1
      refine lv_istore (lv' := [(5, .int (iI r)), (0, .ref b), (1, .ref bg), (2, .ref mg), (3, .ref ou), (4, .int (iI (7 * k)))]) hx hb dL_law_955 hl (by decide) rfl (fun ls hl => ?_)
      refine lv_aload_n hx hb dL_law_957 rfl (lv_at hl 3 rfl) ?_
      refine lv_aload_n hx hb dL_law_958 rfl (lv_at hl 1 rfl) ?_
      refine lv_iload hx hb dL_law_959 (lv_at hl 5 rfl) ?_
      refine q_iconst hx hb dL_law_961 ?_
      refine q_iadd hx hb dL_law_962 ?_
      refine q_sld hx hb hXs hbl hbA hS (by omega) hN4 dL_law_963 ?_
      refine lv_aload_n hx hb dL_law_964 rfl (lv_at hl 1 rfl) ?_
      refine lv_iload hx hb dL_law_965 (lv_at hl 5 rfl) ?_
      refine q_iconst hx hb dL_law_967 ?_
      refine q_iadd hx hb dL_law_968 ?_
      refine q_sld hx hb hXs hbl hbA hS (by omega) hN4 dL_law_969 ?_
      refine q_if_eq hx hb dL_law_970 (tgt := 977) (by decide) (by omega) (fun c0 => ?_) (fun c0 => absurd c1 c0)
      refine q_iconst hx hb dL_law_977 ?_
      refine lv_aload_n hx hb dL_law_978 rfl (lv_at hl 1 rfl) ?_
      refine lv_iload hx hb dL_law_979 (lv_at hl 5 rfl) ?_
      refine q_iconst hx hb dL_law_981 ?_
      refine q_iadd hx hb dL_law_982 ?_
      refine q_sld hx hb hXs hbl hbA hS (by omega) hN4 dL_law_983 ?_
      refine q_if_eq hx hb dL_law_984 (tgt := 991) (by decide) (by omega) (fun c0 => absurd c0 c3) (fun c0 => ?_)
      refine q_iconst hx hb dL_law_987 ?_
      refine lv_goto (tgt := 992) hx hb dL_law_988 (by decide) ?_
      have t_ := c_X6_end l D y L1 F1 H.size U V μ (sxI xs (7 * k + 1)) 0 1 hMP hM (by omega) (by omega) (by omega)
      rw [hv] at t_
      refine q_vMi C0 lL_204 t_ ⟨rfl, rfl⟩ rfl hP hD hS hA (by rw [← hv]; exact hMP.1.1) (show F1 mg = mE V μ from by rw [← hv]; exact hMP.1.2) rfl rfl rfl hl rfl (Nat.le_of_ble_eq_true rfl) dL_law_992 ⟨by show _ ≤ 600128; omega, by show _ ≤ 7301098; omega⟩ (fun r9 H locs L2 F2 hP hD hS hz_ hp => ?_)
      obtain ⟨er9, U1, V1, hM1, hv1, hE1⟩ := hp
      have hI2 := LI_m hC hg d1 d2 ha_ou hF_ou hM1 hv1 hE1
      refine lv_istore (lv' := [(6, .int (iI r9)), (5, .int (iI r)), (0, .ref b), (1, .ref bg), (2, .ref mg), (3, .ref ou), (4, .int (iI (7 * k)))]) hx hb dL_law_995 hl (by decide) rfl (fun ls hl => ?_)
      refine lv_goto (tgt := 2327) hx hb dL_law_997 (by decide) ?_
      refine W.widen (k := cells + 3600) (n := slots + 10000) (by omega) (by omega) ?_
      exact kk _ _ _ _ hP hD hS (by rw [hz2, hz4]; exact hI2) ls (lv_sub hl [2, 3, 4, 5, 6] rfl)
  · have hz2 : zb (sxI xs (7 * k + 2)) = 1 := if_neg c1
    refine q_iconst hx hb dL_law_932 ?_
    refine lv_goto (tgt := 937) hx hb dL_law_933 (by decide) ?_
    refine lv_aload_n hx hb dL_law_937 rfl (lv_at hl 0 rfl) ?_
    refine lv_iload hx hb dL_law_938 (lv_at hl 4 rfl) ?_
    refine q_iconst hx hb dL_law_940 ?_
    refine q_iadd hx hb dL_law_941 ?_
    refine q_sld hx hb hXs hbl hbA hS (by omega) hN4 dL_law_942 ?_
    have sb_2 := sxI_b xs (7 * k + 3)
    refine q_if_eq hx hb dL_law_943 (tgt := 950) (by decide) (by omega) (fun c5 => ?_) (fun c5 => ?_)
    · have hz6 : zb (sxI xs (7 * k + 3)) = 0 := if_pos c5
      refine q_iconst hx hb dL_law_950 ?_
      refine lv_aload_n hx hb dL_law_951 rfl (lv_at hl 3 rfl) ?_
      have t_ := c_L_end l hfl D y sl L F H.size O G σ (sxI xs (7 * k + 1)) 1 0 ou nv sv hC hW (by omega) (by omega) (by omega) ha_ou hF_ou (fun z => (d1 ou z).2.2 rfl)
      rw [hg] at t_
      refine q_sT C0 tL_201 t_ ⟨rfl, rfl⟩ rfl hJ hN (XS_of hXS hS hD) hP hD hS hA rfl hl rfl (Nat.le_of_ble_eq_true rfl) dL_law_952 ⟨by show _ ≤ 600128; omega, by show _ ≤ 7301098; omega⟩ (fun r H locs L1 F1 hP hD hS hz_ hp => ?_)
      obtain ⟨O1, G1, σ1, n1, s1, hC1, hg1, hs1, hf1, hO1, hF1, hq⟩ := hp
      have e1 : σ1 = cS_end σ (sxI xs (7 * k + 1)) 1 0 := cS_of hq
      have hI1 := LI_c hg hMP hv d1 d2 ha_ou hC1 hg1 hs1 hf1 hO1 hF1
      rw [e1] at hI1
      obtain ⟨O, G, U, V, nv, sv, hC, hg, hMP, hv, d1, d2, ha_ou, hF_ou⟩ := hI1
      refine lv_istore (lv' := [(5, .int (iI r)), (0, .ref b), (1, .ref bg), (2, .ref mg), (3, .ref ou), (4, .int (iI (7 * k)))]) hx hb dL_law_955 hl (by decide) rfl (fun ls hl => ?_)
      refine lv_aload_n hx hb dL_law_957 rfl (lv_at hl 3 rfl) ?_
      refine lv_aload_n hx hb dL_law_958 rfl (lv_at hl 1 rfl) ?_
      refine lv_iload hx hb dL_law_959 (lv_at hl 5 rfl) ?_
      refine q_iconst hx hb dL_law_961 ?_
      refine q_iadd hx hb dL_law_962 ?_
      refine q_sld hx hb hXs hbl hbA hS (by omega) hN4 dL_law_963 ?_
      refine lv_aload_n hx hb dL_law_964 rfl (lv_at hl 1 rfl) ?_
      refine lv_iload hx hb dL_law_965 (lv_at hl 5 rfl) ?_
      refine q_iconst hx hb dL_law_967 ?_
      refine q_iadd hx hb dL_law_968 ?_
      refine q_sld hx hb hXs hbl hbA hS (by omega) hN4 dL_law_969 ?_
      refine q_if_eq hx hb dL_law_970 (tgt := 977) (by decide) (by omega) (fun c0 => absurd c0 c1) (fun c0 => ?_)
      refine q_iconst hx hb dL_law_973 ?_
      refine lv_goto (tgt := 978) hx hb dL_law_974 (by decide) ?_
      refine lv_aload_n hx hb dL_law_978 rfl (lv_at hl 1 rfl) ?_
      refine lv_iload hx hb dL_law_979 (lv_at hl 5 rfl) ?_
      refine q_iconst hx hb dL_law_981 ?_
      refine q_iadd hx hb dL_law_982 ?_
      refine q_sld hx hb hXs hbl hbA hS (by omega) hN4 dL_law_983 ?_
      refine q_if_eq hx hb dL_law_984 (tgt := 991) (by decide) (by omega) (fun c0 => ?_) (fun c0 => absurd c5 c0)
      refine q_iconst hx hb dL_law_991 ?_
      have t_ := c_X6_end l D y L1 F1 H.size U V μ (sxI xs (7 * k + 1)) 1 0 hMP hM (by omega) (by omega) (by omega)
      rw [hv] at t_
      refine q_vMi C0 lL_204 t_ ⟨rfl, rfl⟩ rfl hP hD hS hA (by rw [← hv]; exact hMP.1.1) (show F1 mg = mE V μ from by rw [← hv]; exact hMP.1.2) rfl rfl rfl hl rfl (Nat.le_of_ble_eq_true rfl) dL_law_992 ⟨by show _ ≤ 600128; omega, by show _ ≤ 7301098; omega⟩ (fun r9 H locs L2 F2 hP hD hS hz_ hp => ?_)
      obtain ⟨er9, U1, V1, hM1, hv1, hE1⟩ := hp
      have hI2 := LI_m hC hg d1 d2 ha_ou hF_ou hM1 hv1 hE1
      refine lv_istore (lv' := [(6, .int (iI r9)), (5, .int (iI r)), (0, .ref b), (1, .ref bg), (2, .ref mg), (3, .ref ou), (4, .int (iI (7 * k)))]) hx hb dL_law_995 hl (by decide) rfl (fun ls hl => ?_)
      refine lv_goto (tgt := 2327) hx hb dL_law_997 (by decide) ?_
      refine W.widen (k := cells + 3600) (n := slots + 10000) (by omega) (by omega) ?_
      exact kk _ _ _ _ hP hD hS (by rw [hz2, hz6]; exact hI2) ls (lv_sub hl [2, 3, 4, 5, 6] rfl)
    · have hz6 : zb (sxI xs (7 * k + 3)) = 1 := if_neg c5
      refine q_iconst hx hb dL_law_946 ?_
      refine lv_goto (tgt := 951) hx hb dL_law_947 (by decide) ?_
      refine lv_aload_n hx hb dL_law_951 rfl (lv_at hl 3 rfl) ?_
      have t_ := c_L_end l hfl D y sl L F H.size O G σ (sxI xs (7 * k + 1)) 1 1 ou nv sv hC hW (by omega) (by omega) (by omega) ha_ou hF_ou (fun z => (d1 ou z).2.2 rfl)
      rw [hg] at t_
      refine q_sT C0 tL_201 t_ ⟨rfl, rfl⟩ rfl hJ hN (XS_of hXS hS hD) hP hD hS hA rfl hl rfl (Nat.le_of_ble_eq_true rfl) dL_law_952 ⟨by show _ ≤ 600128; omega, by show _ ≤ 7301098; omega⟩ (fun r H locs L1 F1 hP hD hS hz_ hp => ?_)
      obtain ⟨O1, G1, σ1, n1, s1, hC1, hg1, hs1, hf1, hO1, hF1, hq⟩ := hp
      have e1 : σ1 = cS_end σ (sxI xs (7 * k + 1)) 1 1 := cS_of hq
      have hI1 := LI_c hg hMP hv d1 d2 ha_ou hC1 hg1 hs1 hf1 hO1 hF1
      rw [e1] at hI1
      obtain ⟨O, G, U, V, nv, sv, hC, hg, hMP, hv, d1, d2, ha_ou, hF_ou⟩ := hI1
      refine lv_istore (lv' := [(5, .int (iI r)), (0, .ref b), (1, .ref bg), (2, .ref mg), (3, .ref ou), (4, .int (iI (7 * k)))]) hx hb dL_law_955 hl (by decide) rfl (fun ls hl => ?_)
      refine lv_aload_n hx hb dL_law_957 rfl (lv_at hl 3 rfl) ?_
      refine lv_aload_n hx hb dL_law_958 rfl (lv_at hl 1 rfl) ?_
      refine lv_iload hx hb dL_law_959 (lv_at hl 5 rfl) ?_
      refine q_iconst hx hb dL_law_961 ?_
      refine q_iadd hx hb dL_law_962 ?_
      refine q_sld hx hb hXs hbl hbA hS (by omega) hN4 dL_law_963 ?_
      refine lv_aload_n hx hb dL_law_964 rfl (lv_at hl 1 rfl) ?_
      refine lv_iload hx hb dL_law_965 (lv_at hl 5 rfl) ?_
      refine q_iconst hx hb dL_law_967 ?_
      refine q_iadd hx hb dL_law_968 ?_
      refine q_sld hx hb hXs hbl hbA hS (by omega) hN4 dL_law_969 ?_
      refine q_if_eq hx hb dL_law_970 (tgt := 977) (by decide) (by omega) (fun c0 => absurd c0 c1) (fun c0 => ?_)
      refine q_iconst hx hb dL_law_973 ?_
      refine lv_goto (tgt := 978) hx hb dL_law_974 (by decide) ?_
      refine lv_aload_n hx hb dL_law_978 rfl (lv_at hl 1 rfl) ?_
      refine lv_iload hx hb dL_law_979 (lv_at hl 5 rfl) ?_
      refine q_iconst hx hb dL_law_981 ?_
      refine q_iadd hx hb dL_law_982 ?_
      refine q_sld hx hb hXs hbl hbA hS (by omega) hN4 dL_law_983 ?_
      refine q_if_eq hx hb dL_law_984 (tgt := 991) (by decide) (by omega) (fun c0 => absurd c0 c5) (fun c0 => ?_)
      refine q_iconst hx hb dL_law_987 ?_
      refine lv_goto (tgt := 992) hx hb dL_law_988 (by decide) ?_
      have t_ := c_X6_end l D y L1 F1 H.size U V μ (sxI xs (7 * k + 1)) 1 1 hMP hM (by omega) (by omega) (by omega)
      rw [hv] at t_
      refine q_vMi C0 lL_204 t_ ⟨rfl, rfl⟩ rfl hP hD hS hA (by rw [← hv]; exact hMP.1.1) (show F1 mg = mE V μ from by rw [← hv]; exact hMP.1.2) rfl rfl rfl hl rfl (Nat.le_of_ble_eq_true rfl) dL_law_992 ⟨by show _ ≤ 600128; omega, by show _ ≤ 7301098; omega⟩ (fun r9 H locs L2 F2 hP hD hS hz_ hp => ?_)
      obtain ⟨er9, U1, V1, hM1, hv1, hE1⟩ := hp
      have hI2 := LI_m hC hg d1 d2 ha_ou hF_ou hM1 hv1 hE1
      refine lv_istore (lv' := [(6, .int (iI r9)), (5, .int (iI r)), (0, .ref b), (1, .ref bg), (2, .ref mg), (3, .ref ou), (4, .int (iI (7 * k)))]) hx hb dL_law_995 hl (by decide) rfl (fun ls hl => ?_)
      refine lv_goto (tgt := 2327) hx hb dL_law_997 (by decide) ?_
      refine W.widen (k := cells + 3600) (n := slots + 10000) (by omega) (by omega) ?_
      exact kk _ _ _ _ hP hD hS (by rw [hz2, hz6]; exact hI2) ls (lv_sub hl [2, 3, 4, 5, 6] rfl)
set_option maxHeartbeats 1600000 in
set_option maxRecDepth 100000 in
theorem K_keyAt {p : Program} {l : Launch} {e : Env} {s : State} {m : MethodId} {below : List Frame} {meth : Method} {c : Code} {b N : Nat} {xs : Nat → Int32} {D : va_G} {y : Nat → ClassId} {sl : List (Nat × Nat × Nat)} {Q : State → Prop} (hfl : l.stackTraces = false) (X : LX D y sl p c s m b N xs) {k : Int} (hk : 0 ≤ k ∧ 7 * k + 6 < N) {L : List Nat} {F : Nat → va_E} {σ : CS} {μ : MS} {H : Heap} {locs : List Loc} {cells slots bg mg ou : Nat} (hcs : cells + 3600 ≤ 600128 ∧ slots + 10000 ≤ 7301098) (hP : va_P D vwCl (va_pl L F) H) (hD : va_D (AL [] s.heap.size) (va_pl L F)) (hS : va_S (AL [] s.heap.size) s.heap H locs) (hI : LI y L F bg mg ou σ μ) (hW : CW σ) (hM : MW μ)
    (kk : ∀ (H1 : Heap) (locs1 : List Loc) (L1 : List Nat) (F1 : Nat → va_E), va_P D vwCl (va_pl L1 F1) H1 → va_D (AL [] s.heap.size) (va_pl L1 F1) → va_S (AL [] s.heap.size) s.heap H1 locs1 → LI y L1 F1 bg mg ou (cS_keyAt σ (sxI xs (7 * k + 1)) (sxI xs (7 * k + 2)) (zb (sxI xs (7 * k + 3)))) (jS_keyAt μ (sxI xs (7 * k + 1)) (sxI xs (7 * k + 2)) (zb (sxI xs (7 * k + 3)))) → ∀ ls : Array Slot, lv_has ls 7 [(0, .ref b), (1, .ref bg), (2, .ref mg), (3, .ref ou), (4, .int (iI (7 * k)))] → W p l e room_1 s m #[.ref b] below meth c H1 locs1 (cells + 3600) (slots + 10000) Q (F0 m 2327 ls [])) : ∀ ls : Array Slot, lv_has ls 7 [(0, .ref b), (1, .ref bg), (2, .ref mg), (3, .ref ou), (4, .int (iI (7 * k)))] → W p l e room_1 s m #[.ref b] below meth c H locs cells slots Q (F0 m 1000 ls []) := by
  intro ls hl
  obtain ⟨C0, hJ, hN, hXS, hXs, hbl, hN4⟩ := X
  have hx := C0.1.1
  have hb := C0.1.2.1
  have hts := C0.1.2.2.2.2
  have hbA := AL_nil hbl
  have hA : ∀ q, s.heap.size ≤ q → AL [] s.heap.size q := fun q h => Or.inr h
  obtain ⟨O, G, U, V, nv, sv, hC, hg, hMP, hv, d1, d2, ha_ou, hF_ou⟩ := hI
  refine lv_aload_n hx hb dL_law_1000 rfl (lv_at hl 1 rfl) ?_
  refine lv_aload_n hx hb dL_law_1001 rfl (lv_at hl 0 rfl) ?_
  refine lv_iload hx hb dL_law_1002 (lv_at hl 4 rfl) ?_
  refine q_iconst hx hb dL_law_1004 ?_
  refine q_iadd hx hb dL_law_1005 ?_
  refine q_sld hx hb hXs hbl hbA hS (by omega) hN4 dL_law_1006 ?_
  have sb_0 := sxI_b xs (7 * k + 1)
  refine lv_aload_n hx hb dL_law_1007 rfl (lv_at hl 0 rfl) ?_
  refine lv_iload hx hb dL_law_1008 (lv_at hl 4 rfl) ?_
  refine q_iconst hx hb dL_law_1010 ?_
  refine q_iadd hx hb dL_law_1011 ?_
  refine q_sld hx hb hXs hbl hbA hS (by omega) hN4 dL_law_1012 ?_
  have sb_1 := sxI_b xs (7 * k + 2)
  refine lv_aload_n hx hb dL_law_1013 rfl (lv_at hl 0 rfl) ?_
  refine lv_iload hx hb dL_law_1014 (lv_at hl 4 rfl) ?_
  refine q_iconst hx hb dL_law_1016 ?_
  refine q_iadd hx hb dL_law_1017 ?_
  refine q_sld hx hb hXs hbl hbA hS (by omega) hN4 dL_law_1018 ?_
  have sb_2 := sxI_b xs (7 * k + 3)
  refine q_if_eq hx hb dL_law_1019 (tgt := 1026) (by decide) (by omega) (fun c1 => ?_) (fun c1 => ?_)
  · have hz2 : zb (sxI xs (7 * k + 3)) = 0 := if_pos c1
    refine q_iconst hx hb dL_law_1026 ?_
    refine lv_aload_n hx hb dL_law_1027 rfl (lv_at hl 3 rfl) ?_
    have t_ := c_L_keyAt l hfl D y sl L F H.size O G σ (sxI xs (7 * k + 1)) (sxI xs (7 * k + 2)) 0 ou nv sv hC hW (by omega) (by omega) (by omega) ha_ou hF_ou (fun z => (d1 ou z).2.2 rfl)
    rw [hg] at t_
    refine q_sT C0 tL_205 t_ ⟨rfl, rfl⟩ rfl hJ hN (XS_of hXS hS hD) hP hD hS hA rfl hl rfl (Nat.le_of_ble_eq_true rfl) dL_law_1028 ⟨by show _ ≤ 600128; omega, by show _ ≤ 7301098; omega⟩ (fun r H locs L1 F1 hP hD hS hz_ hp => ?_)
    obtain ⟨O1, G1, σ1, n1, s1, hC1, hg1, hs1, hf1, hO1, hF1, hq⟩ := hp
    have e1 : σ1 = cS_keyAt σ (sxI xs (7 * k + 1)) (sxI xs (7 * k + 2)) 0 := cS_of hq
    have hI1 := LI_c hg hMP hv d1 d2 ha_ou hC1 hg1 hs1 hf1 hO1 hF1
    rw [e1] at hI1
    obtain ⟨O, G, U, V, nv, sv, hC, hg, hMP, hv, d1, d2, ha_ou, hF_ou⟩ := hI1
    refine lv_istore (lv' := [(5, .int (iI r)), (0, .ref b), (1, .ref bg), (2, .ref mg), (3, .ref ou), (4, .int (iI (7 * k)))]) hx hb dL_law_1031 hl (by decide) rfl (fun ls hl => ?_)
    refine lv_aload_n hx hb dL_law_1033 rfl (lv_at hl 3 rfl) ?_
    refine lv_aload_n hx hb dL_law_1034 rfl (lv_at hl 1 rfl) ?_
    refine lv_iload hx hb dL_law_1035 (lv_at hl 5 rfl) ?_
    refine q_iconst hx hb dL_law_1037 ?_
    refine q_iadd hx hb dL_law_1038 ?_
    refine q_sld hx hb hXs hbl hbA hS (by omega) hN4 dL_law_1039 ?_
    refine lv_aload_n hx hb dL_law_1040 rfl (lv_at hl 1 rfl) ?_
    refine lv_iload hx hb dL_law_1041 (lv_at hl 5 rfl) ?_
    refine q_iconst hx hb dL_law_1043 ?_
    refine q_iadd hx hb dL_law_1044 ?_
    refine q_sld hx hb hXs hbl hbA hS (by omega) hN4 dL_law_1045 ?_
    refine lv_aload_n hx hb dL_law_1046 rfl (lv_at hl 1 rfl) ?_
    refine lv_iload hx hb dL_law_1047 (lv_at hl 5 rfl) ?_
    refine q_iconst hx hb dL_law_1049 ?_
    refine q_iadd hx hb dL_law_1050 ?_
    refine q_sld hx hb hXs hbl hbA hS (by omega) hN4 dL_law_1051 ?_
    refine q_if_eq hx hb dL_law_1052 (tgt := 1059) (by decide) (by omega) (fun c0 => ?_) (fun c0 => absurd c1 c0)
    refine q_iconst hx hb dL_law_1059 ?_
    have t_ := c_X6_keyAt l D y L1 F1 H.size U V μ (sxI xs (7 * k + 1)) (sxI xs (7 * k + 2)) 0 hMP hM (by omega) (by omega) (by omega)
    rw [hv] at t_
    refine q_vMi C0 lL_207 t_ ⟨rfl, rfl⟩ rfl hP hD hS hA (by rw [← hv]; exact hMP.1.1) (show F1 mg = mE V μ from by rw [← hv]; exact hMP.1.2) rfl rfl rfl hl rfl (Nat.le_of_ble_eq_true rfl) dL_law_1060 ⟨by show _ ≤ 600128; omega, by show _ ≤ 7301098; omega⟩ (fun r9 H locs L2 F2 hP hD hS hz_ hp => ?_)
    obtain ⟨er9, U1, V1, hM1, hv1, hE1⟩ := hp
    have hI2 := LI_m hC hg d1 d2 ha_ou hF_ou hM1 hv1 hE1
    refine lv_istore (lv' := [(6, .int (iI r9)), (5, .int (iI r)), (0, .ref b), (1, .ref bg), (2, .ref mg), (3, .ref ou), (4, .int (iI (7 * k)))]) hx hb dL_law_1063 hl (by decide) rfl (fun ls hl => ?_)
    refine lv_goto (tgt := 2327) hx hb dL_law_1065 (by decide) ?_
    refine W.widen (k := cells + 3600) (n := slots + 10000) (by omega) (by omega) ?_
    exact kk _ _ _ _ hP hD hS (by rw [hz2]; exact hI2) ls (lv_sub hl [2, 3, 4, 5, 6] rfl)
  · have hz2 : zb (sxI xs (7 * k + 3)) = 1 := if_neg c1
    refine q_iconst hx hb dL_law_1022 ?_
    refine lv_goto (tgt := 1027) hx hb dL_law_1023 (by decide) ?_
    refine lv_aload_n hx hb dL_law_1027 rfl (lv_at hl 3 rfl) ?_
    have t_ := c_L_keyAt l hfl D y sl L F H.size O G σ (sxI xs (7 * k + 1)) (sxI xs (7 * k + 2)) 1 ou nv sv hC hW (by omega) (by omega) (by omega) ha_ou hF_ou (fun z => (d1 ou z).2.2 rfl)
    rw [hg] at t_
    refine q_sT C0 tL_205 t_ ⟨rfl, rfl⟩ rfl hJ hN (XS_of hXS hS hD) hP hD hS hA rfl hl rfl (Nat.le_of_ble_eq_true rfl) dL_law_1028 ⟨by show _ ≤ 600128; omega, by show _ ≤ 7301098; omega⟩ (fun r H locs L1 F1 hP hD hS hz_ hp => ?_)
    obtain ⟨O1, G1, σ1, n1, s1, hC1, hg1, hs1, hf1, hO1, hF1, hq⟩ := hp
    have e1 : σ1 = cS_keyAt σ (sxI xs (7 * k + 1)) (sxI xs (7 * k + 2)) 1 := cS_of hq
    have hI1 := LI_c hg hMP hv d1 d2 ha_ou hC1 hg1 hs1 hf1 hO1 hF1
    rw [e1] at hI1
    obtain ⟨O, G, U, V, nv, sv, hC, hg, hMP, hv, d1, d2, ha_ou, hF_ou⟩ := hI1
    refine lv_istore (lv' := [(5, .int (iI r)), (0, .ref b), (1, .ref bg), (2, .ref mg), (3, .ref ou), (4, .int (iI (7 * k)))]) hx hb dL_law_1031 hl (by decide) rfl (fun ls hl => ?_)
    refine lv_aload_n hx hb dL_law_1033 rfl (lv_at hl 3 rfl) ?_
    refine lv_aload_n hx hb dL_law_1034 rfl (lv_at hl 1 rfl) ?_
    refine lv_iload hx hb dL_law_1035 (lv_at hl 5 rfl) ?_
    refine q_iconst hx hb dL_law_1037 ?_
    refine q_iadd hx hb dL_law_1038 ?_
    refine q_sld hx hb hXs hbl hbA hS (by omega) hN4 dL_law_1039 ?_
    refine lv_aload_n hx hb dL_law_1040 rfl (lv_at hl 1 rfl) ?_
    refine lv_iload hx hb dL_law_1041 (lv_at hl 5 rfl) ?_
    refine q_iconst hx hb dL_law_1043 ?_
    refine q_iadd hx hb dL_law_1044 ?_
    refine q_sld hx hb hXs hbl hbA hS (by omega) hN4 dL_law_1045 ?_
    refine lv_aload_n hx hb dL_law_1046 rfl (lv_at hl 1 rfl) ?_
    refine lv_iload hx hb dL_law_1047 (lv_at hl 5 rfl) ?_
    refine q_iconst hx hb dL_law_1049 ?_
    refine q_iadd hx hb dL_law_1050 ?_
    refine q_sld hx hb hXs hbl hbA hS (by omega) hN4 dL_law_1051 ?_
    refine q_if_eq hx hb dL_law_1052 (tgt := 1059) (by decide) (by omega) (fun c0 => absurd c0 c1) (fun c0 => ?_)
    refine q_iconst hx hb dL_law_1055 ?_
    refine lv_goto (tgt := 1060) hx hb dL_law_1056 (by decide) ?_
    have t_ := c_X6_keyAt l D y L1 F1 H.size U V μ (sxI xs (7 * k + 1)) (sxI xs (7 * k + 2)) 1 hMP hM (by omega) (by omega) (by omega)
    rw [hv] at t_
    refine q_vMi C0 lL_207 t_ ⟨rfl, rfl⟩ rfl hP hD hS hA (by rw [← hv]; exact hMP.1.1) (show F1 mg = mE V μ from by rw [← hv]; exact hMP.1.2) rfl rfl rfl hl rfl (Nat.le_of_ble_eq_true rfl) dL_law_1060 ⟨by show _ ≤ 600128; omega, by show _ ≤ 7301098; omega⟩ (fun r9 H locs L2 F2 hP hD hS hz_ hp => ?_)
    obtain ⟨er9, U1, V1, hM1, hv1, hE1⟩ := hp
    have hI2 := LI_m hC hg d1 d2 ha_ou hF_ou hM1 hv1 hE1
    refine lv_istore (lv' := [(6, .int (iI r9)), (5, .int (iI r)), (0, .ref b), (1, .ref bg), (2, .ref mg), (3, .ref ou), (4, .int (iI (7 * k)))]) hx hb dL_law_1063 hl (by decide) rfl (fun ls hl => ?_)
    refine lv_goto (tgt := 2327) hx hb dL_law_1065 (by decide) ?_
    refine W.widen (k := cells + 3600) (n := slots + 10000) (by omega) (by omega) ?_
    exact kk _ _ _ _ hP hD hS (by rw [hz2]; exact hI2) ls (lv_sub hl [2, 3, 4, 5, 6] rfl)
set_option maxHeartbeats 1600000 in
set_option maxRecDepth 100000 in
theorem K_tellBook {p : Program} {l : Launch} {e : Env} {s : State} {m : MethodId} {below : List Frame} {meth : Method} {c : Code} {b N : Nat} {xs : Nat → Int32} {D : va_G} {y : Nat → ClassId} {sl : List (Nat × Nat × Nat)} {Q : State → Prop} (hfl : l.stackTraces = false) (X : LX D y sl p c s m b N xs) {k : Int} (hk : 0 ≤ k ∧ 7 * k + 6 < N) {L : List Nat} {F : Nat → va_E} {σ : CS} {μ : MS} {H : Heap} {locs : List Loc} {cells slots bg mg ou : Nat} (hcs : cells + 3600 ≤ 600128 ∧ slots + 10000 ≤ 7301098) (hP : va_P D vwCl (va_pl L F) H) (hD : va_D (AL [] s.heap.size) (va_pl L F)) (hS : va_S (AL [] s.heap.size) s.heap H locs) (hI : LI y L F bg mg ou σ μ) (hW : CW σ) (hM : MW μ)
    (kk : ∀ (H1 : Heap) (locs1 : List Loc) (L1 : List Nat) (F1 : Nat → va_E), va_P D vwCl (va_pl L1 F1) H1 → va_D (AL [] s.heap.size) (va_pl L1 F1) → va_S (AL [] s.heap.size) s.heap H1 locs1 → LI y L1 F1 bg mg ou (cS_tellBook σ (sxI xs (7 * k + 1)) (sxI xs (7 * k + 2))) (jS_tellBook μ (sxI xs (7 * k + 1)) (sxI xs (7 * k + 2))) → ∀ ls : Array Slot, lv_has ls 7 [(0, .ref b), (1, .ref bg), (2, .ref mg), (3, .ref ou), (4, .int (iI (7 * k)))] → W p l e room_1 s m #[.ref b] below meth c H1 locs1 (cells + 3600) (slots + 10000) Q (F0 m 2327 ls [])) : ∀ ls : Array Slot, lv_has ls 7 [(0, .ref b), (1, .ref bg), (2, .ref mg), (3, .ref ou), (4, .int (iI (7 * k)))] → W p l e room_1 s m #[.ref b] below meth c H locs cells slots Q (F0 m 1068 ls []) := by
  intro ls hl
  obtain ⟨C0, hJ, hN, hXS, hXs, hbl, hN4⟩ := X
  have hx := C0.1.1
  have hb := C0.1.2.1
  have hts := C0.1.2.2.2.2
  have hbA := AL_nil hbl
  have hA : ∀ q, s.heap.size ≤ q → AL [] s.heap.size q := fun q h => Or.inr h
  obtain ⟨O, G, U, V, nv, sv, hC, hg, hMP, hv, d1, d2, ha_ou, hF_ou⟩ := hI
  refine lv_aload_n hx hb dL_law_1068 rfl (lv_at hl 1 rfl) ?_
  refine lv_aload_n hx hb dL_law_1069 rfl (lv_at hl 0 rfl) ?_
  refine lv_iload hx hb dL_law_1070 (lv_at hl 4 rfl) ?_
  refine q_iconst hx hb dL_law_1072 ?_
  refine q_iadd hx hb dL_law_1073 ?_
  refine q_sld hx hb hXs hbl hbA hS (by omega) hN4 dL_law_1074 ?_
  have sb_0 := sxI_b xs (7 * k + 1)
  refine lv_aload_n hx hb dL_law_1075 rfl (lv_at hl 0 rfl) ?_
  refine lv_iload hx hb dL_law_1076 (lv_at hl 4 rfl) ?_
  refine q_iconst hx hb dL_law_1078 ?_
  refine q_iadd hx hb dL_law_1079 ?_
  refine q_sld hx hb hXs hbl hbA hS (by omega) hN4 dL_law_1080 ?_
  have sb_1 := sxI_b xs (7 * k + 2)
  refine lv_aload_n hx hb dL_law_1081 rfl (lv_at hl 3 rfl) ?_
  have t_ := c_L_tellBook l hfl D y sl L F H.size O G σ (sxI xs (7 * k + 1)) (sxI xs (7 * k + 2)) ou nv sv hC hW (by omega) (by omega) ha_ou hF_ou (fun z => (d1 ou z).2.2 rfl)
  rw [hg] at t_
  refine q_sT C0 tL_208 t_ ⟨rfl, rfl⟩ rfl hJ hN (XS_of hXS hS hD) hP hD hS hA rfl hl rfl (Nat.le_of_ble_eq_true rfl) dL_law_1082 ⟨by show _ ≤ 600128; omega, by show _ ≤ 7301098; omega⟩ (fun r H locs L1 F1 hP hD hS hz_ hp => ?_)
  obtain ⟨O1, G1, σ1, n1, s1, hC1, hg1, hs1, hf1, hO1, hF1, hq⟩ := hp
  have e1 : σ1 = cS_tellBook σ (sxI xs (7 * k + 1)) (sxI xs (7 * k + 2)) := cS_of hq
  have hI1 := LI_c hg hMP hv d1 d2 ha_ou hC1 hg1 hs1 hf1 hO1 hF1
  rw [e1] at hI1
  obtain ⟨O, G, U, V, nv, sv, hC, hg, hMP, hv, d1, d2, ha_ou, hF_ou⟩ := hI1
  refine lv_istore (lv' := [(5, .int (iI r)), (0, .ref b), (1, .ref bg), (2, .ref mg), (3, .ref ou), (4, .int (iI (7 * k)))]) hx hb dL_law_1085 hl (by decide) rfl (fun ls hl => ?_)
  refine lv_aload_n hx hb dL_law_1087 rfl (lv_at hl 3 rfl) ?_
  refine lv_aload_n hx hb dL_law_1088 rfl (lv_at hl 1 rfl) ?_
  refine lv_iload hx hb dL_law_1089 (lv_at hl 5 rfl) ?_
  refine q_iconst hx hb dL_law_1091 ?_
  refine q_iadd hx hb dL_law_1092 ?_
  refine q_sld hx hb hXs hbl hbA hS (by omega) hN4 dL_law_1093 ?_
  refine lv_aload_n hx hb dL_law_1094 rfl (lv_at hl 1 rfl) ?_
  refine lv_iload hx hb dL_law_1095 (lv_at hl 5 rfl) ?_
  refine q_iconst hx hb dL_law_1097 ?_
  refine q_iadd hx hb dL_law_1098 ?_
  refine q_sld hx hb hXs hbl hbA hS (by omega) hN4 dL_law_1099 ?_
  have t_ := c_X6_tellBook l D y L1 F1 H.size U V μ (sxI xs (7 * k + 1)) (sxI xs (7 * k + 2)) hMP hM (by omega) (by omega)
  rw [hv] at t_
  refine q_vMi C0 lL_210 t_ ⟨rfl, rfl⟩ rfl hP hD hS hA (by rw [← hv]; exact hMP.1.1) (show F1 mg = mE V μ from by rw [← hv]; exact hMP.1.2) rfl rfl rfl hl rfl (Nat.le_of_ble_eq_true rfl) dL_law_1100 ⟨by show _ ≤ 600128; omega, by show _ ≤ 7301098; omega⟩ (fun r9 H locs L2 F2 hP hD hS hz_ hp => ?_)
  obtain ⟨er9, U1, V1, hM1, hv1, hE1⟩ := hp
  have hI2 := LI_m hC hg d1 d2 ha_ou hF_ou hM1 hv1 hE1
  refine lv_istore (lv' := [(6, .int (iI r9)), (5, .int (iI r)), (0, .ref b), (1, .ref bg), (2, .ref mg), (3, .ref ou), (4, .int (iI (7 * k)))]) hx hb dL_law_1103 hl (by decide) rfl (fun ls hl => ?_)
  refine lv_goto (tgt := 2327) hx hb dL_law_1105 (by decide) ?_
  refine W.widen (k := cells + 3600) (n := slots + 10000) (by omega) (by omega) ?_
  exact kk _ _ _ _ hP hD hS hI2 ls (lv_sub hl [2, 3, 4, 5, 6] rfl)
set_option maxHeartbeats 1600000 in
set_option maxRecDepth 100000 in
theorem K_bookText {p : Program} {l : Launch} {e : Env} {s : State} {m : MethodId} {below : List Frame} {meth : Method} {c : Code} {b N : Nat} {xs : Nat → Int32} {D : va_G} {y : Nat → ClassId} {sl : List (Nat × Nat × Nat)} {Q : State → Prop} (hfl : l.stackTraces = false) (X : LX D y sl p c s m b N xs) {k : Int} (hk : 0 ≤ k ∧ 7 * k + 6 < N) {L : List Nat} {F : Nat → va_E} {σ : CS} {μ : MS} {H : Heap} {locs : List Loc} {cells slots bg mg ou : Nat} (hcs : cells + 3600 ≤ 600128 ∧ slots + 10000 ≤ 7301098) (hP : va_P D vwCl (va_pl L F) H) (hD : va_D (AL [] s.heap.size) (va_pl L F)) (hS : va_S (AL [] s.heap.size) s.heap H locs) (hI : LI y L F bg mg ou σ μ) (hW : CW σ) (hM : MW μ)
    (kk : ∀ (H1 : Heap) (locs1 : List Loc) (L1 : List Nat) (F1 : Nat → va_E), va_P D vwCl (va_pl L1 F1) H1 → va_D (AL [] s.heap.size) (va_pl L1 F1) → va_S (AL [] s.heap.size) s.heap H1 locs1 → LI y L1 F1 bg mg ou (cS_bookText σ (sxI xs (7 * k + 1))) (jS_bookText μ (sxI xs (7 * k + 1))) → ∀ ls : Array Slot, lv_has ls 7 [(0, .ref b), (1, .ref bg), (2, .ref mg), (3, .ref ou), (4, .int (iI (7 * k)))] → W p l e room_1 s m #[.ref b] below meth c H1 locs1 (cells + 3600) (slots + 10000) Q (F0 m 2327 ls [])) : ∀ ls : Array Slot, lv_has ls 7 [(0, .ref b), (1, .ref bg), (2, .ref mg), (3, .ref ou), (4, .int (iI (7 * k)))] → W p l e room_1 s m #[.ref b] below meth c H locs cells slots Q (F0 m 1108 ls []) := by
  intro ls hl
  obtain ⟨C0, hJ, hN, hXS, hXs, hbl, hN4⟩ := X
  have hx := C0.1.1
  have hb := C0.1.2.1
  have hts := C0.1.2.2.2.2
  have hbA := AL_nil hbl
  have hA : ∀ q, s.heap.size ≤ q → AL [] s.heap.size q := fun q h => Or.inr h
  obtain ⟨O, G, U, V, nv, sv, hC, hg, hMP, hv, d1, d2, ha_ou, hF_ou⟩ := hI
  refine lv_aload_n hx hb dL_law_1108 rfl (lv_at hl 1 rfl) ?_
  refine lv_aload_n hx hb dL_law_1109 rfl (lv_at hl 0 rfl) ?_
  refine lv_iload hx hb dL_law_1110 (lv_at hl 4 rfl) ?_
  refine q_iconst hx hb dL_law_1112 ?_
  refine q_iadd hx hb dL_law_1113 ?_
  refine q_sld hx hb hXs hbl hbA hS (by omega) hN4 dL_law_1114 ?_
  have sb_0 := sxI_b xs (7 * k + 1)
  refine lv_aload_n hx hb dL_law_1115 rfl (lv_at hl 3 rfl) ?_
  have t_ := c_L_bookText l hfl D y sl L F H.size O G σ (sxI xs (7 * k + 1)) ou nv sv hC hW (by omega) ha_ou hF_ou (fun z => (d1 ou z).2.2 rfl)
  rw [hg] at t_
  refine q_sT C0 tL_211 t_ ⟨rfl, rfl⟩ rfl hJ hN (XS_of hXS hS hD) hP hD hS hA rfl hl rfl (Nat.le_of_ble_eq_true rfl) dL_law_1116 ⟨by show _ ≤ 600128; omega, by show _ ≤ 7301098; omega⟩ (fun r H locs L1 F1 hP hD hS hz_ hp => ?_)
  obtain ⟨O1, G1, σ1, n1, s1, hC1, hg1, hs1, hf1, hO1, hF1, hq⟩ := hp
  have e1 : σ1 = cS_bookText σ (sxI xs (7 * k + 1)) := cS_of hq
  have hI1 := LI_c hg hMP hv d1 d2 ha_ou hC1 hg1 hs1 hf1 hO1 hF1
  rw [e1] at hI1
  obtain ⟨O, G, U, V, nv, sv, hC, hg, hMP, hv, d1, d2, ha_ou, hF_ou⟩ := hI1
  refine lv_istore (lv' := [(5, .int (iI r)), (0, .ref b), (1, .ref bg), (2, .ref mg), (3, .ref ou), (4, .int (iI (7 * k)))]) hx hb dL_law_1119 hl (by decide) rfl (fun ls hl => ?_)
  refine lv_aload_n hx hb dL_law_1121 rfl (lv_at hl 3 rfl) ?_
  refine lv_aload_n hx hb dL_law_1122 rfl (lv_at hl 1 rfl) ?_
  refine lv_iload hx hb dL_law_1123 (lv_at hl 5 rfl) ?_
  refine q_iconst hx hb dL_law_1125 ?_
  refine q_iadd hx hb dL_law_1126 ?_
  refine q_sld hx hb hXs hbl hbA hS (by omega) hN4 dL_law_1127 ?_
  have t_ := c_X6_bookText l D y sl L1 F1 H.size U V μ (sxI xs (7 * k + 1)) hMP hM (by omega)
  rw [hv] at t_
  refine q_vJa C0 lL_214 t_ ⟨rfl, rfl⟩ rfl hJ hP hD hS hA (by rw [← hv]; exact hMP.1.1) (show F1 mg = mE V μ from by rw [← hv]; exact hMP.1.2) rfl rfl rfl hl rfl (Nat.le_of_ble_eq_true rfl) dL_law_1128 ⟨by show _ ≤ 600128; omega, by show _ ≤ 7301098; omega⟩ (fun r9 H locs L2 F2 hP hD hS hz_ hp => ?_)
  obtain ⟨U1, V1, hM1, hv1, hE1⟩ := hp
  have hI2 := LI_m hC hg d1 d2 ha_ou hF_ou hM1 hv1 hE1
  refine lv_astore (lv' := [(6, .ref r9), (5, .int (iI r)), (0, .ref b), (1, .ref bg), (2, .ref mg), (3, .ref ou), (4, .int (iI (7 * k)))]) hx hb dL_law_1131 hl (by decide) rfl (fun ls hl => ?_)
  refine lv_goto (tgt := 2327) hx hb dL_law_1133 (by decide) ?_
  refine W.widen (k := cells + 3600) (n := slots + 10000) (by omega) (by omega) ?_
  exact kk _ _ _ _ hP hD hS hI2 ls (lv_sub hl [2, 3, 4, 5, 6] rfl)
set_option maxHeartbeats 1600000 in
set_option maxRecDepth 100000 in
theorem K_sameBooks {p : Program} {l : Launch} {e : Env} {s : State} {m : MethodId} {below : List Frame} {meth : Method} {c : Code} {b N : Nat} {xs : Nat → Int32} {D : va_G} {y : Nat → ClassId} {sl : List (Nat × Nat × Nat)} {Q : State → Prop} (hfl : l.stackTraces = false) (X : LX D y sl p c s m b N xs) {k : Int} (hk : 0 ≤ k ∧ 7 * k + 6 < N) {L : List Nat} {F : Nat → va_E} {σ : CS} {μ : MS} {H : Heap} {locs : List Loc} {cells slots bg mg ou : Nat} (hcs : cells + 3600 ≤ 600128 ∧ slots + 10000 ≤ 7301098) (hP : va_P D vwCl (va_pl L F) H) (hD : va_D (AL [] s.heap.size) (va_pl L F)) (hS : va_S (AL [] s.heap.size) s.heap H locs) (hI : LI y L F bg mg ou σ μ) (hW : CW σ) (hM : MW μ)
    (kk : ∀ (H1 : Heap) (locs1 : List Loc) (L1 : List Nat) (F1 : Nat → va_E), va_P D vwCl (va_pl L1 F1) H1 → va_D (AL [] s.heap.size) (va_pl L1 F1) → va_S (AL [] s.heap.size) s.heap H1 locs1 → LI y L1 F1 bg mg ou (cS_sameBooks σ (sxI xs (7 * k + 1)) (sxI xs (7 * k + 2))) (jS_sameBooks μ (sxI xs (7 * k + 1)) (sxI xs (7 * k + 2))) → ∀ ls : Array Slot, lv_has ls 7 [(0, .ref b), (1, .ref bg), (2, .ref mg), (3, .ref ou), (4, .int (iI (7 * k)))] → W p l e room_1 s m #[.ref b] below meth c H1 locs1 (cells + 3600) (slots + 10000) Q (F0 m 2327 ls [])) : ∀ ls : Array Slot, lv_has ls 7 [(0, .ref b), (1, .ref bg), (2, .ref mg), (3, .ref ou), (4, .int (iI (7 * k)))] → W p l e room_1 s m #[.ref b] below meth c H locs cells slots Q (F0 m 1136 ls []) := by
  intro ls hl
  obtain ⟨C0, hJ, hN, hXS, hXs, hbl, hN4⟩ := X
  have hx := C0.1.1
  have hb := C0.1.2.1
  have hts := C0.1.2.2.2.2
  have hbA := AL_nil hbl
  have hA : ∀ q, s.heap.size ≤ q → AL [] s.heap.size q := fun q h => Or.inr h
  obtain ⟨O, G, U, V, nv, sv, hC, hg, hMP, hv, d1, d2, ha_ou, hF_ou⟩ := hI
  refine lv_aload_n hx hb dL_law_1136 rfl (lv_at hl 1 rfl) ?_
  refine lv_aload_n hx hb dL_law_1137 rfl (lv_at hl 0 rfl) ?_
  refine lv_iload hx hb dL_law_1138 (lv_at hl 4 rfl) ?_
  refine q_iconst hx hb dL_law_1140 ?_
  refine q_iadd hx hb dL_law_1141 ?_
  refine q_sld hx hb hXs hbl hbA hS (by omega) hN4 dL_law_1142 ?_
  have sb_0 := sxI_b xs (7 * k + 1)
  refine lv_aload_n hx hb dL_law_1143 rfl (lv_at hl 0 rfl) ?_
  refine lv_iload hx hb dL_law_1144 (lv_at hl 4 rfl) ?_
  refine q_iconst hx hb dL_law_1146 ?_
  refine q_iadd hx hb dL_law_1147 ?_
  refine q_sld hx hb hXs hbl hbA hS (by omega) hN4 dL_law_1148 ?_
  have sb_1 := sxI_b xs (7 * k + 2)
  refine lv_aload_n hx hb dL_law_1149 rfl (lv_at hl 3 rfl) ?_
  have t_ := c_L_sameBooks l hfl D y sl L F H.size O G σ (sxI xs (7 * k + 1)) (sxI xs (7 * k + 2)) ou nv sv hC hW (by omega) (by omega) ha_ou hF_ou (fun z => (d1 ou z).2.2 rfl)
  rw [hg] at t_
  refine q_sT C0 tL_215 t_ ⟨rfl, rfl⟩ rfl hJ hN (XS_of hXS hS hD) hP hD hS hA rfl hl rfl (Nat.le_of_ble_eq_true rfl) dL_law_1150 ⟨by show _ ≤ 600128; omega, by show _ ≤ 7301098; omega⟩ (fun r H locs L1 F1 hP hD hS hz_ hp => ?_)
  obtain ⟨O1, G1, σ1, n1, s1, hC1, hg1, hs1, hf1, hO1, hF1, hq⟩ := hp
  have e1 : σ1 = cS_sameBooks σ (sxI xs (7 * k + 1)) (sxI xs (7 * k + 2)) := cS_of hq
  have hI1 := LI_c hg hMP hv d1 d2 ha_ou hC1 hg1 hs1 hf1 hO1 hF1
  rw [e1] at hI1
  obtain ⟨O, G, U, V, nv, sv, hC, hg, hMP, hv, d1, d2, ha_ou, hF_ou⟩ := hI1
  refine lv_istore (lv' := [(5, .int (iI r)), (0, .ref b), (1, .ref bg), (2, .ref mg), (3, .ref ou), (4, .int (iI (7 * k)))]) hx hb dL_law_1153 hl (by decide) rfl (fun ls hl => ?_)
  refine lv_aload_n hx hb dL_law_1155 rfl (lv_at hl 3 rfl) ?_
  refine lv_aload_n hx hb dL_law_1156 rfl (lv_at hl 1 rfl) ?_
  refine lv_iload hx hb dL_law_1157 (lv_at hl 5 rfl) ?_
  refine q_iconst hx hb dL_law_1159 ?_
  refine q_iadd hx hb dL_law_1160 ?_
  refine q_sld hx hb hXs hbl hbA hS (by omega) hN4 dL_law_1161 ?_
  refine lv_aload_n hx hb dL_law_1162 rfl (lv_at hl 1 rfl) ?_
  refine lv_iload hx hb dL_law_1163 (lv_at hl 5 rfl) ?_
  refine q_iconst hx hb dL_law_1165 ?_
  refine q_iadd hx hb dL_law_1166 ?_
  refine q_sld hx hb hXs hbl hbA hS (by omega) hN4 dL_law_1167 ?_
  have t_ := c_X6_sameBooks l D y L1 F1 H.size U V μ (sxI xs (7 * k + 1)) (sxI xs (7 * k + 2)) hMP hM (by omega) (by omega)
  rw [hv] at t_
  refine q_vMi C0 lL_217 t_ ⟨rfl, rfl⟩ rfl hP hD hS hA (by rw [← hv]; exact hMP.1.1) (show F1 mg = mE V μ from by rw [← hv]; exact hMP.1.2) rfl rfl rfl hl rfl (Nat.le_of_ble_eq_true rfl) dL_law_1168 ⟨by show _ ≤ 600128; omega, by show _ ≤ 7301098; omega⟩ (fun r9 H locs L2 F2 hP hD hS hz_ hp => ?_)
  obtain ⟨er9, U1, V1, hM1, hv1, hE1⟩ := hp
  have hI2 := LI_m hC hg d1 d2 ha_ou hF_ou hM1 hv1 hE1
  refine lv_istore (lv' := [(6, .int (iI r9)), (5, .int (iI r)), (0, .ref b), (1, .ref bg), (2, .ref mg), (3, .ref ou), (4, .int (iI (7 * k)))]) hx hb dL_law_1171 hl (by decide) rfl (fun ls hl => ?_)
  refine lv_goto (tgt := 2327) hx hb dL_law_1173 (by decide) ?_
  refine W.widen (k := cells + 3600) (n := slots + 10000) (by omega) (by omega) ?_
  exact kk _ _ _ _ hP hD hS hI2 ls (lv_sub hl [2, 3, 4, 5, 6] rfl)
set_option maxHeartbeats 1600000 in
set_option maxRecDepth 100000 in
theorem K_openView {p : Program} {l : Launch} {e : Env} {s : State} {m : MethodId} {below : List Frame} {meth : Method} {c : Code} {b N : Nat} {xs : Nat → Int32} {D : va_G} {y : Nat → ClassId} {sl : List (Nat × Nat × Nat)} {Q : State → Prop} (hfl : l.stackTraces = false) (X : LX D y sl p c s m b N xs) {k : Int} (hk : 0 ≤ k ∧ 7 * k + 6 < N) {L : List Nat} {F : Nat → va_E} {σ : CS} {μ : MS} {H : Heap} {locs : List Loc} {cells slots bg mg ou : Nat} (hcs : cells + 3600 ≤ 600128 ∧ slots + 10000 ≤ 7301098) (hP : va_P D vwCl (va_pl L F) H) (hD : va_D (AL [] s.heap.size) (va_pl L F)) (hS : va_S (AL [] s.heap.size) s.heap H locs) (hI : LI y L F bg mg ou σ μ) (hW : CW σ) (hM : MW μ)
    (kk : ∀ (H1 : Heap) (locs1 : List Loc) (L1 : List Nat) (F1 : Nat → va_E), va_P D vwCl (va_pl L1 F1) H1 → va_D (AL [] s.heap.size) (va_pl L1 F1) → va_S (AL [] s.heap.size) s.heap H1 locs1 → LI y L1 F1 bg mg ou (cS_openView σ (sxI xs (7 * k + 1)) (sxI xs (7 * k + 2)) (sxI xs (7 * k + 3)) (sxI xs (7 * k + 4)) (sxI xs (7 * k + 5)) (sxI xs (7 * k + 6))) (jS_openView μ (sxI xs (7 * k + 1)) (sxI xs (7 * k + 2)) (sxI xs (7 * k + 3)) (sxI xs (7 * k + 4)) (sxI xs (7 * k + 5)) (sxI xs (7 * k + 6))) → ∀ ls : Array Slot, lv_has ls 7 [(0, .ref b), (1, .ref bg), (2, .ref mg), (3, .ref ou), (4, .int (iI (7 * k)))] → W p l e room_1 s m #[.ref b] below meth c H1 locs1 (cells + 3600) (slots + 10000) Q (F0 m 2327 ls [])) : ∀ ls : Array Slot, lv_has ls 7 [(0, .ref b), (1, .ref bg), (2, .ref mg), (3, .ref ou), (4, .int (iI (7 * k)))] → W p l e room_1 s m #[.ref b] below meth c H locs cells slots Q (F0 m 1176 ls []) := by
  intro ls hl
  obtain ⟨C0, hJ, hN, hXS, hXs, hbl, hN4⟩ := X
  have hx := C0.1.1
  have hb := C0.1.2.1
  have hts := C0.1.2.2.2.2
  have hbA := AL_nil hbl
  have hA : ∀ q, s.heap.size ≤ q → AL [] s.heap.size q := fun q h => Or.inr h
  obtain ⟨O, G, U, V, nv, sv, hC, hg, hMP, hv, d1, d2, ha_ou, hF_ou⟩ := hI
  refine lv_aload_n hx hb dL_law_1176 rfl (lv_at hl 1 rfl) ?_
  refine lv_aload_n hx hb dL_law_1177 rfl (lv_at hl 0 rfl) ?_
  refine lv_iload hx hb dL_law_1178 (lv_at hl 4 rfl) ?_
  refine q_iconst hx hb dL_law_1180 ?_
  refine q_iadd hx hb dL_law_1181 ?_
  refine q_sld hx hb hXs hbl hbA hS (by omega) hN4 dL_law_1182 ?_
  have sb_0 := sxI_b xs (7 * k + 1)
  refine lv_aload_n hx hb dL_law_1183 rfl (lv_at hl 0 rfl) ?_
  refine lv_iload hx hb dL_law_1184 (lv_at hl 4 rfl) ?_
  refine q_iconst hx hb dL_law_1186 ?_
  refine q_iadd hx hb dL_law_1187 ?_
  refine q_sld hx hb hXs hbl hbA hS (by omega) hN4 dL_law_1188 ?_
  have sb_1 := sxI_b xs (7 * k + 2)
  refine lv_aload_n hx hb dL_law_1189 rfl (lv_at hl 0 rfl) ?_
  refine lv_iload hx hb dL_law_1190 (lv_at hl 4 rfl) ?_
  refine q_iconst hx hb dL_law_1192 ?_
  refine q_iadd hx hb dL_law_1193 ?_
  refine q_sld hx hb hXs hbl hbA hS (by omega) hN4 dL_law_1194 ?_
  have sb_2 := sxI_b xs (7 * k + 3)
  refine lv_aload_n hx hb dL_law_1195 rfl (lv_at hl 0 rfl) ?_
  refine lv_iload hx hb dL_law_1196 (lv_at hl 4 rfl) ?_
  refine q_iconst hx hb dL_law_1198 ?_
  refine q_iadd hx hb dL_law_1199 ?_
  refine q_sld hx hb hXs hbl hbA hS (by omega) hN4 dL_law_1200 ?_
  have sb_3 := sxI_b xs (7 * k + 4)
  refine lv_aload_n hx hb dL_law_1201 rfl (lv_at hl 0 rfl) ?_
  refine lv_iload hx hb dL_law_1202 (lv_at hl 4 rfl) ?_
  refine q_iconst hx hb dL_law_1204 ?_
  refine q_iadd hx hb dL_law_1205 ?_
  refine q_sld hx hb hXs hbl hbA hS (by omega) hN4 dL_law_1206 ?_
  have sb_4 := sxI_b xs (7 * k + 5)
  refine lv_aload_n hx hb dL_law_1207 rfl (lv_at hl 0 rfl) ?_
  refine lv_iload hx hb dL_law_1208 (lv_at hl 4 rfl) ?_
  refine q_bipush hx hb dL_law_1210 (by decide) ?_
  refine q_iadd hx hb dL_law_1212 ?_
  refine q_sld hx hb hXs hbl hbA hS (by omega) hN4 dL_law_1213 ?_
  have sb_5 := sxI_b xs (7 * k + 6)
  refine lv_aload_n hx hb dL_law_1214 rfl (lv_at hl 3 rfl) ?_
  have t_ := c_L_openView l hfl D y sl L F H.size O G σ (sxI xs (7 * k + 1)) (sxI xs (7 * k + 2)) (sxI xs (7 * k + 3)) (sxI xs (7 * k + 4)) (sxI xs (7 * k + 5)) (sxI xs (7 * k + 6)) ou nv sv hC hW (by omega) (by omega) (by omega) (by omega) (by omega) (by omega) ha_ou hF_ou (fun z => (d1 ou z).2.2 rfl)
  rw [hg] at t_
  refine q_sT C0 tL_218 t_ ⟨rfl, rfl⟩ rfl hJ hN (XS_of hXS hS hD) hP hD hS hA rfl hl rfl (Nat.le_of_ble_eq_true rfl) dL_law_1215 ⟨by show _ ≤ 600128; omega, by show _ ≤ 7301098; omega⟩ (fun r H locs L1 F1 hP hD hS hz_ hp => ?_)
  obtain ⟨O1, G1, σ1, n1, s1, hC1, hg1, hs1, hf1, hO1, hF1, hq⟩ := hp
  have e1 : σ1 = cS_openView σ (sxI xs (7 * k + 1)) (sxI xs (7 * k + 2)) (sxI xs (7 * k + 3)) (sxI xs (7 * k + 4)) (sxI xs (7 * k + 5)) (sxI xs (7 * k + 6)) := cS_of hq
  have hI1 := LI_c hg hMP hv d1 d2 ha_ou hC1 hg1 hs1 hf1 hO1 hF1
  rw [e1] at hI1
  obtain ⟨O, G, U, V, nv, sv, hC, hg, hMP, hv, d1, d2, ha_ou, hF_ou⟩ := hI1
  refine lv_istore (lv' := [(5, .int (iI r)), (0, .ref b), (1, .ref bg), (2, .ref mg), (3, .ref ou), (4, .int (iI (7 * k)))]) hx hb dL_law_1218 hl (by decide) rfl (fun ls hl => ?_)
  refine lv_aload_n hx hb dL_law_1220 rfl (lv_at hl 3 rfl) ?_
  refine lv_aload_n hx hb dL_law_1221 rfl (lv_at hl 1 rfl) ?_
  refine lv_iload hx hb dL_law_1222 (lv_at hl 5 rfl) ?_
  refine q_iconst hx hb dL_law_1224 ?_
  refine q_iadd hx hb dL_law_1225 ?_
  refine q_sld hx hb hXs hbl hbA hS (by omega) hN4 dL_law_1226 ?_
  refine lv_aload_n hx hb dL_law_1227 rfl (lv_at hl 1 rfl) ?_
  refine lv_iload hx hb dL_law_1228 (lv_at hl 5 rfl) ?_
  refine q_iconst hx hb dL_law_1230 ?_
  refine q_iadd hx hb dL_law_1231 ?_
  refine q_sld hx hb hXs hbl hbA hS (by omega) hN4 dL_law_1232 ?_
  refine lv_aload_n hx hb dL_law_1233 rfl (lv_at hl 1 rfl) ?_
  refine lv_iload hx hb dL_law_1234 (lv_at hl 5 rfl) ?_
  refine q_iconst hx hb dL_law_1236 ?_
  refine q_iadd hx hb dL_law_1237 ?_
  refine q_sld hx hb hXs hbl hbA hS (by omega) hN4 dL_law_1238 ?_
  refine lv_aload_n hx hb dL_law_1239 rfl (lv_at hl 1 rfl) ?_
  refine lv_iload hx hb dL_law_1240 (lv_at hl 5 rfl) ?_
  refine q_iconst hx hb dL_law_1242 ?_
  refine q_iadd hx hb dL_law_1243 ?_
  refine q_sld hx hb hXs hbl hbA hS (by omega) hN4 dL_law_1244 ?_
  refine lv_aload_n hx hb dL_law_1245 rfl (lv_at hl 1 rfl) ?_
  refine lv_iload hx hb dL_law_1246 (lv_at hl 5 rfl) ?_
  refine q_iconst hx hb dL_law_1248 ?_
  refine q_iadd hx hb dL_law_1249 ?_
  refine q_sld hx hb hXs hbl hbA hS (by omega) hN4 dL_law_1250 ?_
  refine lv_aload_n hx hb dL_law_1251 rfl (lv_at hl 1 rfl) ?_
  refine lv_iload hx hb dL_law_1252 (lv_at hl 5 rfl) ?_
  refine q_bipush hx hb dL_law_1254 (by decide) ?_
  refine q_iadd hx hb dL_law_1256 ?_
  refine q_sld hx hb hXs hbl hbA hS (by omega) hN4 dL_law_1257 ?_
  have t_ := c_X6_openView l D y L1 F1 H.size U V μ (sxI xs (7 * k + 1)) (sxI xs (7 * k + 2)) (sxI xs (7 * k + 3)) (sxI xs (7 * k + 4)) (sxI xs (7 * k + 5)) (sxI xs (7 * k + 6)) hMP hM (by omega) (by omega) (by omega) (by omega) (by omega) (by omega)
  rw [hv] at t_
  refine q_vMi C0 lL_221 t_ ⟨rfl, rfl⟩ rfl hP hD hS hA (by rw [← hv]; exact hMP.1.1) (show F1 mg = mE V μ from by rw [← hv]; exact hMP.1.2) rfl rfl rfl hl rfl (Nat.le_of_ble_eq_true rfl) dL_law_1258 ⟨by show _ ≤ 600128; omega, by show _ ≤ 7301098; omega⟩ (fun r9 H locs L2 F2 hP hD hS hz_ hp => ?_)
  obtain ⟨er9, U1, V1, hM1, hv1, hE1⟩ := hp
  have hI2 := LI_m hC hg d1 d2 ha_ou hF_ou hM1 hv1 hE1
  refine lv_istore (lv' := [(6, .int (iI r9)), (5, .int (iI r)), (0, .ref b), (1, .ref bg), (2, .ref mg), (3, .ref ou), (4, .int (iI (7 * k)))]) hx hb dL_law_1261 hl (by decide) rfl (fun ls hl => ?_)
  refine lv_goto (tgt := 2327) hx hb dL_law_1263 (by decide) ?_
  refine W.widen (k := cells + 3600) (n := slots + 10000) (by omega) (by omega) ?_
  exact kk _ _ _ _ hP hD hS hI2 ls (lv_sub hl [2, 3, 4, 5, 6] rfl)
set_option maxHeartbeats 1600000 in
set_option maxRecDepth 100000 in
theorem K_narrowView {p : Program} {l : Launch} {e : Env} {s : State} {m : MethodId} {below : List Frame} {meth : Method} {c : Code} {b N : Nat} {xs : Nat → Int32} {D : va_G} {y : Nat → ClassId} {sl : List (Nat × Nat × Nat)} {Q : State → Prop} (hfl : l.stackTraces = false) (X : LX D y sl p c s m b N xs) {k : Int} (hk : 0 ≤ k ∧ 7 * k + 6 < N) {L : List Nat} {F : Nat → va_E} {σ : CS} {μ : MS} {H : Heap} {locs : List Loc} {cells slots bg mg ou : Nat} (hcs : cells + 3600 ≤ 600128 ∧ slots + 10000 ≤ 7301098) (hP : va_P D vwCl (va_pl L F) H) (hD : va_D (AL [] s.heap.size) (va_pl L F)) (hS : va_S (AL [] s.heap.size) s.heap H locs) (hI : LI y L F bg mg ou σ μ) (hW : CW σ) (hM : MW μ)
    (kk : ∀ (H1 : Heap) (locs1 : List Loc) (L1 : List Nat) (F1 : Nat → va_E), va_P D vwCl (va_pl L1 F1) H1 → va_D (AL [] s.heap.size) (va_pl L1 F1) → va_S (AL [] s.heap.size) s.heap H1 locs1 → LI y L1 F1 bg mg ou (cS_narrowView σ (sxI xs (7 * k + 1)) (sxI xs (7 * k + 2)) (sxI xs (7 * k + 3)) (sxI xs (7 * k + 4))) (jS_narrowView μ (sxI xs (7 * k + 1)) (sxI xs (7 * k + 2)) (sxI xs (7 * k + 3)) (sxI xs (7 * k + 4))) → ∀ ls : Array Slot, lv_has ls 7 [(0, .ref b), (1, .ref bg), (2, .ref mg), (3, .ref ou), (4, .int (iI (7 * k)))] → W p l e room_1 s m #[.ref b] below meth c H1 locs1 (cells + 3600) (slots + 10000) Q (F0 m 2327 ls [])) : ∀ ls : Array Slot, lv_has ls 7 [(0, .ref b), (1, .ref bg), (2, .ref mg), (3, .ref ou), (4, .int (iI (7 * k)))] → W p l e room_1 s m #[.ref b] below meth c H locs cells slots Q (F0 m 1266 ls []) := by
  intro ls hl
  obtain ⟨C0, hJ, hN, hXS, hXs, hbl, hN4⟩ := X
  have hx := C0.1.1
  have hb := C0.1.2.1
  have hts := C0.1.2.2.2.2
  have hbA := AL_nil hbl
  have hA : ∀ q, s.heap.size ≤ q → AL [] s.heap.size q := fun q h => Or.inr h
  obtain ⟨O, G, U, V, nv, sv, hC, hg, hMP, hv, d1, d2, ha_ou, hF_ou⟩ := hI
  refine lv_aload_n hx hb dL_law_1266 rfl (lv_at hl 1 rfl) ?_
  refine lv_aload_n hx hb dL_law_1267 rfl (lv_at hl 0 rfl) ?_
  refine lv_iload hx hb dL_law_1268 (lv_at hl 4 rfl) ?_
  refine q_iconst hx hb dL_law_1270 ?_
  refine q_iadd hx hb dL_law_1271 ?_
  refine q_sld hx hb hXs hbl hbA hS (by omega) hN4 dL_law_1272 ?_
  have sb_0 := sxI_b xs (7 * k + 1)
  refine lv_aload_n hx hb dL_law_1273 rfl (lv_at hl 0 rfl) ?_
  refine lv_iload hx hb dL_law_1274 (lv_at hl 4 rfl) ?_
  refine q_iconst hx hb dL_law_1276 ?_
  refine q_iadd hx hb dL_law_1277 ?_
  refine q_sld hx hb hXs hbl hbA hS (by omega) hN4 dL_law_1278 ?_
  have sb_1 := sxI_b xs (7 * k + 2)
  refine lv_aload_n hx hb dL_law_1279 rfl (lv_at hl 0 rfl) ?_
  refine lv_iload hx hb dL_law_1280 (lv_at hl 4 rfl) ?_
  refine q_iconst hx hb dL_law_1282 ?_
  refine q_iadd hx hb dL_law_1283 ?_
  refine q_sld hx hb hXs hbl hbA hS (by omega) hN4 dL_law_1284 ?_
  have sb_2 := sxI_b xs (7 * k + 3)
  refine lv_aload_n hx hb dL_law_1285 rfl (lv_at hl 0 rfl) ?_
  refine lv_iload hx hb dL_law_1286 (lv_at hl 4 rfl) ?_
  refine q_iconst hx hb dL_law_1288 ?_
  refine q_iadd hx hb dL_law_1289 ?_
  refine q_sld hx hb hXs hbl hbA hS (by omega) hN4 dL_law_1290 ?_
  have sb_3 := sxI_b xs (7 * k + 4)
  refine lv_aload_n hx hb dL_law_1291 rfl (lv_at hl 3 rfl) ?_
  have t_ := c_L_narrowView l hfl D y sl L F H.size O G σ (sxI xs (7 * k + 1)) (sxI xs (7 * k + 2)) (sxI xs (7 * k + 3)) (sxI xs (7 * k + 4)) ou nv sv hC hW (by omega) (by omega) (by omega) (by omega) ha_ou hF_ou (fun z => (d1 ou z).2.2 rfl)
  rw [hg] at t_
  refine q_sT C0 tL_222 t_ ⟨rfl, rfl⟩ rfl hJ hN (XS_of hXS hS hD) hP hD hS hA rfl hl rfl (Nat.le_of_ble_eq_true rfl) dL_law_1292 ⟨by show _ ≤ 600128; omega, by show _ ≤ 7301098; omega⟩ (fun r H locs L1 F1 hP hD hS hz_ hp => ?_)
  obtain ⟨O1, G1, σ1, n1, s1, hC1, hg1, hs1, hf1, hO1, hF1, hq⟩ := hp
  have e1 : σ1 = cS_narrowView σ (sxI xs (7 * k + 1)) (sxI xs (7 * k + 2)) (sxI xs (7 * k + 3)) (sxI xs (7 * k + 4)) := cS_of hq
  have hI1 := LI_c hg hMP hv d1 d2 ha_ou hC1 hg1 hs1 hf1 hO1 hF1
  rw [e1] at hI1
  obtain ⟨O, G, U, V, nv, sv, hC, hg, hMP, hv, d1, d2, ha_ou, hF_ou⟩ := hI1
  refine lv_istore (lv' := [(5, .int (iI r)), (0, .ref b), (1, .ref bg), (2, .ref mg), (3, .ref ou), (4, .int (iI (7 * k)))]) hx hb dL_law_1295 hl (by decide) rfl (fun ls hl => ?_)
  refine lv_aload_n hx hb dL_law_1297 rfl (lv_at hl 3 rfl) ?_
  refine lv_aload_n hx hb dL_law_1298 rfl (lv_at hl 1 rfl) ?_
  refine lv_iload hx hb dL_law_1299 (lv_at hl 5 rfl) ?_
  refine q_iconst hx hb dL_law_1301 ?_
  refine q_iadd hx hb dL_law_1302 ?_
  refine q_sld hx hb hXs hbl hbA hS (by omega) hN4 dL_law_1303 ?_
  refine lv_aload_n hx hb dL_law_1304 rfl (lv_at hl 1 rfl) ?_
  refine lv_iload hx hb dL_law_1305 (lv_at hl 5 rfl) ?_
  refine q_iconst hx hb dL_law_1307 ?_
  refine q_iadd hx hb dL_law_1308 ?_
  refine q_sld hx hb hXs hbl hbA hS (by omega) hN4 dL_law_1309 ?_
  refine lv_aload_n hx hb dL_law_1310 rfl (lv_at hl 1 rfl) ?_
  refine lv_iload hx hb dL_law_1311 (lv_at hl 5 rfl) ?_
  refine q_iconst hx hb dL_law_1313 ?_
  refine q_iadd hx hb dL_law_1314 ?_
  refine q_sld hx hb hXs hbl hbA hS (by omega) hN4 dL_law_1315 ?_
  refine lv_aload_n hx hb dL_law_1316 rfl (lv_at hl 1 rfl) ?_
  refine lv_iload hx hb dL_law_1317 (lv_at hl 5 rfl) ?_
  refine q_iconst hx hb dL_law_1319 ?_
  refine q_iadd hx hb dL_law_1320 ?_
  refine q_sld hx hb hXs hbl hbA hS (by omega) hN4 dL_law_1321 ?_
  have t_ := c_X6_narrowView l D y L1 F1 H.size U V μ (sxI xs (7 * k + 1)) (sxI xs (7 * k + 2)) (sxI xs (7 * k + 3)) (sxI xs (7 * k + 4)) hMP hM (by omega) (by omega) (by omega) (by omega)
  rw [hv] at t_
  refine q_vMi C0 lL_224 t_ ⟨rfl, rfl⟩ rfl hP hD hS hA (by rw [← hv]; exact hMP.1.1) (show F1 mg = mE V μ from by rw [← hv]; exact hMP.1.2) rfl rfl rfl hl rfl (Nat.le_of_ble_eq_true rfl) dL_law_1322 ⟨by show _ ≤ 600128; omega, by show _ ≤ 7301098; omega⟩ (fun r9 H locs L2 F2 hP hD hS hz_ hp => ?_)
  obtain ⟨er9, U1, V1, hM1, hv1, hE1⟩ := hp
  have hI2 := LI_m hC hg d1 d2 ha_ou hF_ou hM1 hv1 hE1
  refine lv_istore (lv' := [(6, .int (iI r9)), (5, .int (iI r)), (0, .ref b), (1, .ref bg), (2, .ref mg), (3, .ref ou), (4, .int (iI (7 * k)))]) hx hb dL_law_1325 hl (by decide) rfl (fun ls hl => ?_)
  refine lv_goto (tgt := 2327) hx hb dL_law_1327 (by decide) ?_
  refine W.widen (k := cells + 3600) (n := slots + 10000) (by omega) (by omega) ?_
  exact kk _ _ _ _ hP hD hS hI2 ls (lv_sub hl [2, 3, 4, 5, 6] rfl)
set_option maxHeartbeats 1600000 in
set_option maxRecDepth 100000 in
theorem K_buildFromView {p : Program} {l : Launch} {e : Env} {s : State} {m : MethodId} {below : List Frame} {meth : Method} {c : Code} {b N : Nat} {xs : Nat → Int32} {D : va_G} {y : Nat → ClassId} {sl : List (Nat × Nat × Nat)} {Q : State → Prop} (hfl : l.stackTraces = false) (X : LX D y sl p c s m b N xs) {k : Int} (hk : 0 ≤ k ∧ 7 * k + 6 < N) {L : List Nat} {F : Nat → va_E} {σ : CS} {μ : MS} {H : Heap} {locs : List Loc} {cells slots bg mg ou : Nat} (hcs : cells + 3600 ≤ 600128 ∧ slots + 10000 ≤ 7301098) (hP : va_P D vwCl (va_pl L F) H) (hD : va_D (AL [] s.heap.size) (va_pl L F)) (hS : va_S (AL [] s.heap.size) s.heap H locs) (hI : LI y L F bg mg ou σ μ) (hW : CW σ) (hM : MW μ)
    (kk : ∀ (H1 : Heap) (locs1 : List Loc) (L1 : List Nat) (F1 : Nat → va_E), va_P D vwCl (va_pl L1 F1) H1 → va_D (AL [] s.heap.size) (va_pl L1 F1) → va_S (AL [] s.heap.size) s.heap H1 locs1 → LI y L1 F1 bg mg ou (cS_buildFromView σ (sxI xs (7 * k + 1)) (sxI xs (7 * k + 2)) (sxI xs (7 * k + 3))) (jS_buildFromView μ (sxI xs (7 * k + 1)) (sxI xs (7 * k + 2)) (sxI xs (7 * k + 3))) → ∀ ls : Array Slot, lv_has ls 7 [(0, .ref b), (1, .ref bg), (2, .ref mg), (3, .ref ou), (4, .int (iI (7 * k)))] → W p l e room_1 s m #[.ref b] below meth c H1 locs1 (cells + 3600) (slots + 10000) Q (F0 m 2327 ls [])) : ∀ ls : Array Slot, lv_has ls 7 [(0, .ref b), (1, .ref bg), (2, .ref mg), (3, .ref ou), (4, .int (iI (7 * k)))] → W p l e room_1 s m #[.ref b] below meth c H locs cells slots Q (F0 m 1330 ls []) := by
  intro ls hl
  obtain ⟨C0, hJ, hN, hXS, hXs, hbl, hN4⟩ := X
  have hx := C0.1.1
  have hb := C0.1.2.1
  have hts := C0.1.2.2.2.2
  have hbA := AL_nil hbl
  have hA : ∀ q, s.heap.size ≤ q → AL [] s.heap.size q := fun q h => Or.inr h
  obtain ⟨O, G, U, V, nv, sv, hC, hg, hMP, hv, d1, d2, ha_ou, hF_ou⟩ := hI
  refine lv_aload_n hx hb dL_law_1330 rfl (lv_at hl 1 rfl) ?_
  refine lv_aload_n hx hb dL_law_1331 rfl (lv_at hl 0 rfl) ?_
  refine lv_iload hx hb dL_law_1332 (lv_at hl 4 rfl) ?_
  refine q_iconst hx hb dL_law_1334 ?_
  refine q_iadd hx hb dL_law_1335 ?_
  refine q_sld hx hb hXs hbl hbA hS (by omega) hN4 dL_law_1336 ?_
  have sb_0 := sxI_b xs (7 * k + 1)
  refine lv_aload_n hx hb dL_law_1337 rfl (lv_at hl 0 rfl) ?_
  refine lv_iload hx hb dL_law_1338 (lv_at hl 4 rfl) ?_
  refine q_iconst hx hb dL_law_1340 ?_
  refine q_iadd hx hb dL_law_1341 ?_
  refine q_sld hx hb hXs hbl hbA hS (by omega) hN4 dL_law_1342 ?_
  have sb_1 := sxI_b xs (7 * k + 2)
  refine lv_aload_n hx hb dL_law_1343 rfl (lv_at hl 0 rfl) ?_
  refine lv_iload hx hb dL_law_1344 (lv_at hl 4 rfl) ?_
  refine q_iconst hx hb dL_law_1346 ?_
  refine q_iadd hx hb dL_law_1347 ?_
  refine q_sld hx hb hXs hbl hbA hS (by omega) hN4 dL_law_1348 ?_
  have sb_2 := sxI_b xs (7 * k + 3)
  refine lv_aload_n hx hb dL_law_1349 rfl (lv_at hl 3 rfl) ?_
  have t_ := c_L_buildFromView l hfl D y sl L F H.size O G σ (sxI xs (7 * k + 1)) (sxI xs (7 * k + 2)) (sxI xs (7 * k + 3)) ou nv sv hC hW (by omega) (by omega) (by omega) ha_ou hF_ou (fun z => (d1 ou z).2.2 rfl)
  rw [hg] at t_
  refine q_sT C0 tL_225 t_ ⟨rfl, rfl⟩ rfl hJ hN (XS_of hXS hS hD) hP hD hS hA rfl hl rfl (Nat.le_of_ble_eq_true rfl) dL_law_1350 ⟨by show _ ≤ 600128; omega, by show _ ≤ 7301098; omega⟩ (fun r H locs L1 F1 hP hD hS hz_ hp => ?_)
  obtain ⟨O1, G1, σ1, n1, s1, hC1, hg1, hs1, hf1, hO1, hF1, hq⟩ := hp
  have e1 : σ1 = cS_buildFromView σ (sxI xs (7 * k + 1)) (sxI xs (7 * k + 2)) (sxI xs (7 * k + 3)) := cS_of hq
  have hI1 := LI_c hg hMP hv d1 d2 ha_ou hC1 hg1 hs1 hf1 hO1 hF1
  rw [e1] at hI1
  obtain ⟨O, G, U, V, nv, sv, hC, hg, hMP, hv, d1, d2, ha_ou, hF_ou⟩ := hI1
  refine lv_istore (lv' := [(5, .int (iI r)), (0, .ref b), (1, .ref bg), (2, .ref mg), (3, .ref ou), (4, .int (iI (7 * k)))]) hx hb dL_law_1353 hl (by decide) rfl (fun ls hl => ?_)
  refine lv_aload_n hx hb dL_law_1355 rfl (lv_at hl 3 rfl) ?_
  refine lv_aload_n hx hb dL_law_1356 rfl (lv_at hl 1 rfl) ?_
  refine lv_iload hx hb dL_law_1357 (lv_at hl 5 rfl) ?_
  refine q_iconst hx hb dL_law_1359 ?_
  refine q_iadd hx hb dL_law_1360 ?_
  refine q_sld hx hb hXs hbl hbA hS (by omega) hN4 dL_law_1361 ?_
  refine lv_aload_n hx hb dL_law_1362 rfl (lv_at hl 1 rfl) ?_
  refine lv_iload hx hb dL_law_1363 (lv_at hl 5 rfl) ?_
  refine q_iconst hx hb dL_law_1365 ?_
  refine q_iadd hx hb dL_law_1366 ?_
  refine q_sld hx hb hXs hbl hbA hS (by omega) hN4 dL_law_1367 ?_
  refine lv_aload_n hx hb dL_law_1368 rfl (lv_at hl 1 rfl) ?_
  refine lv_iload hx hb dL_law_1369 (lv_at hl 5 rfl) ?_
  refine q_iconst hx hb dL_law_1371 ?_
  refine q_iadd hx hb dL_law_1372 ?_
  refine q_sld hx hb hXs hbl hbA hS (by omega) hN4 dL_law_1373 ?_
  have t_ := c_X6_buildFromView l D y L1 F1 H.size U V μ (sxI xs (7 * k + 1)) (sxI xs (7 * k + 2)) (sxI xs (7 * k + 3)) hMP hM (by omega) (by omega) (by omega)
  rw [hv] at t_
  refine q_vMi C0 lL_227 t_ ⟨rfl, rfl⟩ rfl hP hD hS hA (by rw [← hv]; exact hMP.1.1) (show F1 mg = mE V μ from by rw [← hv]; exact hMP.1.2) rfl rfl rfl hl rfl (Nat.le_of_ble_eq_true rfl) dL_law_1374 ⟨by show _ ≤ 600128; omega, by show _ ≤ 7301098; omega⟩ (fun r9 H locs L2 F2 hP hD hS hz_ hp => ?_)
  obtain ⟨er9, U1, V1, hM1, hv1, hE1⟩ := hp
  have hI2 := LI_m hC hg d1 d2 ha_ou hF_ou hM1 hv1 hE1
  refine lv_istore (lv' := [(6, .int (iI r9)), (5, .int (iI r)), (0, .ref b), (1, .ref bg), (2, .ref mg), (3, .ref ou), (4, .int (iI (7 * k)))]) hx hb dL_law_1377 hl (by decide) rfl (fun ls hl => ?_)
  refine lv_goto (tgt := 2327) hx hb dL_law_1379 (by decide) ?_
  refine W.widen (k := cells + 3600) (n := slots + 10000) (by omega) (by omega) ?_
  exact kk _ _ _ _ hP hD hS hI2 ls (lv_sub hl [2, 3, 4, 5, 6] rfl)
set_option maxHeartbeats 1600000 in
set_option maxRecDepth 100000 in
theorem K_viewPut {p : Program} {l : Launch} {e : Env} {s : State} {m : MethodId} {below : List Frame} {meth : Method} {c : Code} {b N : Nat} {xs : Nat → Int32} {D : va_G} {y : Nat → ClassId} {sl : List (Nat × Nat × Nat)} {Q : State → Prop} (hfl : l.stackTraces = false) (X : LX D y sl p c s m b N xs) {k : Int} (hk : 0 ≤ k ∧ 7 * k + 6 < N) {L : List Nat} {F : Nat → va_E} {σ : CS} {μ : MS} {H : Heap} {locs : List Loc} {cells slots bg mg ou : Nat} (hcs : cells + 3600 ≤ 600128 ∧ slots + 10000 ≤ 7301098) (hP : va_P D vwCl (va_pl L F) H) (hD : va_D (AL [] s.heap.size) (va_pl L F)) (hS : va_S (AL [] s.heap.size) s.heap H locs) (hI : LI y L F bg mg ou σ μ) (hW : CW σ) (hM : MW μ)
    (kk : ∀ (H1 : Heap) (locs1 : List Loc) (L1 : List Nat) (F1 : Nat → va_E), va_P D vwCl (va_pl L1 F1) H1 → va_D (AL [] s.heap.size) (va_pl L1 F1) → va_S (AL [] s.heap.size) s.heap H1 locs1 → LI y L1 F1 bg mg ou (cS_viewPut σ (sxI xs (7 * k + 1)) (sxI xs (7 * k + 2)) (sxI xs (7 * k + 3))) (jS_viewPut μ (sxI xs (7 * k + 1)) (sxI xs (7 * k + 2)) (sxI xs (7 * k + 3))) → ∀ ls : Array Slot, lv_has ls 7 [(0, .ref b), (1, .ref bg), (2, .ref mg), (3, .ref ou), (4, .int (iI (7 * k)))] → W p l e room_1 s m #[.ref b] below meth c H1 locs1 (cells + 3600) (slots + 10000) Q (F0 m 2327 ls [])) : ∀ ls : Array Slot, lv_has ls 7 [(0, .ref b), (1, .ref bg), (2, .ref mg), (3, .ref ou), (4, .int (iI (7 * k)))] → W p l e room_1 s m #[.ref b] below meth c H locs cells slots Q (F0 m 1382 ls []) := by
  intro ls hl
  obtain ⟨C0, hJ, hN, hXS, hXs, hbl, hN4⟩ := X
  have hx := C0.1.1
  have hb := C0.1.2.1
  have hts := C0.1.2.2.2.2
  have hbA := AL_nil hbl
  have hA : ∀ q, s.heap.size ≤ q → AL [] s.heap.size q := fun q h => Or.inr h
  obtain ⟨O, G, U, V, nv, sv, hC, hg, hMP, hv, d1, d2, ha_ou, hF_ou⟩ := hI
  refine lv_aload_n hx hb dL_law_1382 rfl (lv_at hl 1 rfl) ?_
  refine lv_aload_n hx hb dL_law_1383 rfl (lv_at hl 0 rfl) ?_
  refine lv_iload hx hb dL_law_1384 (lv_at hl 4 rfl) ?_
  refine q_iconst hx hb dL_law_1386 ?_
  refine q_iadd hx hb dL_law_1387 ?_
  refine q_sld hx hb hXs hbl hbA hS (by omega) hN4 dL_law_1388 ?_
  have sb_0 := sxI_b xs (7 * k + 1)
  refine lv_aload_n hx hb dL_law_1389 rfl (lv_at hl 0 rfl) ?_
  refine lv_iload hx hb dL_law_1390 (lv_at hl 4 rfl) ?_
  refine q_iconst hx hb dL_law_1392 ?_
  refine q_iadd hx hb dL_law_1393 ?_
  refine q_sld hx hb hXs hbl hbA hS (by omega) hN4 dL_law_1394 ?_
  have sb_1 := sxI_b xs (7 * k + 2)
  refine lv_aload_n hx hb dL_law_1395 rfl (lv_at hl 0 rfl) ?_
  refine lv_iload hx hb dL_law_1396 (lv_at hl 4 rfl) ?_
  refine q_iconst hx hb dL_law_1398 ?_
  refine q_iadd hx hb dL_law_1399 ?_
  refine q_sld hx hb hXs hbl hbA hS (by omega) hN4 dL_law_1400 ?_
  have sb_2 := sxI_b xs (7 * k + 3)
  refine lv_aload_n hx hb dL_law_1401 rfl (lv_at hl 3 rfl) ?_
  have t_ := c_L_viewPut l hfl D y sl L F H.size O G σ (sxI xs (7 * k + 1)) (sxI xs (7 * k + 2)) (sxI xs (7 * k + 3)) ou nv sv hC hW (by omega) (by omega) (by omega) ha_ou hF_ou (fun z => (d1 ou z).2.2 rfl)
  rw [hg] at t_
  refine q_sT C0 tL_228 t_ ⟨rfl, rfl⟩ rfl hJ hN (XS_of hXS hS hD) hP hD hS hA rfl hl rfl (Nat.le_of_ble_eq_true rfl) dL_law_1402 ⟨by show _ ≤ 600128; omega, by show _ ≤ 7301098; omega⟩ (fun r H locs L1 F1 hP hD hS hz_ hp => ?_)
  obtain ⟨O1, G1, σ1, n1, s1, hC1, hg1, hs1, hf1, hO1, hF1, hq⟩ := hp
  have e1 : σ1 = cS_viewPut σ (sxI xs (7 * k + 1)) (sxI xs (7 * k + 2)) (sxI xs (7 * k + 3)) := cS_of hq
  have hI1 := LI_c hg hMP hv d1 d2 ha_ou hC1 hg1 hs1 hf1 hO1 hF1
  rw [e1] at hI1
  obtain ⟨O, G, U, V, nv, sv, hC, hg, hMP, hv, d1, d2, ha_ou, hF_ou⟩ := hI1
  refine lv_istore (lv' := [(5, .int (iI r)), (0, .ref b), (1, .ref bg), (2, .ref mg), (3, .ref ou), (4, .int (iI (7 * k)))]) hx hb dL_law_1405 hl (by decide) rfl (fun ls hl => ?_)
  refine lv_aload_n hx hb dL_law_1407 rfl (lv_at hl 3 rfl) ?_
  refine lv_aload_n hx hb dL_law_1408 rfl (lv_at hl 1 rfl) ?_
  refine lv_iload hx hb dL_law_1409 (lv_at hl 5 rfl) ?_
  refine q_iconst hx hb dL_law_1411 ?_
  refine q_iadd hx hb dL_law_1412 ?_
  refine q_sld hx hb hXs hbl hbA hS (by omega) hN4 dL_law_1413 ?_
  refine lv_aload_n hx hb dL_law_1414 rfl (lv_at hl 1 rfl) ?_
  refine lv_iload hx hb dL_law_1415 (lv_at hl 5 rfl) ?_
  refine q_iconst hx hb dL_law_1417 ?_
  refine q_iadd hx hb dL_law_1418 ?_
  refine q_sld hx hb hXs hbl hbA hS (by omega) hN4 dL_law_1419 ?_
  refine lv_aload_n hx hb dL_law_1420 rfl (lv_at hl 1 rfl) ?_
  refine lv_iload hx hb dL_law_1421 (lv_at hl 5 rfl) ?_
  refine q_iconst hx hb dL_law_1423 ?_
  refine q_iadd hx hb dL_law_1424 ?_
  refine q_sld hx hb hXs hbl hbA hS (by omega) hN4 dL_law_1425 ?_
  have t_ := c_X6_viewPut l D y L1 F1 H.size U V μ (sxI xs (7 * k + 1)) (sxI xs (7 * k + 2)) (sxI xs (7 * k + 3)) hMP hM (by omega) (by omega) (by omega)
  rw [hv] at t_
  refine q_vMi C0 lL_230 t_ ⟨rfl, rfl⟩ rfl hP hD hS hA (by rw [← hv]; exact hMP.1.1) (show F1 mg = mE V μ from by rw [← hv]; exact hMP.1.2) rfl rfl rfl hl rfl (Nat.le_of_ble_eq_true rfl) dL_law_1426 ⟨by show _ ≤ 600128; omega, by show _ ≤ 7301098; omega⟩ (fun r9 H locs L2 F2 hP hD hS hz_ hp => ?_)
  obtain ⟨er9, U1, V1, hM1, hv1, hE1⟩ := hp
  have hI2 := LI_m hC hg d1 d2 ha_ou hF_ou hM1 hv1 hE1
  refine lv_istore (lv' := [(6, .int (iI r9)), (5, .int (iI r)), (0, .ref b), (1, .ref bg), (2, .ref mg), (3, .ref ou), (4, .int (iI (7 * k)))]) hx hb dL_law_1429 hl (by decide) rfl (fun ls hl => ?_)
  refine lv_goto (tgt := 2327) hx hb dL_law_1431 (by decide) ?_
  refine W.widen (k := cells + 3600) (n := slots + 10000) (by omega) (by omega) ?_
  exact kk _ _ _ _ hP hD hS hI2 ls (lv_sub hl [2, 3, 4, 5, 6] rfl)
set_option maxHeartbeats 1600000 in
set_option maxRecDepth 100000 in
theorem K_viewTake {p : Program} {l : Launch} {e : Env} {s : State} {m : MethodId} {below : List Frame} {meth : Method} {c : Code} {b N : Nat} {xs : Nat → Int32} {D : va_G} {y : Nat → ClassId} {sl : List (Nat × Nat × Nat)} {Q : State → Prop} (hfl : l.stackTraces = false) (X : LX D y sl p c s m b N xs) {k : Int} (hk : 0 ≤ k ∧ 7 * k + 6 < N) {L : List Nat} {F : Nat → va_E} {σ : CS} {μ : MS} {H : Heap} {locs : List Loc} {cells slots bg mg ou : Nat} (hcs : cells + 3600 ≤ 600128 ∧ slots + 10000 ≤ 7301098) (hP : va_P D vwCl (va_pl L F) H) (hD : va_D (AL [] s.heap.size) (va_pl L F)) (hS : va_S (AL [] s.heap.size) s.heap H locs) (hI : LI y L F bg mg ou σ μ) (hW : CW σ) (hM : MW μ)
    (kk : ∀ (H1 : Heap) (locs1 : List Loc) (L1 : List Nat) (F1 : Nat → va_E), va_P D vwCl (va_pl L1 F1) H1 → va_D (AL [] s.heap.size) (va_pl L1 F1) → va_S (AL [] s.heap.size) s.heap H1 locs1 → LI y L1 F1 bg mg ou (cS_viewTake σ (sxI xs (7 * k + 1)) (sxI xs (7 * k + 2))) (jS_viewTake μ (sxI xs (7 * k + 1)) (sxI xs (7 * k + 2))) → ∀ ls : Array Slot, lv_has ls 7 [(0, .ref b), (1, .ref bg), (2, .ref mg), (3, .ref ou), (4, .int (iI (7 * k)))] → W p l e room_1 s m #[.ref b] below meth c H1 locs1 (cells + 3600) (slots + 10000) Q (F0 m 2327 ls [])) : ∀ ls : Array Slot, lv_has ls 7 [(0, .ref b), (1, .ref bg), (2, .ref mg), (3, .ref ou), (4, .int (iI (7 * k)))] → W p l e room_1 s m #[.ref b] below meth c H locs cells slots Q (F0 m 1434 ls []) := by
  intro ls hl
  obtain ⟨C0, hJ, hN, hXS, hXs, hbl, hN4⟩ := X
  have hx := C0.1.1
  have hb := C0.1.2.1
  have hts := C0.1.2.2.2.2
  have hbA := AL_nil hbl
  have hA : ∀ q, s.heap.size ≤ q → AL [] s.heap.size q := fun q h => Or.inr h
  obtain ⟨O, G, U, V, nv, sv, hC, hg, hMP, hv, d1, d2, ha_ou, hF_ou⟩ := hI
  refine lv_aload_n hx hb dL_law_1434 rfl (lv_at hl 1 rfl) ?_
  refine lv_aload_n hx hb dL_law_1435 rfl (lv_at hl 0 rfl) ?_
  refine lv_iload hx hb dL_law_1436 (lv_at hl 4 rfl) ?_
  refine q_iconst hx hb dL_law_1438 ?_
  refine q_iadd hx hb dL_law_1439 ?_
  refine q_sld hx hb hXs hbl hbA hS (by omega) hN4 dL_law_1440 ?_
  have sb_0 := sxI_b xs (7 * k + 1)
  refine lv_aload_n hx hb dL_law_1441 rfl (lv_at hl 0 rfl) ?_
  refine lv_iload hx hb dL_law_1442 (lv_at hl 4 rfl) ?_
  refine q_iconst hx hb dL_law_1444 ?_
  refine q_iadd hx hb dL_law_1445 ?_
  refine q_sld hx hb hXs hbl hbA hS (by omega) hN4 dL_law_1446 ?_
  have sb_1 := sxI_b xs (7 * k + 2)
  refine lv_aload_n hx hb dL_law_1447 rfl (lv_at hl 3 rfl) ?_
  have t_ := c_L_viewTake l hfl D y sl L F H.size O G σ (sxI xs (7 * k + 1)) (sxI xs (7 * k + 2)) ou nv sv hC hW (by omega) (by omega) ha_ou hF_ou (fun z => (d1 ou z).2.2 rfl)
  rw [hg] at t_
  refine q_sT C0 tL_231 t_ ⟨rfl, rfl⟩ rfl hJ hN (XS_of hXS hS hD) hP hD hS hA rfl hl rfl (Nat.le_of_ble_eq_true rfl) dL_law_1448 ⟨by show _ ≤ 600128; omega, by show _ ≤ 7301098; omega⟩ (fun r H locs L1 F1 hP hD hS hz_ hp => ?_)
  obtain ⟨O1, G1, σ1, n1, s1, hC1, hg1, hs1, hf1, hO1, hF1, hq⟩ := hp
  have e1 : σ1 = cS_viewTake σ (sxI xs (7 * k + 1)) (sxI xs (7 * k + 2)) := cS_of hq
  have hI1 := LI_c hg hMP hv d1 d2 ha_ou hC1 hg1 hs1 hf1 hO1 hF1
  rw [e1] at hI1
  obtain ⟨O, G, U, V, nv, sv, hC, hg, hMP, hv, d1, d2, ha_ou, hF_ou⟩ := hI1
  refine lv_istore (lv' := [(5, .int (iI r)), (0, .ref b), (1, .ref bg), (2, .ref mg), (3, .ref ou), (4, .int (iI (7 * k)))]) hx hb dL_law_1451 hl (by decide) rfl (fun ls hl => ?_)
  refine lv_aload_n hx hb dL_law_1453 rfl (lv_at hl 3 rfl) ?_
  refine lv_aload_n hx hb dL_law_1454 rfl (lv_at hl 1 rfl) ?_
  refine lv_iload hx hb dL_law_1455 (lv_at hl 5 rfl) ?_
  refine q_iconst hx hb dL_law_1457 ?_
  refine q_iadd hx hb dL_law_1458 ?_
  refine q_sld hx hb hXs hbl hbA hS (by omega) hN4 dL_law_1459 ?_
  refine lv_aload_n hx hb dL_law_1460 rfl (lv_at hl 1 rfl) ?_
  refine lv_iload hx hb dL_law_1461 (lv_at hl 5 rfl) ?_
  refine q_iconst hx hb dL_law_1463 ?_
  refine q_iadd hx hb dL_law_1464 ?_
  refine q_sld hx hb hXs hbl hbA hS (by omega) hN4 dL_law_1465 ?_
  have t_ := c_X6_viewTake l D y L1 F1 H.size U V μ (sxI xs (7 * k + 1)) (sxI xs (7 * k + 2)) hMP hM (by omega) (by omega)
  rw [hv] at t_
  refine q_vMi C0 lL_233 t_ ⟨rfl, rfl⟩ rfl hP hD hS hA (by rw [← hv]; exact hMP.1.1) (show F1 mg = mE V μ from by rw [← hv]; exact hMP.1.2) rfl rfl rfl hl rfl (Nat.le_of_ble_eq_true rfl) dL_law_1466 ⟨by show _ ≤ 600128; omega, by show _ ≤ 7301098; omega⟩ (fun r9 H locs L2 F2 hP hD hS hz_ hp => ?_)
  obtain ⟨er9, U1, V1, hM1, hv1, hE1⟩ := hp
  have hI2 := LI_m hC hg d1 d2 ha_ou hF_ou hM1 hv1 hE1
  refine lv_istore (lv' := [(6, .int (iI r9)), (5, .int (iI r)), (0, .ref b), (1, .ref bg), (2, .ref mg), (3, .ref ou), (4, .int (iI (7 * k)))]) hx hb dL_law_1469 hl (by decide) rfl (fun ls hl => ?_)
  refine lv_goto (tgt := 2327) hx hb dL_law_1471 (by decide) ?_
  refine W.widen (k := cells + 3600) (n := slots + 10000) (by omega) (by omega) ?_
  exact kk _ _ _ _ hP hD hS hI2 ls (lv_sub hl [2, 3, 4, 5, 6] rfl)
set_option maxHeartbeats 1600000 in
set_option maxRecDepth 100000 in
theorem K_viewDrop {p : Program} {l : Launch} {e : Env} {s : State} {m : MethodId} {below : List Frame} {meth : Method} {c : Code} {b N : Nat} {xs : Nat → Int32} {D : va_G} {y : Nat → ClassId} {sl : List (Nat × Nat × Nat)} {Q : State → Prop} (hfl : l.stackTraces = false) (X : LX D y sl p c s m b N xs) {k : Int} (hk : 0 ≤ k ∧ 7 * k + 6 < N) {L : List Nat} {F : Nat → va_E} {σ : CS} {μ : MS} {H : Heap} {locs : List Loc} {cells slots bg mg ou : Nat} (hcs : cells + 3600 ≤ 600128 ∧ slots + 10000 ≤ 7301098) (hP : va_P D vwCl (va_pl L F) H) (hD : va_D (AL [] s.heap.size) (va_pl L F)) (hS : va_S (AL [] s.heap.size) s.heap H locs) (hI : LI y L F bg mg ou σ μ) (hW : CW σ) (hM : MW μ)
    (kk : ∀ (H1 : Heap) (locs1 : List Loc) (L1 : List Nat) (F1 : Nat → va_E), va_P D vwCl (va_pl L1 F1) H1 → va_D (AL [] s.heap.size) (va_pl L1 F1) → va_S (AL [] s.heap.size) s.heap H1 locs1 → LI y L1 F1 bg mg ou (cS_viewDrop σ (sxI xs (7 * k + 1)) (sxI xs (7 * k + 2))) (jS_viewDrop μ (sxI xs (7 * k + 1)) (sxI xs (7 * k + 2))) → ∀ ls : Array Slot, lv_has ls 7 [(0, .ref b), (1, .ref bg), (2, .ref mg), (3, .ref ou), (4, .int (iI (7 * k)))] → W p l e room_1 s m #[.ref b] below meth c H1 locs1 (cells + 3600) (slots + 10000) Q (F0 m 2327 ls [])) : ∀ ls : Array Slot, lv_has ls 7 [(0, .ref b), (1, .ref bg), (2, .ref mg), (3, .ref ou), (4, .int (iI (7 * k)))] → W p l e room_1 s m #[.ref b] below meth c H locs cells slots Q (F0 m 1474 ls []) := by
  intro ls hl
  obtain ⟨C0, hJ, hN, hXS, hXs, hbl, hN4⟩ := X
  have hx := C0.1.1
  have hb := C0.1.2.1
  have hts := C0.1.2.2.2.2
  have hbA := AL_nil hbl
  have hA : ∀ q, s.heap.size ≤ q → AL [] s.heap.size q := fun q h => Or.inr h
  obtain ⟨O, G, U, V, nv, sv, hC, hg, hMP, hv, d1, d2, ha_ou, hF_ou⟩ := hI
  refine lv_aload_n hx hb dL_law_1474 rfl (lv_at hl 1 rfl) ?_
  refine lv_aload_n hx hb dL_law_1475 rfl (lv_at hl 0 rfl) ?_
  refine lv_iload hx hb dL_law_1476 (lv_at hl 4 rfl) ?_
  refine q_iconst hx hb dL_law_1478 ?_
  refine q_iadd hx hb dL_law_1479 ?_
  refine q_sld hx hb hXs hbl hbA hS (by omega) hN4 dL_law_1480 ?_
  have sb_0 := sxI_b xs (7 * k + 1)
  refine lv_aload_n hx hb dL_law_1481 rfl (lv_at hl 0 rfl) ?_
  refine lv_iload hx hb dL_law_1482 (lv_at hl 4 rfl) ?_
  refine q_iconst hx hb dL_law_1484 ?_
  refine q_iadd hx hb dL_law_1485 ?_
  refine q_sld hx hb hXs hbl hbA hS (by omega) hN4 dL_law_1486 ?_
  have sb_1 := sxI_b xs (7 * k + 2)
  refine lv_aload_n hx hb dL_law_1487 rfl (lv_at hl 3 rfl) ?_
  have t_ := c_L_viewDrop l hfl D y sl L F H.size O G σ (sxI xs (7 * k + 1)) (sxI xs (7 * k + 2)) ou nv sv hC hW (by omega) (by omega) ha_ou hF_ou (fun z => (d1 ou z).2.2 rfl)
  rw [hg] at t_
  refine q_sT C0 tL_234 t_ ⟨rfl, rfl⟩ rfl hJ hN (XS_of hXS hS hD) hP hD hS hA rfl hl rfl (Nat.le_of_ble_eq_true rfl) dL_law_1488 ⟨by show _ ≤ 600128; omega, by show _ ≤ 7301098; omega⟩ (fun r H locs L1 F1 hP hD hS hz_ hp => ?_)
  obtain ⟨O1, G1, σ1, n1, s1, hC1, hg1, hs1, hf1, hO1, hF1, hq⟩ := hp
  have e1 : σ1 = cS_viewDrop σ (sxI xs (7 * k + 1)) (sxI xs (7 * k + 2)) := cS_of hq
  have hI1 := LI_c hg hMP hv d1 d2 ha_ou hC1 hg1 hs1 hf1 hO1 hF1
  rw [e1] at hI1
  obtain ⟨O, G, U, V, nv, sv, hC, hg, hMP, hv, d1, d2, ha_ou, hF_ou⟩ := hI1
  refine lv_istore (lv' := [(5, .int (iI r)), (0, .ref b), (1, .ref bg), (2, .ref mg), (3, .ref ou), (4, .int (iI (7 * k)))]) hx hb dL_law_1491 hl (by decide) rfl (fun ls hl => ?_)
  refine lv_aload_n hx hb dL_law_1493 rfl (lv_at hl 3 rfl) ?_
  refine lv_aload_n hx hb dL_law_1494 rfl (lv_at hl 1 rfl) ?_
  refine lv_iload hx hb dL_law_1495 (lv_at hl 5 rfl) ?_
  refine q_iconst hx hb dL_law_1497 ?_
  refine q_iadd hx hb dL_law_1498 ?_
  refine q_sld hx hb hXs hbl hbA hS (by omega) hN4 dL_law_1499 ?_
  refine lv_aload_n hx hb dL_law_1500 rfl (lv_at hl 1 rfl) ?_
  refine lv_iload hx hb dL_law_1501 (lv_at hl 5 rfl) ?_
  refine q_iconst hx hb dL_law_1503 ?_
  refine q_iadd hx hb dL_law_1504 ?_
  refine q_sld hx hb hXs hbl hbA hS (by omega) hN4 dL_law_1505 ?_
  have t_ := c_X6_viewDrop l D y L1 F1 H.size U V μ (sxI xs (7 * k + 1)) (sxI xs (7 * k + 2)) hMP hM (by omega) (by omega)
  rw [hv] at t_
  refine q_vMi C0 lL_236 t_ ⟨rfl, rfl⟩ rfl hP hD hS hA (by rw [← hv]; exact hMP.1.1) (show F1 mg = mE V μ from by rw [← hv]; exact hMP.1.2) rfl rfl rfl hl rfl (Nat.le_of_ble_eq_true rfl) dL_law_1506 ⟨by show _ ≤ 600128; omega, by show _ ≤ 7301098; omega⟩ (fun r9 H locs L2 F2 hP hD hS hz_ hp => ?_)
  obtain ⟨er9, U1, V1, hM1, hv1, hE1⟩ := hp
  have hI2 := LI_m hC hg d1 d2 ha_ou hF_ou hM1 hv1 hE1
  refine lv_istore (lv' := [(6, .int (iI r9)), (5, .int (iI r)), (0, .ref b), (1, .ref bg), (2, .ref mg), (3, .ref ou), (4, .int (iI (7 * k)))]) hx hb dL_law_1509 hl (by decide) rfl (fun ls hl => ?_)
  refine lv_goto (tgt := 2327) hx hb dL_law_1511 (by decide) ?_
  refine W.widen (k := cells + 3600) (n := slots + 10000) (by omega) (by omega) ?_
  exact kk _ _ _ _ hP hD hS hI2 ls (lv_sub hl [2, 3, 4, 5, 6] rfl)
set_option maxHeartbeats 1600000 in
set_option maxRecDepth 100000 in
theorem K_viewNear {p : Program} {l : Launch} {e : Env} {s : State} {m : MethodId} {below : List Frame} {meth : Method} {c : Code} {b N : Nat} {xs : Nat → Int32} {D : va_G} {y : Nat → ClassId} {sl : List (Nat × Nat × Nat)} {Q : State → Prop} (hfl : l.stackTraces = false) (X : LX D y sl p c s m b N xs) {k : Int} (hk : 0 ≤ k ∧ 7 * k + 6 < N) {L : List Nat} {F : Nat → va_E} {σ : CS} {μ : MS} {H : Heap} {locs : List Loc} {cells slots bg mg ou : Nat} (hcs : cells + 3600 ≤ 600128 ∧ slots + 10000 ≤ 7301098) (hP : va_P D vwCl (va_pl L F) H) (hD : va_D (AL [] s.heap.size) (va_pl L F)) (hS : va_S (AL [] s.heap.size) s.heap H locs) (hI : LI y L F bg mg ou σ μ) (hW : CW σ) (hM : MW μ)
    (kk : ∀ (H1 : Heap) (locs1 : List Loc) (L1 : List Nat) (F1 : Nat → va_E), va_P D vwCl (va_pl L1 F1) H1 → va_D (AL [] s.heap.size) (va_pl L1 F1) → va_S (AL [] s.heap.size) s.heap H1 locs1 → LI y L1 F1 bg mg ou (cS_viewNear σ (sxI xs (7 * k + 1)) (sxI xs (7 * k + 2)) (sxI xs (7 * k + 3))) (jS_viewNear μ (sxI xs (7 * k + 1)) (sxI xs (7 * k + 2)) (sxI xs (7 * k + 3))) → ∀ ls : Array Slot, lv_has ls 7 [(0, .ref b), (1, .ref bg), (2, .ref mg), (3, .ref ou), (4, .int (iI (7 * k)))] → W p l e room_1 s m #[.ref b] below meth c H1 locs1 (cells + 3600) (slots + 10000) Q (F0 m 2327 ls [])) : ∀ ls : Array Slot, lv_has ls 7 [(0, .ref b), (1, .ref bg), (2, .ref mg), (3, .ref ou), (4, .int (iI (7 * k)))] → W p l e room_1 s m #[.ref b] below meth c H locs cells slots Q (F0 m 1514 ls []) := by
  intro ls hl
  obtain ⟨C0, hJ, hN, hXS, hXs, hbl, hN4⟩ := X
  have hx := C0.1.1
  have hb := C0.1.2.1
  have hts := C0.1.2.2.2.2
  have hbA := AL_nil hbl
  have hA : ∀ q, s.heap.size ≤ q → AL [] s.heap.size q := fun q h => Or.inr h
  obtain ⟨O, G, U, V, nv, sv, hC, hg, hMP, hv, d1, d2, ha_ou, hF_ou⟩ := hI
  refine lv_aload_n hx hb dL_law_1514 rfl (lv_at hl 1 rfl) ?_
  refine lv_aload_n hx hb dL_law_1515 rfl (lv_at hl 0 rfl) ?_
  refine lv_iload hx hb dL_law_1516 (lv_at hl 4 rfl) ?_
  refine q_iconst hx hb dL_law_1518 ?_
  refine q_iadd hx hb dL_law_1519 ?_
  refine q_sld hx hb hXs hbl hbA hS (by omega) hN4 dL_law_1520 ?_
  have sb_0 := sxI_b xs (7 * k + 1)
  refine lv_aload_n hx hb dL_law_1521 rfl (lv_at hl 0 rfl) ?_
  refine lv_iload hx hb dL_law_1522 (lv_at hl 4 rfl) ?_
  refine q_iconst hx hb dL_law_1524 ?_
  refine q_iadd hx hb dL_law_1525 ?_
  refine q_sld hx hb hXs hbl hbA hS (by omega) hN4 dL_law_1526 ?_
  have sb_1 := sxI_b xs (7 * k + 2)
  refine lv_aload_n hx hb dL_law_1527 rfl (lv_at hl 0 rfl) ?_
  refine lv_iload hx hb dL_law_1528 (lv_at hl 4 rfl) ?_
  refine q_iconst hx hb dL_law_1530 ?_
  refine q_iadd hx hb dL_law_1531 ?_
  refine q_sld hx hb hXs hbl hbA hS (by omega) hN4 dL_law_1532 ?_
  have sb_2 := sxI_b xs (7 * k + 3)
  refine lv_aload_n hx hb dL_law_1533 rfl (lv_at hl 3 rfl) ?_
  have t_ := c_L_viewNear l hfl D y sl L F H.size O G σ (sxI xs (7 * k + 1)) (sxI xs (7 * k + 2)) (sxI xs (7 * k + 3)) ou nv sv hC hW (by omega) (by omega) (by omega) ha_ou hF_ou (fun z => (d1 ou z).2.2 rfl)
  rw [hg] at t_
  refine q_sT C0 tL_237 t_ ⟨rfl, rfl⟩ rfl hJ hN (XS_of hXS hS hD) hP hD hS hA rfl hl rfl (Nat.le_of_ble_eq_true rfl) dL_law_1534 ⟨by show _ ≤ 600128; omega, by show _ ≤ 7301098; omega⟩ (fun r H locs L1 F1 hP hD hS hz_ hp => ?_)
  obtain ⟨O1, G1, σ1, n1, s1, hC1, hg1, hs1, hf1, hO1, hF1, hq⟩ := hp
  have e1 : σ1 = cS_viewNear σ (sxI xs (7 * k + 1)) (sxI xs (7 * k + 2)) (sxI xs (7 * k + 3)) := cS_of hq
  have hI1 := LI_c hg hMP hv d1 d2 ha_ou hC1 hg1 hs1 hf1 hO1 hF1
  rw [e1] at hI1
  obtain ⟨O, G, U, V, nv, sv, hC, hg, hMP, hv, d1, d2, ha_ou, hF_ou⟩ := hI1
  refine lv_istore (lv' := [(5, .int (iI r)), (0, .ref b), (1, .ref bg), (2, .ref mg), (3, .ref ou), (4, .int (iI (7 * k)))]) hx hb dL_law_1537 hl (by decide) rfl (fun ls hl => ?_)
  refine lv_aload_n hx hb dL_law_1539 rfl (lv_at hl 3 rfl) ?_
  refine lv_aload_n hx hb dL_law_1540 rfl (lv_at hl 1 rfl) ?_
  refine lv_iload hx hb dL_law_1541 (lv_at hl 5 rfl) ?_
  refine q_iconst hx hb dL_law_1543 ?_
  refine q_iadd hx hb dL_law_1544 ?_
  refine q_sld hx hb hXs hbl hbA hS (by omega) hN4 dL_law_1545 ?_
  refine lv_aload_n hx hb dL_law_1546 rfl (lv_at hl 1 rfl) ?_
  refine lv_iload hx hb dL_law_1547 (lv_at hl 5 rfl) ?_
  refine q_iconst hx hb dL_law_1549 ?_
  refine q_iadd hx hb dL_law_1550 ?_
  refine q_sld hx hb hXs hbl hbA hS (by omega) hN4 dL_law_1551 ?_
  refine lv_aload_n hx hb dL_law_1552 rfl (lv_at hl 1 rfl) ?_
  refine lv_iload hx hb dL_law_1553 (lv_at hl 5 rfl) ?_
  refine q_iconst hx hb dL_law_1555 ?_
  refine q_iadd hx hb dL_law_1556 ?_
  refine q_sld hx hb hXs hbl hbA hS (by omega) hN4 dL_law_1557 ?_
  have t_ := c_X6_viewNear l D y L1 F1 H.size U V μ (sxI xs (7 * k + 1)) (sxI xs (7 * k + 2)) (sxI xs (7 * k + 3)) hMP hM (by omega) (by omega) (by omega)
  rw [hv] at t_
  refine q_vMi C0 lL_239 t_ ⟨rfl, rfl⟩ rfl hP hD hS hA (by rw [← hv]; exact hMP.1.1) (show F1 mg = mE V μ from by rw [← hv]; exact hMP.1.2) rfl rfl rfl hl rfl (Nat.le_of_ble_eq_true rfl) dL_law_1558 ⟨by show _ ≤ 600128; omega, by show _ ≤ 7301098; omega⟩ (fun r9 H locs L2 F2 hP hD hS hz_ hp => ?_)
  obtain ⟨er9, U1, V1, hM1, hv1, hE1⟩ := hp
  have hI2 := LI_m hC hg d1 d2 ha_ou hF_ou hM1 hv1 hE1
  refine lv_istore (lv' := [(6, .int (iI r9)), (5, .int (iI r)), (0, .ref b), (1, .ref bg), (2, .ref mg), (3, .ref ou), (4, .int (iI (7 * k)))]) hx hb dL_law_1561 hl (by decide) rfl (fun ls hl => ?_)
  refine lv_goto (tgt := 2327) hx hb dL_law_1563 (by decide) ?_
  refine W.widen (k := cells + 3600) (n := slots + 10000) (by omega) (by omega) ?_
  exact kk _ _ _ _ hP hD hS hI2 ls (lv_sub hl [2, 3, 4, 5, 6] rfl)
set_option maxHeartbeats 1600000 in
set_option maxRecDepth 100000 in
theorem K_viewTell {p : Program} {l : Launch} {e : Env} {s : State} {m : MethodId} {below : List Frame} {meth : Method} {c : Code} {b N : Nat} {xs : Nat → Int32} {D : va_G} {y : Nat → ClassId} {sl : List (Nat × Nat × Nat)} {Q : State → Prop} (hfl : l.stackTraces = false) (X : LX D y sl p c s m b N xs) {k : Int} (hk : 0 ≤ k ∧ 7 * k + 6 < N) {L : List Nat} {F : Nat → va_E} {σ : CS} {μ : MS} {H : Heap} {locs : List Loc} {cells slots bg mg ou : Nat} (hcs : cells + 3600 ≤ 600128 ∧ slots + 10000 ≤ 7301098) (hP : va_P D vwCl (va_pl L F) H) (hD : va_D (AL [] s.heap.size) (va_pl L F)) (hS : va_S (AL [] s.heap.size) s.heap H locs) (hI : LI y L F bg mg ou σ μ) (hW : CW σ) (hM : MW μ)
    (kk : ∀ (H1 : Heap) (locs1 : List Loc) (L1 : List Nat) (F1 : Nat → va_E), va_P D vwCl (va_pl L1 F1) H1 → va_D (AL [] s.heap.size) (va_pl L1 F1) → va_S (AL [] s.heap.size) s.heap H1 locs1 → LI y L1 F1 bg mg ou (cS_viewTell σ (sxI xs (7 * k + 1)) (sxI xs (7 * k + 2))) (jS_viewTell μ (sxI xs (7 * k + 1)) (sxI xs (7 * k + 2))) → ∀ ls : Array Slot, lv_has ls 7 [(0, .ref b), (1, .ref bg), (2, .ref mg), (3, .ref ou), (4, .int (iI (7 * k)))] → W p l e room_1 s m #[.ref b] below meth c H1 locs1 (cells + 3600) (slots + 10000) Q (F0 m 2327 ls [])) : ∀ ls : Array Slot, lv_has ls 7 [(0, .ref b), (1, .ref bg), (2, .ref mg), (3, .ref ou), (4, .int (iI (7 * k)))] → W p l e room_1 s m #[.ref b] below meth c H locs cells slots Q (F0 m 1566 ls []) := by
  intro ls hl
  obtain ⟨C0, hJ, hN, hXS, hXs, hbl, hN4⟩ := X
  have hx := C0.1.1
  have hb := C0.1.2.1
  have hts := C0.1.2.2.2.2
  have hbA := AL_nil hbl
  have hA : ∀ q, s.heap.size ≤ q → AL [] s.heap.size q := fun q h => Or.inr h
  obtain ⟨O, G, U, V, nv, sv, hC, hg, hMP, hv, d1, d2, ha_ou, hF_ou⟩ := hI
  refine lv_aload_n hx hb dL_law_1566 rfl (lv_at hl 1 rfl) ?_
  refine lv_aload_n hx hb dL_law_1567 rfl (lv_at hl 0 rfl) ?_
  refine lv_iload hx hb dL_law_1568 (lv_at hl 4 rfl) ?_
  refine q_iconst hx hb dL_law_1570 ?_
  refine q_iadd hx hb dL_law_1571 ?_
  refine q_sld hx hb hXs hbl hbA hS (by omega) hN4 dL_law_1572 ?_
  have sb_0 := sxI_b xs (7 * k + 1)
  refine lv_aload_n hx hb dL_law_1573 rfl (lv_at hl 0 rfl) ?_
  refine lv_iload hx hb dL_law_1574 (lv_at hl 4 rfl) ?_
  refine q_iconst hx hb dL_law_1576 ?_
  refine q_iadd hx hb dL_law_1577 ?_
  refine q_sld hx hb hXs hbl hbA hS (by omega) hN4 dL_law_1578 ?_
  have sb_1 := sxI_b xs (7 * k + 2)
  refine lv_aload_n hx hb dL_law_1579 rfl (lv_at hl 3 rfl) ?_
  have t_ := c_L_viewTell l hfl D y sl L F H.size O G σ (sxI xs (7 * k + 1)) (sxI xs (7 * k + 2)) ou nv sv hC hW (by omega) (by omega) ha_ou hF_ou (fun z => (d1 ou z).2.2 rfl)
  rw [hg] at t_
  refine q_sT C0 tL_240 t_ ⟨rfl, rfl⟩ rfl hJ hN (XS_of hXS hS hD) hP hD hS hA rfl hl rfl (Nat.le_of_ble_eq_true rfl) dL_law_1580 ⟨by show _ ≤ 600128; omega, by show _ ≤ 7301098; omega⟩ (fun r H locs L1 F1 hP hD hS hz_ hp => ?_)
  obtain ⟨O1, G1, σ1, n1, s1, hC1, hg1, hs1, hf1, hO1, hF1, hq⟩ := hp
  have e1 : σ1 = cS_viewTell σ (sxI xs (7 * k + 1)) (sxI xs (7 * k + 2)) := cS_of hq
  have hI1 := LI_c hg hMP hv d1 d2 ha_ou hC1 hg1 hs1 hf1 hO1 hF1
  rw [e1] at hI1
  obtain ⟨O, G, U, V, nv, sv, hC, hg, hMP, hv, d1, d2, ha_ou, hF_ou⟩ := hI1
  refine lv_istore (lv' := [(5, .int (iI r)), (0, .ref b), (1, .ref bg), (2, .ref mg), (3, .ref ou), (4, .int (iI (7 * k)))]) hx hb dL_law_1583 hl (by decide) rfl (fun ls hl => ?_)
  refine lv_aload_n hx hb dL_law_1585 rfl (lv_at hl 3 rfl) ?_
  refine lv_aload_n hx hb dL_law_1586 rfl (lv_at hl 1 rfl) ?_
  refine lv_iload hx hb dL_law_1587 (lv_at hl 5 rfl) ?_
  refine q_iconst hx hb dL_law_1589 ?_
  refine q_iadd hx hb dL_law_1590 ?_
  refine q_sld hx hb hXs hbl hbA hS (by omega) hN4 dL_law_1591 ?_
  refine lv_aload_n hx hb dL_law_1592 rfl (lv_at hl 1 rfl) ?_
  refine lv_iload hx hb dL_law_1593 (lv_at hl 5 rfl) ?_
  refine q_iconst hx hb dL_law_1595 ?_
  refine q_iadd hx hb dL_law_1596 ?_
  refine q_sld hx hb hXs hbl hbA hS (by omega) hN4 dL_law_1597 ?_
  have t_ := c_X6_viewTell l D y L1 F1 H.size U V μ (sxI xs (7 * k + 1)) (sxI xs (7 * k + 2)) hMP hM (by omega) (by omega)
  rw [hv] at t_
  refine q_vMi C0 lL_242 t_ ⟨rfl, rfl⟩ rfl hP hD hS hA (by rw [← hv]; exact hMP.1.1) (show F1 mg = mE V μ from by rw [← hv]; exact hMP.1.2) rfl rfl rfl hl rfl (Nat.le_of_ble_eq_true rfl) dL_law_1598 ⟨by show _ ≤ 600128; omega, by show _ ≤ 7301098; omega⟩ (fun r9 H locs L2 F2 hP hD hS hz_ hp => ?_)
  obtain ⟨er9, U1, V1, hM1, hv1, hE1⟩ := hp
  have hI2 := LI_m hC hg d1 d2 ha_ou hF_ou hM1 hv1 hE1
  refine lv_istore (lv' := [(6, .int (iI r9)), (5, .int (iI r)), (0, .ref b), (1, .ref bg), (2, .ref mg), (3, .ref ou), (4, .int (iI (7 * k)))]) hx hb dL_law_1601 hl (by decide) rfl (fun ls hl => ?_)
  refine lv_goto (tgt := 2327) hx hb dL_law_1603 (by decide) ?_
  refine W.widen (k := cells + 3600) (n := slots + 10000) (by omega) (by omega) ?_
  exact kk _ _ _ _ hP hD hS hI2 ls (lv_sub hl [2, 3, 4, 5, 6] rfl)
set_option maxHeartbeats 1600000 in
set_option maxRecDepth 100000 in
theorem K_startWalk {p : Program} {l : Launch} {e : Env} {s : State} {m : MethodId} {below : List Frame} {meth : Method} {c : Code} {b N : Nat} {xs : Nat → Int32} {D : va_G} {y : Nat → ClassId} {sl : List (Nat × Nat × Nat)} {Q : State → Prop} (hfl : l.stackTraces = false) (X : LX D y sl p c s m b N xs) {k : Int} (hk : 0 ≤ k ∧ 7 * k + 6 < N) {L : List Nat} {F : Nat → va_E} {σ : CS} {μ : MS} {H : Heap} {locs : List Loc} {cells slots bg mg ou : Nat} (hcs : cells + 3600 ≤ 600128 ∧ slots + 10000 ≤ 7301098) (hP : va_P D vwCl (va_pl L F) H) (hD : va_D (AL [] s.heap.size) (va_pl L F)) (hS : va_S (AL [] s.heap.size) s.heap H locs) (hI : LI y L F bg mg ou σ μ) (hW : CW σ) (hM : MW μ)
    (kk : ∀ (H1 : Heap) (locs1 : List Loc) (L1 : List Nat) (F1 : Nat → va_E), va_P D vwCl (va_pl L1 F1) H1 → va_D (AL [] s.heap.size) (va_pl L1 F1) → va_S (AL [] s.heap.size) s.heap H1 locs1 → LI y L1 F1 bg mg ou (cS_startWalk σ (sxI xs (7 * k + 1))) (jS_startWalk μ (sxI xs (7 * k + 1))) → ∀ ls : Array Slot, lv_has ls 7 [(0, .ref b), (1, .ref bg), (2, .ref mg), (3, .ref ou), (4, .int (iI (7 * k)))] → W p l e room_1 s m #[.ref b] below meth c H1 locs1 (cells + 3600) (slots + 10000) Q (F0 m 2327 ls [])) : ∀ ls : Array Slot, lv_has ls 7 [(0, .ref b), (1, .ref bg), (2, .ref mg), (3, .ref ou), (4, .int (iI (7 * k)))] → W p l e room_1 s m #[.ref b] below meth c H locs cells slots Q (F0 m 1606 ls []) := by
  intro ls hl
  obtain ⟨C0, hJ, hN, hXS, hXs, hbl, hN4⟩ := X
  have hx := C0.1.1
  have hb := C0.1.2.1
  have hts := C0.1.2.2.2.2
  have hbA := AL_nil hbl
  have hA : ∀ q, s.heap.size ≤ q → AL [] s.heap.size q := fun q h => Or.inr h
  obtain ⟨O, G, U, V, nv, sv, hC, hg, hMP, hv, d1, d2, ha_ou, hF_ou⟩ := hI
  refine lv_aload_n hx hb dL_law_1606 rfl (lv_at hl 1 rfl) ?_
  refine lv_aload_n hx hb dL_law_1607 rfl (lv_at hl 0 rfl) ?_
  refine lv_iload hx hb dL_law_1608 (lv_at hl 4 rfl) ?_
  refine q_iconst hx hb dL_law_1610 ?_
  refine q_iadd hx hb dL_law_1611 ?_
  refine q_sld hx hb hXs hbl hbA hS (by omega) hN4 dL_law_1612 ?_
  have sb_0 := sxI_b xs (7 * k + 1)
  refine lv_aload_n hx hb dL_law_1613 rfl (lv_at hl 3 rfl) ?_
  have t_ := c_L_startWalk l hfl D y sl L F H.size O G σ (sxI xs (7 * k + 1)) ou nv sv hC hW (by omega) ha_ou hF_ou (fun z => (d1 ou z).2.2 rfl)
  rw [hg] at t_
  refine q_sT C0 tL_243 t_ ⟨rfl, rfl⟩ rfl hJ hN (XS_of hXS hS hD) hP hD hS hA rfl hl rfl (Nat.le_of_ble_eq_true rfl) dL_law_1614 ⟨by show _ ≤ 600128; omega, by show _ ≤ 7301098; omega⟩ (fun r H locs L1 F1 hP hD hS hz_ hp => ?_)
  obtain ⟨O1, G1, σ1, n1, s1, hC1, hg1, hs1, hf1, hO1, hF1, hq⟩ := hp
  have e1 : σ1 = cS_startWalk σ (sxI xs (7 * k + 1)) := cS_of hq
  have hI1 := LI_c hg hMP hv d1 d2 ha_ou hC1 hg1 hs1 hf1 hO1 hF1
  rw [e1] at hI1
  obtain ⟨O, G, U, V, nv, sv, hC, hg, hMP, hv, d1, d2, ha_ou, hF_ou⟩ := hI1
  refine lv_istore (lv' := [(5, .int (iI r)), (0, .ref b), (1, .ref bg), (2, .ref mg), (3, .ref ou), (4, .int (iI (7 * k)))]) hx hb dL_law_1617 hl (by decide) rfl (fun ls hl => ?_)
  refine lv_aload_n hx hb dL_law_1619 rfl (lv_at hl 3 rfl) ?_
  refine lv_aload_n hx hb dL_law_1620 rfl (lv_at hl 1 rfl) ?_
  refine lv_iload hx hb dL_law_1621 (lv_at hl 5 rfl) ?_
  refine q_iconst hx hb dL_law_1623 ?_
  refine q_iadd hx hb dL_law_1624 ?_
  refine q_sld hx hb hXs hbl hbA hS (by omega) hN4 dL_law_1625 ?_
  have t_ := c_X6_startWalk l D y L1 F1 H.size U V μ (sxI xs (7 * k + 1)) hMP hM (by omega)
  rw [hv] at t_
  refine q_vMi C0 lL_245 t_ ⟨rfl, rfl⟩ rfl hP hD hS hA (by rw [← hv]; exact hMP.1.1) (show F1 mg = mE V μ from by rw [← hv]; exact hMP.1.2) rfl rfl rfl hl rfl (Nat.le_of_ble_eq_true rfl) dL_law_1626 ⟨by show _ ≤ 600128; omega, by show _ ≤ 7301098; omega⟩ (fun r9 H locs L2 F2 hP hD hS hz_ hp => ?_)
  obtain ⟨er9, U1, V1, hM1, hv1, hE1⟩ := hp
  have hI2 := LI_m hC hg d1 d2 ha_ou hF_ou hM1 hv1 hE1
  refine lv_istore (lv' := [(6, .int (iI r9)), (5, .int (iI r)), (0, .ref b), (1, .ref bg), (2, .ref mg), (3, .ref ou), (4, .int (iI (7 * k)))]) hx hb dL_law_1629 hl (by decide) rfl (fun ls hl => ?_)
  refine lv_goto (tgt := 2327) hx hb dL_law_1631 (by decide) ?_
  refine W.widen (k := cells + 3600) (n := slots + 10000) (by omega) (by omega) ?_
  exact kk _ _ _ _ hP hD hS hI2 ls (lv_sub hl [2, 3, 4, 5, 6] rfl)
set_option maxHeartbeats 1600000 in
set_option maxRecDepth 100000 in
theorem K_walkNext {p : Program} {l : Launch} {e : Env} {s : State} {m : MethodId} {below : List Frame} {meth : Method} {c : Code} {b N : Nat} {xs : Nat → Int32} {D : va_G} {y : Nat → ClassId} {sl : List (Nat × Nat × Nat)} {Q : State → Prop} (hfl : l.stackTraces = false) (X : LX D y sl p c s m b N xs) {k : Int} (hk : 0 ≤ k ∧ 7 * k + 6 < N) {L : List Nat} {F : Nat → va_E} {σ : CS} {μ : MS} {H : Heap} {locs : List Loc} {cells slots bg mg ou : Nat} (hcs : cells + 3600 ≤ 600128 ∧ slots + 10000 ≤ 7301098) (hP : va_P D vwCl (va_pl L F) H) (hD : va_D (AL [] s.heap.size) (va_pl L F)) (hS : va_S (AL [] s.heap.size) s.heap H locs) (hI : LI y L F bg mg ou σ μ) (hW : CW σ) (hM : MW μ)
    (kk : ∀ (H1 : Heap) (locs1 : List Loc) (L1 : List Nat) (F1 : Nat → va_E), va_P D vwCl (va_pl L1 F1) H1 → va_D (AL [] s.heap.size) (va_pl L1 F1) → va_S (AL [] s.heap.size) s.heap H1 locs1 → LI y L1 F1 bg mg ou (cS_walkNext σ) (cJ_walkNext μ) → ∀ ls : Array Slot, lv_has ls 7 [(0, .ref b), (1, .ref bg), (2, .ref mg), (3, .ref ou), (4, .int (iI (7 * k)))] → W p l e room_1 s m #[.ref b] below meth c H1 locs1 (cells + 3600) (slots + 10000) Q (F0 m 2327 ls [])) : ∀ ls : Array Slot, lv_has ls 7 [(0, .ref b), (1, .ref bg), (2, .ref mg), (3, .ref ou), (4, .int (iI (7 * k)))] → W p l e room_1 s m #[.ref b] below meth c H locs cells slots Q (F0 m 1634 ls []) := by
  intro ls hl
  obtain ⟨C0, hJ, hN, hXS, hXs, hbl, hN4⟩ := X
  have hx := C0.1.1
  have hb := C0.1.2.1
  have hts := C0.1.2.2.2.2
  have hbA := AL_nil hbl
  have hA : ∀ q, s.heap.size ≤ q → AL [] s.heap.size q := fun q h => Or.inr h
  obtain ⟨O, G, U, V, nv, sv, hC, hg, hMP, hv, d1, d2, ha_ou, hF_ou⟩ := hI
  refine lv_aload_n hx hb dL_law_1634 rfl (lv_at hl 1 rfl) ?_
  rcases hzk : zwk σ with _ | j
  · have t_ := c_X3_walkNext0 l D y L F H.size O G σ hC hW hzk
    rw [hg] at t_
    refine q_vMi C0 lL_246 t_ ⟨rfl, rfl⟩ rfl hP hD hS hA (by rw [← hg]; exact hC.1.1) (show F bg = bgE G σ from by rw [← hg]; exact hC.1.2) rfl rfl rfl hl rfl (Nat.le_of_ble_eq_true rfl) dL_law_1635 ⟨by show _ ≤ 600128; omega, by show _ ≤ 7301098; omega⟩ (fun r H locs L1 F1 hP hD hS hz_ hp => ?_)
    obtain ⟨eL, hC1, er, hOE⟩ := hp
    subst eL
    have e1 : cS_walkNext σ = kS_walkNext0 σ := (by unfold cS_walkNext; rw [hzk])
    have hI1 := LI_c hg hMP hv d1 d2 ha_ou hC1 rfl (fun _ h => h) (fun q _ h _ => hOE q h) (fun _ h => Or.inl h) ((hOE ou (fun z => (d1 ou z).2.2 rfl)).trans hF_ou)
    rw [← e1] at hI1
    obtain ⟨O, G, U, V, nv, sv, hC, hg, hMP, hv, d1, d2, ha_ou, hF_ou⟩ := hI1
    refine lv_pop hx hb dL_law_1638 rfl ?_
    refine lv_aload_n hx hb dL_law_1639 rfl (lv_at hl 2 rfl) ?_
    rcases hvk : vwk μ with _ | j9
    · have t_ := c_X6_walkNext0 l D y L F1 H.size U V μ  hMP hM  hvk
      rw [hv] at t_
      refine q_vMi C0 lL_250 t_ ⟨rfl, rfl⟩ rfl hP hD hS hA (by rw [← hv]; exact hMP.1.1) (show F1 mg = mE V μ from by rw [← hv]; exact hMP.1.2) rfl rfl rfl hl rfl (Nat.le_of_ble_eq_true rfl) dL_law_1640 ⟨by show _ ≤ 600128; omega, by show _ ≤ 7301098; omega⟩ (fun r9 H locs L2 F2 hP hD hS hz_ hp => ?_)
      obtain ⟨er9, U1, V1, hM1, hv1, hE1⟩ := hp
      have hI2 := LI_m hC hg d1 d2 ha_ou hF_ou hM1 hv1 hE1
      rw [show jS_walkNext0 μ = cJ_walkNext μ from (by unfold cJ_walkNext; rw [hvk])] at hI2
      refine lv_pop hx hb dL_law_1643 rfl ?_
      refine lv_goto (tgt := 2327) hx hb dL_law_1644 (by decide) ?_
      refine W.widen (k := cells + 3600) (n := slots + 10000) (by omega) (by omega) ?_
      exact kk _ _ _ _ hP hD hS hI2 ls (lv_sub hl [0, 1, 2, 3, 4] rfl)
    · have t_ := c_X6_walkNext1 l D y L F1 H.size U V μ j9  hMP hM  hvk
      rw [hv] at t_
      refine q_vMi C0 lL_250 t_ ⟨rfl, rfl⟩ rfl hP hD hS hA (by rw [← hv]; exact hMP.1.1) (show F1 mg = mE V μ from by rw [← hv]; exact hMP.1.2) rfl rfl rfl hl rfl (Nat.le_of_ble_eq_true rfl) dL_law_1640 ⟨by show _ ≤ 600128; omega, by show _ ≤ 7301098; omega⟩ (fun r9 H locs L2 F2 hP hD hS hz_ hp => ?_)
      obtain ⟨er9, U1, V1, hM1, hv1, hE1⟩ := hp
      have hI2 := LI_m hC hg d1 d2 ha_ou hF_ou hM1 hv1 hE1
      rw [show jS_walkNext1 μ j9 = cJ_walkNext μ from (by unfold cJ_walkNext; rw [hvk])] at hI2
      refine lv_pop hx hb dL_law_1643 rfl ?_
      refine lv_goto (tgt := 2327) hx hb dL_law_1644 (by decide) ?_
      refine W.widen (k := cells + 3600) (n := slots + 10000) (by omega) (by omega) ?_
      exact kk _ _ _ _ hP hD hS hI2 ls (lv_sub hl [0, 1, 2, 3, 4] rfl)
  · have t_ := c_X3_walkNext1 l D y L F H.size O G σ j hC hW hzk
    rw [hg] at t_
    refine q_vMi C0 lL_246 t_ ⟨rfl, rfl⟩ rfl hP hD hS hA (by rw [← hg]; exact hC.1.1) (show F bg = bgE G σ from by rw [← hg]; exact hC.1.2) rfl rfl rfl hl rfl (Nat.le_of_ble_eq_true rfl) dL_law_1635 ⟨by show _ ≤ 600128; omega, by show _ ≤ 7301098; omega⟩ (fun r H locs L1 F1 hP hD hS hz_ hp => ?_)
    obtain ⟨eL, hC1, er, hOE⟩ := hp
    subst eL
    have e1 : cS_walkNext σ = kS_walkNext1 σ j := (by unfold cS_walkNext; rw [hzk])
    have hI1 := LI_c hg hMP hv d1 d2 ha_ou hC1 rfl (fun _ h => h) (fun q _ h _ => hOE q h) (fun _ h => Or.inl h) ((hOE ou (fun z => (d1 ou z).2.2 rfl)).trans hF_ou)
    rw [← e1] at hI1
    obtain ⟨O, G, U, V, nv, sv, hC, hg, hMP, hv, d1, d2, ha_ou, hF_ou⟩ := hI1
    refine lv_pop hx hb dL_law_1638 rfl ?_
    refine lv_aload_n hx hb dL_law_1639 rfl (lv_at hl 2 rfl) ?_
    rcases hvk : vwk μ with _ | j9
    · have t_ := c_X6_walkNext0 l D y L F1 H.size U V μ  hMP hM  hvk
      rw [hv] at t_
      refine q_vMi C0 lL_250 t_ ⟨rfl, rfl⟩ rfl hP hD hS hA (by rw [← hv]; exact hMP.1.1) (show F1 mg = mE V μ from by rw [← hv]; exact hMP.1.2) rfl rfl rfl hl rfl (Nat.le_of_ble_eq_true rfl) dL_law_1640 ⟨by show _ ≤ 600128; omega, by show _ ≤ 7301098; omega⟩ (fun r9 H locs L2 F2 hP hD hS hz_ hp => ?_)
      obtain ⟨er9, U1, V1, hM1, hv1, hE1⟩ := hp
      have hI2 := LI_m hC hg d1 d2 ha_ou hF_ou hM1 hv1 hE1
      rw [show jS_walkNext0 μ = cJ_walkNext μ from (by unfold cJ_walkNext; rw [hvk])] at hI2
      refine lv_pop hx hb dL_law_1643 rfl ?_
      refine lv_goto (tgt := 2327) hx hb dL_law_1644 (by decide) ?_
      refine W.widen (k := cells + 3600) (n := slots + 10000) (by omega) (by omega) ?_
      exact kk _ _ _ _ hP hD hS hI2 ls (lv_sub hl [0, 1, 2, 3, 4] rfl)
    · have t_ := c_X6_walkNext1 l D y L F1 H.size U V μ j9  hMP hM  hvk
      rw [hv] at t_
      refine q_vMi C0 lL_250 t_ ⟨rfl, rfl⟩ rfl hP hD hS hA (by rw [← hv]; exact hMP.1.1) (show F1 mg = mE V μ from by rw [← hv]; exact hMP.1.2) rfl rfl rfl hl rfl (Nat.le_of_ble_eq_true rfl) dL_law_1640 ⟨by show _ ≤ 600128; omega, by show _ ≤ 7301098; omega⟩ (fun r9 H locs L2 F2 hP hD hS hz_ hp => ?_)
      obtain ⟨er9, U1, V1, hM1, hv1, hE1⟩ := hp
      have hI2 := LI_m hC hg d1 d2 ha_ou hF_ou hM1 hv1 hE1
      rw [show jS_walkNext1 μ j9 = cJ_walkNext μ from (by unfold cJ_walkNext; rw [hvk])] at hI2
      refine lv_pop hx hb dL_law_1643 rfl ?_
      refine lv_goto (tgt := 2327) hx hb dL_law_1644 (by decide) ?_
      refine W.widen (k := cells + 3600) (n := slots + 10000) (by omega) (by omega) ?_
      exact kk _ _ _ _ hP hD hS hI2 ls (lv_sub hl [0, 1, 2, 3, 4] rfl)
set_option maxHeartbeats 1600000 in
set_option maxRecDepth 100000 in
theorem K_walkSet {p : Program} {l : Launch} {e : Env} {s : State} {m : MethodId} {below : List Frame} {meth : Method} {c : Code} {b N : Nat} {xs : Nat → Int32} {D : va_G} {y : Nat → ClassId} {sl : List (Nat × Nat × Nat)} {Q : State → Prop} (hfl : l.stackTraces = false) (X : LX D y sl p c s m b N xs) {k : Int} (hk : 0 ≤ k ∧ 7 * k + 6 < N) {L : List Nat} {F : Nat → va_E} {σ : CS} {μ : MS} {H : Heap} {locs : List Loc} {cells slots bg mg ou : Nat} (hcs : cells + 3600 ≤ 600128 ∧ slots + 10000 ≤ 7301098) (hP : va_P D vwCl (va_pl L F) H) (hD : va_D (AL [] s.heap.size) (va_pl L F)) (hS : va_S (AL [] s.heap.size) s.heap H locs) (hI : LI y L F bg mg ou σ μ) (hW : CW σ) (hM : MW μ)
    (kk : ∀ (H1 : Heap) (locs1 : List Loc) (L1 : List Nat) (F1 : Nat → va_E), va_P D vwCl (va_pl L1 F1) H1 → va_D (AL [] s.heap.size) (va_pl L1 F1) → va_S (AL [] s.heap.size) s.heap H1 locs1 → LI y L1 F1 bg mg ou (cS_walkSet σ (sxI xs (7 * k + 1))) (cJ_walkSet μ (sxI xs (7 * k + 1))) → ∀ ls : Array Slot, lv_has ls 7 [(0, .ref b), (1, .ref bg), (2, .ref mg), (3, .ref ou), (4, .int (iI (7 * k)))] → W p l e room_1 s m #[.ref b] below meth c H1 locs1 (cells + 3600) (slots + 10000) Q (F0 m 2327 ls [])) : ∀ ls : Array Slot, lv_has ls 7 [(0, .ref b), (1, .ref bg), (2, .ref mg), (3, .ref ou), (4, .int (iI (7 * k)))] → W p l e room_1 s m #[.ref b] below meth c H locs cells slots Q (F0 m 1647 ls []) := by
  intro ls hl
  obtain ⟨C0, hJ, hN, hXS, hXs, hbl, hN4⟩ := X
  have hx := C0.1.1
  have hb := C0.1.2.1
  have hts := C0.1.2.2.2.2
  have hbA := AL_nil hbl
  have hA : ∀ q, s.heap.size ≤ q → AL [] s.heap.size q := fun q h => Or.inr h
  obtain ⟨O, G, U, V, nv, sv, hC, hg, hMP, hv, d1, d2, ha_ou, hF_ou⟩ := hI
  refine lv_aload_n hx hb dL_law_1647 rfl (lv_at hl 1 rfl) ?_
  refine lv_aload_n hx hb dL_law_1648 rfl (lv_at hl 0 rfl) ?_
  refine lv_iload hx hb dL_law_1649 (lv_at hl 4 rfl) ?_
  refine q_iconst hx hb dL_law_1651 ?_
  refine q_iadd hx hb dL_law_1652 ?_
  refine q_sld hx hb hXs hbl hbA hS (by omega) hN4 dL_law_1653 ?_
  have sb_0 := sxI_b xs (7 * k + 1)
  refine lv_aload_n hx hb dL_law_1654 rfl (lv_at hl 3 rfl) ?_
  rcases hzk : zwk σ with _ | j
  · have t_ := c_L_walkSet0 l hfl D y sl L F H.size O G σ (sxI xs (7 * k + 1)) ou nv sv hC hW (by omega) hzk ha_ou hF_ou (fun z => (d1 ou z).2.2 rfl)
    rw [hg] at t_
    refine q_sT C0 tL_251 t_ ⟨rfl, rfl⟩ rfl hJ hN (XS_of hXS hS hD) hP hD hS hA rfl hl rfl (Nat.le_of_ble_eq_true rfl) dL_law_1655 ⟨by show _ ≤ 600128; omega, by show _ ≤ 7301098; omega⟩ (fun r H locs L1 F1 hP hD hS hz_ hp => ?_)
    obtain ⟨O1, G1, σ1, n1, s1, hC1, hg1, hs1, hf1, hO1, hF1, hq⟩ := hp
    have e1 : σ1 = cS_walkSet σ (sxI xs (7 * k + 1)) := (cS_of hq).trans (by unfold cS_walkSet; rw [hzk])
    have hI1 := LI_c hg hMP hv d1 d2 ha_ou hC1 hg1 hs1 hf1 hO1 hF1
    rw [e1] at hI1
    obtain ⟨O, G, U, V, nv, sv, hC, hg, hMP, hv, d1, d2, ha_ou, hF_ou⟩ := hI1
    refine lv_istore (lv' := [(5, .int (iI r)), (0, .ref b), (1, .ref bg), (2, .ref mg), (3, .ref ou), (4, .int (iI (7 * k)))]) hx hb dL_law_1658 hl (by decide) rfl (fun ls hl => ?_)
    refine lv_aload_n hx hb dL_law_1660 rfl (lv_at hl 3 rfl) ?_
    refine lv_aload_n hx hb dL_law_1661 rfl (lv_at hl 1 rfl) ?_
    refine lv_iload hx hb dL_law_1662 (lv_at hl 5 rfl) ?_
    refine q_iconst hx hb dL_law_1664 ?_
    refine q_iadd hx hb dL_law_1665 ?_
    refine q_sld hx hb hXs hbl hbA hS (by omega) hN4 dL_law_1666 ?_
    rcases hvk : vwk μ with _ | j9
    · have t_ := c_X6_walkSet0 l D y L1 F1 H.size U V μ (sxI xs (7 * k + 1)) hMP hM (by omega) hvk
      rw [hv] at t_
      refine q_vMi C0 lL_253 t_ ⟨rfl, rfl⟩ rfl hP hD hS hA (by rw [← hv]; exact hMP.1.1) (show F1 mg = mE V μ from by rw [← hv]; exact hMP.1.2) rfl rfl rfl hl rfl (Nat.le_of_ble_eq_true rfl) dL_law_1667 ⟨by show _ ≤ 600128; omega, by show _ ≤ 7301098; omega⟩ (fun r9 H locs L2 F2 hP hD hS hz_ hp => ?_)
      obtain ⟨er9, U1, V1, hM1, hv1, hE1⟩ := hp
      have hI2 := LI_m hC hg d1 d2 ha_ou hF_ou hM1 hv1 hE1
      rw [show jS_walkSet0 μ (sxI xs (7 * k + 1)) = cJ_walkSet μ (sxI xs (7 * k + 1)) from (by unfold cJ_walkSet; rw [hvk])] at hI2
      refine lv_istore (lv' := [(6, .int (iI r9)), (5, .int (iI r)), (0, .ref b), (1, .ref bg), (2, .ref mg), (3, .ref ou), (4, .int (iI (7 * k)))]) hx hb dL_law_1670 hl (by decide) rfl (fun ls hl => ?_)
      refine lv_goto (tgt := 2327) hx hb dL_law_1672 (by decide) ?_
      refine W.widen (k := cells + 3600) (n := slots + 10000) (by omega) (by omega) ?_
      exact kk _ _ _ _ hP hD hS hI2 ls (lv_sub hl [2, 3, 4, 5, 6] rfl)
    · have t_ := c_X6_walkSet1 l D y L1 F1 H.size U V μ j9 (sxI xs (7 * k + 1)) hMP hM (by omega) hvk
      rw [hv] at t_
      refine q_vMi C0 lL_253 t_ ⟨rfl, rfl⟩ rfl hP hD hS hA (by rw [← hv]; exact hMP.1.1) (show F1 mg = mE V μ from by rw [← hv]; exact hMP.1.2) rfl rfl rfl hl rfl (Nat.le_of_ble_eq_true rfl) dL_law_1667 ⟨by show _ ≤ 600128; omega, by show _ ≤ 7301098; omega⟩ (fun r9 H locs L2 F2 hP hD hS hz_ hp => ?_)
      obtain ⟨er9, U1, V1, hM1, hv1, hE1⟩ := hp
      have hI2 := LI_m hC hg d1 d2 ha_ou hF_ou hM1 hv1 hE1
      rw [show jS_walkSet1 μ j9 (sxI xs (7 * k + 1)) = cJ_walkSet μ (sxI xs (7 * k + 1)) from (by unfold cJ_walkSet; rw [hvk])] at hI2
      refine lv_istore (lv' := [(6, .int (iI r9)), (5, .int (iI r)), (0, .ref b), (1, .ref bg), (2, .ref mg), (3, .ref ou), (4, .int (iI (7 * k)))]) hx hb dL_law_1670 hl (by decide) rfl (fun ls hl => ?_)
      refine lv_goto (tgt := 2327) hx hb dL_law_1672 (by decide) ?_
      refine W.widen (k := cells + 3600) (n := slots + 10000) (by omega) (by omega) ?_
      exact kk _ _ _ _ hP hD hS hI2 ls (lv_sub hl [2, 3, 4, 5, 6] rfl)
  · have t_ := c_L_walkSet1 l hfl D y sl L F H.size O G σ j (sxI xs (7 * k + 1)) ou nv sv hC hW (by omega) hzk ha_ou hF_ou (fun z => (d1 ou z).2.2 rfl)
    rw [hg] at t_
    refine q_sT C0 tL_251 t_ ⟨rfl, rfl⟩ rfl hJ hN (XS_of hXS hS hD) hP hD hS hA rfl hl rfl (Nat.le_of_ble_eq_true rfl) dL_law_1655 ⟨by show _ ≤ 600128; omega, by show _ ≤ 7301098; omega⟩ (fun r H locs L1 F1 hP hD hS hz_ hp => ?_)
    obtain ⟨O1, G1, σ1, n1, s1, hC1, hg1, hs1, hf1, hO1, hF1, hq⟩ := hp
    have e1 : σ1 = cS_walkSet σ (sxI xs (7 * k + 1)) := (cS_of hq).trans (by unfold cS_walkSet; rw [hzk])
    have hI1 := LI_c hg hMP hv d1 d2 ha_ou hC1 hg1 hs1 hf1 hO1 hF1
    rw [e1] at hI1
    obtain ⟨O, G, U, V, nv, sv, hC, hg, hMP, hv, d1, d2, ha_ou, hF_ou⟩ := hI1
    refine lv_istore (lv' := [(5, .int (iI r)), (0, .ref b), (1, .ref bg), (2, .ref mg), (3, .ref ou), (4, .int (iI (7 * k)))]) hx hb dL_law_1658 hl (by decide) rfl (fun ls hl => ?_)
    refine lv_aload_n hx hb dL_law_1660 rfl (lv_at hl 3 rfl) ?_
    refine lv_aload_n hx hb dL_law_1661 rfl (lv_at hl 1 rfl) ?_
    refine lv_iload hx hb dL_law_1662 (lv_at hl 5 rfl) ?_
    refine q_iconst hx hb dL_law_1664 ?_
    refine q_iadd hx hb dL_law_1665 ?_
    refine q_sld hx hb hXs hbl hbA hS (by omega) hN4 dL_law_1666 ?_
    rcases hvk : vwk μ with _ | j9
    · have t_ := c_X6_walkSet0 l D y L1 F1 H.size U V μ (sxI xs (7 * k + 1)) hMP hM (by omega) hvk
      rw [hv] at t_
      refine q_vMi C0 lL_253 t_ ⟨rfl, rfl⟩ rfl hP hD hS hA (by rw [← hv]; exact hMP.1.1) (show F1 mg = mE V μ from by rw [← hv]; exact hMP.1.2) rfl rfl rfl hl rfl (Nat.le_of_ble_eq_true rfl) dL_law_1667 ⟨by show _ ≤ 600128; omega, by show _ ≤ 7301098; omega⟩ (fun r9 H locs L2 F2 hP hD hS hz_ hp => ?_)
      obtain ⟨er9, U1, V1, hM1, hv1, hE1⟩ := hp
      have hI2 := LI_m hC hg d1 d2 ha_ou hF_ou hM1 hv1 hE1
      rw [show jS_walkSet0 μ (sxI xs (7 * k + 1)) = cJ_walkSet μ (sxI xs (7 * k + 1)) from (by unfold cJ_walkSet; rw [hvk])] at hI2
      refine lv_istore (lv' := [(6, .int (iI r9)), (5, .int (iI r)), (0, .ref b), (1, .ref bg), (2, .ref mg), (3, .ref ou), (4, .int (iI (7 * k)))]) hx hb dL_law_1670 hl (by decide) rfl (fun ls hl => ?_)
      refine lv_goto (tgt := 2327) hx hb dL_law_1672 (by decide) ?_
      refine W.widen (k := cells + 3600) (n := slots + 10000) (by omega) (by omega) ?_
      exact kk _ _ _ _ hP hD hS hI2 ls (lv_sub hl [2, 3, 4, 5, 6] rfl)
    · have t_ := c_X6_walkSet1 l D y L1 F1 H.size U V μ j9 (sxI xs (7 * k + 1)) hMP hM (by omega) hvk
      rw [hv] at t_
      refine q_vMi C0 lL_253 t_ ⟨rfl, rfl⟩ rfl hP hD hS hA (by rw [← hv]; exact hMP.1.1) (show F1 mg = mE V μ from by rw [← hv]; exact hMP.1.2) rfl rfl rfl hl rfl (Nat.le_of_ble_eq_true rfl) dL_law_1667 ⟨by show _ ≤ 600128; omega, by show _ ≤ 7301098; omega⟩ (fun r9 H locs L2 F2 hP hD hS hz_ hp => ?_)
      obtain ⟨er9, U1, V1, hM1, hv1, hE1⟩ := hp
      have hI2 := LI_m hC hg d1 d2 ha_ou hF_ou hM1 hv1 hE1
      rw [show jS_walkSet1 μ j9 (sxI xs (7 * k + 1)) = cJ_walkSet μ (sxI xs (7 * k + 1)) from (by unfold cJ_walkSet; rw [hvk])] at hI2
      refine lv_istore (lv' := [(6, .int (iI r9)), (5, .int (iI r)), (0, .ref b), (1, .ref bg), (2, .ref mg), (3, .ref ou), (4, .int (iI (7 * k)))]) hx hb dL_law_1670 hl (by decide) rfl (fun ls hl => ?_)
      refine lv_goto (tgt := 2327) hx hb dL_law_1672 (by decide) ?_
      refine W.widen (k := cells + 3600) (n := slots + 10000) (by omega) (by omega) ?_
      exact kk _ _ _ _ hP hD hS hI2 ls (lv_sub hl [2, 3, 4, 5, 6] rfl)
set_option maxHeartbeats 1600000 in
set_option maxRecDepth 100000 in
theorem K_walkTake {p : Program} {l : Launch} {e : Env} {s : State} {m : MethodId} {below : List Frame} {meth : Method} {c : Code} {b N : Nat} {xs : Nat → Int32} {D : va_G} {y : Nat → ClassId} {sl : List (Nat × Nat × Nat)} {Q : State → Prop} (hfl : l.stackTraces = false) (X : LX D y sl p c s m b N xs) {k : Int} (hk : 0 ≤ k ∧ 7 * k + 6 < N) {L : List Nat} {F : Nat → va_E} {σ : CS} {μ : MS} {H : Heap} {locs : List Loc} {cells slots bg mg ou : Nat} (hcs : cells + 3600 ≤ 600128 ∧ slots + 10000 ≤ 7301098) (hP : va_P D vwCl (va_pl L F) H) (hD : va_D (AL [] s.heap.size) (va_pl L F)) (hS : va_S (AL [] s.heap.size) s.heap H locs) (hI : LI y L F bg mg ou σ μ) (hW : CW σ) (hM : MW μ)
    (kk : ∀ (H1 : Heap) (locs1 : List Loc) (L1 : List Nat) (F1 : Nat → va_E), va_P D vwCl (va_pl L1 F1) H1 → va_D (AL [] s.heap.size) (va_pl L1 F1) → va_S (AL [] s.heap.size) s.heap H1 locs1 → LI y L1 F1 bg mg ou (cS_walkTake σ) (cJ_walkTake μ) → ∀ ls : Array Slot, lv_has ls 7 [(0, .ref b), (1, .ref bg), (2, .ref mg), (3, .ref ou), (4, .int (iI (7 * k)))] → W p l e room_1 s m #[.ref b] below meth c H1 locs1 (cells + 3600) (slots + 10000) Q (F0 m 2327 ls [])) : ∀ ls : Array Slot, lv_has ls 7 [(0, .ref b), (1, .ref bg), (2, .ref mg), (3, .ref ou), (4, .int (iI (7 * k)))] → W p l e room_1 s m #[.ref b] below meth c H locs cells slots Q (F0 m 1675 ls []) := by
  intro ls hl
  obtain ⟨C0, hJ, hN, hXS, hXs, hbl, hN4⟩ := X
  have hx := C0.1.1
  have hb := C0.1.2.1
  have hts := C0.1.2.2.2.2
  have hbA := AL_nil hbl
  have hA : ∀ q, s.heap.size ≤ q → AL [] s.heap.size q := fun q h => Or.inr h
  obtain ⟨O, G, U, V, nv, sv, hC, hg, hMP, hv, d1, d2, ha_ou, hF_ou⟩ := hI
  refine lv_aload_n hx hb dL_law_1675 rfl (lv_at hl 1 rfl) ?_
  rcases hzk : zwk σ with _ | j
  · have t_ := c_X3_walkTake0 l D y L F H.size O G σ hC hW hzk
    rw [hg] at t_
    refine q_vMi C0 lL_254 t_ ⟨rfl, rfl⟩ rfl hP hD hS hA (by rw [← hg]; exact hC.1.1) (show F bg = bgE G σ from by rw [← hg]; exact hC.1.2) rfl rfl rfl hl rfl (Nat.le_of_ble_eq_true rfl) dL_law_1676 ⟨by show _ ≤ 600128; omega, by show _ ≤ 7301098; omega⟩ (fun r H locs L1 F1 hP hD hS hz_ hp => ?_)
    obtain ⟨eL, hC1, er, hOE⟩ := hp
    subst eL
    have e1 : cS_walkTake σ = kS_walkTake0 σ := (by unfold cS_walkTake; rw [hzk])
    have hI1 := LI_c hg hMP hv d1 d2 ha_ou hC1 rfl (fun _ h => h) (fun q _ h _ => hOE q h) (fun _ h => Or.inl h) ((hOE ou (fun z => (d1 ou z).2.2 rfl)).trans hF_ou)
    rw [← e1] at hI1
    obtain ⟨O, G, U, V, nv, sv, hC, hg, hMP, hv, d1, d2, ha_ou, hF_ou⟩ := hI1
    refine lv_pop hx hb dL_law_1679 rfl ?_
    refine lv_aload_n hx hb dL_law_1680 rfl (lv_at hl 2 rfl) ?_
    rcases hvk : vwk μ with _ | j9
    · have t_ := c_X6_walkTake0 l D y L F1 H.size U V μ  hMP hM  hvk
      rw [hv] at t_
      refine q_vMi C0 lL_257 t_ ⟨rfl, rfl⟩ rfl hP hD hS hA (by rw [← hv]; exact hMP.1.1) (show F1 mg = mE V μ from by rw [← hv]; exact hMP.1.2) rfl rfl rfl hl rfl (Nat.le_of_ble_eq_true rfl) dL_law_1681 ⟨by show _ ≤ 600128; omega, by show _ ≤ 7301098; omega⟩ (fun r9 H locs L2 F2 hP hD hS hz_ hp => ?_)
      obtain ⟨er9, U1, V1, hM1, hv1, hE1⟩ := hp
      have hI2 := LI_m hC hg d1 d2 ha_ou hF_ou hM1 hv1 hE1
      rw [show jS_walkTake0 μ = cJ_walkTake μ from (by unfold cJ_walkTake; rw [hvk])] at hI2
      refine lv_pop hx hb dL_law_1684 rfl ?_
      refine lv_goto (tgt := 2327) hx hb dL_law_1685 (by decide) ?_
      refine W.widen (k := cells + 3600) (n := slots + 10000) (by omega) (by omega) ?_
      exact kk _ _ _ _ hP hD hS hI2 ls (lv_sub hl [0, 1, 2, 3, 4] rfl)
    · have t_ := c_X6_walkTake1 l D y L F1 H.size U V μ j9  hMP hM  hvk
      rw [hv] at t_
      refine q_vMi C0 lL_257 t_ ⟨rfl, rfl⟩ rfl hP hD hS hA (by rw [← hv]; exact hMP.1.1) (show F1 mg = mE V μ from by rw [← hv]; exact hMP.1.2) rfl rfl rfl hl rfl (Nat.le_of_ble_eq_true rfl) dL_law_1681 ⟨by show _ ≤ 600128; omega, by show _ ≤ 7301098; omega⟩ (fun r9 H locs L2 F2 hP hD hS hz_ hp => ?_)
      obtain ⟨er9, U1, V1, hM1, hv1, hE1⟩ := hp
      have hI2 := LI_m hC hg d1 d2 ha_ou hF_ou hM1 hv1 hE1
      rw [show jS_walkTake1 μ j9 = cJ_walkTake μ from (by unfold cJ_walkTake; rw [hvk])] at hI2
      refine lv_pop hx hb dL_law_1684 rfl ?_
      refine lv_goto (tgt := 2327) hx hb dL_law_1685 (by decide) ?_
      refine W.widen (k := cells + 3600) (n := slots + 10000) (by omega) (by omega) ?_
      exact kk _ _ _ _ hP hD hS hI2 ls (lv_sub hl [0, 1, 2, 3, 4] rfl)
  · have t_ := c_X3_walkTake1 l D y L F H.size O G σ j hC hW hzk
    rw [hg] at t_
    refine q_vMi C0 lL_254 t_ ⟨rfl, rfl⟩ rfl hP hD hS hA (by rw [← hg]; exact hC.1.1) (show F bg = bgE G σ from by rw [← hg]; exact hC.1.2) rfl rfl rfl hl rfl (Nat.le_of_ble_eq_true rfl) dL_law_1676 ⟨by show _ ≤ 600128; omega, by show _ ≤ 7301098; omega⟩ (fun r H locs L1 F1 hP hD hS hz_ hp => ?_)
    obtain ⟨eL, hC1, er, hOE⟩ := hp
    subst eL
    have e1 : cS_walkTake σ = kS_walkTake1 σ j := (by unfold cS_walkTake; rw [hzk])
    have hI1 := LI_c hg hMP hv d1 d2 ha_ou hC1 rfl (fun _ h => h) (fun q _ h _ => hOE q h) (fun _ h => Or.inl h) ((hOE ou (fun z => (d1 ou z).2.2 rfl)).trans hF_ou)
    rw [← e1] at hI1
    obtain ⟨O, G, U, V, nv, sv, hC, hg, hMP, hv, d1, d2, ha_ou, hF_ou⟩ := hI1
    refine lv_pop hx hb dL_law_1679 rfl ?_
    refine lv_aload_n hx hb dL_law_1680 rfl (lv_at hl 2 rfl) ?_
    rcases hvk : vwk μ with _ | j9
    · have t_ := c_X6_walkTake0 l D y L F1 H.size U V μ  hMP hM  hvk
      rw [hv] at t_
      refine q_vMi C0 lL_257 t_ ⟨rfl, rfl⟩ rfl hP hD hS hA (by rw [← hv]; exact hMP.1.1) (show F1 mg = mE V μ from by rw [← hv]; exact hMP.1.2) rfl rfl rfl hl rfl (Nat.le_of_ble_eq_true rfl) dL_law_1681 ⟨by show _ ≤ 600128; omega, by show _ ≤ 7301098; omega⟩ (fun r9 H locs L2 F2 hP hD hS hz_ hp => ?_)
      obtain ⟨er9, U1, V1, hM1, hv1, hE1⟩ := hp
      have hI2 := LI_m hC hg d1 d2 ha_ou hF_ou hM1 hv1 hE1
      rw [show jS_walkTake0 μ = cJ_walkTake μ from (by unfold cJ_walkTake; rw [hvk])] at hI2
      refine lv_pop hx hb dL_law_1684 rfl ?_
      refine lv_goto (tgt := 2327) hx hb dL_law_1685 (by decide) ?_
      refine W.widen (k := cells + 3600) (n := slots + 10000) (by omega) (by omega) ?_
      exact kk _ _ _ _ hP hD hS hI2 ls (lv_sub hl [0, 1, 2, 3, 4] rfl)
    · have t_ := c_X6_walkTake1 l D y L F1 H.size U V μ j9  hMP hM  hvk
      rw [hv] at t_
      refine q_vMi C0 lL_257 t_ ⟨rfl, rfl⟩ rfl hP hD hS hA (by rw [← hv]; exact hMP.1.1) (show F1 mg = mE V μ from by rw [← hv]; exact hMP.1.2) rfl rfl rfl hl rfl (Nat.le_of_ble_eq_true rfl) dL_law_1681 ⟨by show _ ≤ 600128; omega, by show _ ≤ 7301098; omega⟩ (fun r9 H locs L2 F2 hP hD hS hz_ hp => ?_)
      obtain ⟨er9, U1, V1, hM1, hv1, hE1⟩ := hp
      have hI2 := LI_m hC hg d1 d2 ha_ou hF_ou hM1 hv1 hE1
      rw [show jS_walkTake1 μ j9 = cJ_walkTake μ from (by unfold cJ_walkTake; rw [hvk])] at hI2
      refine lv_pop hx hb dL_law_1684 rfl ?_
      refine lv_goto (tgt := 2327) hx hb dL_law_1685 (by decide) ?_
      refine W.widen (k := cells + 3600) (n := slots + 10000) (by omega) (by omega) ?_
      exact kk _ _ _ _ hP hD hS hI2 ls (lv_sub hl [0, 1, 2, 3, 4] rfl)
set_option maxHeartbeats 1600000 in
set_option maxRecDepth 100000 in
theorem K_freshShelf {p : Program} {l : Launch} {e : Env} {s : State} {m : MethodId} {below : List Frame} {meth : Method} {c : Code} {b N : Nat} {xs : Nat → Int32} {D : va_G} {y : Nat → ClassId} {sl : List (Nat × Nat × Nat)} {Q : State → Prop} (hfl : l.stackTraces = false) (X : LX D y sl p c s m b N xs) {k : Int} (hk : 0 ≤ k ∧ 7 * k + 6 < N) {L : List Nat} {F : Nat → va_E} {σ : CS} {μ : MS} {H : Heap} {locs : List Loc} {cells slots bg mg ou : Nat} (hcs : cells + 3600 ≤ 600128 ∧ slots + 10000 ≤ 7301098) (hP : va_P D vwCl (va_pl L F) H) (hD : va_D (AL [] s.heap.size) (va_pl L F)) (hS : va_S (AL [] s.heap.size) s.heap H locs) (hI : LI y L F bg mg ou σ μ) (hW : CW σ) (hM : MW μ)
    (kk : ∀ (H1 : Heap) (locs1 : List Loc) (L1 : List Nat) (F1 : Nat → va_E), va_P D vwCl (va_pl L1 F1) H1 → va_D (AL [] s.heap.size) (va_pl L1 F1) → va_S (AL [] s.heap.size) s.heap H1 locs1 → LI y L1 F1 bg mg ou (cS_freshShelf σ (sxI xs (7 * k + 1)) (sxI xs (7 * k + 2))) (jS_freshShelf μ (sxI xs (7 * k + 1)) (sxI xs (7 * k + 2))) → ∀ ls : Array Slot, lv_has ls 7 [(0, .ref b), (1, .ref bg), (2, .ref mg), (3, .ref ou), (4, .int (iI (7 * k)))] → W p l e room_1 s m #[.ref b] below meth c H1 locs1 (cells + 3600) (slots + 10000) Q (F0 m 2327 ls [])) : ∀ ls : Array Slot, lv_has ls 7 [(0, .ref b), (1, .ref bg), (2, .ref mg), (3, .ref ou), (4, .int (iI (7 * k)))] → W p l e room_1 s m #[.ref b] below meth c H locs cells slots Q (F0 m 1688 ls []) := by
  intro ls hl
  obtain ⟨C0, hJ, hN, hXS, hXs, hbl, hN4⟩ := X
  have hx := C0.1.1
  have hb := C0.1.2.1
  have hts := C0.1.2.2.2.2
  have hbA := AL_nil hbl
  have hA : ∀ q, s.heap.size ≤ q → AL [] s.heap.size q := fun q h => Or.inr h
  obtain ⟨O, G, U, V, nv, sv, hC, hg, hMP, hv, d1, d2, ha_ou, hF_ou⟩ := hI
  refine lv_aload_n hx hb dL_law_1688 rfl (lv_at hl 1 rfl) ?_
  refine lv_aload_n hx hb dL_law_1689 rfl (lv_at hl 0 rfl) ?_
  refine lv_iload hx hb dL_law_1690 (lv_at hl 4 rfl) ?_
  refine q_iconst hx hb dL_law_1692 ?_
  refine q_iadd hx hb dL_law_1693 ?_
  refine q_sld hx hb hXs hbl hbA hS (by omega) hN4 dL_law_1694 ?_
  have sb_0 := sxI_b xs (7 * k + 1)
  refine lv_aload_n hx hb dL_law_1695 rfl (lv_at hl 0 rfl) ?_
  refine lv_iload hx hb dL_law_1696 (lv_at hl 4 rfl) ?_
  refine q_iconst hx hb dL_law_1698 ?_
  refine q_iadd hx hb dL_law_1699 ?_
  refine q_sld hx hb hXs hbl hbA hS (by omega) hN4 dL_law_1700 ?_
  have sb_1 := sxI_b xs (7 * k + 2)
  refine lv_aload_n hx hb dL_law_1701 rfl (lv_at hl 3 rfl) ?_
  have t_ := c_L_freshShelf l hfl D y sl L F H.size O G σ (sxI xs (7 * k + 1)) (sxI xs (7 * k + 2)) ou nv sv hC hW (by omega) (by omega) ha_ou hF_ou (fun z => (d1 ou z).2.2 rfl)
  rw [hg] at t_
  refine q_sT C0 tL_258 t_ ⟨rfl, rfl⟩ rfl hJ hN (XS_of hXS hS hD) hP hD hS hA rfl hl rfl (Nat.le_of_ble_eq_true rfl) dL_law_1702 ⟨by show _ ≤ 600128; omega, by show _ ≤ 7301098; omega⟩ (fun r H locs L1 F1 hP hD hS hz_ hp => ?_)
  obtain ⟨O1, G1, σ1, n1, s1, hC1, hg1, hs1, hf1, hO1, hF1, hq⟩ := hp
  have e1 : σ1 = cS_freshShelf σ (sxI xs (7 * k + 1)) (sxI xs (7 * k + 2)) := cS_of hq
  have hI1 := LI_c hg hMP hv d1 d2 ha_ou hC1 hg1 hs1 hf1 hO1 hF1
  rw [e1] at hI1
  obtain ⟨O, G, U, V, nv, sv, hC, hg, hMP, hv, d1, d2, ha_ou, hF_ou⟩ := hI1
  refine lv_istore (lv' := [(5, .int (iI r)), (0, .ref b), (1, .ref bg), (2, .ref mg), (3, .ref ou), (4, .int (iI (7 * k)))]) hx hb dL_law_1705 hl (by decide) rfl (fun ls hl => ?_)
  refine lv_aload_n hx hb dL_law_1707 rfl (lv_at hl 3 rfl) ?_
  refine lv_aload_n hx hb dL_law_1708 rfl (lv_at hl 1 rfl) ?_
  refine lv_iload hx hb dL_law_1709 (lv_at hl 5 rfl) ?_
  refine q_iconst hx hb dL_law_1711 ?_
  refine q_iadd hx hb dL_law_1712 ?_
  refine q_sld hx hb hXs hbl hbA hS (by omega) hN4 dL_law_1713 ?_
  refine lv_aload_n hx hb dL_law_1714 rfl (lv_at hl 1 rfl) ?_
  refine lv_iload hx hb dL_law_1715 (lv_at hl 5 rfl) ?_
  refine q_iconst hx hb dL_law_1717 ?_
  refine q_iadd hx hb dL_law_1718 ?_
  refine q_sld hx hb hXs hbl hbA hS (by omega) hN4 dL_law_1719 ?_
  have t_ := c_X6_freshShelf l D y L1 F1 H.size U V μ (sxI xs (7 * k + 1)) (sxI xs (7 * k + 2)) hMP hM (by omega) (by omega)
  rw [hv] at t_
  refine q_vMi C0 lL_260 t_ ⟨rfl, rfl⟩ rfl hP hD hS hA (by rw [← hv]; exact hMP.1.1) (show F1 mg = mE V μ from by rw [← hv]; exact hMP.1.2) rfl rfl rfl hl rfl (Nat.le_of_ble_eq_true rfl) dL_law_1720 ⟨by show _ ≤ 600128; omega, by show _ ≤ 7301098; omega⟩ (fun r9 H locs L2 F2 hP hD hS hz_ hp => ?_)
  obtain ⟨er9, U1, V1, hM1, hv1, hE1⟩ := hp
  have hI2 := LI_m hC hg d1 d2 ha_ou hF_ou hM1 hv1 hE1
  refine lv_istore (lv' := [(6, .int (iI r9)), (5, .int (iI r)), (0, .ref b), (1, .ref bg), (2, .ref mg), (3, .ref ou), (4, .int (iI (7 * k)))]) hx hb dL_law_1723 hl (by decide) rfl (fun ls hl => ?_)
  refine lv_goto (tgt := 2327) hx hb dL_law_1725 (by decide) ?_
  refine W.widen (k := cells + 3600) (n := slots + 10000) (by omega) (by omega) ?_
  exact kk _ _ _ _ hP hD hS hI2 ls (lv_sub hl [2, 3, 4, 5, 6] rfl)
set_option maxHeartbeats 1600000 in
set_option maxRecDepth 100000 in
theorem K_buildShelf {p : Program} {l : Launch} {e : Env} {s : State} {m : MethodId} {below : List Frame} {meth : Method} {c : Code} {b N : Nat} {xs : Nat → Int32} {D : va_G} {y : Nat → ClassId} {sl : List (Nat × Nat × Nat)} {Q : State → Prop} (hfl : l.stackTraces = false) (X : LX D y sl p c s m b N xs) {k : Int} (hk : 0 ≤ k ∧ 7 * k + 6 < N) {L : List Nat} {F : Nat → va_E} {σ : CS} {μ : MS} {H : Heap} {locs : List Loc} {cells slots bg mg ou : Nat} (hcs : cells + 3600 ≤ 600128 ∧ slots + 10000 ≤ 7301098) (hP : va_P D vwCl (va_pl L F) H) (hD : va_D (AL [] s.heap.size) (va_pl L F)) (hS : va_S (AL [] s.heap.size) s.heap H locs) (hI : LI y L F bg mg ou σ μ) (hW : CW σ) (hM : MW μ)
    (kk : ∀ (H1 : Heap) (locs1 : List Loc) (L1 : List Nat) (F1 : Nat → va_E), va_P D vwCl (va_pl L1 F1) H1 → va_D (AL [] s.heap.size) (va_pl L1 F1) → va_S (AL [] s.heap.size) s.heap H1 locs1 → LI y L1 F1 bg mg ou (cS_buildShelf σ (sxI xs (7 * k + 1)) (sxI xs (7 * k + 2)) (sxI xs (7 * k + 3))) (jS_buildShelf μ (sxI xs (7 * k + 1)) (sxI xs (7 * k + 2)) (sxI xs (7 * k + 3))) → ∀ ls : Array Slot, lv_has ls 7 [(0, .ref b), (1, .ref bg), (2, .ref mg), (3, .ref ou), (4, .int (iI (7 * k)))] → W p l e room_1 s m #[.ref b] below meth c H1 locs1 (cells + 3600) (slots + 10000) Q (F0 m 2327 ls [])) : ∀ ls : Array Slot, lv_has ls 7 [(0, .ref b), (1, .ref bg), (2, .ref mg), (3, .ref ou), (4, .int (iI (7 * k)))] → W p l e room_1 s m #[.ref b] below meth c H locs cells slots Q (F0 m 1728 ls []) := by
  intro ls hl
  obtain ⟨C0, hJ, hN, hXS, hXs, hbl, hN4⟩ := X
  have hx := C0.1.1
  have hb := C0.1.2.1
  have hts := C0.1.2.2.2.2
  have hbA := AL_nil hbl
  have hA : ∀ q, s.heap.size ≤ q → AL [] s.heap.size q := fun q h => Or.inr h
  obtain ⟨O, G, U, V, nv, sv, hC, hg, hMP, hv, d1, d2, ha_ou, hF_ou⟩ := hI
  refine lv_aload_n hx hb dL_law_1728 rfl (lv_at hl 1 rfl) ?_
  refine lv_aload_n hx hb dL_law_1729 rfl (lv_at hl 0 rfl) ?_
  refine lv_iload hx hb dL_law_1730 (lv_at hl 4 rfl) ?_
  refine q_iconst hx hb dL_law_1732 ?_
  refine q_iadd hx hb dL_law_1733 ?_
  refine q_sld hx hb hXs hbl hbA hS (by omega) hN4 dL_law_1734 ?_
  have sb_0 := sxI_b xs (7 * k + 1)
  refine lv_aload_n hx hb dL_law_1735 rfl (lv_at hl 0 rfl) ?_
  refine lv_iload hx hb dL_law_1736 (lv_at hl 4 rfl) ?_
  refine q_iconst hx hb dL_law_1738 ?_
  refine q_iadd hx hb dL_law_1739 ?_
  refine q_sld hx hb hXs hbl hbA hS (by omega) hN4 dL_law_1740 ?_
  have sb_1 := sxI_b xs (7 * k + 2)
  refine lv_aload_n hx hb dL_law_1741 rfl (lv_at hl 0 rfl) ?_
  refine lv_iload hx hb dL_law_1742 (lv_at hl 4 rfl) ?_
  refine q_iconst hx hb dL_law_1744 ?_
  refine q_iadd hx hb dL_law_1745 ?_
  refine q_sld hx hb hXs hbl hbA hS (by omega) hN4 dL_law_1746 ?_
  have sb_2 := sxI_b xs (7 * k + 3)
  refine lv_aload_n hx hb dL_law_1747 rfl (lv_at hl 3 rfl) ?_
  have t_ := c_L_buildShelf l hfl D y sl L F H.size O G σ (sxI xs (7 * k + 1)) (sxI xs (7 * k + 2)) (sxI xs (7 * k + 3)) ou nv sv hC hW (by omega) (by omega) (by omega) ha_ou hF_ou (fun z => (d1 ou z).2.2 rfl)
  rw [hg] at t_
  refine q_sT C0 tL_261 t_ ⟨rfl, rfl⟩ rfl hJ hN (XS_of hXS hS hD) hP hD hS hA rfl hl rfl (Nat.le_of_ble_eq_true rfl) dL_law_1748 ⟨by show _ ≤ 600128; omega, by show _ ≤ 7301098; omega⟩ (fun r H locs L1 F1 hP hD hS hz_ hp => ?_)
  obtain ⟨O1, G1, σ1, n1, s1, hC1, hg1, hs1, hf1, hO1, hF1, hq⟩ := hp
  have e1 : σ1 = cS_buildShelf σ (sxI xs (7 * k + 1)) (sxI xs (7 * k + 2)) (sxI xs (7 * k + 3)) := cS_of hq
  have hI1 := LI_c hg hMP hv d1 d2 ha_ou hC1 hg1 hs1 hf1 hO1 hF1
  rw [e1] at hI1
  obtain ⟨O, G, U, V, nv, sv, hC, hg, hMP, hv, d1, d2, ha_ou, hF_ou⟩ := hI1
  refine lv_istore (lv' := [(5, .int (iI r)), (0, .ref b), (1, .ref bg), (2, .ref mg), (3, .ref ou), (4, .int (iI (7 * k)))]) hx hb dL_law_1751 hl (by decide) rfl (fun ls hl => ?_)
  refine lv_aload_n hx hb dL_law_1753 rfl (lv_at hl 3 rfl) ?_
  refine lv_aload_n hx hb dL_law_1754 rfl (lv_at hl 1 rfl) ?_
  refine lv_iload hx hb dL_law_1755 (lv_at hl 5 rfl) ?_
  refine q_iconst hx hb dL_law_1757 ?_
  refine q_iadd hx hb dL_law_1758 ?_
  refine q_sld hx hb hXs hbl hbA hS (by omega) hN4 dL_law_1759 ?_
  refine lv_aload_n hx hb dL_law_1760 rfl (lv_at hl 1 rfl) ?_
  refine lv_iload hx hb dL_law_1761 (lv_at hl 5 rfl) ?_
  refine q_iconst hx hb dL_law_1763 ?_
  refine q_iadd hx hb dL_law_1764 ?_
  refine q_sld hx hb hXs hbl hbA hS (by omega) hN4 dL_law_1765 ?_
  refine lv_aload_n hx hb dL_law_1766 rfl (lv_at hl 1 rfl) ?_
  refine lv_iload hx hb dL_law_1767 (lv_at hl 5 rfl) ?_
  refine q_iconst hx hb dL_law_1769 ?_
  refine q_iadd hx hb dL_law_1770 ?_
  refine q_sld hx hb hXs hbl hbA hS (by omega) hN4 dL_law_1771 ?_
  have t_ := c_X6_buildShelf l D y L1 F1 H.size U V μ (sxI xs (7 * k + 1)) (sxI xs (7 * k + 2)) (sxI xs (7 * k + 3)) hMP hM (by omega) (by omega) (by omega)
  rw [hv] at t_
  refine q_vMi C0 lL_263 t_ ⟨rfl, rfl⟩ rfl hP hD hS hA (by rw [← hv]; exact hMP.1.1) (show F1 mg = mE V μ from by rw [← hv]; exact hMP.1.2) rfl rfl rfl hl rfl (Nat.le_of_ble_eq_true rfl) dL_law_1772 ⟨by show _ ≤ 600128; omega, by show _ ≤ 7301098; omega⟩ (fun r9 H locs L2 F2 hP hD hS hz_ hp => ?_)
  obtain ⟨er9, U1, V1, hM1, hv1, hE1⟩ := hp
  have hI2 := LI_m hC hg d1 d2 ha_ou hF_ou hM1 hv1 hE1
  refine lv_istore (lv' := [(6, .int (iI r9)), (5, .int (iI r)), (0, .ref b), (1, .ref bg), (2, .ref mg), (3, .ref ou), (4, .int (iI (7 * k)))]) hx hb dL_law_1775 hl (by decide) rfl (fun ls hl => ?_)
  refine lv_goto (tgt := 2327) hx hb dL_law_1777 (by decide) ?_
  refine W.widen (k := cells + 3600) (n := slots + 10000) (by omega) (by omega) ?_
  exact kk _ _ _ _ hP hD hS hI2 ls (lv_sub hl [2, 3, 4, 5, 6] rfl)
set_option maxHeartbeats 1600000 in
set_option maxRecDepth 100000 in
theorem K_keysOf {p : Program} {l : Launch} {e : Env} {s : State} {m : MethodId} {below : List Frame} {meth : Method} {c : Code} {b N : Nat} {xs : Nat → Int32} {D : va_G} {y : Nat → ClassId} {sl : List (Nat × Nat × Nat)} {Q : State → Prop} (hfl : l.stackTraces = false) (X : LX D y sl p c s m b N xs) {k : Int} (hk : 0 ≤ k ∧ 7 * k + 6 < N) {L : List Nat} {F : Nat → va_E} {σ : CS} {μ : MS} {H : Heap} {locs : List Loc} {cells slots bg mg ou : Nat} (hcs : cells + 3600 ≤ 600128 ∧ slots + 10000 ≤ 7301098) (hP : va_P D vwCl (va_pl L F) H) (hD : va_D (AL [] s.heap.size) (va_pl L F)) (hS : va_S (AL [] s.heap.size) s.heap H locs) (hI : LI y L F bg mg ou σ μ) (hW : CW σ) (hM : MW μ)
    (kk : ∀ (H1 : Heap) (locs1 : List Loc) (L1 : List Nat) (F1 : Nat → va_E), va_P D vwCl (va_pl L1 F1) H1 → va_D (AL [] s.heap.size) (va_pl L1 F1) → va_S (AL [] s.heap.size) s.heap H1 locs1 → LI y L1 F1 bg mg ou (cS_keysOf σ (sxI xs (7 * k + 1)) (sxI xs (7 * k + 2))) (jS_keysOf μ (sxI xs (7 * k + 1)) (sxI xs (7 * k + 2))) → ∀ ls : Array Slot, lv_has ls 7 [(0, .ref b), (1, .ref bg), (2, .ref mg), (3, .ref ou), (4, .int (iI (7 * k)))] → W p l e room_1 s m #[.ref b] below meth c H1 locs1 (cells + 3600) (slots + 10000) Q (F0 m 2327 ls [])) : ∀ ls : Array Slot, lv_has ls 7 [(0, .ref b), (1, .ref bg), (2, .ref mg), (3, .ref ou), (4, .int (iI (7 * k)))] → W p l e room_1 s m #[.ref b] below meth c H locs cells slots Q (F0 m 1780 ls []) := by
  intro ls hl
  obtain ⟨C0, hJ, hN, hXS, hXs, hbl, hN4⟩ := X
  have hx := C0.1.1
  have hb := C0.1.2.1
  have hts := C0.1.2.2.2.2
  have hbA := AL_nil hbl
  have hA : ∀ q, s.heap.size ≤ q → AL [] s.heap.size q := fun q h => Or.inr h
  obtain ⟨O, G, U, V, nv, sv, hC, hg, hMP, hv, d1, d2, ha_ou, hF_ou⟩ := hI
  refine lv_aload_n hx hb dL_law_1780 rfl (lv_at hl 1 rfl) ?_
  refine lv_aload_n hx hb dL_law_1781 rfl (lv_at hl 0 rfl) ?_
  refine lv_iload hx hb dL_law_1782 (lv_at hl 4 rfl) ?_
  refine q_iconst hx hb dL_law_1784 ?_
  refine q_iadd hx hb dL_law_1785 ?_
  refine q_sld hx hb hXs hbl hbA hS (by omega) hN4 dL_law_1786 ?_
  have sb_0 := sxI_b xs (7 * k + 1)
  refine lv_aload_n hx hb dL_law_1787 rfl (lv_at hl 0 rfl) ?_
  refine lv_iload hx hb dL_law_1788 (lv_at hl 4 rfl) ?_
  refine q_iconst hx hb dL_law_1790 ?_
  refine q_iadd hx hb dL_law_1791 ?_
  refine q_sld hx hb hXs hbl hbA hS (by omega) hN4 dL_law_1792 ?_
  have sb_1 := sxI_b xs (7 * k + 2)
  refine lv_aload_n hx hb dL_law_1793 rfl (lv_at hl 3 rfl) ?_
  have t_ := c_L_keysOf l hfl D y sl L F H.size O G σ (sxI xs (7 * k + 1)) (sxI xs (7 * k + 2)) ou nv sv hC hW (by omega) (by omega) ha_ou hF_ou (fun z => (d1 ou z).2.2 rfl)
  rw [hg] at t_
  refine q_sT C0 tL_264 t_ ⟨rfl, rfl⟩ rfl hJ hN (XS_of hXS hS hD) hP hD hS hA rfl hl rfl (Nat.le_of_ble_eq_true rfl) dL_law_1794 ⟨by show _ ≤ 600128; omega, by show _ ≤ 7301098; omega⟩ (fun r H locs L1 F1 hP hD hS hz_ hp => ?_)
  obtain ⟨O1, G1, σ1, n1, s1, hC1, hg1, hs1, hf1, hO1, hF1, hq⟩ := hp
  have e1 : σ1 = cS_keysOf σ (sxI xs (7 * k + 1)) (sxI xs (7 * k + 2)) := cS_of hq
  have hI1 := LI_c hg hMP hv d1 d2 ha_ou hC1 hg1 hs1 hf1 hO1 hF1
  rw [e1] at hI1
  obtain ⟨O, G, U, V, nv, sv, hC, hg, hMP, hv, d1, d2, ha_ou, hF_ou⟩ := hI1
  refine lv_istore (lv' := [(5, .int (iI r)), (0, .ref b), (1, .ref bg), (2, .ref mg), (3, .ref ou), (4, .int (iI (7 * k)))]) hx hb dL_law_1797 hl (by decide) rfl (fun ls hl => ?_)
  refine lv_aload_n hx hb dL_law_1799 rfl (lv_at hl 3 rfl) ?_
  refine lv_aload_n hx hb dL_law_1800 rfl (lv_at hl 1 rfl) ?_
  refine lv_iload hx hb dL_law_1801 (lv_at hl 5 rfl) ?_
  refine q_iconst hx hb dL_law_1803 ?_
  refine q_iadd hx hb dL_law_1804 ?_
  refine q_sld hx hb hXs hbl hbA hS (by omega) hN4 dL_law_1805 ?_
  refine lv_aload_n hx hb dL_law_1806 rfl (lv_at hl 1 rfl) ?_
  refine lv_iload hx hb dL_law_1807 (lv_at hl 5 rfl) ?_
  refine q_iconst hx hb dL_law_1809 ?_
  refine q_iadd hx hb dL_law_1810 ?_
  refine q_sld hx hb hXs hbl hbA hS (by omega) hN4 dL_law_1811 ?_
  have t_ := c_X6_keysOf l D y L1 F1 H.size U V μ (sxI xs (7 * k + 1)) (sxI xs (7 * k + 2)) hMP hM (by omega) (by omega)
  rw [hv] at t_
  refine q_vMi C0 lL_266 t_ ⟨rfl, rfl⟩ rfl hP hD hS hA (by rw [← hv]; exact hMP.1.1) (show F1 mg = mE V μ from by rw [← hv]; exact hMP.1.2) rfl rfl rfl hl rfl (Nat.le_of_ble_eq_true rfl) dL_law_1812 ⟨by show _ ≤ 600128; omega, by show _ ≤ 7301098; omega⟩ (fun r9 H locs L2 F2 hP hD hS hz_ hp => ?_)
  obtain ⟨er9, U1, V1, hM1, hv1, hE1⟩ := hp
  have hI2 := LI_m hC hg d1 d2 ha_ou hF_ou hM1 hv1 hE1
  refine lv_istore (lv' := [(6, .int (iI r9)), (5, .int (iI r)), (0, .ref b), (1, .ref bg), (2, .ref mg), (3, .ref ou), (4, .int (iI (7 * k)))]) hx hb dL_law_1815 hl (by decide) rfl (fun ls hl => ?_)
  refine lv_goto (tgt := 2327) hx hb dL_law_1817 (by decide) ?_
  refine W.widen (k := cells + 3600) (n := slots + 10000) (by omega) (by omega) ?_
  exact kk _ _ _ _ hP hD hS hI2 ls (lv_sub hl [2, 3, 4, 5, 6] rfl)
set_option maxHeartbeats 1600000 in
set_option maxRecDepth 100000 in
theorem K_lay {p : Program} {l : Launch} {e : Env} {s : State} {m : MethodId} {below : List Frame} {meth : Method} {c : Code} {b N : Nat} {xs : Nat → Int32} {D : va_G} {y : Nat → ClassId} {sl : List (Nat × Nat × Nat)} {Q : State → Prop} (hfl : l.stackTraces = false) (X : LX D y sl p c s m b N xs) {k : Int} (hk : 0 ≤ k ∧ 7 * k + 6 < N) {L : List Nat} {F : Nat → va_E} {σ : CS} {μ : MS} {H : Heap} {locs : List Loc} {cells slots bg mg ou : Nat} (hcs : cells + 3600 ≤ 600128 ∧ slots + 10000 ≤ 7301098) (hP : va_P D vwCl (va_pl L F) H) (hD : va_D (AL [] s.heap.size) (va_pl L F)) (hS : va_S (AL [] s.heap.size) s.heap H locs) (hI : LI y L F bg mg ou σ μ) (hW : CW σ) (hM : MW μ)
    (kk : ∀ (H1 : Heap) (locs1 : List Loc) (L1 : List Nat) (F1 : Nat → va_E), va_P D vwCl (va_pl L1 F1) H1 → va_D (AL [] s.heap.size) (va_pl L1 F1) → va_S (AL [] s.heap.size) s.heap H1 locs1 → LI y L1 F1 bg mg ou (cS_lay σ (sxI xs (7 * k + 1)) (sxI xs (7 * k + 2)) (sxI xs (7 * k + 3)) (sxI xs (7 * k + 4)) (zb (sxI xs (7 * k + 5)))) (jS_lay μ (sxI xs (7 * k + 1)) (sxI xs (7 * k + 2)) (sxI xs (7 * k + 3)) (sxI xs (7 * k + 4)) (zb (sxI xs (7 * k + 5)))) → ∀ ls : Array Slot, lv_has ls 7 [(0, .ref b), (1, .ref bg), (2, .ref mg), (3, .ref ou), (4, .int (iI (7 * k)))] → W p l e room_1 s m #[.ref b] below meth c H1 locs1 (cells + 3600) (slots + 10000) Q (F0 m 2327 ls [])) : ∀ ls : Array Slot, lv_has ls 7 [(0, .ref b), (1, .ref bg), (2, .ref mg), (3, .ref ou), (4, .int (iI (7 * k)))] → W p l e room_1 s m #[.ref b] below meth c H locs cells slots Q (F0 m 1820 ls []) := by
  intro ls hl
  obtain ⟨C0, hJ, hN, hXS, hXs, hbl, hN4⟩ := X
  have hx := C0.1.1
  have hb := C0.1.2.1
  have hts := C0.1.2.2.2.2
  have hbA := AL_nil hbl
  have hA : ∀ q, s.heap.size ≤ q → AL [] s.heap.size q := fun q h => Or.inr h
  obtain ⟨O, G, U, V, nv, sv, hC, hg, hMP, hv, d1, d2, ha_ou, hF_ou⟩ := hI
  refine lv_aload_n hx hb dL_law_1820 rfl (lv_at hl 1 rfl) ?_
  refine lv_aload_n hx hb dL_law_1821 rfl (lv_at hl 0 rfl) ?_
  refine lv_iload hx hb dL_law_1822 (lv_at hl 4 rfl) ?_
  refine q_iconst hx hb dL_law_1824 ?_
  refine q_iadd hx hb dL_law_1825 ?_
  refine q_sld hx hb hXs hbl hbA hS (by omega) hN4 dL_law_1826 ?_
  have sb_0 := sxI_b xs (7 * k + 1)
  refine lv_aload_n hx hb dL_law_1827 rfl (lv_at hl 0 rfl) ?_
  refine lv_iload hx hb dL_law_1828 (lv_at hl 4 rfl) ?_
  refine q_iconst hx hb dL_law_1830 ?_
  refine q_iadd hx hb dL_law_1831 ?_
  refine q_sld hx hb hXs hbl hbA hS (by omega) hN4 dL_law_1832 ?_
  have sb_1 := sxI_b xs (7 * k + 2)
  refine lv_aload_n hx hb dL_law_1833 rfl (lv_at hl 0 rfl) ?_
  refine lv_iload hx hb dL_law_1834 (lv_at hl 4 rfl) ?_
  refine q_iconst hx hb dL_law_1836 ?_
  refine q_iadd hx hb dL_law_1837 ?_
  refine q_sld hx hb hXs hbl hbA hS (by omega) hN4 dL_law_1838 ?_
  have sb_2 := sxI_b xs (7 * k + 3)
  refine lv_aload_n hx hb dL_law_1839 rfl (lv_at hl 0 rfl) ?_
  refine lv_iload hx hb dL_law_1840 (lv_at hl 4 rfl) ?_
  refine q_iconst hx hb dL_law_1842 ?_
  refine q_iadd hx hb dL_law_1843 ?_
  refine q_sld hx hb hXs hbl hbA hS (by omega) hN4 dL_law_1844 ?_
  have sb_3 := sxI_b xs (7 * k + 4)
  refine lv_aload_n hx hb dL_law_1845 rfl (lv_at hl 0 rfl) ?_
  refine lv_iload hx hb dL_law_1846 (lv_at hl 4 rfl) ?_
  refine q_iconst hx hb dL_law_1848 ?_
  refine q_iadd hx hb dL_law_1849 ?_
  refine q_sld hx hb hXs hbl hbA hS (by omega) hN4 dL_law_1850 ?_
  have sb_4 := sxI_b xs (7 * k + 5)
  refine q_if_eq hx hb dL_law_1851 (tgt := 1858) (by decide) (by omega) (fun c1 => ?_) (fun c1 => ?_)
  · have hz2 : zb (sxI xs (7 * k + 5)) = 0 := if_pos c1
    refine q_iconst hx hb dL_law_1858 ?_
    refine lv_aload_n hx hb dL_law_1859 rfl (lv_at hl 3 rfl) ?_
    have t_ := c_L_lay l hfl D y sl L F H.size O G σ (sxI xs (7 * k + 1)) (sxI xs (7 * k + 2)) (sxI xs (7 * k + 3)) (sxI xs (7 * k + 4)) 0 ou nv sv hC hW (by omega) (by omega) (by omega) (by omega) (by omega) ha_ou hF_ou (fun z => (d1 ou z).2.2 rfl)
    rw [hg] at t_
    refine q_sT C0 tL_267 t_ ⟨rfl, rfl⟩ rfl hJ hN (XS_of hXS hS hD) hP hD hS hA rfl hl rfl (Nat.le_of_ble_eq_true rfl) dL_law_1860 ⟨by show _ ≤ 600128; omega, by show _ ≤ 7301098; omega⟩ (fun r H locs L1 F1 hP hD hS hz_ hp => ?_)
    obtain ⟨O1, G1, σ1, n1, s1, hC1, hg1, hs1, hf1, hO1, hF1, hq⟩ := hp
    have e1 : σ1 = cS_lay σ (sxI xs (7 * k + 1)) (sxI xs (7 * k + 2)) (sxI xs (7 * k + 3)) (sxI xs (7 * k + 4)) 0 := cS_of hq
    have hI1 := LI_c hg hMP hv d1 d2 ha_ou hC1 hg1 hs1 hf1 hO1 hF1
    rw [e1] at hI1
    obtain ⟨O, G, U, V, nv, sv, hC, hg, hMP, hv, d1, d2, ha_ou, hF_ou⟩ := hI1
    refine lv_istore (lv' := [(5, .int (iI r)), (0, .ref b), (1, .ref bg), (2, .ref mg), (3, .ref ou), (4, .int (iI (7 * k)))]) hx hb dL_law_1863 hl (by decide) rfl (fun ls hl => ?_)
    refine lv_aload_n hx hb dL_law_1865 rfl (lv_at hl 3 rfl) ?_
    refine lv_aload_n hx hb dL_law_1866 rfl (lv_at hl 1 rfl) ?_
    refine lv_iload hx hb dL_law_1867 (lv_at hl 5 rfl) ?_
    refine q_iconst hx hb dL_law_1869 ?_
    refine q_iadd hx hb dL_law_1870 ?_
    refine q_sld hx hb hXs hbl hbA hS (by omega) hN4 dL_law_1871 ?_
    refine lv_aload_n hx hb dL_law_1872 rfl (lv_at hl 1 rfl) ?_
    refine lv_iload hx hb dL_law_1873 (lv_at hl 5 rfl) ?_
    refine q_iconst hx hb dL_law_1875 ?_
    refine q_iadd hx hb dL_law_1876 ?_
    refine q_sld hx hb hXs hbl hbA hS (by omega) hN4 dL_law_1877 ?_
    refine lv_aload_n hx hb dL_law_1878 rfl (lv_at hl 1 rfl) ?_
    refine lv_iload hx hb dL_law_1879 (lv_at hl 5 rfl) ?_
    refine q_iconst hx hb dL_law_1881 ?_
    refine q_iadd hx hb dL_law_1882 ?_
    refine q_sld hx hb hXs hbl hbA hS (by omega) hN4 dL_law_1883 ?_
    refine lv_aload_n hx hb dL_law_1884 rfl (lv_at hl 1 rfl) ?_
    refine lv_iload hx hb dL_law_1885 (lv_at hl 5 rfl) ?_
    refine q_iconst hx hb dL_law_1887 ?_
    refine q_iadd hx hb dL_law_1888 ?_
    refine q_sld hx hb hXs hbl hbA hS (by omega) hN4 dL_law_1889 ?_
    refine lv_aload_n hx hb dL_law_1890 rfl (lv_at hl 1 rfl) ?_
    refine lv_iload hx hb dL_law_1891 (lv_at hl 5 rfl) ?_
    refine q_iconst hx hb dL_law_1893 ?_
    refine q_iadd hx hb dL_law_1894 ?_
    refine q_sld hx hb hXs hbl hbA hS (by omega) hN4 dL_law_1895 ?_
    refine q_if_eq hx hb dL_law_1896 (tgt := 1903) (by decide) (by omega) (fun c0 => ?_) (fun c0 => absurd c1 c0)
    refine q_iconst hx hb dL_law_1903 ?_
    have t_ := c_X6_lay l D y L1 F1 H.size U V μ (sxI xs (7 * k + 1)) (sxI xs (7 * k + 2)) (sxI xs (7 * k + 3)) (sxI xs (7 * k + 4)) 0 hMP hM (by omega) (by omega) (by omega) (by omega) (by omega)
    rw [hv] at t_
    refine q_vMi C0 lL_270 t_ ⟨rfl, rfl⟩ rfl hP hD hS hA (by rw [← hv]; exact hMP.1.1) (show F1 mg = mE V μ from by rw [← hv]; exact hMP.1.2) rfl rfl rfl hl rfl (Nat.le_of_ble_eq_true rfl) dL_law_1904 ⟨by show _ ≤ 600128; omega, by show _ ≤ 7301098; omega⟩ (fun r9 H locs L2 F2 hP hD hS hz_ hp => ?_)
    obtain ⟨er9, U1, V1, hM1, hv1, hE1⟩ := hp
    have hI2 := LI_m hC hg d1 d2 ha_ou hF_ou hM1 hv1 hE1
    refine lv_istore (lv' := [(6, .int (iI r9)), (5, .int (iI r)), (0, .ref b), (1, .ref bg), (2, .ref mg), (3, .ref ou), (4, .int (iI (7 * k)))]) hx hb dL_law_1907 hl (by decide) rfl (fun ls hl => ?_)
    refine lv_goto (tgt := 2327) hx hb dL_law_1909 (by decide) ?_
    refine W.widen (k := cells + 3600) (n := slots + 10000) (by omega) (by omega) ?_
    exact kk _ _ _ _ hP hD hS (by rw [hz2]; exact hI2) ls (lv_sub hl [2, 3, 4, 5, 6] rfl)
  · have hz2 : zb (sxI xs (7 * k + 5)) = 1 := if_neg c1
    refine q_iconst hx hb dL_law_1854 ?_
    refine lv_goto (tgt := 1859) hx hb dL_law_1855 (by decide) ?_
    refine lv_aload_n hx hb dL_law_1859 rfl (lv_at hl 3 rfl) ?_
    have t_ := c_L_lay l hfl D y sl L F H.size O G σ (sxI xs (7 * k + 1)) (sxI xs (7 * k + 2)) (sxI xs (7 * k + 3)) (sxI xs (7 * k + 4)) 1 ou nv sv hC hW (by omega) (by omega) (by omega) (by omega) (by omega) ha_ou hF_ou (fun z => (d1 ou z).2.2 rfl)
    rw [hg] at t_
    refine q_sT C0 tL_267 t_ ⟨rfl, rfl⟩ rfl hJ hN (XS_of hXS hS hD) hP hD hS hA rfl hl rfl (Nat.le_of_ble_eq_true rfl) dL_law_1860 ⟨by show _ ≤ 600128; omega, by show _ ≤ 7301098; omega⟩ (fun r H locs L1 F1 hP hD hS hz_ hp => ?_)
    obtain ⟨O1, G1, σ1, n1, s1, hC1, hg1, hs1, hf1, hO1, hF1, hq⟩ := hp
    have e1 : σ1 = cS_lay σ (sxI xs (7 * k + 1)) (sxI xs (7 * k + 2)) (sxI xs (7 * k + 3)) (sxI xs (7 * k + 4)) 1 := cS_of hq
    have hI1 := LI_c hg hMP hv d1 d2 ha_ou hC1 hg1 hs1 hf1 hO1 hF1
    rw [e1] at hI1
    obtain ⟨O, G, U, V, nv, sv, hC, hg, hMP, hv, d1, d2, ha_ou, hF_ou⟩ := hI1
    refine lv_istore (lv' := [(5, .int (iI r)), (0, .ref b), (1, .ref bg), (2, .ref mg), (3, .ref ou), (4, .int (iI (7 * k)))]) hx hb dL_law_1863 hl (by decide) rfl (fun ls hl => ?_)
    refine lv_aload_n hx hb dL_law_1865 rfl (lv_at hl 3 rfl) ?_
    refine lv_aload_n hx hb dL_law_1866 rfl (lv_at hl 1 rfl) ?_
    refine lv_iload hx hb dL_law_1867 (lv_at hl 5 rfl) ?_
    refine q_iconst hx hb dL_law_1869 ?_
    refine q_iadd hx hb dL_law_1870 ?_
    refine q_sld hx hb hXs hbl hbA hS (by omega) hN4 dL_law_1871 ?_
    refine lv_aload_n hx hb dL_law_1872 rfl (lv_at hl 1 rfl) ?_
    refine lv_iload hx hb dL_law_1873 (lv_at hl 5 rfl) ?_
    refine q_iconst hx hb dL_law_1875 ?_
    refine q_iadd hx hb dL_law_1876 ?_
    refine q_sld hx hb hXs hbl hbA hS (by omega) hN4 dL_law_1877 ?_
    refine lv_aload_n hx hb dL_law_1878 rfl (lv_at hl 1 rfl) ?_
    refine lv_iload hx hb dL_law_1879 (lv_at hl 5 rfl) ?_
    refine q_iconst hx hb dL_law_1881 ?_
    refine q_iadd hx hb dL_law_1882 ?_
    refine q_sld hx hb hXs hbl hbA hS (by omega) hN4 dL_law_1883 ?_
    refine lv_aload_n hx hb dL_law_1884 rfl (lv_at hl 1 rfl) ?_
    refine lv_iload hx hb dL_law_1885 (lv_at hl 5 rfl) ?_
    refine q_iconst hx hb dL_law_1887 ?_
    refine q_iadd hx hb dL_law_1888 ?_
    refine q_sld hx hb hXs hbl hbA hS (by omega) hN4 dL_law_1889 ?_
    refine lv_aload_n hx hb dL_law_1890 rfl (lv_at hl 1 rfl) ?_
    refine lv_iload hx hb dL_law_1891 (lv_at hl 5 rfl) ?_
    refine q_iconst hx hb dL_law_1893 ?_
    refine q_iadd hx hb dL_law_1894 ?_
    refine q_sld hx hb hXs hbl hbA hS (by omega) hN4 dL_law_1895 ?_
    refine q_if_eq hx hb dL_law_1896 (tgt := 1903) (by decide) (by omega) (fun c0 => absurd c0 c1) (fun c0 => ?_)
    refine q_iconst hx hb dL_law_1899 ?_
    refine lv_goto (tgt := 1904) hx hb dL_law_1900 (by decide) ?_
    have t_ := c_X6_lay l D y L1 F1 H.size U V μ (sxI xs (7 * k + 1)) (sxI xs (7 * k + 2)) (sxI xs (7 * k + 3)) (sxI xs (7 * k + 4)) 1 hMP hM (by omega) (by omega) (by omega) (by omega) (by omega)
    rw [hv] at t_
    refine q_vMi C0 lL_270 t_ ⟨rfl, rfl⟩ rfl hP hD hS hA (by rw [← hv]; exact hMP.1.1) (show F1 mg = mE V μ from by rw [← hv]; exact hMP.1.2) rfl rfl rfl hl rfl (Nat.le_of_ble_eq_true rfl) dL_law_1904 ⟨by show _ ≤ 600128; omega, by show _ ≤ 7301098; omega⟩ (fun r9 H locs L2 F2 hP hD hS hz_ hp => ?_)
    obtain ⟨er9, U1, V1, hM1, hv1, hE1⟩ := hp
    have hI2 := LI_m hC hg d1 d2 ha_ou hF_ou hM1 hv1 hE1
    refine lv_istore (lv' := [(6, .int (iI r9)), (5, .int (iI r)), (0, .ref b), (1, .ref bg), (2, .ref mg), (3, .ref ou), (4, .int (iI (7 * k)))]) hx hb dL_law_1907 hl (by decide) rfl (fun ls hl => ?_)
    refine lv_goto (tgt := 2327) hx hb dL_law_1909 (by decide) ?_
    refine W.widen (k := cells + 3600) (n := slots + 10000) (by omega) (by omega) ?_
    exact kk _ _ _ _ hP hD hS (by rw [hz2]; exact hI2) ls (lv_sub hl [2, 3, 4, 5, 6] rfl)
set_option maxHeartbeats 1600000 in
set_option maxRecDepth 100000 in
theorem K_shelfBoth {p : Program} {l : Launch} {e : Env} {s : State} {m : MethodId} {below : List Frame} {meth : Method} {c : Code} {b N : Nat} {xs : Nat → Int32} {D : va_G} {y : Nat → ClassId} {sl : List (Nat × Nat × Nat)} {Q : State → Prop} (hfl : l.stackTraces = false) (X : LX D y sl p c s m b N xs) {k : Int} (hk : 0 ≤ k ∧ 7 * k + 6 < N) {L : List Nat} {F : Nat → va_E} {σ : CS} {μ : MS} {H : Heap} {locs : List Loc} {cells slots bg mg ou : Nat} (hcs : cells + 3600 ≤ 600128 ∧ slots + 10000 ≤ 7301098) (hP : va_P D vwCl (va_pl L F) H) (hD : va_D (AL [] s.heap.size) (va_pl L F)) (hS : va_S (AL [] s.heap.size) s.heap H locs) (hI : LI y L F bg mg ou σ μ) (hW : CW σ) (hM : MW μ)
    (kk : ∀ (H1 : Heap) (locs1 : List Loc) (L1 : List Nat) (F1 : Nat → va_E), va_P D vwCl (va_pl L1 F1) H1 → va_D (AL [] s.heap.size) (va_pl L1 F1) → va_S (AL [] s.heap.size) s.heap H1 locs1 → LI y L1 F1 bg mg ou (cS_shelfBoth σ (sxI xs (7 * k + 1)) (sxI xs (7 * k + 2)) (sxI xs (7 * k + 3))) (jS_shelfBoth μ (sxI xs (7 * k + 1)) (sxI xs (7 * k + 2)) (sxI xs (7 * k + 3))) → ∀ ls : Array Slot, lv_has ls 7 [(0, .ref b), (1, .ref bg), (2, .ref mg), (3, .ref ou), (4, .int (iI (7 * k)))] → W p l e room_1 s m #[.ref b] below meth c H1 locs1 (cells + 3600) (slots + 10000) Q (F0 m 2327 ls [])) : ∀ ls : Array Slot, lv_has ls 7 [(0, .ref b), (1, .ref bg), (2, .ref mg), (3, .ref ou), (4, .int (iI (7 * k)))] → W p l e room_1 s m #[.ref b] below meth c H locs cells slots Q (F0 m 1912 ls []) := by
  intro ls hl
  obtain ⟨C0, hJ, hN, hXS, hXs, hbl, hN4⟩ := X
  have hx := C0.1.1
  have hb := C0.1.2.1
  have hts := C0.1.2.2.2.2
  have hbA := AL_nil hbl
  have hA : ∀ q, s.heap.size ≤ q → AL [] s.heap.size q := fun q h => Or.inr h
  obtain ⟨O, G, U, V, nv, sv, hC, hg, hMP, hv, d1, d2, ha_ou, hF_ou⟩ := hI
  refine lv_aload_n hx hb dL_law_1912 rfl (lv_at hl 1 rfl) ?_
  refine lv_aload_n hx hb dL_law_1913 rfl (lv_at hl 0 rfl) ?_
  refine lv_iload hx hb dL_law_1914 (lv_at hl 4 rfl) ?_
  refine q_iconst hx hb dL_law_1916 ?_
  refine q_iadd hx hb dL_law_1917 ?_
  refine q_sld hx hb hXs hbl hbA hS (by omega) hN4 dL_law_1918 ?_
  have sb_0 := sxI_b xs (7 * k + 1)
  refine lv_aload_n hx hb dL_law_1919 rfl (lv_at hl 0 rfl) ?_
  refine lv_iload hx hb dL_law_1920 (lv_at hl 4 rfl) ?_
  refine q_iconst hx hb dL_law_1922 ?_
  refine q_iadd hx hb dL_law_1923 ?_
  refine q_sld hx hb hXs hbl hbA hS (by omega) hN4 dL_law_1924 ?_
  have sb_1 := sxI_b xs (7 * k + 2)
  refine lv_aload_n hx hb dL_law_1925 rfl (lv_at hl 0 rfl) ?_
  refine lv_iload hx hb dL_law_1926 (lv_at hl 4 rfl) ?_
  refine q_iconst hx hb dL_law_1928 ?_
  refine q_iadd hx hb dL_law_1929 ?_
  refine q_sld hx hb hXs hbl hbA hS (by omega) hN4 dL_law_1930 ?_
  have sb_2 := sxI_b xs (7 * k + 3)
  refine lv_aload_n hx hb dL_law_1931 rfl (lv_at hl 3 rfl) ?_
  have t_ := c_L_shelfBoth l hfl D y sl L F H.size O G σ (sxI xs (7 * k + 1)) (sxI xs (7 * k + 2)) (sxI xs (7 * k + 3)) ou nv sv hC hW (by omega) (by omega) (by omega) ha_ou hF_ou (fun z => (d1 ou z).2.2 rfl)
  rw [hg] at t_
  refine q_sT C0 tL_271 t_ ⟨rfl, rfl⟩ rfl hJ hN (XS_of hXS hS hD) hP hD hS hA rfl hl rfl (Nat.le_of_ble_eq_true rfl) dL_law_1932 ⟨by show _ ≤ 600128; omega, by show _ ≤ 7301098; omega⟩ (fun r H locs L1 F1 hP hD hS hz_ hp => ?_)
  obtain ⟨O1, G1, σ1, n1, s1, hC1, hg1, hs1, hf1, hO1, hF1, hq⟩ := hp
  have e1 : σ1 = cS_shelfBoth σ (sxI xs (7 * k + 1)) (sxI xs (7 * k + 2)) (sxI xs (7 * k + 3)) := cS_of hq
  have hI1 := LI_c hg hMP hv d1 d2 ha_ou hC1 hg1 hs1 hf1 hO1 hF1
  rw [e1] at hI1
  obtain ⟨O, G, U, V, nv, sv, hC, hg, hMP, hv, d1, d2, ha_ou, hF_ou⟩ := hI1
  refine lv_istore (lv' := [(5, .int (iI r)), (0, .ref b), (1, .ref bg), (2, .ref mg), (3, .ref ou), (4, .int (iI (7 * k)))]) hx hb dL_law_1935 hl (by decide) rfl (fun ls hl => ?_)
  refine lv_aload_n hx hb dL_law_1937 rfl (lv_at hl 3 rfl) ?_
  refine lv_aload_n hx hb dL_law_1938 rfl (lv_at hl 1 rfl) ?_
  refine lv_iload hx hb dL_law_1939 (lv_at hl 5 rfl) ?_
  refine q_iconst hx hb dL_law_1941 ?_
  refine q_iadd hx hb dL_law_1942 ?_
  refine q_sld hx hb hXs hbl hbA hS (by omega) hN4 dL_law_1943 ?_
  refine lv_aload_n hx hb dL_law_1944 rfl (lv_at hl 1 rfl) ?_
  refine lv_iload hx hb dL_law_1945 (lv_at hl 5 rfl) ?_
  refine q_iconst hx hb dL_law_1947 ?_
  refine q_iadd hx hb dL_law_1948 ?_
  refine q_sld hx hb hXs hbl hbA hS (by omega) hN4 dL_law_1949 ?_
  refine lv_aload_n hx hb dL_law_1950 rfl (lv_at hl 1 rfl) ?_
  refine lv_iload hx hb dL_law_1951 (lv_at hl 5 rfl) ?_
  refine q_iconst hx hb dL_law_1953 ?_
  refine q_iadd hx hb dL_law_1954 ?_
  refine q_sld hx hb hXs hbl hbA hS (by omega) hN4 dL_law_1955 ?_
  have t_ := c_X6_shelfBoth l D y L1 F1 H.size U V μ (sxI xs (7 * k + 1)) (sxI xs (7 * k + 2)) (sxI xs (7 * k + 3)) hMP hM (by omega) (by omega) (by omega)
  rw [hv] at t_
  refine q_vMi C0 lL_273 t_ ⟨rfl, rfl⟩ rfl hP hD hS hA (by rw [← hv]; exact hMP.1.1) (show F1 mg = mE V μ from by rw [← hv]; exact hMP.1.2) rfl rfl rfl hl rfl (Nat.le_of_ble_eq_true rfl) dL_law_1956 ⟨by show _ ≤ 600128; omega, by show _ ≤ 7301098; omega⟩ (fun r9 H locs L2 F2 hP hD hS hz_ hp => ?_)
  obtain ⟨er9, U1, V1, hM1, hv1, hE1⟩ := hp
  have hI2 := LI_m hC hg d1 d2 ha_ou hF_ou hM1 hv1 hE1
  refine lv_istore (lv' := [(6, .int (iI r9)), (5, .int (iI r)), (0, .ref b), (1, .ref bg), (2, .ref mg), (3, .ref ou), (4, .int (iI (7 * k)))]) hx hb dL_law_1959 hl (by decide) rfl (fun ls hl => ?_)
  refine lv_goto (tgt := 2327) hx hb dL_law_1961 (by decide) ?_
  refine W.widen (k := cells + 3600) (n := slots + 10000) (by omega) (by omega) ?_
  exact kk _ _ _ _ hP hD hS hI2 ls (lv_sub hl [2, 3, 4, 5, 6] rfl)
set_option maxHeartbeats 1600000 in
set_option maxRecDepth 100000 in
theorem K_shelfDrop {p : Program} {l : Launch} {e : Env} {s : State} {m : MethodId} {below : List Frame} {meth : Method} {c : Code} {b N : Nat} {xs : Nat → Int32} {D : va_G} {y : Nat → ClassId} {sl : List (Nat × Nat × Nat)} {Q : State → Prop} (hfl : l.stackTraces = false) (X : LX D y sl p c s m b N xs) {k : Int} (hk : 0 ≤ k ∧ 7 * k + 6 < N) {L : List Nat} {F : Nat → va_E} {σ : CS} {μ : MS} {H : Heap} {locs : List Loc} {cells slots bg mg ou : Nat} (hcs : cells + 3600 ≤ 600128 ∧ slots + 10000 ≤ 7301098) (hP : va_P D vwCl (va_pl L F) H) (hD : va_D (AL [] s.heap.size) (va_pl L F)) (hS : va_S (AL [] s.heap.size) s.heap H locs) (hI : LI y L F bg mg ou σ μ) (hW : CW σ) (hM : MW μ)
    (kk : ∀ (H1 : Heap) (locs1 : List Loc) (L1 : List Nat) (F1 : Nat → va_E), va_P D vwCl (va_pl L1 F1) H1 → va_D (AL [] s.heap.size) (va_pl L1 F1) → va_S (AL [] s.heap.size) s.heap H1 locs1 → LI y L1 F1 bg mg ou (cS_shelfDrop σ (sxI xs (7 * k + 1)) (sxI xs (7 * k + 2))) (jS_shelfDrop μ (sxI xs (7 * k + 1)) (sxI xs (7 * k + 2))) → ∀ ls : Array Slot, lv_has ls 7 [(0, .ref b), (1, .ref bg), (2, .ref mg), (3, .ref ou), (4, .int (iI (7 * k)))] → W p l e room_1 s m #[.ref b] below meth c H1 locs1 (cells + 3600) (slots + 10000) Q (F0 m 2327 ls [])) : ∀ ls : Array Slot, lv_has ls 7 [(0, .ref b), (1, .ref bg), (2, .ref mg), (3, .ref ou), (4, .int (iI (7 * k)))] → W p l e room_1 s m #[.ref b] below meth c H locs cells slots Q (F0 m 1964 ls []) := by
  intro ls hl
  obtain ⟨C0, hJ, hN, hXS, hXs, hbl, hN4⟩ := X
  have hx := C0.1.1
  have hb := C0.1.2.1
  have hts := C0.1.2.2.2.2
  have hbA := AL_nil hbl
  have hA : ∀ q, s.heap.size ≤ q → AL [] s.heap.size q := fun q h => Or.inr h
  obtain ⟨O, G, U, V, nv, sv, hC, hg, hMP, hv, d1, d2, ha_ou, hF_ou⟩ := hI
  refine lv_aload_n hx hb dL_law_1964 rfl (lv_at hl 1 rfl) ?_
  refine lv_aload_n hx hb dL_law_1965 rfl (lv_at hl 0 rfl) ?_
  refine lv_iload hx hb dL_law_1966 (lv_at hl 4 rfl) ?_
  refine q_iconst hx hb dL_law_1968 ?_
  refine q_iadd hx hb dL_law_1969 ?_
  refine q_sld hx hb hXs hbl hbA hS (by omega) hN4 dL_law_1970 ?_
  have sb_0 := sxI_b xs (7 * k + 1)
  refine lv_aload_n hx hb dL_law_1971 rfl (lv_at hl 0 rfl) ?_
  refine lv_iload hx hb dL_law_1972 (lv_at hl 4 rfl) ?_
  refine q_iconst hx hb dL_law_1974 ?_
  refine q_iadd hx hb dL_law_1975 ?_
  refine q_sld hx hb hXs hbl hbA hS (by omega) hN4 dL_law_1976 ?_
  have sb_1 := sxI_b xs (7 * k + 2)
  refine lv_aload_n hx hb dL_law_1977 rfl (lv_at hl 3 rfl) ?_
  have t_ := c_L_shelfDrop l hfl D y sl L F H.size O G σ (sxI xs (7 * k + 1)) (sxI xs (7 * k + 2)) ou nv sv hC hW (by omega) (by omega) ha_ou hF_ou (fun z => (d1 ou z).2.2 rfl)
  rw [hg] at t_
  refine q_sT C0 tL_274 t_ ⟨rfl, rfl⟩ rfl hJ hN (XS_of hXS hS hD) hP hD hS hA rfl hl rfl (Nat.le_of_ble_eq_true rfl) dL_law_1978 ⟨by show _ ≤ 600128; omega, by show _ ≤ 7301098; omega⟩ (fun r H locs L1 F1 hP hD hS hz_ hp => ?_)
  obtain ⟨O1, G1, σ1, n1, s1, hC1, hg1, hs1, hf1, hO1, hF1, hq⟩ := hp
  have e1 : σ1 = cS_shelfDrop σ (sxI xs (7 * k + 1)) (sxI xs (7 * k + 2)) := cS_of hq
  have hI1 := LI_c hg hMP hv d1 d2 ha_ou hC1 hg1 hs1 hf1 hO1 hF1
  rw [e1] at hI1
  obtain ⟨O, G, U, V, nv, sv, hC, hg, hMP, hv, d1, d2, ha_ou, hF_ou⟩ := hI1
  refine lv_istore (lv' := [(5, .int (iI r)), (0, .ref b), (1, .ref bg), (2, .ref mg), (3, .ref ou), (4, .int (iI (7 * k)))]) hx hb dL_law_1981 hl (by decide) rfl (fun ls hl => ?_)
  refine lv_aload_n hx hb dL_law_1983 rfl (lv_at hl 3 rfl) ?_
  refine lv_aload_n hx hb dL_law_1984 rfl (lv_at hl 1 rfl) ?_
  refine lv_iload hx hb dL_law_1985 (lv_at hl 5 rfl) ?_
  refine q_iconst hx hb dL_law_1987 ?_
  refine q_iadd hx hb dL_law_1988 ?_
  refine q_sld hx hb hXs hbl hbA hS (by omega) hN4 dL_law_1989 ?_
  refine lv_aload_n hx hb dL_law_1990 rfl (lv_at hl 1 rfl) ?_
  refine lv_iload hx hb dL_law_1991 (lv_at hl 5 rfl) ?_
  refine q_iconst hx hb dL_law_1993 ?_
  refine q_iadd hx hb dL_law_1994 ?_
  refine q_sld hx hb hXs hbl hbA hS (by omega) hN4 dL_law_1995 ?_
  have t_ := c_X6_shelfDrop l D y L1 F1 H.size U V μ (sxI xs (7 * k + 1)) (sxI xs (7 * k + 2)) hMP hM (by omega) (by omega)
  rw [hv] at t_
  refine q_vMi C0 lL_276 t_ ⟨rfl, rfl⟩ rfl hP hD hS hA (by rw [← hv]; exact hMP.1.1) (show F1 mg = mE V μ from by rw [← hv]; exact hMP.1.2) rfl rfl rfl hl rfl (Nat.le_of_ble_eq_true rfl) dL_law_1996 ⟨by show _ ≤ 600128; omega, by show _ ≤ 7301098; omega⟩ (fun r9 H locs L2 F2 hP hD hS hz_ hp => ?_)
  obtain ⟨er9, U1, V1, hM1, hv1, hE1⟩ := hp
  have hI2 := LI_m hC hg d1 d2 ha_ou hF_ou hM1 hv1 hE1
  refine lv_istore (lv' := [(6, .int (iI r9)), (5, .int (iI r)), (0, .ref b), (1, .ref bg), (2, .ref mg), (3, .ref ou), (4, .int (iI (7 * k)))]) hx hb dL_law_1999 hl (by decide) rfl (fun ls hl => ?_)
  refine lv_goto (tgt := 2327) hx hb dL_law_2001 (by decide) ?_
  refine W.widen (k := cells + 3600) (n := slots + 10000) (by omega) (by omega) ?_
  exact kk _ _ _ _ hP hD hS hI2 ls (lv_sub hl [2, 3, 4, 5, 6] rfl)
set_option maxHeartbeats 1600000 in
set_option maxRecDepth 100000 in
theorem K_shelfCut {p : Program} {l : Launch} {e : Env} {s : State} {m : MethodId} {below : List Frame} {meth : Method} {c : Code} {b N : Nat} {xs : Nat → Int32} {D : va_G} {y : Nat → ClassId} {sl : List (Nat × Nat × Nat)} {Q : State → Prop} (hfl : l.stackTraces = false) (X : LX D y sl p c s m b N xs) {k : Int} (hk : 0 ≤ k ∧ 7 * k + 6 < N) {L : List Nat} {F : Nat → va_E} {σ : CS} {μ : MS} {H : Heap} {locs : List Loc} {cells slots bg mg ou : Nat} (hcs : cells + 3600 ≤ 600128 ∧ slots + 10000 ≤ 7301098) (hP : va_P D vwCl (va_pl L F) H) (hD : va_D (AL [] s.heap.size) (va_pl L F)) (hS : va_S (AL [] s.heap.size) s.heap H locs) (hI : LI y L F bg mg ou σ μ) (hW : CW σ) (hM : MW μ)
    (kk : ∀ (H1 : Heap) (locs1 : List Loc) (L1 : List Nat) (F1 : Nat → va_E), va_P D vwCl (va_pl L1 F1) H1 → va_D (AL [] s.heap.size) (va_pl L1 F1) → va_S (AL [] s.heap.size) s.heap H1 locs1 → LI y L1 F1 bg mg ou (cS_shelfCut σ (sxI xs (7 * k + 1)) (sxI xs (7 * k + 2)) (sxI xs (7 * k + 3)) (sxI xs (7 * k + 4)) (sxI xs (7 * k + 5))) (jS_shelfCut μ (sxI xs (7 * k + 1)) (sxI xs (7 * k + 2)) (sxI xs (7 * k + 3)) (sxI xs (7 * k + 4)) (sxI xs (7 * k + 5))) → ∀ ls : Array Slot, lv_has ls 7 [(0, .ref b), (1, .ref bg), (2, .ref mg), (3, .ref ou), (4, .int (iI (7 * k)))] → W p l e room_1 s m #[.ref b] below meth c H1 locs1 (cells + 3600) (slots + 10000) Q (F0 m 2327 ls [])) : ∀ ls : Array Slot, lv_has ls 7 [(0, .ref b), (1, .ref bg), (2, .ref mg), (3, .ref ou), (4, .int (iI (7 * k)))] → W p l e room_1 s m #[.ref b] below meth c H locs cells slots Q (F0 m 2004 ls []) := by
  intro ls hl
  obtain ⟨C0, hJ, hN, hXS, hXs, hbl, hN4⟩ := X
  have hx := C0.1.1
  have hb := C0.1.2.1
  have hts := C0.1.2.2.2.2
  have hbA := AL_nil hbl
  have hA : ∀ q, s.heap.size ≤ q → AL [] s.heap.size q := fun q h => Or.inr h
  obtain ⟨O, G, U, V, nv, sv, hC, hg, hMP, hv, d1, d2, ha_ou, hF_ou⟩ := hI
  refine lv_aload_n hx hb dL_law_2004 rfl (lv_at hl 1 rfl) ?_
  refine lv_aload_n hx hb dL_law_2005 rfl (lv_at hl 0 rfl) ?_
  refine lv_iload hx hb dL_law_2006 (lv_at hl 4 rfl) ?_
  refine q_iconst hx hb dL_law_2008 ?_
  refine q_iadd hx hb dL_law_2009 ?_
  refine q_sld hx hb hXs hbl hbA hS (by omega) hN4 dL_law_2010 ?_
  have sb_0 := sxI_b xs (7 * k + 1)
  refine lv_aload_n hx hb dL_law_2011 rfl (lv_at hl 0 rfl) ?_
  refine lv_iload hx hb dL_law_2012 (lv_at hl 4 rfl) ?_
  refine q_iconst hx hb dL_law_2014 ?_
  refine q_iadd hx hb dL_law_2015 ?_
  refine q_sld hx hb hXs hbl hbA hS (by omega) hN4 dL_law_2016 ?_
  have sb_1 := sxI_b xs (7 * k + 2)
  refine lv_aload_n hx hb dL_law_2017 rfl (lv_at hl 0 rfl) ?_
  refine lv_iload hx hb dL_law_2018 (lv_at hl 4 rfl) ?_
  refine q_iconst hx hb dL_law_2020 ?_
  refine q_iadd hx hb dL_law_2021 ?_
  refine q_sld hx hb hXs hbl hbA hS (by omega) hN4 dL_law_2022 ?_
  have sb_2 := sxI_b xs (7 * k + 3)
  refine lv_aload_n hx hb dL_law_2023 rfl (lv_at hl 0 rfl) ?_
  refine lv_iload hx hb dL_law_2024 (lv_at hl 4 rfl) ?_
  refine q_iconst hx hb dL_law_2026 ?_
  refine q_iadd hx hb dL_law_2027 ?_
  refine q_sld hx hb hXs hbl hbA hS (by omega) hN4 dL_law_2028 ?_
  have sb_3 := sxI_b xs (7 * k + 4)
  refine lv_aload_n hx hb dL_law_2029 rfl (lv_at hl 0 rfl) ?_
  refine lv_iload hx hb dL_law_2030 (lv_at hl 4 rfl) ?_
  refine q_iconst hx hb dL_law_2032 ?_
  refine q_iadd hx hb dL_law_2033 ?_
  refine q_sld hx hb hXs hbl hbA hS (by omega) hN4 dL_law_2034 ?_
  have sb_4 := sxI_b xs (7 * k + 5)
  refine lv_aload_n hx hb dL_law_2035 rfl (lv_at hl 3 rfl) ?_
  have t_ := c_L_shelfCut l hfl D y sl L F H.size O G σ (sxI xs (7 * k + 1)) (sxI xs (7 * k + 2)) (sxI xs (7 * k + 3)) (sxI xs (7 * k + 4)) (sxI xs (7 * k + 5)) ou nv sv hC hW (by omega) (by omega) (by omega) (by omega) (by omega) ha_ou hF_ou (fun z => (d1 ou z).2.2 rfl)
  rw [hg] at t_
  refine q_sT C0 tL_277 t_ ⟨rfl, rfl⟩ rfl hJ hN (XS_of hXS hS hD) hP hD hS hA rfl hl rfl (Nat.le_of_ble_eq_true rfl) dL_law_2036 ⟨by show _ ≤ 600128; omega, by show _ ≤ 7301098; omega⟩ (fun r H locs L1 F1 hP hD hS hz_ hp => ?_)
  obtain ⟨O1, G1, σ1, n1, s1, hC1, hg1, hs1, hf1, hO1, hF1, hq⟩ := hp
  have e1 : σ1 = cS_shelfCut σ (sxI xs (7 * k + 1)) (sxI xs (7 * k + 2)) (sxI xs (7 * k + 3)) (sxI xs (7 * k + 4)) (sxI xs (7 * k + 5)) := cS_of hq
  have hI1 := LI_c hg hMP hv d1 d2 ha_ou hC1 hg1 hs1 hf1 hO1 hF1
  rw [e1] at hI1
  obtain ⟨O, G, U, V, nv, sv, hC, hg, hMP, hv, d1, d2, ha_ou, hF_ou⟩ := hI1
  refine lv_istore (lv' := [(5, .int (iI r)), (0, .ref b), (1, .ref bg), (2, .ref mg), (3, .ref ou), (4, .int (iI (7 * k)))]) hx hb dL_law_2039 hl (by decide) rfl (fun ls hl => ?_)
  refine lv_aload_n hx hb dL_law_2041 rfl (lv_at hl 3 rfl) ?_
  refine lv_aload_n hx hb dL_law_2042 rfl (lv_at hl 1 rfl) ?_
  refine lv_iload hx hb dL_law_2043 (lv_at hl 5 rfl) ?_
  refine q_iconst hx hb dL_law_2045 ?_
  refine q_iadd hx hb dL_law_2046 ?_
  refine q_sld hx hb hXs hbl hbA hS (by omega) hN4 dL_law_2047 ?_
  refine lv_aload_n hx hb dL_law_2048 rfl (lv_at hl 1 rfl) ?_
  refine lv_iload hx hb dL_law_2049 (lv_at hl 5 rfl) ?_
  refine q_iconst hx hb dL_law_2051 ?_
  refine q_iadd hx hb dL_law_2052 ?_
  refine q_sld hx hb hXs hbl hbA hS (by omega) hN4 dL_law_2053 ?_
  refine lv_aload_n hx hb dL_law_2054 rfl (lv_at hl 1 rfl) ?_
  refine lv_iload hx hb dL_law_2055 (lv_at hl 5 rfl) ?_
  refine q_iconst hx hb dL_law_2057 ?_
  refine q_iadd hx hb dL_law_2058 ?_
  refine q_sld hx hb hXs hbl hbA hS (by omega) hN4 dL_law_2059 ?_
  refine lv_aload_n hx hb dL_law_2060 rfl (lv_at hl 1 rfl) ?_
  refine lv_iload hx hb dL_law_2061 (lv_at hl 5 rfl) ?_
  refine q_iconst hx hb dL_law_2063 ?_
  refine q_iadd hx hb dL_law_2064 ?_
  refine q_sld hx hb hXs hbl hbA hS (by omega) hN4 dL_law_2065 ?_
  refine lv_aload_n hx hb dL_law_2066 rfl (lv_at hl 1 rfl) ?_
  refine lv_iload hx hb dL_law_2067 (lv_at hl 5 rfl) ?_
  refine q_iconst hx hb dL_law_2069 ?_
  refine q_iadd hx hb dL_law_2070 ?_
  refine q_sld hx hb hXs hbl hbA hS (by omega) hN4 dL_law_2071 ?_
  have t_ := c_X6_shelfCut l D y L1 F1 H.size U V μ (sxI xs (7 * k + 1)) (sxI xs (7 * k + 2)) (sxI xs (7 * k + 3)) (sxI xs (7 * k + 4)) (sxI xs (7 * k + 5)) hMP hM (by omega) (by omega) (by omega) (by omega) (by omega)
  rw [hv] at t_
  refine q_vMi C0 lL_279 t_ ⟨rfl, rfl⟩ rfl hP hD hS hA (by rw [← hv]; exact hMP.1.1) (show F1 mg = mE V μ from by rw [← hv]; exact hMP.1.2) rfl rfl rfl hl rfl (Nat.le_of_ble_eq_true rfl) dL_law_2072 ⟨by show _ ≤ 600128; omega, by show _ ≤ 7301098; omega⟩ (fun r9 H locs L2 F2 hP hD hS hz_ hp => ?_)
  obtain ⟨er9, U1, V1, hM1, hv1, hE1⟩ := hp
  have hI2 := LI_m hC hg d1 d2 ha_ou hF_ou hM1 hv1 hE1
  refine lv_istore (lv' := [(6, .int (iI r9)), (5, .int (iI r)), (0, .ref b), (1, .ref bg), (2, .ref mg), (3, .ref ou), (4, .int (iI (7 * k)))]) hx hb dL_law_2075 hl (by decide) rfl (fun ls hl => ?_)
  refine lv_goto (tgt := 2327) hx hb dL_law_2077 (by decide) ?_
  refine W.widen (k := cells + 3600) (n := slots + 10000) (by omega) (by omega) ?_
  exact kk _ _ _ _ hP hD hS hI2 ls (lv_sub hl [2, 3, 4, 5, 6] rfl)
set_option maxHeartbeats 1600000 in
set_option maxRecDepth 100000 in
theorem K_shelfNear {p : Program} {l : Launch} {e : Env} {s : State} {m : MethodId} {below : List Frame} {meth : Method} {c : Code} {b N : Nat} {xs : Nat → Int32} {D : va_G} {y : Nat → ClassId} {sl : List (Nat × Nat × Nat)} {Q : State → Prop} (hfl : l.stackTraces = false) (X : LX D y sl p c s m b N xs) {k : Int} (hk : 0 ≤ k ∧ 7 * k + 6 < N) {L : List Nat} {F : Nat → va_E} {σ : CS} {μ : MS} {H : Heap} {locs : List Loc} {cells slots bg mg ou : Nat} (hcs : cells + 3600 ≤ 600128 ∧ slots + 10000 ≤ 7301098) (hP : va_P D vwCl (va_pl L F) H) (hD : va_D (AL [] s.heap.size) (va_pl L F)) (hS : va_S (AL [] s.heap.size) s.heap H locs) (hI : LI y L F bg mg ou σ μ) (hW : CW σ) (hM : MW μ)
    (kk : ∀ (H1 : Heap) (locs1 : List Loc) (L1 : List Nat) (F1 : Nat → va_E), va_P D vwCl (va_pl L1 F1) H1 → va_D (AL [] s.heap.size) (va_pl L1 F1) → va_S (AL [] s.heap.size) s.heap H1 locs1 → LI y L1 F1 bg mg ou (cS_shelfNear σ (sxI xs (7 * k + 1)) (sxI xs (7 * k + 2)) (sxI xs (7 * k + 3))) (jS_shelfNear μ (sxI xs (7 * k + 1)) (sxI xs (7 * k + 2)) (sxI xs (7 * k + 3))) → ∀ ls : Array Slot, lv_has ls 7 [(0, .ref b), (1, .ref bg), (2, .ref mg), (3, .ref ou), (4, .int (iI (7 * k)))] → W p l e room_1 s m #[.ref b] below meth c H1 locs1 (cells + 3600) (slots + 10000) Q (F0 m 2327 ls [])) : ∀ ls : Array Slot, lv_has ls 7 [(0, .ref b), (1, .ref bg), (2, .ref mg), (3, .ref ou), (4, .int (iI (7 * k)))] → W p l e room_1 s m #[.ref b] below meth c H locs cells slots Q (F0 m 2080 ls []) := by
  intro ls hl
  obtain ⟨C0, hJ, hN, hXS, hXs, hbl, hN4⟩ := X
  have hx := C0.1.1
  have hb := C0.1.2.1
  have hts := C0.1.2.2.2.2
  have hbA := AL_nil hbl
  have hA : ∀ q, s.heap.size ≤ q → AL [] s.heap.size q := fun q h => Or.inr h
  obtain ⟨O, G, U, V, nv, sv, hC, hg, hMP, hv, d1, d2, ha_ou, hF_ou⟩ := hI
  refine lv_aload_n hx hb dL_law_2080 rfl (lv_at hl 1 rfl) ?_
  refine lv_aload_n hx hb dL_law_2081 rfl (lv_at hl 0 rfl) ?_
  refine lv_iload hx hb dL_law_2082 (lv_at hl 4 rfl) ?_
  refine q_iconst hx hb dL_law_2084 ?_
  refine q_iadd hx hb dL_law_2085 ?_
  refine q_sld hx hb hXs hbl hbA hS (by omega) hN4 dL_law_2086 ?_
  have sb_0 := sxI_b xs (7 * k + 1)
  refine lv_aload_n hx hb dL_law_2087 rfl (lv_at hl 0 rfl) ?_
  refine lv_iload hx hb dL_law_2088 (lv_at hl 4 rfl) ?_
  refine q_iconst hx hb dL_law_2090 ?_
  refine q_iadd hx hb dL_law_2091 ?_
  refine q_sld hx hb hXs hbl hbA hS (by omega) hN4 dL_law_2092 ?_
  have sb_1 := sxI_b xs (7 * k + 2)
  refine lv_aload_n hx hb dL_law_2093 rfl (lv_at hl 0 rfl) ?_
  refine lv_iload hx hb dL_law_2094 (lv_at hl 4 rfl) ?_
  refine q_iconst hx hb dL_law_2096 ?_
  refine q_iadd hx hb dL_law_2097 ?_
  refine q_sld hx hb hXs hbl hbA hS (by omega) hN4 dL_law_2098 ?_
  have sb_2 := sxI_b xs (7 * k + 3)
  refine lv_aload_n hx hb dL_law_2099 rfl (lv_at hl 3 rfl) ?_
  have t_ := c_L_shelfNear l hfl D y sl L F H.size O G σ (sxI xs (7 * k + 1)) (sxI xs (7 * k + 2)) (sxI xs (7 * k + 3)) ou nv sv hC hW (by omega) (by omega) (by omega) ha_ou hF_ou (fun z => (d1 ou z).2.2 rfl)
  rw [hg] at t_
  refine q_sT C0 tL_280 t_ ⟨rfl, rfl⟩ rfl hJ hN (XS_of hXS hS hD) hP hD hS hA rfl hl rfl (Nat.le_of_ble_eq_true rfl) dL_law_2100 ⟨by show _ ≤ 600128; omega, by show _ ≤ 7301098; omega⟩ (fun r H locs L1 F1 hP hD hS hz_ hp => ?_)
  obtain ⟨O1, G1, σ1, n1, s1, hC1, hg1, hs1, hf1, hO1, hF1, hq⟩ := hp
  have e1 : σ1 = cS_shelfNear σ (sxI xs (7 * k + 1)) (sxI xs (7 * k + 2)) (sxI xs (7 * k + 3)) := cS_of hq
  have hI1 := LI_c hg hMP hv d1 d2 ha_ou hC1 hg1 hs1 hf1 hO1 hF1
  rw [e1] at hI1
  obtain ⟨O, G, U, V, nv, sv, hC, hg, hMP, hv, d1, d2, ha_ou, hF_ou⟩ := hI1
  refine lv_istore (lv' := [(5, .int (iI r)), (0, .ref b), (1, .ref bg), (2, .ref mg), (3, .ref ou), (4, .int (iI (7 * k)))]) hx hb dL_law_2103 hl (by decide) rfl (fun ls hl => ?_)
  refine lv_aload_n hx hb dL_law_2105 rfl (lv_at hl 3 rfl) ?_
  refine lv_aload_n hx hb dL_law_2106 rfl (lv_at hl 1 rfl) ?_
  refine lv_iload hx hb dL_law_2107 (lv_at hl 5 rfl) ?_
  refine q_iconst hx hb dL_law_2109 ?_
  refine q_iadd hx hb dL_law_2110 ?_
  refine q_sld hx hb hXs hbl hbA hS (by omega) hN4 dL_law_2111 ?_
  refine lv_aload_n hx hb dL_law_2112 rfl (lv_at hl 1 rfl) ?_
  refine lv_iload hx hb dL_law_2113 (lv_at hl 5 rfl) ?_
  refine q_iconst hx hb dL_law_2115 ?_
  refine q_iadd hx hb dL_law_2116 ?_
  refine q_sld hx hb hXs hbl hbA hS (by omega) hN4 dL_law_2117 ?_
  refine lv_aload_n hx hb dL_law_2118 rfl (lv_at hl 1 rfl) ?_
  refine lv_iload hx hb dL_law_2119 (lv_at hl 5 rfl) ?_
  refine q_iconst hx hb dL_law_2121 ?_
  refine q_iadd hx hb dL_law_2122 ?_
  refine q_sld hx hb hXs hbl hbA hS (by omega) hN4 dL_law_2123 ?_
  have t_ := c_X6_shelfNear l D y L1 F1 H.size U V μ (sxI xs (7 * k + 1)) (sxI xs (7 * k + 2)) (sxI xs (7 * k + 3)) hMP hM (by omega) (by omega) (by omega)
  rw [hv] at t_
  refine q_vMi C0 lL_282 t_ ⟨rfl, rfl⟩ rfl hP hD hS hA (by rw [← hv]; exact hMP.1.1) (show F1 mg = mE V μ from by rw [← hv]; exact hMP.1.2) rfl rfl rfl hl rfl (Nat.le_of_ble_eq_true rfl) dL_law_2124 ⟨by show _ ≤ 600128; omega, by show _ ≤ 7301098; omega⟩ (fun r9 H locs L2 F2 hP hD hS hz_ hp => ?_)
  obtain ⟨er9, U1, V1, hM1, hv1, hE1⟩ := hp
  have hI2 := LI_m hC hg d1 d2 ha_ou hF_ou hM1 hv1 hE1
  refine lv_istore (lv' := [(6, .int (iI r9)), (5, .int (iI r)), (0, .ref b), (1, .ref bg), (2, .ref mg), (3, .ref ou), (4, .int (iI (7 * k)))]) hx hb dL_law_2127 hl (by decide) rfl (fun ls hl => ?_)
  refine lv_goto (tgt := 2327) hx hb dL_law_2129 (by decide) ?_
  refine W.widen (k := cells + 3600) (n := slots + 10000) (by omega) (by omega) ?_
  exact kk _ _ _ _ hP hD hS hI2 ls (lv_sub hl [2, 3, 4, 5, 6] rfl)
set_option maxHeartbeats 1600000 in
set_option maxRecDepth 100000 in
theorem K_shelfTell {p : Program} {l : Launch} {e : Env} {s : State} {m : MethodId} {below : List Frame} {meth : Method} {c : Code} {b N : Nat} {xs : Nat → Int32} {D : va_G} {y : Nat → ClassId} {sl : List (Nat × Nat × Nat)} {Q : State → Prop} (hfl : l.stackTraces = false) (X : LX D y sl p c s m b N xs) {k : Int} (hk : 0 ≤ k ∧ 7 * k + 6 < N) {L : List Nat} {F : Nat → va_E} {σ : CS} {μ : MS} {H : Heap} {locs : List Loc} {cells slots bg mg ou : Nat} (hcs : cells + 3600 ≤ 600128 ∧ slots + 10000 ≤ 7301098) (hP : va_P D vwCl (va_pl L F) H) (hD : va_D (AL [] s.heap.size) (va_pl L F)) (hS : va_S (AL [] s.heap.size) s.heap H locs) (hI : LI y L F bg mg ou σ μ) (hW : CW σ) (hM : MW μ)
    (kk : ∀ (H1 : Heap) (locs1 : List Loc) (L1 : List Nat) (F1 : Nat → va_E), va_P D vwCl (va_pl L1 F1) H1 → va_D (AL [] s.heap.size) (va_pl L1 F1) → va_S (AL [] s.heap.size) s.heap H1 locs1 → LI y L1 F1 bg mg ou (cS_shelfTell σ (sxI xs (7 * k + 1)) (sxI xs (7 * k + 2))) (jS_shelfTell μ (sxI xs (7 * k + 1)) (sxI xs (7 * k + 2))) → ∀ ls : Array Slot, lv_has ls 7 [(0, .ref b), (1, .ref bg), (2, .ref mg), (3, .ref ou), (4, .int (iI (7 * k)))] → W p l e room_1 s m #[.ref b] below meth c H1 locs1 (cells + 3600) (slots + 10000) Q (F0 m 2327 ls [])) : ∀ ls : Array Slot, lv_has ls 7 [(0, .ref b), (1, .ref bg), (2, .ref mg), (3, .ref ou), (4, .int (iI (7 * k)))] → W p l e room_1 s m #[.ref b] below meth c H locs cells slots Q (F0 m 2132 ls []) := by
  intro ls hl
  obtain ⟨C0, hJ, hN, hXS, hXs, hbl, hN4⟩ := X
  have hx := C0.1.1
  have hb := C0.1.2.1
  have hts := C0.1.2.2.2.2
  have hbA := AL_nil hbl
  have hA : ∀ q, s.heap.size ≤ q → AL [] s.heap.size q := fun q h => Or.inr h
  obtain ⟨O, G, U, V, nv, sv, hC, hg, hMP, hv, d1, d2, ha_ou, hF_ou⟩ := hI
  refine lv_aload_n hx hb dL_law_2132 rfl (lv_at hl 1 rfl) ?_
  refine lv_aload_n hx hb dL_law_2133 rfl (lv_at hl 0 rfl) ?_
  refine lv_iload hx hb dL_law_2134 (lv_at hl 4 rfl) ?_
  refine q_iconst hx hb dL_law_2136 ?_
  refine q_iadd hx hb dL_law_2137 ?_
  refine q_sld hx hb hXs hbl hbA hS (by omega) hN4 dL_law_2138 ?_
  have sb_0 := sxI_b xs (7 * k + 1)
  refine lv_aload_n hx hb dL_law_2139 rfl (lv_at hl 0 rfl) ?_
  refine lv_iload hx hb dL_law_2140 (lv_at hl 4 rfl) ?_
  refine q_iconst hx hb dL_law_2142 ?_
  refine q_iadd hx hb dL_law_2143 ?_
  refine q_sld hx hb hXs hbl hbA hS (by omega) hN4 dL_law_2144 ?_
  have sb_1 := sxI_b xs (7 * k + 2)
  refine lv_aload_n hx hb dL_law_2145 rfl (lv_at hl 3 rfl) ?_
  have t_ := c_L_shelfTell l hfl D y sl L F H.size O G σ (sxI xs (7 * k + 1)) (sxI xs (7 * k + 2)) ou nv sv hC hW (by omega) (by omega) ha_ou hF_ou (fun z => (d1 ou z).2.2 rfl)
  rw [hg] at t_
  refine q_sT C0 tL_283 t_ ⟨rfl, rfl⟩ rfl hJ hN (XS_of hXS hS hD) hP hD hS hA rfl hl rfl (Nat.le_of_ble_eq_true rfl) dL_law_2146 ⟨by show _ ≤ 600128; omega, by show _ ≤ 7301098; omega⟩ (fun r H locs L1 F1 hP hD hS hz_ hp => ?_)
  obtain ⟨O1, G1, σ1, n1, s1, hC1, hg1, hs1, hf1, hO1, hF1, hq⟩ := hp
  have e1 : σ1 = cS_shelfTell σ (sxI xs (7 * k + 1)) (sxI xs (7 * k + 2)) := cS_of hq
  have hI1 := LI_c hg hMP hv d1 d2 ha_ou hC1 hg1 hs1 hf1 hO1 hF1
  rw [e1] at hI1
  obtain ⟨O, G, U, V, nv, sv, hC, hg, hMP, hv, d1, d2, ha_ou, hF_ou⟩ := hI1
  refine lv_istore (lv' := [(5, .int (iI r)), (0, .ref b), (1, .ref bg), (2, .ref mg), (3, .ref ou), (4, .int (iI (7 * k)))]) hx hb dL_law_2149 hl (by decide) rfl (fun ls hl => ?_)
  refine lv_aload_n hx hb dL_law_2151 rfl (lv_at hl 3 rfl) ?_
  refine lv_aload_n hx hb dL_law_2152 rfl (lv_at hl 1 rfl) ?_
  refine lv_iload hx hb dL_law_2153 (lv_at hl 5 rfl) ?_
  refine q_iconst hx hb dL_law_2155 ?_
  refine q_iadd hx hb dL_law_2156 ?_
  refine q_sld hx hb hXs hbl hbA hS (by omega) hN4 dL_law_2157 ?_
  refine lv_aload_n hx hb dL_law_2158 rfl (lv_at hl 1 rfl) ?_
  refine lv_iload hx hb dL_law_2159 (lv_at hl 5 rfl) ?_
  refine q_iconst hx hb dL_law_2161 ?_
  refine q_iadd hx hb dL_law_2162 ?_
  refine q_sld hx hb hXs hbl hbA hS (by omega) hN4 dL_law_2163 ?_
  have t_ := c_X6_shelfTell l D y L1 F1 H.size U V μ (sxI xs (7 * k + 1)) (sxI xs (7 * k + 2)) hMP hM (by omega) (by omega)
  rw [hv] at t_
  refine q_vMi C0 lL_285 t_ ⟨rfl, rfl⟩ rfl hP hD hS hA (by rw [← hv]; exact hMP.1.1) (show F1 mg = mE V μ from by rw [← hv]; exact hMP.1.2) rfl rfl rfl hl rfl (Nat.le_of_ble_eq_true rfl) dL_law_2164 ⟨by show _ ≤ 600128; omega, by show _ ≤ 7301098; omega⟩ (fun r9 H locs L2 F2 hP hD hS hz_ hp => ?_)
  obtain ⟨er9, U1, V1, hM1, hv1, hE1⟩ := hp
  have hI2 := LI_m hC hg d1 d2 ha_ou hF_ou hM1 hv1 hE1
  refine lv_istore (lv' := [(6, .int (iI r9)), (5, .int (iI r)), (0, .ref b), (1, .ref bg), (2, .ref mg), (3, .ref ou), (4, .int (iI (7 * k)))]) hx hb dL_law_2167 hl (by decide) rfl (fun ls hl => ?_)
  refine lv_goto (tgt := 2327) hx hb dL_law_2169 (by decide) ?_
  refine W.widen (k := cells + 3600) (n := slots + 10000) (by omega) (by omega) ?_
  exact kk _ _ _ _ hP hD hS hI2 ls (lv_sub hl [2, 3, 4, 5, 6] rfl)
set_option maxHeartbeats 1600000 in
set_option maxRecDepth 100000 in
theorem K_sameShelves {p : Program} {l : Launch} {e : Env} {s : State} {m : MethodId} {below : List Frame} {meth : Method} {c : Code} {b N : Nat} {xs : Nat → Int32} {D : va_G} {y : Nat → ClassId} {sl : List (Nat × Nat × Nat)} {Q : State → Prop} (hfl : l.stackTraces = false) (X : LX D y sl p c s m b N xs) {k : Int} (hk : 0 ≤ k ∧ 7 * k + 6 < N) {L : List Nat} {F : Nat → va_E} {σ : CS} {μ : MS} {H : Heap} {locs : List Loc} {cells slots bg mg ou : Nat} (hcs : cells + 3600 ≤ 600128 ∧ slots + 10000 ≤ 7301098) (hP : va_P D vwCl (va_pl L F) H) (hD : va_D (AL [] s.heap.size) (va_pl L F)) (hS : va_S (AL [] s.heap.size) s.heap H locs) (hI : LI y L F bg mg ou σ μ) (hW : CW σ) (hM : MW μ) (heq : EQ_sameShelves σ μ (sxI xs (7 * k + 1)) (sxI xs (7 * k + 2)) (sxI xs (7 * k + 3)))
    (kk : ∀ (H1 : Heap) (locs1 : List Loc) (L1 : List Nat) (F1 : Nat → va_E), va_P D vwCl (va_pl L1 F1) H1 → va_D (AL [] s.heap.size) (va_pl L1 F1) → va_S (AL [] s.heap.size) s.heap H1 locs1 → LI y L1 F1 bg mg ou (cS_sameShelves σ (sxI xs (7 * k + 1)) (sxI xs (7 * k + 2)) (sxI xs (7 * k + 3))) (jS_sameShelves μ (sxI xs (7 * k + 1)) (sxI xs (7 * k + 2)) (sxI xs (7 * k + 3))) → ∀ ls : Array Slot, lv_has ls 7 [(0, .ref b), (1, .ref bg), (2, .ref mg), (3, .ref ou), (4, .int (iI (7 * k)))] → W p l e room_1 s m #[.ref b] below meth c H1 locs1 (cells + 3600) (slots + 10000) Q (F0 m 2327 ls [])) : ∀ ls : Array Slot, lv_has ls 7 [(0, .ref b), (1, .ref bg), (2, .ref mg), (3, .ref ou), (4, .int (iI (7 * k)))] → W p l e room_1 s m #[.ref b] below meth c H locs cells slots Q (F0 m 2172 ls []) := by
  intro ls hl
  obtain ⟨C0, hJ, hN, hXS, hXs, hbl, hN4⟩ := X
  have hx := C0.1.1
  have hb := C0.1.2.1
  have hts := C0.1.2.2.2.2
  have hbA := AL_nil hbl
  have hA : ∀ q, s.heap.size ≤ q → AL [] s.heap.size q := fun q h => Or.inr h
  obtain ⟨O, G, U, V, nv, sv, hC, hg, hMP, hv, d1, d2, ha_ou, hF_ou⟩ := hI
  refine lv_aload_n hx hb dL_law_2172 rfl (lv_at hl 1 rfl) ?_
  refine lv_aload_n hx hb dL_law_2173 rfl (lv_at hl 0 rfl) ?_
  refine lv_iload hx hb dL_law_2174 (lv_at hl 4 rfl) ?_
  refine q_iconst hx hb dL_law_2176 ?_
  refine q_iadd hx hb dL_law_2177 ?_
  refine q_sld hx hb hXs hbl hbA hS (by omega) hN4 dL_law_2178 ?_
  have sb_0 := sxI_b xs (7 * k + 1)
  refine lv_aload_n hx hb dL_law_2179 rfl (lv_at hl 0 rfl) ?_
  refine lv_iload hx hb dL_law_2180 (lv_at hl 4 rfl) ?_
  refine q_iconst hx hb dL_law_2182 ?_
  refine q_iadd hx hb dL_law_2183 ?_
  refine q_sld hx hb hXs hbl hbA hS (by omega) hN4 dL_law_2184 ?_
  have sb_1 := sxI_b xs (7 * k + 2)
  refine lv_aload_n hx hb dL_law_2185 rfl (lv_at hl 0 rfl) ?_
  refine lv_iload hx hb dL_law_2186 (lv_at hl 4 rfl) ?_
  refine q_iconst hx hb dL_law_2188 ?_
  refine q_iadd hx hb dL_law_2189 ?_
  refine q_sld hx hb hXs hbl hbA hS (by omega) hN4 dL_law_2190 ?_
  have sb_2 := sxI_b xs (7 * k + 3)
  refine lv_aload_n hx hb dL_law_2191 rfl (lv_at hl 3 rfl) ?_
  have t_ := c_L_sameShelves l hfl D y sl L F H.size O G σ (sxI xs (7 * k + 1)) (sxI xs (7 * k + 2)) (sxI xs (7 * k + 3)) ou nv sv hC hW (by omega) (by omega) (by omega) ha_ou hF_ou (fun z => (d1 ou z).2.2 rfl)
  rw [hg] at t_
  refine q_sT C0 tL_286 t_ ⟨rfl, rfl⟩ rfl hJ hN (XS_of hXS hS hD) hP hD hS hA rfl hl rfl (Nat.le_of_ble_eq_true rfl) dL_law_2192 ⟨by show _ ≤ 600128; omega, by show _ ≤ 7301098; omega⟩ (fun r H locs L1 F1 hP hD hS hz_ hp => ?_)
  obtain ⟨O1, G1, σ1, n1, s1, hC1, hg1, hs1, hf1, hO1, hF1, hq⟩ := hp
  obtain ⟨hq2, hqb, hq3⟩ := cmp_of hq heq (by omega)
  have e1 : σ1 = cS_sameShelves σ (sxI xs (7 * k + 1)) (sxI xs (7 * k + 2)) (sxI xs (7 * k + 3)) := cS_of hq
  have hI1 := LI_cn hg hMP hv d1 d2 ha_ou hC1 hg1 hs1 hf1 hO1 hF1
  rw [e1] at hI1
  obtain ⟨O, G, U, V, sv, hC, hg, hMP, hv, d1, d2, ha_ou, hF_ou⟩ := hI1
  refine lv_istore (lv' := [(5, .int (iI r)), (0, .ref b), (1, .ref bg), (2, .ref mg), (3, .ref ou), (4, .int (iI (7 * k)))]) hx hb dL_law_2195 hl (by decide) rfl (fun ls hl => ?_)
  refine lv_aload_n hx hb dL_law_2197 rfl (lv_at hl 3 rfl) ?_
  refine lv_aload_n hx hb dL_law_2198 rfl (lv_at hl 1 rfl) ?_
  refine lv_iload hx hb dL_law_2199 (lv_at hl 5 rfl) ?_
  refine q_iconst hx hb dL_law_2201 ?_
  refine q_iadd hx hb dL_law_2202 ?_
  refine q_sld hx hb hXs hbl hbA hS (by omega) hN4 dL_law_2203 ?_
  refine lv_aload_n hx hb dL_law_2204 rfl (lv_at hl 1 rfl) ?_
  refine lv_iload hx hb dL_law_2205 (lv_at hl 5 rfl) ?_
  refine q_iconst hx hb dL_law_2207 ?_
  refine q_iadd hx hb dL_law_2208 ?_
  refine q_sld hx hb hXs hbl hbA hS (by omega) hN4 dL_law_2209 ?_
  refine lv_aload_n hx hb dL_law_2210 rfl (lv_at hl 1 rfl) ?_
  refine lv_iload hx hb dL_law_2211 (lv_at hl 5 rfl) ?_
  refine q_iconst hx hb dL_law_2213 ?_
  refine q_iadd hx hb dL_law_2214 ?_
  refine q_sld hx hb hXs hbl hbA hS (by omega) hN4 dL_law_2215 ?_
  have t_ := c_X6_sameShelves l D y L1 F1 H.size U V μ (sxI xs (7 * k + 1)) (sxI xs (7 * k + 2)) (sxI xs (7 * k + 3)) hMP hM (by omega) (by omega) (by omega)
  rw [hv] at t_
  refine q_vMi C0 lL_288 t_ ⟨rfl, rfl⟩ rfl hP hD hS hA (by rw [← hv]; exact hMP.1.1) (show F1 mg = mE V μ from by rw [← hv]; exact hMP.1.2) rfl rfl rfl hl rfl (Nat.le_of_ble_eq_true rfl) dL_law_2216 ⟨by show _ ≤ 600128; omega, by show _ ≤ 7301098; omega⟩ (fun r9 H locs L2 F2 hP hD hS hz_ hp => ?_)
  obtain ⟨er9, U1, V1, hM1, hv1, hE1⟩ := hp
  have hI2 := LI_mn hC hg d1 d2 ha_ou hF_ou hM1 hv1 hE1
  have hI3 := hI2
  obtain ⟨O2, G2, U2, V2, sv2, hC2, hg2, hM2, hv2, d12, d22, ha_ou2, hF_ou2⟩ := hI3
  replace hI2 := LIn_LI hI2
  subst er9
  refine lv_istore (lv' := [(6, .int (iI ((jR_sameShelves μ (sxI xs (7 * k + 1)) (sxI xs (7 * k + 2)) (sxI xs (7 * k + 3)))))), (5, .int (iI r)), (0, .ref b), (1, .ref bg), (2, .ref mg), (3, .ref ou), (4, .int (iI (7 * k)))]) hx hb dL_law_2219 hl (by decide) rfl (fun ls hl => ?_)
  refine lv_aload_n hx hb dL_law_2221 rfl (lv_at hl 4 rfl) ?_
  have t9_ := c_X6_thrown l D y L2 F2 U2 V2 _ hM2
  rw [hv2] at t9_
  refine q_vS C0 lL_289 t9_ ⟨rfl, rfl⟩ rfl hP (by rw [← hv2]; exact hM2.1.1) (show F2 mg = mE V2 _ from by rw [← hv2]; exact hM2.1.2) rfl rfl rfl hl rfl (Nat.le_of_ble_eq_true rfl) dL_law_2222 ⟨by show _ ≤ 600128; omega, by show _ ≤ 7301098; omega⟩ (fun r8 er8 => ?_)
  subst er8
  refine lv_iload hx hb dL_law_2225 (lv_at hl 1 rfl) ?_
  refine q_icmpE hx hb dL_law_2227 (tgt := 2232) (by decide) hq2.symm ?_
  refine lv_iload hx hb dL_law_2232 (lv_at hl 1 rfl) ?_
  refine q_if_ne hx hb dL_law_2234 (tgt := 2257) (by decide) (by omega) (fun c1 => ?_) (fun c1 => ?_)
  · refine lv_goto (tgt := 2327) hx hb dL_law_2257 (by decide) ?_
    refine W.widen (k := cells + 3600) (n := slots + 10000) (by omega) (by omega) ?_
    exact kk _ _ _ _ hP hD hS hI2 ls (lv_sub hl [2, 3, 4, 5, 6] rfl)
  · obtain ⟨hn_, hj_⟩ := hq3 (by omega)
    have rb_ := kb_sameShelves σ (sxI xs (7 * k + 1)) (sxI xs (7 * k + 2)) (sxI xs (7 * k + 3))
    rw [← hj_] at rb_
    refine lv_aload_n hx hb dL_law_2237 rfl (lv_at hl 5 rfl) ?_
    refine q_getN C0 iX4 hP ha_ou2 hF_ou2 rfl 0 (by decide) C0.2.2.2.2.2.2.2.2.2.1 rfl rfl dL_law_2238 ?_
    refine lv_iload hx hb dL_law_2241 (lv_at hl 0 rfl) ?_
    refine q_if_eq hx hb dL_law_2243 (tgt := 2250) (by decide) (by omega) (fun c2 => ?_) (fun c2 => ?_)
    · refine lv_lconst (v := 0) hx hb dL_law_2250 rfl ?_
      refine q_lcmpE hx hb dL_law_2251 (by rw [hn_, ← hj_, if_pos c2]) ?_
      refine q_if_eq hx hb dL_law_2252 (tgt := 2257) (by decide) (by omega) (fun c3 => ?_) (fun c3 => absurd c3 (by omega))
      refine lv_goto (tgt := 2327) hx hb dL_law_2257 (by decide) ?_
      refine W.widen (k := cells + 3600) (n := slots + 10000) (by omega) (by omega) ?_
      exact kk _ _ _ _ hP hD hS hI2 ls (lv_sub hl [2, 3, 4, 5, 6] rfl)
    · refine lv_lconst (v := 1) hx hb dL_law_2246 rfl ?_
      refine lv_goto (tgt := 2251) hx hb dL_law_2247 (by decide) ?_
      refine q_lcmpE hx hb dL_law_2251 (by rw [hn_, ← hj_, if_neg c2]) ?_
      refine q_if_eq hx hb dL_law_2252 (tgt := 2257) (by decide) (by omega) (fun c4 => ?_) (fun c4 => absurd c4 (by omega))
      refine lv_goto (tgt := 2327) hx hb dL_law_2257 (by decide) ?_
      refine W.widen (k := cells + 3600) (n := slots + 10000) (by omega) (by omega) ?_
      exact kk _ _ _ _ hP hD hS hI2 ls (lv_sub hl [2, 3, 4, 5, 6] rfl)
set_option maxHeartbeats 1600000 in
set_option maxRecDepth 100000 in
theorem K_house {p : Program} {l : Launch} {e : Env} {s : State} {m : MethodId} {below : List Frame} {meth : Method} {c : Code} {b N : Nat} {xs : Nat → Int32} {D : va_G} {y : Nat → ClassId} {sl : List (Nat × Nat × Nat)} {Q : State → Prop} (hfl : l.stackTraces = false) (X : LX D y sl p c s m b N xs) {k : Int} (hk : 0 ≤ k ∧ 7 * k + 6 < N) {L : List Nat} {F : Nat → va_E} {σ : CS} {μ : MS} {H : Heap} {locs : List Loc} {cells slots bg mg ou : Nat} (hcs : cells + 3600 ≤ 600128 ∧ slots + 10000 ≤ 7301098) (hP : va_P D vwCl (va_pl L F) H) (hD : va_D (AL [] s.heap.size) (va_pl L F)) (hS : va_S (AL [] s.heap.size) s.heap H locs) (hI : LI y L F bg mg ou σ μ) (hW : CW σ) (hM : MW μ)
    (kk : ∀ (H1 : Heap) (locs1 : List Loc) (L1 : List Nat) (F1 : Nat → va_E), va_P D vwCl (va_pl L1 F1) H1 → va_D (AL [] s.heap.size) (va_pl L1 F1) → va_S (AL [] s.heap.size) s.heap H1 locs1 → LI y L1 F1 bg mg ou (cS_house σ (sxI xs (7 * k + 1))) (jS_house μ (sxI xs (7 * k + 1))) → ∀ ls : Array Slot, lv_has ls 7 [(0, .ref b), (1, .ref bg), (2, .ref mg), (3, .ref ou), (4, .int (iI (7 * k)))] → W p l e room_1 s m #[.ref b] below meth c H1 locs1 (cells + 3600) (slots + 10000) Q (F0 m 2327 ls [])) : ∀ ls : Array Slot, lv_has ls 7 [(0, .ref b), (1, .ref bg), (2, .ref mg), (3, .ref ou), (4, .int (iI (7 * k)))] → W p l e room_1 s m #[.ref b] below meth c H locs cells slots Q (F0 m 2260 ls []) := by
  intro ls hl
  obtain ⟨C0, hJ, hN, hXS, hXs, hbl, hN4⟩ := X
  have hx := C0.1.1
  have hb := C0.1.2.1
  have hts := C0.1.2.2.2.2
  have hbA := AL_nil hbl
  have hA : ∀ q, s.heap.size ≤ q → AL [] s.heap.size q := fun q h => Or.inr h
  obtain ⟨O, G, U, V, nv, sv, hC, hg, hMP, hv, d1, d2, ha_ou, hF_ou⟩ := hI
  refine lv_aload_n hx hb dL_law_2260 rfl (lv_at hl 1 rfl) ?_
  refine lv_aload_n hx hb dL_law_2261 rfl (lv_at hl 0 rfl) ?_
  refine lv_iload hx hb dL_law_2262 (lv_at hl 4 rfl) ?_
  refine q_iconst hx hb dL_law_2264 ?_
  refine q_iadd hx hb dL_law_2265 ?_
  refine q_sld hx hb hXs hbl hbA hS (by omega) hN4 dL_law_2266 ?_
  have sb_0 := sxI_b xs (7 * k + 1)
  refine lv_aload_n hx hb dL_law_2267 rfl (lv_at hl 3 rfl) ?_
  have t_ := c_L_house l hfl D y sl L F H.size O G σ (sxI xs (7 * k + 1)) ou nv sv hC hW (by omega) ha_ou hF_ou (fun z => (d1 ou z).2.2 rfl)
  rw [hg] at t_
  refine q_sT C0 tL_292 t_ ⟨rfl, rfl⟩ rfl hJ hN (XS_of hXS hS hD) hP hD hS hA rfl hl rfl (Nat.le_of_ble_eq_true rfl) dL_law_2268 ⟨by show _ ≤ 600128; omega, by show _ ≤ 7301098; omega⟩ (fun r H locs L1 F1 hP hD hS hz_ hp => ?_)
  obtain ⟨O1, G1, σ1, n1, s1, hC1, hg1, hs1, hf1, hO1, hF1, hq⟩ := hp
  have e1 : σ1 = cS_house σ (sxI xs (7 * k + 1)) := cS_of hq
  have hI1 := LI_c hg hMP hv d1 d2 ha_ou hC1 hg1 hs1 hf1 hO1 hF1
  rw [e1] at hI1
  obtain ⟨O, G, U, V, nv, sv, hC, hg, hMP, hv, d1, d2, ha_ou, hF_ou⟩ := hI1
  refine lv_istore (lv' := [(5, .int (iI r)), (0, .ref b), (1, .ref bg), (2, .ref mg), (3, .ref ou), (4, .int (iI (7 * k)))]) hx hb dL_law_2271 hl (by decide) rfl (fun ls hl => ?_)
  refine lv_aload_n hx hb dL_law_2273 rfl (lv_at hl 3 rfl) ?_
  refine lv_aload_n hx hb dL_law_2274 rfl (lv_at hl 1 rfl) ?_
  refine lv_iload hx hb dL_law_2275 (lv_at hl 5 rfl) ?_
  refine q_iconst hx hb dL_law_2277 ?_
  refine q_iadd hx hb dL_law_2278 ?_
  refine q_sld hx hb hXs hbl hbA hS (by omega) hN4 dL_law_2279 ?_
  have t_ := c_X6_house l D y L1 F1 H.size U V μ (sxI xs (7 * k + 1)) hMP hM (by omega)
  rw [hv] at t_
  refine q_vMi C0 lL_294 t_ ⟨rfl, rfl⟩ rfl hP hD hS hA (by rw [← hv]; exact hMP.1.1) (show F1 mg = mE V μ from by rw [← hv]; exact hMP.1.2) rfl rfl rfl hl rfl (Nat.le_of_ble_eq_true rfl) dL_law_2280 ⟨by show _ ≤ 600128; omega, by show _ ≤ 7301098; omega⟩ (fun r9 H locs L2 F2 hP hD hS hz_ hp => ?_)
  obtain ⟨er9, U1, V1, hM1, hv1, hE1⟩ := hp
  have hI2 := LI_m hC hg d1 d2 ha_ou hF_ou hM1 hv1 hE1
  refine lv_istore (lv' := [(6, .int (iI r9)), (5, .int (iI r)), (0, .ref b), (1, .ref bg), (2, .ref mg), (3, .ref ou), (4, .int (iI (7 * k)))]) hx hb dL_law_2283 hl (by decide) rfl (fun ls hl => ?_)
  refine lv_goto (tgt := 2327) hx hb dL_law_2285 (by decide) ?_
  refine W.widen (k := cells + 3600) (n := slots + 10000) (by omega) (by omega) ?_
  exact kk _ _ _ _ hP hD hS hI2 ls (lv_sub hl [2, 3, 4, 5, 6] rfl)
set_option maxHeartbeats 1600000 in
set_option maxRecDepth 100000 in
theorem K_knock {p : Program} {l : Launch} {e : Env} {s : State} {m : MethodId} {below : List Frame} {meth : Method} {c : Code} {b N : Nat} {xs : Nat → Int32} {D : va_G} {y : Nat → ClassId} {sl : List (Nat × Nat × Nat)} {Q : State → Prop} (hfl : l.stackTraces = false) (X : LX D y sl p c s m b N xs) {k : Int} (hk : 0 ≤ k ∧ 7 * k + 6 < N) {L : List Nat} {F : Nat → va_E} {σ : CS} {μ : MS} {H : Heap} {locs : List Loc} {cells slots bg mg ou : Nat} (hcs : cells + 3600 ≤ 600128 ∧ slots + 10000 ≤ 7301098) (hP : va_P D vwCl (va_pl L F) H) (hD : va_D (AL [] s.heap.size) (va_pl L F)) (hS : va_S (AL [] s.heap.size) s.heap H locs) (hI : LI y L F bg mg ou σ μ) (hW : CW σ) (hM : MW μ)
    (kk : ∀ (H1 : Heap) (locs1 : List Loc) (L1 : List Nat) (F1 : Nat → va_E), va_P D vwCl (va_pl L1 F1) H1 → va_D (AL [] s.heap.size) (va_pl L1 F1) → va_S (AL [] s.heap.size) s.heap H1 locs1 → LI y L1 F1 bg mg ou (cS_knock σ) (jS_knock μ) → ∀ ls : Array Slot, lv_has ls 7 [(0, .ref b), (1, .ref bg), (2, .ref mg), (3, .ref ou), (4, .int (iI (7 * k)))] → W p l e room_1 s m #[.ref b] below meth c H1 locs1 (cells + 3600) (slots + 10000) Q (F0 m 2327 ls [])) : ∀ ls : Array Slot, lv_has ls 7 [(0, .ref b), (1, .ref bg), (2, .ref mg), (3, .ref ou), (4, .int (iI (7 * k)))] → W p l e room_1 s m #[.ref b] below meth c H locs cells slots Q (F0 m 2288 ls []) := by
  intro ls hl
  obtain ⟨C0, hJ, hN, hXS, hXs, hbl, hN4⟩ := X
  have hx := C0.1.1
  have hb := C0.1.2.1
  have hts := C0.1.2.2.2.2
  have hbA := AL_nil hbl
  have hA : ∀ q, s.heap.size ≤ q → AL [] s.heap.size q := fun q h => Or.inr h
  obtain ⟨O, G, U, V, nv, sv, hC, hg, hMP, hv, d1, d2, ha_ou, hF_ou⟩ := hI
  refine lv_aload_n hx hb dL_law_2288 rfl (lv_at hl 1 rfl) ?_
  have t_ := c_X3_knock l D y L F H.size O G σ hC hW
  rw [hg] at t_
  refine q_vMi C0 lL_295 t_ ⟨rfl, rfl⟩ rfl hP hD hS hA (by rw [← hg]; exact hC.1.1) (show F bg = bgE G σ from by rw [← hg]; exact hC.1.2) rfl rfl rfl hl rfl (Nat.le_of_ble_eq_true rfl) dL_law_2289 ⟨by show _ ≤ 600128; omega, by show _ ≤ 7301098; omega⟩ (fun r H locs L1 F1 hP hD hS hz_ hp => ?_)
  obtain ⟨eL, hC1, er, hOE⟩ := hp
  subst eL
  have e1 : cS_knock σ = kS_knock σ := rfl
  have hI1 := LI_c hg hMP hv d1 d2 ha_ou hC1 rfl (fun _ h => h) (fun q _ h _ => hOE q h) (fun _ h => Or.inl h) ((hOE ou (fun z => (d1 ou z).2.2 rfl)).trans hF_ou)
  rw [← e1] at hI1
  obtain ⟨O, G, U, V, nv, sv, hC, hg, hMP, hv, d1, d2, ha_ou, hF_ou⟩ := hI1
  refine lv_pop hx hb dL_law_2292 rfl ?_
  refine lv_aload_n hx hb dL_law_2293 rfl (lv_at hl 2 rfl) ?_
  have t_ := c_X6_knock l D y L F1 H.size U V μ  hMP hM 
  rw [hv] at t_
  refine q_vMi C0 lL_298 t_ ⟨rfl, rfl⟩ rfl hP hD hS hA (by rw [← hv]; exact hMP.1.1) (show F1 mg = mE V μ from by rw [← hv]; exact hMP.1.2) rfl rfl rfl hl rfl (Nat.le_of_ble_eq_true rfl) dL_law_2294 ⟨by show _ ≤ 600128; omega, by show _ ≤ 7301098; omega⟩ (fun r9 H locs L2 F2 hP hD hS hz_ hp => ?_)
  obtain ⟨er9, U1, V1, hM1, hv1, hE1⟩ := hp
  have hI2 := LI_m hC hg d1 d2 ha_ou hF_ou hM1 hv1 hE1
  refine lv_pop hx hb dL_law_2297 rfl ?_
  refine lv_goto (tgt := 2327) hx hb dL_law_2298 (by decide) ?_
  refine W.widen (k := cells + 3600) (n := slots + 10000) (by omega) (by omega) ?_
  exact kk _ _ _ _ hP hD hS hI2 ls (lv_sub hl [0, 1, 2, 3, 4] rfl)
set_option maxHeartbeats 1600000 in
set_option maxRecDepth 100000 in
theorem K_isSound {p : Program} {l : Launch} {e : Env} {s : State} {m : MethodId} {below : List Frame} {meth : Method} {c : Code} {b N : Nat} {xs : Nat → Int32} {D : va_G} {y : Nat → ClassId} {sl : List (Nat × Nat × Nat)} {Q : State → Prop} (hfl : l.stackTraces = false) (X : LX D y sl p c s m b N xs) {k : Int} (hk : 0 ≤ k ∧ 7 * k + 6 < N) {L : List Nat} {F : Nat → va_E} {σ : CS} {μ : MS} {H : Heap} {locs : List Loc} {cells slots bg mg ou : Nat} (hcs : cells + 3600 ≤ 600128 ∧ slots + 10000 ≤ 7301098) (hP : va_P D vwCl (va_pl L F) H) (hD : va_D (AL [] s.heap.size) (va_pl L F)) (hS : va_S (AL [] s.heap.size) s.heap H locs) (hI : LI y L F bg mg ou σ μ) (hW : CW σ) (hM : MW μ)
    (kk : ∀ (H1 : Heap) (locs1 : List Loc) (L1 : List Nat) (F1 : Nat → va_E), va_P D vwCl (va_pl L1 F1) H1 → va_D (AL [] s.heap.size) (va_pl L1 F1) → va_S (AL [] s.heap.size) s.heap H1 locs1 → LI y L1 F1 bg mg ou (cS_isSound σ) (jS_isSound μ) → ∀ ls : Array Slot, lv_has ls 7 [(0, .ref b), (1, .ref bg), (2, .ref mg), (3, .ref ou), (4, .int (iI (7 * k)))] → W p l e room_1 s m #[.ref b] below meth c H1 locs1 (cells + 3600) (slots + 10000) Q (F0 m 2327 ls [])) : ∀ ls : Array Slot, lv_has ls 7 [(0, .ref b), (1, .ref bg), (2, .ref mg), (3, .ref ou), (4, .int (iI (7 * k)))] → W p l e room_1 s m #[.ref b] below meth c H locs cells slots Q (F0 m 2301 ls []) := by
  intro ls hl
  obtain ⟨C0, hJ, hN, hXS, hXs, hbl, hN4⟩ := X
  have hx := C0.1.1
  have hb := C0.1.2.1
  have hts := C0.1.2.2.2.2
  have hbA := AL_nil hbl
  have hA : ∀ q, s.heap.size ≤ q → AL [] s.heap.size q := fun q h => Or.inr h
  obtain ⟨O, G, U, V, nv, sv, hC, hg, hMP, hv, d1, d2, ha_ou, hF_ou⟩ := hI
  refine lv_aload_n hx hb dL_law_2301 rfl (lv_at hl 1 rfl) ?_
  have t_ := c_X3_isSound l D y L F H.size O G σ hC hW
  rw [hg] at t_
  refine q_vMi C0 lL_299 t_ ⟨rfl, rfl⟩ rfl hP hD hS hA (by rw [← hg]; exact hC.1.1) (show F bg = bgE G σ from by rw [← hg]; exact hC.1.2) rfl rfl rfl hl rfl (Nat.le_of_ble_eq_true rfl) dL_law_2302 ⟨by show _ ≤ 600128; omega, by show _ ≤ 7301098; omega⟩ (fun r H locs L1 F1 hP hD hS hz_ hp => ?_)
  obtain ⟨er, hC1, hs1, hf1⟩ := hp
  have hI1 : LI y L1 F1 bg mg ou (cS_isSound σ) μ := LI_c hg hMP hv d1 d2 ha_ou hC1 rfl hs1 (fun q h _ _ => hf1 q h) (fun _ h => Or.inl h) ((hf1 ou ha_ou).trans hF_ou)
  obtain ⟨O, G, U, V, nv, sv, hC, hg, hMP, hv, d1, d2, ha_ou, hF_ou⟩ := hI1
  refine lv_pop hx hb dL_law_2305 rfl ?_
  refine lv_aload_n hx hb dL_law_2306 rfl (lv_at hl 2 rfl) ?_
  have t_ := c_X6_isSound l D y L1 F1 H.size U V μ  hMP hM 
  rw [hv] at t_
  refine q_vMi C0 lL_303 t_ ⟨rfl, rfl⟩ rfl hP hD hS hA (by rw [← hv]; exact hMP.1.1) (show F1 mg = mE V μ from by rw [← hv]; exact hMP.1.2) rfl rfl rfl hl rfl (Nat.le_of_ble_eq_true rfl) dL_law_2307 ⟨by show _ ≤ 600128; omega, by show _ ≤ 7301098; omega⟩ (fun r9 H locs L2 F2 hP hD hS hz_ hp => ?_)
  obtain ⟨er9, U1, V1, hM1, hv1, hE1⟩ := hp
  have hI2 := LI_m hC hg d1 d2 ha_ou hF_ou hM1 hv1 hE1
  refine lv_pop hx hb dL_law_2310 rfl ?_
  refine lv_goto (tgt := 2327) hx hb dL_law_2311 (by decide) ?_
  refine W.widen (k := cells + 3600) (n := slots + 10000) (by omega) (by omega) ?_
  exact kk _ _ _ _ hP hD hS hI2 ls (lv_sub hl [0, 1, 2, 3, 4] rfl)
set_option maxHeartbeats 1600000 in
set_option maxRecDepth 100000 in
theorem K_digest {p : Program} {l : Launch} {e : Env} {s : State} {m : MethodId} {below : List Frame} {meth : Method} {c : Code} {b N : Nat} {xs : Nat → Int32} {D : va_G} {y : Nat → ClassId} {sl : List (Nat × Nat × Nat)} {Q : State → Prop} (hfl : l.stackTraces = false) (X : LX D y sl p c s m b N xs) {k : Int} (hk : 0 ≤ k ∧ 7 * k + 6 < N) {L : List Nat} {F : Nat → va_E} {σ : CS} {μ : MS} {H : Heap} {locs : List Loc} {cells slots bg mg ou : Nat} (hcs : cells + 3600 ≤ 600128 ∧ slots + 10000 ≤ 7301098) (hP : va_P D vwCl (va_pl L F) H) (hD : va_D (AL [] s.heap.size) (va_pl L F)) (hS : va_S (AL [] s.heap.size) s.heap H locs) (hI : LI y L F bg mg ou σ μ) (hW : CW σ) (hM : MW μ)
    (kk : ∀ (H1 : Heap) (locs1 : List Loc) (L1 : List Nat) (F1 : Nat → va_E), va_P D vwCl (va_pl L1 F1) H1 → va_D (AL [] s.heap.size) (va_pl L1 F1) → va_S (AL [] s.heap.size) s.heap H1 locs1 → LI y L1 F1 bg mg ou (cS_digest σ) (cJ_digest μ) → ∀ ls : Array Slot, lv_has ls 7 [(0, .ref b), (1, .ref bg), (2, .ref mg), (3, .ref ou), (4, .int (iI (7 * k)))] → W p l e room_1 s m #[.ref b] below meth c H1 locs1 (cells + 3600) (slots + 10000) Q (F0 m 2327 ls [])) : ∀ ls : Array Slot, lv_has ls 7 [(0, .ref b), (1, .ref bg), (2, .ref mg), (3, .ref ou), (4, .int (iI (7 * k)))] → W p l e room_1 s m #[.ref b] below meth c H locs cells slots Q (F0 m 2314 ls []) := by
  intro ls hl
  obtain ⟨C0, hJ, hN, hXS, hXs, hbl, hN4⟩ := X
  have hx := C0.1.1
  have hb := C0.1.2.1
  have hts := C0.1.2.2.2.2
  have hbA := AL_nil hbl
  have hA : ∀ q, s.heap.size ≤ q → AL [] s.heap.size q := fun q h => Or.inr h
  obtain ⟨O, G, U, V, nv, sv, hC, hg, hMP, hv, d1, d2, ha_ou, hF_ou⟩ := hI
  refine lv_aload_n hx hb dL_law_2314 rfl (lv_at hl 1 rfl) ?_
  rcases hzk : zwk σ with _ | j
  · have t_ := c_X3_digest0 l D y L F H.size O G σ hC hW hzk
    rw [hg] at t_
    refine q_vMl C0 lL_304 t_ ⟨rfl, rfl⟩ rfl hP hD hS hA (by rw [← hg]; exact hC.1.1) (show F bg = bgE G σ from by rw [← hg]; exact hC.1.2) rfl rfl rfl hl rfl (Nat.le_of_ble_eq_true rfl) dL_law_2315 ⟨by show _ ≤ 600128; omega, by show _ ≤ 7301098; omega⟩ (fun r H locs L1 F1 hP hD hS hz_ hp => ?_)
    obtain ⟨er, hC1, hs1, hf1⟩ := hp
    have hI1 : LI y L1 F1 bg mg ou (cS_digest σ) μ := LI_c hg hMP hv d1 d2 ha_ou hC1 rfl hs1 (fun q h _ _ => hf1 q h) (fun _ h => Or.inl h) ((hf1 ou ha_ou).trans hF_ou)
    obtain ⟨O, G, U, V, nv, sv, hC, hg, hMP, hv, d1, d2, ha_ou, hF_ou⟩ := hI1
    refine lv_pop2_2 hx hb dL_law_2318 rfl ?_
    refine lv_aload_n hx hb dL_law_2319 rfl (lv_at hl 2 rfl) ?_
    rcases hvk : vwk μ with _ | j9
    · have t_ := c_X6_digest0 l D y L1 F1 H.size U V μ  hMP hM  hvk
      rw [hv] at t_
      refine q_vMl C0 lL_308 t_ ⟨rfl, rfl⟩ rfl hP hD hS hA (by rw [← hv]; exact hMP.1.1) (show F1 mg = mE V μ from by rw [← hv]; exact hMP.1.2) rfl rfl rfl hl rfl (Nat.le_of_ble_eq_true rfl) dL_law_2320 ⟨by show _ ≤ 600128; omega, by show _ ≤ 7301098; omega⟩ (fun r9 H locs L2 F2 hP hD hS hz_ hp => ?_)
      obtain ⟨er9, U1, V1, hM1, hv1, hE1⟩ := hp
      have hI2 := LI_m hC hg d1 d2 ha_ou hF_ou hM1 hv1 hE1
      rw [show jS_digest0 μ = cJ_digest μ from (by unfold cJ_digest; rw [hvk])] at hI2
      refine lv_pop2_2 hx hb dL_law_2323 rfl ?_
      refine lv_goto (tgt := 2327) hx hb dL_law_2324 (by decide) ?_
      refine W.widen (k := cells + 3600) (n := slots + 10000) (by omega) (by omega) ?_
      exact kk _ _ _ _ hP hD hS hI2 ls (lv_sub hl [0, 1, 2, 3, 4] rfl)
    · have t_ := c_X6_digest1 l D y L1 F1 H.size U V μ j9  hMP hM  hvk
      rw [hv] at t_
      refine q_vMl C0 lL_308 t_ ⟨rfl, rfl⟩ rfl hP hD hS hA (by rw [← hv]; exact hMP.1.1) (show F1 mg = mE V μ from by rw [← hv]; exact hMP.1.2) rfl rfl rfl hl rfl (Nat.le_of_ble_eq_true rfl) dL_law_2320 ⟨by show _ ≤ 600128; omega, by show _ ≤ 7301098; omega⟩ (fun r9 H locs L2 F2 hP hD hS hz_ hp => ?_)
      obtain ⟨er9, U1, V1, hM1, hv1, hE1⟩ := hp
      have hI2 := LI_m hC hg d1 d2 ha_ou hF_ou hM1 hv1 hE1
      rw [show jS_digest1 μ j9 = cJ_digest μ from (by unfold cJ_digest; rw [hvk])] at hI2
      refine lv_pop2_2 hx hb dL_law_2323 rfl ?_
      refine lv_goto (tgt := 2327) hx hb dL_law_2324 (by decide) ?_
      refine W.widen (k := cells + 3600) (n := slots + 10000) (by omega) (by omega) ?_
      exact kk _ _ _ _ hP hD hS hI2 ls (lv_sub hl [0, 1, 2, 3, 4] rfl)
  · have t_ := c_X3_digest1 l D y L F H.size O G σ j hC hW hzk
    rw [hg] at t_
    refine q_vMl C0 lL_304 t_ ⟨rfl, rfl⟩ rfl hP hD hS hA (by rw [← hg]; exact hC.1.1) (show F bg = bgE G σ from by rw [← hg]; exact hC.1.2) rfl rfl rfl hl rfl (Nat.le_of_ble_eq_true rfl) dL_law_2315 ⟨by show _ ≤ 600128; omega, by show _ ≤ 7301098; omega⟩ (fun r H locs L1 F1 hP hD hS hz_ hp => ?_)
    obtain ⟨er, hC1, hs1, hf1⟩ := hp
    have hI1 : LI y L1 F1 bg mg ou (cS_digest σ) μ := LI_c hg hMP hv d1 d2 ha_ou hC1 rfl hs1 (fun q h _ _ => hf1 q h) (fun _ h => Or.inl h) ((hf1 ou ha_ou).trans hF_ou)
    obtain ⟨O, G, U, V, nv, sv, hC, hg, hMP, hv, d1, d2, ha_ou, hF_ou⟩ := hI1
    refine lv_pop2_2 hx hb dL_law_2318 rfl ?_
    refine lv_aload_n hx hb dL_law_2319 rfl (lv_at hl 2 rfl) ?_
    rcases hvk : vwk μ with _ | j9
    · have t_ := c_X6_digest0 l D y L1 F1 H.size U V μ  hMP hM  hvk
      rw [hv] at t_
      refine q_vMl C0 lL_308 t_ ⟨rfl, rfl⟩ rfl hP hD hS hA (by rw [← hv]; exact hMP.1.1) (show F1 mg = mE V μ from by rw [← hv]; exact hMP.1.2) rfl rfl rfl hl rfl (Nat.le_of_ble_eq_true rfl) dL_law_2320 ⟨by show _ ≤ 600128; omega, by show _ ≤ 7301098; omega⟩ (fun r9 H locs L2 F2 hP hD hS hz_ hp => ?_)
      obtain ⟨er9, U1, V1, hM1, hv1, hE1⟩ := hp
      have hI2 := LI_m hC hg d1 d2 ha_ou hF_ou hM1 hv1 hE1
      rw [show jS_digest0 μ = cJ_digest μ from (by unfold cJ_digest; rw [hvk])] at hI2
      refine lv_pop2_2 hx hb dL_law_2323 rfl ?_
      refine lv_goto (tgt := 2327) hx hb dL_law_2324 (by decide) ?_
      refine W.widen (k := cells + 3600) (n := slots + 10000) (by omega) (by omega) ?_
      exact kk _ _ _ _ hP hD hS hI2 ls (lv_sub hl [0, 1, 2, 3, 4] rfl)
    · have t_ := c_X6_digest1 l D y L1 F1 H.size U V μ j9  hMP hM  hvk
      rw [hv] at t_
      refine q_vMl C0 lL_308 t_ ⟨rfl, rfl⟩ rfl hP hD hS hA (by rw [← hv]; exact hMP.1.1) (show F1 mg = mE V μ from by rw [← hv]; exact hMP.1.2) rfl rfl rfl hl rfl (Nat.le_of_ble_eq_true rfl) dL_law_2320 ⟨by show _ ≤ 600128; omega, by show _ ≤ 7301098; omega⟩ (fun r9 H locs L2 F2 hP hD hS hz_ hp => ?_)
      obtain ⟨er9, U1, V1, hM1, hv1, hE1⟩ := hp
      have hI2 := LI_m hC hg d1 d2 ha_ou hF_ou hM1 hv1 hE1
      rw [show jS_digest1 μ j9 = cJ_digest μ from (by unfold cJ_digest; rw [hvk])] at hI2
      refine lv_pop2_2 hx hb dL_law_2323 rfl ?_
      refine lv_goto (tgt := 2327) hx hb dL_law_2324 (by decide) ?_
      refine W.widen (k := cells + 3600) (n := slots + 10000) (by omega) (by omega) ?_
      exact kk _ _ _ _ hP hD hS hI2 ls (lv_sub hl [0, 1, 2, 3, 4] rfl)
