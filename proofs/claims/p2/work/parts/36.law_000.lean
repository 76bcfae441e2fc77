set_option maxHeartbeats 1600000 in
set_option maxRecDepth 100000 in
theorem K_freshBook {p : Program} {l : Launch} {e : Env} {s : State} {m : MethodId} {below : List Frame} {meth : Method} {c : Code} {b N : Nat} {xs : Nat → Int32} {D : va_G} {y : Nat → ClassId} {sl : List (Nat × Nat × Nat)} {Q : State → Prop} (hfl : l.stackTraces = false) (X : LX D y sl p c s m b N xs) {k : Int} (hk : 0 ≤ k ∧ 7 * k + 6 < N) {L : List Nat} {F : Nat → va_E} {σ : CS} {μ : MS} {H : Heap} {locs : List Loc} {cells slots bg mg ou : Nat} (hcs : cells + 3600 ≤ 600128 ∧ slots + 10000 ≤ 7301098) (hP : va_P D vwCl (va_pl L F) H) (hD : va_D (AL [] s.heap.size) (va_pl L F)) (hS : va_S (AL [] s.heap.size) s.heap H locs) (hI : LI y L F bg mg ou σ μ) (hW : CW σ) (hM : MW μ) (heq : EQ_freshBook σ μ (sxI xs (7 * k + 1)) (sxI xs (7 * k + 2)))
    (kk : ∀ (H1 : Heap) (locs1 : List Loc) (L1 : List Nat) (F1 : Nat → va_E), va_P D vwCl (va_pl L1 F1) H1 → va_D (AL [] s.heap.size) (va_pl L1 F1) → va_S (AL [] s.heap.size) s.heap H1 locs1 → LI y L1 F1 bg mg ou (cS_freshBook σ (sxI xs (7 * k + 1)) (sxI xs (7 * k + 2))) (jS_freshBook μ (sxI xs (7 * k + 1)) (sxI xs (7 * k + 2))) → ∀ ls : Array Slot, lv_has ls 7 [(0, .ref b), (1, .ref bg), (2, .ref mg), (3, .ref ou), (4, .int (iI (7 * k)))] → W p l e room_1 s m #[.ref b] below meth c H1 locs1 (cells + 3600) (slots + 10000) Q (F0 m 2320 ls [])) : ∀ ls : Array Slot, lv_has ls 7 [(0, .ref b), (1, .ref bg), (2, .ref mg), (3, .ref ou), (4, .int (iI (7 * k)))] → W p l e room_1 s m #[.ref b] below meth c H locs cells slots Q (F0 m 232 ls []) := by
  intro ls hl
  obtain ⟨C0, hJ, hN, hXS, hXs, hbl, hN4⟩ := X
  have hx := C0.1.1
  have hb := C0.1.2.1
  have hts := C0.1.2.2.2.2
  have hbA := AL_nil hbl
  have hA : ∀ q, s.heap.size ≤ q → AL [] s.heap.size q := fun q h => Or.inr h
  obtain ⟨O, G, U, V, nv, sv, hC, hg, hMP, hv, d1, d2, ha_ou, hF_ou⟩ := hI
  refine lv_aload_n hx hb dL_law_232 rfl (lv_at hl 1 rfl) ?_
  refine lv_aload_n hx hb dL_law_233 rfl (lv_at hl 0 rfl) ?_
  refine lv_iload hx hb dL_law_234 (lv_at hl 4 rfl) ?_
  refine q_iconst hx hb dL_law_236 ?_
  refine q_iadd hx hb dL_law_237 ?_
  refine q_sld hx hb hXs hbl hbA hS (by omega) hN4 dL_law_238 ?_
  have sb_0 := sxI_b xs (7 * k + 1)
  refine lv_aload_n hx hb dL_law_239 rfl (lv_at hl 0 rfl) ?_
  refine lv_iload hx hb dL_law_240 (lv_at hl 4 rfl) ?_
  refine q_iconst hx hb dL_law_242 ?_
  refine q_iadd hx hb dL_law_243 ?_
  refine q_sld hx hb hXs hbl hbA hS (by omega) hN4 dL_law_244 ?_
  have sb_1 := sxI_b xs (7 * k + 2)
  refine lv_aload_n hx hb dL_law_245 rfl (lv_at hl 3 rfl) ?_
  have t_ := c_L_freshBook l hfl D y sl L F H.size O G σ (sxI xs (7 * k + 1)) (sxI xs (7 * k + 2)) ou nv sv hC hW (by omega) (by omega) ha_ou hF_ou (fun z => (d1 ou z).2.2 rfl)
  rw [hg] at t_
  refine q_sT C0 tL_156 t_ ⟨rfl, rfl⟩ rfl hJ hN (XS_of hXS hS hD) hP hD hS hA rfl hl rfl (Nat.le_of_ble_eq_true rfl) dL_law_246 ⟨by show _ ≤ 600128; omega, by show _ ≤ 7301098; omega⟩ (fun r H locs L1 F1 hP hD hS hz_ hp => ?_)
  obtain ⟨O1, G1, σ1, n1, s1, hC1, hg1, hs1, hf1, hO1, hF1, hq⟩ := hp
  obtain ⟨hq2, hqb, hq3⟩ := cmp_of hq heq (by omega)
  have e1 : σ1 = cS_freshBook σ (sxI xs (7 * k + 1)) (sxI xs (7 * k + 2)) := cS_of hq
  have hI1 := LI_cn hg hMP hv d1 d2 ha_ou hC1 hg1 hs1 hf1 hO1 hF1
  rw [e1] at hI1
  obtain ⟨O, G, U, V, sv, hC, hg, hMP, hv, d1, d2, ha_ou, hF_ou⟩ := hI1
  refine lv_istore (lv' := [(5, .int (iI r)), (0, .ref b), (1, .ref bg), (2, .ref mg), (3, .ref ou), (4, .int (iI (7 * k)))]) hx hb dL_law_249 hl (by decide) rfl (fun ls hl => ?_)
  refine lv_aload_n hx hb dL_law_251 rfl (lv_at hl 3 rfl) ?_
  refine lv_aload_n hx hb dL_law_252 rfl (lv_at hl 1 rfl) ?_
  refine lv_iload hx hb dL_law_253 (lv_at hl 5 rfl) ?_
  refine q_iconst hx hb dL_law_255 ?_
  refine q_iadd hx hb dL_law_256 ?_
  refine q_sld hx hb hXs hbl hbA hS (by omega) hN4 dL_law_257 ?_
  refine lv_aload_n hx hb dL_law_258 rfl (lv_at hl 1 rfl) ?_
  refine lv_iload hx hb dL_law_259 (lv_at hl 5 rfl) ?_
  refine q_iconst hx hb dL_law_261 ?_
  refine q_iadd hx hb dL_law_262 ?_
  refine q_sld hx hb hXs hbl hbA hS (by omega) hN4 dL_law_263 ?_
  have t_ := c_X6_freshBook l D y L1 F1 H.size U V μ (sxI xs (7 * k + 1)) (sxI xs (7 * k + 2)) hMP hM (by omega) (by omega)
  rw [hv] at t_
  refine q_vMi C0 lL_161 t_ ⟨rfl, rfl⟩ rfl hP hD hS hA (by rw [← hv]; exact hMP.1.1) (show F1 mg = mE V μ from by rw [← hv]; exact hMP.1.2) rfl rfl rfl hl rfl (Nat.le_of_ble_eq_true rfl) dL_law_264 ⟨by show _ ≤ 600128; omega, by show _ ≤ 7301098; omega⟩ (fun r9 H locs L2 F2 hP hD hS hz_ hp => ?_)
  obtain ⟨er9, U1, V1, hM1, hv1, hE1⟩ := hp
  have hI2 := LI_mn hC hg d1 d2 ha_ou hF_ou hM1 hv1 hE1
  have hI3 := hI2
  obtain ⟨O2, G2, U2, V2, sv2, hC2, hg2, hM2, hv2, d12, d22, ha_ou2, hF_ou2⟩ := hI3
  replace hI2 := LIn_LI hI2
  subst er9
  refine lv_istore (lv' := [(6, .int (iI ((jR_freshBook μ (sxI xs (7 * k + 1)) (sxI xs (7 * k + 2)))))), (5, .int (iI r)), (0, .ref b), (1, .ref bg), (2, .ref mg), (3, .ref ou), (4, .int (iI (7 * k)))]) hx hb dL_law_267 hl (by decide) rfl (fun ls hl => ?_)
  refine lv_aload_n hx hb dL_law_269 rfl (lv_at hl 4 rfl) ?_
  have t9_ := c_X6_thrown l D y L2 F2 U2 V2 _ hM2
  rw [hv2] at t9_
  refine q_vS C0 lL_162 t9_ ⟨rfl, rfl⟩ rfl hP (by rw [← hv2]; exact hM2.1.1) (show F2 mg = mE V2 _ from by rw [← hv2]; exact hM2.1.2) rfl rfl rfl hl rfl (Nat.le_of_ble_eq_true rfl) dL_law_270 ⟨by show _ ≤ 600128; omega, by show _ ≤ 7301098; omega⟩ (fun r8 er8 => ?_)
  subst er8
  refine lv_iload hx hb dL_law_273 (lv_at hl 1 rfl) ?_
  refine q_icmpE hx hb dL_law_275 (tgt := 280) (by decide) hq2.symm ?_
  refine lv_iload hx hb dL_law_280 (lv_at hl 1 rfl) ?_
  refine q_if_ne hx hb dL_law_282 (tgt := 298) (by decide) (by omega) (fun c1 => ?_) (fun c1 => ?_)
  · refine lv_goto (tgt := 2320) hx hb dL_law_298 (by decide) ?_
    refine W.widen (k := cells + 3600) (n := slots + 10000) (by omega) (by omega) ?_
    exact kk _ _ _ _ hP hD hS hI2 ls (lv_sub hl [2, 3, 4, 5, 6] rfl)
  · obtain ⟨hn_, hj_⟩ := hq3 (by omega)
    refine lv_aload_n hx hb dL_law_285 rfl (lv_at hl 5 rfl) ?_
    refine q_getN C0 iX4 hP ha_ou2 hF_ou2 rfl 0 (by decide) C0.2.2.2.2.2.2.2.2.2.1 rfl rfl dL_law_286 ?_
    refine lv_iload hx hb dL_law_289 (lv_at hl 0 rfl) ?_
    refine lv_i2l hx hb dL_law_291 rfl ?_
    refine q_lcmpE hx hb dL_law_292 (by rw [hn_, hj_]) ?_
    refine q_if_eq hx hb dL_law_293 (tgt := 298) (by decide) (by omega) (fun c2 => ?_) (fun c2 => absurd c2 (by omega))
    refine lv_goto (tgt := 2320) hx hb dL_law_298 (by decide) ?_
    refine W.widen (k := cells + 3600) (n := slots + 10000) (by omega) (by omega) ?_
    exact kk _ _ _ _ hP hD hS hI2 ls (lv_sub hl [2, 3, 4, 5, 6] rfl)
