set_option maxHeartbeats 1600000 in
set_option maxRecDepth 100000 in
theorem K_walkTake {p : Program} {l : Launch} {e : Env} {s : State} {m : MethodId} {below : List Frame} {meth : Method} {c : Code} {b N : Nat} {xs : Nat → Int32} {D : va_G} {y : Nat → ClassId} {sl : List (Nat × Nat × Nat)} {Q : State → Prop} (hfl : l.stackTraces = false) (X : LX D y sl p c s m b N xs) {k : Int} (hk : 0 ≤ k ∧ 7 * k + 6 < N) {L : List Nat} {F : Nat → va_E} {σ : CS} {μ : MS} {H : Heap} {locs : List Loc} {cells slots bg mg ou : Nat} (hcs : cells + 3600 ≤ 600128 ∧ slots + 10000 ≤ 7301098) (hP : va_P D vwCl (va_pl L F) H) (hD : va_D (AL [] s.heap.size) (va_pl L F)) (hS : va_S (AL [] s.heap.size) s.heap H locs) (hI : LI y L F bg mg ou σ μ) (hW : CW σ) (hM : MW μ)
    (kk : ∀ (H1 : Heap) (locs1 : List Loc) (L1 : List Nat) (F1 : Nat → va_E), va_P D vwCl (va_pl L1 F1) H1 → va_D (AL [] s.heap.size) (va_pl L1 F1) → va_S (AL [] s.heap.size) s.heap H1 locs1 → LI y L1 F1 bg mg ou (cS_walkTake σ) (cJ_walkTake μ) → ∀ ls : Array Slot, lv_has ls 7 [(0, .ref b), (1, .ref bg), (2, .ref mg), (3, .ref ou), (4, .int (iI (7 * k)))] → W p l e room_1 s m #[.ref b] below meth c H1 locs1 (cells + 3600) (slots + 10000) Q (F0 m 2320 ls [])) : ∀ ls : Array Slot, lv_has ls 7 [(0, .ref b), (1, .ref bg), (2, .ref mg), (3, .ref ou), (4, .int (iI (7 * k)))] → W p l e room_1 s m #[.ref b] below meth c H locs cells slots Q (F0 m 1704 ls []) := by
  intro ls hl
  obtain ⟨C0, hJ, hN, hXS, hXs, hbl, hN4⟩ := X
  have hx := C0.1.1
  have hb := C0.1.2.1
  have hts := C0.1.2.2.2.2
  have hbA := AL_nil hbl
  have hA : ∀ q, s.heap.size ≤ q → AL [] s.heap.size q := fun q h => Or.inr h
  obtain ⟨O, G, U, V, nv, sv, hC, hg, hMP, hv, d1, d2, ha_ou, hF_ou⟩ := hI
  refine lv_aload_n hx hb dL_law_1704 rfl (lv_at hl 1 rfl) ?_
  rcases hzk : zwk σ with _ | j
  · have t_ := c_X3_walkTake0 l D y L F H.size O G σ hC hW hzk
    rw [hg] at t_
    refine q_vMi C0 lL_257 t_ ⟨rfl, rfl⟩ rfl hP hD hS hA (by rw [← hg]; exact hC.1.1) (show F bg = bgE G σ from by rw [← hg]; exact hC.1.2) rfl rfl rfl hl rfl (Nat.le_of_ble_eq_true rfl) dL_law_1705 ⟨by show _ ≤ 600128; omega, by show _ ≤ 7301098; omega⟩ (fun r H locs L1 F1 hP hD hS hz_ hp => ?_)
    obtain ⟨eL, hC1, er, hOE⟩ := hp
    subst eL
    have e1 : cS_walkTake σ = kS_walkTake0 σ := (by unfold cS_walkTake; rw [hzk])
    have hI1 := LI_c hg hMP hv d1 d2 ha_ou hC1 rfl (fun _ h => h) (fun q _ h _ => hOE q h) (fun _ h => Or.inl h) ((hOE ou (fun z => (d1 ou z).2.2 rfl)).trans hF_ou)
    rw [← e1] at hI1
    obtain ⟨O, G, U, V, nv, sv, hC, hg, hMP, hv, d1, d2, ha_ou, hF_ou⟩ := hI1
    refine lv_pop hx hb dL_law_1708 rfl ?_
    refine lv_aload_n hx hb dL_law_1709 rfl (lv_at hl 2 rfl) ?_
    rcases hvk : vwk μ with _ | j9
    · have t_ := c_X6_walkTake0 l D y L F1 H.size U V μ  hMP hM  hvk
      rw [hv] at t_
      refine q_vMi C0 lL_260 t_ ⟨rfl, rfl⟩ rfl hP hD hS hA (by rw [← hv]; exact hMP.1.1) (show F1 mg = mE V μ from by rw [← hv]; exact hMP.1.2) rfl rfl rfl hl rfl (Nat.le_of_ble_eq_true rfl) dL_law_1710 ⟨by show _ ≤ 600128; omega, by show _ ≤ 7301098; omega⟩ (fun r9 H locs L2 F2 hP hD hS hz_ hp => ?_)
      obtain ⟨er9, U1, V1, hM1, hv1, hE1⟩ := hp
      have hI2 := LI_m hC hg d1 d2 ha_ou hF_ou hM1 hv1 hE1
      rw [show jS_walkTake0 μ = cJ_walkTake μ from (by unfold cJ_walkTake; rw [hvk])] at hI2
      refine lv_pop hx hb dL_law_1713 rfl ?_
      refine lv_goto (tgt := 2320) hx hb dL_law_1714 (by decide) ?_
      refine W.widen (k := cells + 3600) (n := slots + 10000) (by omega) (by omega) ?_
      exact kk _ _ _ _ hP hD hS hI2 ls (lv_sub hl [0, 1, 2, 3, 4] rfl)
    · have t_ := c_X6_walkTake1 l D y L F1 H.size U V μ j9  hMP hM  hvk
      rw [hv] at t_
      refine q_vMi C0 lL_260 t_ ⟨rfl, rfl⟩ rfl hP hD hS hA (by rw [← hv]; exact hMP.1.1) (show F1 mg = mE V μ from by rw [← hv]; exact hMP.1.2) rfl rfl rfl hl rfl (Nat.le_of_ble_eq_true rfl) dL_law_1710 ⟨by show _ ≤ 600128; omega, by show _ ≤ 7301098; omega⟩ (fun r9 H locs L2 F2 hP hD hS hz_ hp => ?_)
      obtain ⟨er9, U1, V1, hM1, hv1, hE1⟩ := hp
      have hI2 := LI_m hC hg d1 d2 ha_ou hF_ou hM1 hv1 hE1
      rw [show jS_walkTake1 μ j9 = cJ_walkTake μ from (by unfold cJ_walkTake; rw [hvk])] at hI2
      refine lv_pop hx hb dL_law_1713 rfl ?_
      refine lv_goto (tgt := 2320) hx hb dL_law_1714 (by decide) ?_
      refine W.widen (k := cells + 3600) (n := slots + 10000) (by omega) (by omega) ?_
      exact kk _ _ _ _ hP hD hS hI2 ls (lv_sub hl [0, 1, 2, 3, 4] rfl)
  · have t_ := c_X3_walkTake1 l D y L F H.size O G σ j hC hW hzk
    rw [hg] at t_
    refine q_vMi C0 lL_257 t_ ⟨rfl, rfl⟩ rfl hP hD hS hA (by rw [← hg]; exact hC.1.1) (show F bg = bgE G σ from by rw [← hg]; exact hC.1.2) rfl rfl rfl hl rfl (Nat.le_of_ble_eq_true rfl) dL_law_1705 ⟨by show _ ≤ 600128; omega, by show _ ≤ 7301098; omega⟩ (fun r H locs L1 F1 hP hD hS hz_ hp => ?_)
    obtain ⟨eL, hC1, er, hOE⟩ := hp
    subst eL
    have e1 : cS_walkTake σ = kS_walkTake1 σ j := (by unfold cS_walkTake; rw [hzk])
    have hI1 := LI_c hg hMP hv d1 d2 ha_ou hC1 rfl (fun _ h => h) (fun q _ h _ => hOE q h) (fun _ h => Or.inl h) ((hOE ou (fun z => (d1 ou z).2.2 rfl)).trans hF_ou)
    rw [← e1] at hI1
    obtain ⟨O, G, U, V, nv, sv, hC, hg, hMP, hv, d1, d2, ha_ou, hF_ou⟩ := hI1
    refine lv_pop hx hb dL_law_1708 rfl ?_
    refine lv_aload_n hx hb dL_law_1709 rfl (lv_at hl 2 rfl) ?_
    rcases hvk : vwk μ with _ | j9
    · have t_ := c_X6_walkTake0 l D y L F1 H.size U V μ  hMP hM  hvk
      rw [hv] at t_
      refine q_vMi C0 lL_260 t_ ⟨rfl, rfl⟩ rfl hP hD hS hA (by rw [← hv]; exact hMP.1.1) (show F1 mg = mE V μ from by rw [← hv]; exact hMP.1.2) rfl rfl rfl hl rfl (Nat.le_of_ble_eq_true rfl) dL_law_1710 ⟨by show _ ≤ 600128; omega, by show _ ≤ 7301098; omega⟩ (fun r9 H locs L2 F2 hP hD hS hz_ hp => ?_)
      obtain ⟨er9, U1, V1, hM1, hv1, hE1⟩ := hp
      have hI2 := LI_m hC hg d1 d2 ha_ou hF_ou hM1 hv1 hE1
      rw [show jS_walkTake0 μ = cJ_walkTake μ from (by unfold cJ_walkTake; rw [hvk])] at hI2
      refine lv_pop hx hb dL_law_1713 rfl ?_
      refine lv_goto (tgt := 2320) hx hb dL_law_1714 (by decide) ?_
      refine W.widen (k := cells + 3600) (n := slots + 10000) (by omega) (by omega) ?_
      exact kk _ _ _ _ hP hD hS hI2 ls (lv_sub hl [0, 1, 2, 3, 4] rfl)
    · have t_ := c_X6_walkTake1 l D y L F1 H.size U V μ j9  hMP hM  hvk
      rw [hv] at t_
      refine q_vMi C0 lL_260 t_ ⟨rfl, rfl⟩ rfl hP hD hS hA (by rw [← hv]; exact hMP.1.1) (show F1 mg = mE V μ from by rw [← hv]; exact hMP.1.2) rfl rfl rfl hl rfl (Nat.le_of_ble_eq_true rfl) dL_law_1710 ⟨by show _ ≤ 600128; omega, by show _ ≤ 7301098; omega⟩ (fun r9 H locs L2 F2 hP hD hS hz_ hp => ?_)
      obtain ⟨er9, U1, V1, hM1, hv1, hE1⟩ := hp
      have hI2 := LI_m hC hg d1 d2 ha_ou hF_ou hM1 hv1 hE1
      rw [show jS_walkTake1 μ j9 = cJ_walkTake μ from (by unfold cJ_walkTake; rw [hvk])] at hI2
      refine lv_pop hx hb dL_law_1713 rfl ?_
      refine lv_goto (tgt := 2320) hx hb dL_law_1714 (by decide) ?_
      refine W.widen (k := cells + 3600) (n := slots + 10000) (by omega) (by omega) ?_
      exact kk _ _ _ _ hP hD hS hI2 ls (lv_sub hl [0, 1, 2, 3, 4] rfl)
