set_option maxHeartbeats 3000000 in
set_option maxRecDepth 100000 in
theorem c_X6_bookText (l : Launch) (D : va_G) (y : Nat → ClassId) (sl : List (Nat × Nat × Nat)) (L : List Nat) (F : Nat → va_E) (sz : Nat) (O : Nat → Prop) (G : MG) (μ : MS) (xb : Int) (hC : MP y L F O G μ) (hW : MW μ) (h_xb : -2147483648 ≤ xb ∧ xb ≤ 2147483647) : Met l yX6_bookText (.code yX6_bookText cX6_bookText 5 (some (.object "java/lang/String")) :: Tt) ({ frames := 9, cells := 1800, slots := 5000, locals := 200 }) (PcJ D y sl L F sz [.ref ((ubg G)), .int (iI xb)]) (cMa D (AL L sz) (fun r L1 F1 => ∃ (O1 : Nat → Prop) (G1 : MG), MP y L1 F1 O1 G1 (jS_bookText μ xb) ∧ ubg G1 = ubg G ∧ Ext O O1 L L1 F F1)) 1800 5000 (AL L sz) := by
  have hO : OE O F F := fun _ _ => rfl
  refine q_ofJ (lv := [(0, .ref ((ubg G))), (1, .int (iI xb))]) (by decide) (Nat.le_of_ble_eq_true rfl) rfl (fun p e s m below meth c C0 hret hlk hnm hA hP hD hS hJ ls hl => ?_)
  have hx := C0.1.1
  have hb := C0.1.2.1
  have hts := C0.1.2.2.2.2
  refine lv_aload_n hx hb dX6_bookText_0 rfl (lv_at hl 0 rfl) ?_
  refine lv_iload_n hx hb dX6_bookText_1 rfl (lv_at hl 1 rfl) ?_
  refine q_sS C0 lX6_60 (c_X6_isBook l D y L F xb (by omega)) ⟨rfl, rfl⟩ rfl hP rfl hl rfl (Nat.le_of_ble_eq_true rfl) dX6_bookText_2 ⟨Nat.zero_le _, Nat.zero_le _⟩ (fun r1 e_r1 => ?_)
  subst e_r1
  have b_2 := inR_d xb 0 3
  refine q_iconst hx hb dX6_bookText_5 ?_
  refine q_vMi C0 lX6_63 (c_X6_isLet l D y L F _ O G μ (inR xb 0 3) 1 hC (by omega) (by omega)) ⟨rfl, rfl⟩ rfl hP hD hS hA hC.1.1 hC.1.2 rfl rfl rfl hl rfl (Nat.le_of_ble_eq_true rfl) dX6_bookText_6 ⟨Nat.le_of_ble_eq_true rfl, Nat.le_of_ble_eq_true rfl⟩ (fun r3 H locs L4 F4 hP hD hS hz4 hp4 => ?_)
  obtain ⟨eL, hC, er, hO1⟩ := hp4
  subst eL
  replace er := er.symm
  subst er
  have hO := hO.tr hO1
  have k_5 := okR_d (inR xb 0 3) 1
  refine q_if_ne hx hb dX6_bookText_9 (tgt := 15) (by decide) (by omega) (fun c6 => ?_) (fun c6 => ?_)
  · replace k_5 := k_5.resolve_right (fun h => c6 h.1)
    refine q_new C0 iJ4 tyJ4 tyJ4_ok klX6_137 insJ4 iniJ4 hP hD hS hA (ci := 1) rfl (fs := [.null, .int (iI 0), .int (iI 0), .int (iI 0)]) (fun j hj => by rcases (show j = 0 ∨ j = 1 ∨ j = 2 ∨ j = 3 by omega) with rfl | rfl | rfl | rfl <;> rfl) (Nat.le_of_ble_eq_true rfl) (Nat.le_of_ble_eq_true rfl) dX6_bookText_15 (fun q7 H h0q7 hP hD hS => ?_)
    refine W.widen (k := 1) (n := 4) (Nat.le_of_ble_eq_true rfl) (Nat.le_of_ble_eq_true rfl) ?_
    have hC0 : MP y L F4 O G (tTh μ (ltR (inR xb 0 3) 1)) := hC
    obtain ⟨Lq7x, eLq7⟩ : ∃ z, z = L ++ [q7] := ⟨_, rfl⟩
    obtain ⟨Fq7x, eFq7⟩ : ∃ z, z = va_up F4 q7 (.inr (1, [.null, .int (iI 0), .int (iI 0), .int (iI 0)])) := ⟨_, rfl⟩
    have hP : va_P D vwCl (va_pl Lq7x Fq7x) H := by rw [eLq7, eFq7]; exact hP
    have hD : va_D (AL L sz) (va_pl Lq7x Fq7x) := by rw [eLq7, eFq7]; exact hD
    have nB_q7 : q7 ∉ L := h0q7
    have hfr : ∀ x ∈ L, Fq7x x = F4 x := fun x h1 => by rw [eFq7]; exact va_up_ne _ _ (fun e : x = q7 => nB_q7 (e ▸ h1))
    have hLs : ∀ x ∈ L, x ∈ Lq7x := fun x h1 => by rw [eLq7]; exact List.mem_append_left _ h1
    have hF_q7 : Fq7x q7 = .inr (1, [.null, .int (iI 0), .int (iI 0), .int (iI 0)]) := by rw [eFq7]; exact va_up_self _ _ _
    have ha_q7 : q7 ∈ Lq7x := by rw [eLq7]; exact List.mem_append_right _ List.mem_cons_self
    refine lv_dup hx hb dX6_bookText_18 rfl ?_
    obtain ⟨q8, hq8, hv8, hn8⟩ := hJ.2.2.2.2.2.2 (RX6, 139, "{") (by unfold jstr; simp)
    refine q_ldcS C0 hv8 dX6_bookText_19 ?_
    refine q_iJv C0 lX6_141 (c_J4_init_a7421 l D y sl Lq7x Fq7x _ L q7 q8 ha_q7 hF_q7 nB_q7 hLs hq8) ⟨rfl, rfl⟩ rfl hJ hP hD hS hA rfl hl rfl (Nat.le_of_ble_eq_true rfl) dX6_bookText_21 (by (try dsimp only); omega) (fun _ H locs L10 F10 hP hD hS hz10 hp10 => ?_)
    refine W.widen (k := 2) (n := (4 + (q8.2.2 + 16))) (by omega) (by omega) ?_
    obtain ⟨⟨w11, f11, ha_q7, hF_q7, ha_w11, hF_w11, hf_w11, nB_q7, nB_w11, hLs, hk011, hk111, hk211⟩, hfr11⟩ := hp10
    have n_q7_w11 : q7 ≠ w11 := ne_ob hF_q7 hF_w11
    have hfr : ∀ x ∈ L, F10 x = F4 x := fun x h => (hfr11 x h).trans (hfr x h)
    refine W.widen (k := ((q8.2.2 + 16) + 2)) (n := (2 * (q8.2.2 + 16) + 10)) (by omega) (by omega) ?_
    have hC : MP y L10 F10 O G (tTh μ (ltR (inR xb 0 3) 1)) := MP_mono hC0 hLs hfr
    refine lv_astore_n (lv' := [(2, .ref q7), (0, .ref ((ubg G))), (1, .int (iI xb))]) hx hb dX6_bookText_24 rfl hl (by decide) rfl (fun ls hl => ?_)
    refine q_iconst hx hb dX6_bookText_25 ?_
    refine lv_istore_n (lv' := [(3, .int (iI 0)), (2, .ref q7), (0, .ref ((ubg G))), (1, .int (iI xb))]) hx hb dX6_bookText_26 rfl hl (by decide) rfl (fun ls hl => ?_)
    have LP27 : ∀ (n_LP27 : Nat) (r : Int) (cv : Nat) (kv : Int) (Lv : List Nat) (Fv : Nat → va_E) (H : Heap) (locs : List Loc), (0 ≤ r ∧ r ≤ 100) → (kv ≤ 2 + 8 * r ∧ (cv : Int) ≤ 2 * kv + 40) → (va_P D vwCl (va_pl Lv Fv) H) → (va_D (AL L sz) (va_pl Lv Fv)) → (va_S (AL L sz) s.heap H locs) → (SBs y L Lv Fv q7 cv kv) → (∀ x ∈ L, Fv x = F4 x) → (100 - r).toNat = n_LP27 → ∀ ls : Array Slot, lv_has ls 5 [(0, .ref ((ubg G))), (1, .int (iI xb)), (2, .ref q7), (3, .int (iI r))] → W p l e ({ frames := 9, cells := 1800, slots := 5000, locals := 200 } : Room) s m [.ref ((ubg G)), .int (iI xb)].toArray below meth c H locs (cv + 2) (2 * cv + 10) (MQ below (cMa D (AL L sz) (fun r L1 F1 => ∃ (O1 : Nat → Prop) (G1 : MG), MP y L1 F1 O1 G1 (jS_bookText μ xb) ∧ ubg G1 = ubg G ∧ Ext O O1 L L1 F F1)) [.ref ((ubg G)), .int (iI xb)].toArray s 1800 5000 (AL L sz)) (F0 m 27 ls []) := by
      intro n_LP27
      induction n_LP27 using Nat.strongRecOn with
      | ind n_LP27 ih_LP27 =>
        intro r cv kv Lv Fv H locs hr hkv hP hD hS hB hfr hm_LP27 ls hl
        obtain ⟨wv, fv, ha_q7, hF_q7, ha_wv, hF_wv, hf_wv, nB_q7, nB_wv, hLs, hk0v, hk1v, hk2v⟩ := hB
        have n_q7_wv : q7 ≠ wv := ne_ob hF_q7 hF_wv
        have hC : MP y Lv Fv O G (tTh μ (ltR (inR xb 0 3) 1)) := MP_mono hC0 hLs hfr
        refine lv_iload_n hx hb dX6_bookText_27 rfl (lv_at hl 3 rfl) ?_
        refine q_bipush hx hb dX6_bookText_28 (by decide) ?_
        refine q_icmp_ge hx hb dX6_bookText_30 (tgt := 110) (by decide) (by omega) (by omega) (fun c12 => ?_) (fun c12 => ?_)
        · refine lv_aload_n hx hb dX6_bookText_110 rfl (lv_at hl 2 rfl) ?_
          obtain ⟨q13, hq13, hv13, hn13⟩ := hJ.2.2.2.2.2.2 (RX6, 158, "}") (by unfold jstr; simp)
          refine q_ldcS C0 hv13 dX6_bookText_111 ?_
          have gq14 := g_pot3 (kv + (q13.2.2 : Int)) cv (by omega) (by omega)
          refine q_vJa C0 lX6_149 (c_J4_append_15ec4 l D y sl Lv Fv _ L q7 cv kv q13 ⟨wv, fv, ha_q7, hF_q7, ha_wv, hF_wv, hf_wv, nB_q7, nB_wv, hLs, by omega, by omega, by omega⟩ hq13 (by omega) (by omega)) ⟨rfl, rfl⟩ rfl hJ hP hD hS hA ha_q7 hF_q7 rfl rfl rfl hl rfl (Nat.le_of_ble_eq_true rfl) dX6_bookText_113 (by (try dsimp only); omega) (fun r15 H locs L16 F16 hP hD hS hz16 hp16 => ?_)
          refine W.widen (k := ((cv + 2) + (gC (kv + (q13.2.2 : Int)) cv))) (n := ((2 * cv + 10) + (gS (kv + (q13.2.2 : Int)) cv))) (by omega) (by omega) ?_
          obtain ⟨c17v, ec17v⟩ : ∃ z, z = gcap (kv + (q13.2.2 : Int)) cv := ⟨_, rfl⟩
          have gp17 := g_pot3 (kv + (q13.2.2 : Int)) cv (by omega) (by omega)
          rw [← ec17v] at hp16 gp17
          obtain ⟨er17, ⟨w17, f17, ha_q7, hF_q7, ha_w17, hF_w17, hf_w17, nB_q7, nB_w17, hLs, hk017, hk117, hk217⟩, hfr17⟩ := hp16
          replace er17 : q7 = r15 := er17.symm
          subst er17
          have n_q7_w17 : q7 ≠ w17 := ne_ob hF_q7 hF_w17
          have hfr : ∀ x ∈ L, F16 x = F4 x := fun x h => (hfr17 x h).trans (hfr x h)
          refine W.widen (k := (c17v + 2)) (n := (2 * c17v + 10)) (by omega) (by omega) ?_
          first | (have gi17 : (c17v : Int) ≤ 2 * (kv + (q13.2.2 : Int)) + 40 := by omega; clear gp17 gq14) | skip
          try clear ec17v
          try clear hk0v
          try clear hk1v
          try clear hk2v
          try clear giv
          replace hkv := hkv.1
          have hC : MP y L16 F16 O G (tTh μ (ltR (inR xb 0 3) 1)) := MP_mono hC0 hLs hfr
          refine q_vJa C0 lX6_160 (c_J4_toString_0e30d l D y sl L16 F16 _ L q7 c17v (kv + (q13.2.2 : Int)) ⟨w17, f17, ha_q7, hF_q7, ha_w17, hF_w17, hf_w17, nB_q7, nB_w17, hLs, by omega, by omega, by omega⟩) ⟨rfl, rfl⟩ rfl hJ hP hD hS hA ha_q7 hF_q7 rfl rfl rfl hl rfl (Nat.le_of_ble_eq_true rfl) dX6_bookText_116 (by (try dsimp only); omega) (fun r18 H locs L19 F19 hP hD hS hz19 hp19 => ?_)
          refine W.widen (k := ((c17v + 2) + 2)) (n := ((2 * c17v + 10) + (4 + (kv + (q13.2.2 : Int)).toNat))) (by omega) (by omega) ?_
          obtain ⟨hLs, hfr20⟩ := hp19
          have hfr : ∀ x ∈ L, F19 x = F4 x := fun x h => (hfr20 x h).trans (hfr x h)
          have hC : MP y L19 F19 O G (tTh μ (ltR (inR xb 0 3) 1)) := MP_mono hC0 hLs hfr
          refine W.widen (k := 1800) (n := 5000) (by omega) (by omega) ?_
          exact q_retMa C0 hret (Or.inl ⟨_, rfl⟩) hlk dX6_bookText_119 hP hD hS (⟨O, G, MP_eq hC (by have lt_ := ltR_d (inR xb 0 3) 1; unfold jS_bookText; rw [if_pos (by omega), show ltR (inR xb 0 3) 1 = 0 by omega]), rfl, hLs, fun q h h2 => (hfr q h).trans (hO q h2), fun q h => Or.inl h⟩)
        · refine lv_aload_n hx hb dX6_bookText_33 rfl (lv_at hl 0 rfl) ?_
          refine q_get C0 iX6 hP hC.1.1 hC.1.2 rfl 0 (by decide) flX6_11 rfl (v := .ref ((uab G))) rfl dX6_bookText_34 ?_
          refine lv_iload_n hx hb dX6_bookText_37 rfl (lv_at hl 1 rfl) ?_
          refine q_aald C0 hP hC.2.1.1 hC.2.1.2 (t := 3) rfl (by omega) (by decide) (v := .ref ((urh G (vbk μ xb)))) rfl dX6_bookText_38 ?_
          refine lv_iload_n hx hb dX6_bookText_39 rfl (lv_at hl 3 rfl) ?_
          refine q_vS C0 lX6_100 (c_X5_key l D y Lv Fv (urh G (vbk μ xb)) (urw G (vbk μ xb)) (vod μ (vbk μ xb)) (vst μ (vbk μ xb)) r (MP_r hC (hW.1 xb)) (by omega)) ⟨rfl, rfl⟩ rfl hP (MP_r hC (hW.1 xb)).1 (MP_r hC (hW.1 xb)).2.1 rfl rfl rfl hl rfl (Nat.le_of_ble_eq_true rfl) dX6_bookText_40 (by (try dsimp only); omega) (fun r21 e_r21 => ?_)
          subst e_r21
          have b_22 := @turn_b (vod μ (vbk μ xb)) r (by omega)
          refine lv_istore (lv' := [(4, .int (iI ((turn (vod μ (vbk μ xb)) r)))), (0, .ref ((ubg G))), (1, .int (iI xb)), (2, .ref q7), (3, .int (iI r))]) hx hb dX6_bookText_43 hl (by decide) rfl (fun ls hl => ?_)
          refine lv_aload_n hx hb dX6_bookText_45 rfl (lv_at hl 1 rfl) ?_
          refine q_get C0 iX6 hP hC.1.1 hC.1.2 rfl 0 (by decide) flX6_11 rfl (v := .ref ((uab G))) rfl dX6_bookText_46 ?_
          refine lv_iload_n hx hb dX6_bookText_49 rfl (lv_at hl 2 rfl) ?_
          refine q_aald C0 hP hC.2.1.1 hC.2.1.2 (t := 3) rfl (by omega) (by decide) (v := .ref ((urh G (vbk μ xb)))) rfl dX6_bookText_50 ?_
          refine lv_iload hx hb dX6_bookText_51 (lv_at hl 0 rfl) ?_
          refine q_vS C0 lX6_49 (c_X5_has l D y Lv Fv (urh G (vbk μ xb)) (urw G (vbk μ xb)) (vod μ (vbk μ xb)) (vst μ (vbk μ xb)) (turn (vod μ (vbk μ xb)) r) (MP_r hC (hW.1 xb)) (by omega)) ⟨rfl, rfl⟩ rfl hP (MP_r hC (hW.1 xb)).1 (MP_r hC (hW.1 xb)).2.1 rfl rfl rfl hl rfl (Nat.le_of_ble_eq_true rfl) dX6_bookText_53 (by (try dsimp only); omega) (fun r23 e_r23 => ?_)
          subst e_r23
          have b_24 := isT_b (vst μ (vbk μ xb)) (turn (vod μ (vbk μ xb)) (turn (vod μ (vbk μ xb)) r))
          refine q_if_ne hx hb dX6_bookText_56 (tgt := 62) (by decide) (by omega) (fun c25 => ?_) (fun c25 => ?_)
          · have t_ := isT_turn (vst μ (vbk μ xb)) (vod μ (vbk μ xb)) (r := r) (by omega)
            have q_ := isT_in c25
            have em_ : mwd (vod μ (vbk μ xb)) (vst μ (vbk μ xb)) (turn (vod μ (vbk μ xb)) r) = vst μ (vbk μ xb) (turn (vod μ (vbk μ xb)) (turn (vod μ (vbk μ xb)) r)) := rfl
            refine lv_aload_n hx hb dX6_bookText_62 rfl (lv_at hl 3 rfl) ?_
            refine q_vJi C0 lX6_144 (c_J4_length_8abf5 l D y sl Lv Fv _ L q7 cv kv ⟨wv, fv, ha_q7, hF_q7, ha_wv, hF_wv, hf_wv, nB_q7, nB_wv, hLs, by omega, by omega, by omega⟩) ⟨rfl, rfl⟩ rfl hJ hP hD hS hA ha_q7 hF_q7 rfl rfl rfl hl rfl (Nat.le_of_ble_eq_true rfl) dX6_bookText_63 (by (try dsimp only); omega) (fun r26 H locs L27 F27 hP hD hS hz27 hp27 => ?_)
            obtain ⟨eL28, eF28, er28⟩ := hp27
            subst eL28
            subst eF28
            replace er28 : kv = r26 := er28.symm
            subst er28
            refine q_iconst hx hb dX6_bookText_66 ?_
            refine q_icmp_le hx hb dX6_bookText_67 (tgt := 77) (by decide) (by omega) (by omega) (fun c29 => ?_) (fun c29 => ?_)
            · refine lv_aload_n hx hb dX6_bookText_77 rfl (lv_at hl 3 rfl) ?_
              refine lv_iload hx hb dX6_bookText_78 (lv_at hl 0 rfl) ?_
              have ds30 := dsz_b (turn (vod μ (vbk μ xb)) r)
              have gq31 := g_pot3 (kv + dsz (turn (vod μ (vbk μ xb)) r)) cv (by omega) (by omega)
              refine q_vJa C0 lX6_153 (c_J4_append_bf812 l D y sl Lv Fv _ L q7 cv kv (turn (vod μ (vbk μ xb)) r) ⟨wv, fv, ha_q7, hF_q7, ha_wv, hF_wv, hf_wv, nB_q7, nB_wv, hLs, by omega, by omega, by omega⟩ (by omega) (by omega) (by omega)) ⟨rfl, rfl⟩ rfl hJ hP hD hS hA ha_q7 hF_q7 rfl rfl rfl hl rfl (Nat.le_of_ble_eq_true rfl) dX6_bookText_80 (by (try dsimp only); omega) (fun r32 H locs L33 F33 hP hD hS hz33 hp33 => ?_)
              refine W.widen (k := ((cv + 2) + (gC (kv + dsz (turn (vod μ (vbk μ xb)) r)) cv))) (n := ((2 * cv + 10) + (gS (kv + dsz (turn (vod μ (vbk μ xb)) r)) cv))) (by omega) (by omega) ?_
              obtain ⟨c34v, ec34v⟩ : ∃ z, z = gcap (kv + dsz (turn (vod μ (vbk μ xb)) r)) cv := ⟨_, rfl⟩
              have gp34 := g_pot3 (kv + dsz (turn (vod μ (vbk μ xb)) r)) cv (by omega) (by omega)
              rw [← ec34v] at hp33 gp34
              obtain ⟨er34, ⟨w34, f34, ha_q7, hF_q7, ha_w34, hF_w34, hf_w34, nB_q7, nB_w34, hLs, hk034, hk134, hk234⟩, hfr34⟩ := hp33
              replace er34 : q7 = r32 := er34.symm
              subst er34
              have n_q7_w34 : q7 ≠ w34 := ne_ob hF_q7 hF_w34
              have hfr : ∀ x ∈ L, F33 x = F4 x := fun x h => (hfr34 x h).trans (hfr x h)
              refine W.widen (k := (c34v + 2)) (n := (2 * c34v + 10)) (by omega) (by omega) ?_
              first | (have gi34 : (c34v : Int) ≤ 2 * (kv + dsz (turn (vod μ (vbk μ xb)) r)) + 40 := by omega; clear gp34 gq31) | skip
              try clear ec34v
              try clear hk0v
              try clear hk1v
              try clear hk2v
              try clear giv
              replace hkv := hkv.1
              have hC : MP y L33 F33 O G (tTh μ (ltR (inR xb 0 3) 1)) := MP_mono hC0 hLs hfr
              obtain ⟨q35, hq35, hv35, hn35⟩ := hJ.2.2.2.2.2.2 (RX6, 156, "=") (by unfold jstr; simp)
              refine q_ldcS C0 hv35 dX6_bookText_83 ?_
              have ds36 := dsz_b q35.1
              have gq37 := g_pot3 ((kv + dsz (turn (vod μ (vbk μ xb)) r)) + (q35.2.2 : Int)) c34v (by omega) (by omega)
              refine q_vJa C0 lX6_149 (c_J4_append_15ec4 l D y sl L33 F33 _ L q7 c34v (kv + dsz (turn (vod μ (vbk μ xb)) r)) q35 ⟨w34, f34, ha_q7, hF_q7, ha_w34, hF_w34, hf_w34, nB_q7, nB_w34, hLs, by omega, by omega, by omega⟩ hq35 (by omega) (by omega)) ⟨rfl, rfl⟩ rfl hJ hP hD hS hA ha_q7 hF_q7 rfl rfl rfl hl rfl (Nat.le_of_ble_eq_true rfl) dX6_bookText_85 (by (try dsimp only); omega) (fun r38 H locs L39 F39 hP hD hS hz39 hp39 => ?_)
              refine W.widen (k := ((c34v + 2) + (gC ((kv + dsz (turn (vod μ (vbk μ xb)) r)) + (q35.2.2 : Int)) c34v))) (n := ((2 * c34v + 10) + (gS ((kv + dsz (turn (vod μ (vbk μ xb)) r)) + (q35.2.2 : Int)) c34v))) (by omega) (by omega) ?_
              obtain ⟨c40v, ec40v⟩ : ∃ z, z = gcap ((kv + dsz (turn (vod μ (vbk μ xb)) r)) + (q35.2.2 : Int)) c34v := ⟨_, rfl⟩
              have gp40 := g_pot3 ((kv + dsz (turn (vod μ (vbk μ xb)) r)) + (q35.2.2 : Int)) c34v (by omega) (by omega)
              rw [← ec40v] at hp39 gp40
              obtain ⟨er40, ⟨w40, f40, ha_q7, hF_q7, ha_w40, hF_w40, hf_w40, nB_q7, nB_w40, hLs, hk040, hk140, hk240⟩, hfr40⟩ := hp39
              replace er40 : q7 = r38 := er40.symm
              subst er40
              have n_q7_w40 : q7 ≠ w40 := ne_ob hF_q7 hF_w40
              have hfr : ∀ x ∈ L, F39 x = F4 x := fun x h => (hfr40 x h).trans (hfr x h)
              refine W.widen (k := (c40v + 2)) (n := (2 * c40v + 10)) (by omega) (by omega) ?_
              first | (have gi40 : (c40v : Int) ≤ 2 * ((kv + dsz (turn (vod μ (vbk μ xb)) r)) + (q35.2.2 : Int)) + 40 := by omega; clear gp40 gq37) | skip
              try clear ec40v
              try clear hk034
              try clear hk134
              try clear hk234
              try clear gi34
              have hC : MP y L39 F39 O G (tTh μ (ltR (inR xb 0 3) 1)) := MP_mono hC0 hLs hfr
              refine lv_aload_n hx hb dX6_bookText_88 rfl (lv_at hl 1 rfl) ?_
              refine q_get C0 iX6 hP hC.1.1 hC.1.2 rfl 0 (by decide) flX6_11 rfl (v := .ref ((uab G))) rfl dX6_bookText_89 ?_
              refine lv_iload_n hx hb dX6_bookText_92 rfl (lv_at hl 2 rfl) ?_
              refine q_aald C0 hP hC.2.1.1 hC.2.1.2 (t := 3) rfl (by omega) (by decide) (v := .ref ((urh G (vbk μ xb)))) rfl dX6_bookText_93 ?_
              refine q_getN C0 iX5 hP (MP_r hC (hW.1 xb)).1 (MP_r hC (hW.1 xb)).2.1 rfl 1 (by decide) C0.2.2.2.2.2.2.1 rfl (v := .ref ((urw G (vbk μ xb)))) rfl dX6_bookText_94 ?_
              refine lv_iload hx hb dX6_bookText_97 (lv_at hl 0 rfl) ?_
              refine q_iald C0 hP (f := (mwd (vod μ (vbk μ xb)) (vst μ (vbk μ xb)))) (MP_r hC (hW.1 xb)).2.2.1 (MP_r hC (hW.1 xb)).2.2.2.1 (by omega) (by decide) dX6_bookText_99 ?_
              have b_41 := (fun k => show -1 ≤ mwd (vod μ (vbk μ xb)) (vst μ (vbk μ xb)) k ∧ mwd (vod μ (vbk μ xb)) (vst μ (vbk μ xb)) k ≤ 99 from (MP_r hC (hW.1 xb)).2.2.2.2.2 (turn (vod μ (vbk μ xb)) k)) (turn (vod μ (vbk μ xb)) r)
              have ds42 := dsz_b ((mwd (vod μ (vbk μ xb)) (vst μ (vbk μ xb))) (turn (vod μ (vbk μ xb)) r))
              have gq43 := g_pot3 (((kv + dsz (turn (vod μ (vbk μ xb)) r)) + (q35.2.2 : Int)) + dsz ((mwd (vod μ (vbk μ xb)) (vst μ (vbk μ xb))) (turn (vod μ (vbk μ xb)) r))) c40v (by omega) (by omega)
              refine q_vJa C0 lX6_153 (c_J4_append_bf812 l D y sl L39 F39 _ L q7 c40v ((kv + dsz (turn (vod μ (vbk μ xb)) r)) + (q35.2.2 : Int)) ((mwd (vod μ (vbk μ xb)) (vst μ (vbk μ xb))) (turn (vod μ (vbk μ xb)) r)) ⟨w40, f40, ha_q7, hF_q7, ha_w40, hF_w40, hf_w40, nB_q7, nB_w40, hLs, by omega, by omega, by omega⟩ (by omega) (by omega) (by omega)) ⟨rfl, rfl⟩ rfl hJ hP hD hS hA ha_q7 hF_q7 rfl rfl rfl hl rfl (Nat.le_of_ble_eq_true rfl) dX6_bookText_100 (by (try dsimp only); omega) (fun r44 H locs L45 F45 hP hD hS hz45 hp45 => ?_)
              refine W.widen (k := ((c40v + 2) + (gC (((kv + dsz (turn (vod μ (vbk μ xb)) r)) + (q35.2.2 : Int)) + dsz ((mwd (vod μ (vbk μ xb)) (vst μ (vbk μ xb))) (turn (vod μ (vbk μ xb)) r))) c40v))) (n := ((2 * c40v + 10) + (gS (((kv + dsz (turn (vod μ (vbk μ xb)) r)) + (q35.2.2 : Int)) + dsz ((mwd (vod μ (vbk μ xb)) (vst μ (vbk μ xb))) (turn (vod μ (vbk μ xb)) r))) c40v))) (by omega) (by omega) ?_
              obtain ⟨c46v, ec46v⟩ : ∃ z, z = gcap (((kv + dsz (turn (vod μ (vbk μ xb)) r)) + (q35.2.2 : Int)) + dsz ((mwd (vod μ (vbk μ xb)) (vst μ (vbk μ xb))) (turn (vod μ (vbk μ xb)) r))) c40v := ⟨_, rfl⟩
              have gp46 := g_pot3 (((kv + dsz (turn (vod μ (vbk μ xb)) r)) + (q35.2.2 : Int)) + dsz ((mwd (vod μ (vbk μ xb)) (vst μ (vbk μ xb))) (turn (vod μ (vbk μ xb)) r))) c40v (by omega) (by omega)
              rw [← ec46v] at hp45 gp46
              obtain ⟨er46, ⟨w46, f46, ha_q7, hF_q7, ha_w46, hF_w46, hf_w46, nB_q7, nB_w46, hLs, hk046, hk146, hk246⟩, hfr46⟩ := hp45
              replace er46 : q7 = r44 := er46.symm
              subst er46
              have n_q7_w46 : q7 ≠ w46 := ne_ob hF_q7 hF_w46
              have hfr : ∀ x ∈ L, F45 x = F4 x := fun x h => (hfr46 x h).trans (hfr x h)
              refine W.widen (k := (c46v + 2)) (n := (2 * c46v + 10)) (by omega) (by omega) ?_
              first | (have gi46 : (c46v : Int) ≤ 2 * (((kv + dsz (turn (vod μ (vbk μ xb)) r)) + (q35.2.2 : Int)) + dsz ((mwd (vod μ (vbk μ xb)) (vst μ (vbk μ xb))) (turn (vod μ (vbk μ xb)) r))) + 40 := by omega; clear gp46 gq43) | skip
              try clear ec46v
              try clear hk040
              try clear hk140
              try clear hk240
              try clear gi40
              have hC : MP y L45 F45 O G (tTh μ (ltR (inR xb 0 3) 1)) := MP_mono hC0 hLs hfr
              refine lv_pop hx hb dX6_bookText_103 rfl ?_
              refine q_iinc (x := r) (n := 1) (lv' := [(3, .int (iI ((r + 1)))), (4, .int (iI ((turn (vod μ (vbk μ xb)) r)))), (0, .ref ((ubg G))), (1, .int (iI xb)), (2, .ref q7)]) hx hb dX6_bookText_104 hl (k := 4) rfl (by decide) rfl (fun ls hl => ?_)
              refine lv_goto (tgt := 27) hx hb dX6_bookText_107 (by decide) ?_
              exact ih_LP27 _ (by omega) (r + 1) c46v (((kv + dsz (turn (vod μ (vbk μ xb)) r)) + (q35.2.2 : Int)) + dsz ((mwd (vod μ (vbk μ xb)) (vst μ (vbk μ xb))) (turn (vod μ (vbk μ xb)) r))) L45 F45 _ _ (by omega) (by omega) (hP) (hD) (hS) (⟨w46, f46, ha_q7, hF_q7, ha_w46, hF_w46, hf_w46, nB_q7, nB_w46, hLs, by omega, by omega, by omega⟩) (hfr) rfl ls (lv_sub hl [2, 3, 4, 0] rfl)
            · refine lv_aload_n hx hb dX6_bookText_70 rfl (lv_at hl 3 rfl) ?_
              obtain ⟨q47, hq47, hv47, hn47⟩ := hJ.2.2.2.2.2.2 (RX6, 147, ", ") (by unfold jstr; simp)
              refine q_ldcS C0 hv47 dX6_bookText_71 ?_
              have gq48 := g_pot3 (kv + (q47.2.2 : Int)) cv (by omega) (by omega)
              refine q_vJa C0 lX6_149 (c_J4_append_15ec4 l D y sl Lv Fv _ L q7 cv kv q47 ⟨wv, fv, ha_q7, hF_q7, ha_wv, hF_wv, hf_wv, nB_q7, nB_wv, hLs, by omega, by omega, by omega⟩ hq47 (by omega) (by omega)) ⟨rfl, rfl⟩ rfl hJ hP hD hS hA ha_q7 hF_q7 rfl rfl rfl hl rfl (Nat.le_of_ble_eq_true rfl) dX6_bookText_73 (by (try dsimp only); omega) (fun r49 H locs L50 F50 hP hD hS hz50 hp50 => ?_)
              refine W.widen (k := ((cv + 2) + (gC (kv + (q47.2.2 : Int)) cv))) (n := ((2 * cv + 10) + (gS (kv + (q47.2.2 : Int)) cv))) (by omega) (by omega) ?_
              obtain ⟨c51v, ec51v⟩ : ∃ z, z = gcap (kv + (q47.2.2 : Int)) cv := ⟨_, rfl⟩
              have gp51 := g_pot3 (kv + (q47.2.2 : Int)) cv (by omega) (by omega)
              rw [← ec51v] at hp50 gp51
              obtain ⟨er51, ⟨w51, f51, ha_q7, hF_q7, ha_w51, hF_w51, hf_w51, nB_q7, nB_w51, hLs, hk051, hk151, hk251⟩, hfr51⟩ := hp50
              replace er51 : q7 = r49 := er51.symm
              subst er51
              have n_q7_w51 : q7 ≠ w51 := ne_ob hF_q7 hF_w51
              have hfr : ∀ x ∈ L, F50 x = F4 x := fun x h => (hfr51 x h).trans (hfr x h)
              refine W.widen (k := (c51v + 2)) (n := (2 * c51v + 10)) (by omega) (by omega) ?_
              first | (have gi51 : (c51v : Int) ≤ 2 * (kv + (q47.2.2 : Int)) + 40 := by omega; clear gp51 gq48) | skip
              try clear ec51v
              try clear hk0v
              try clear hk1v
              try clear hk2v
              try clear giv
              replace hkv := hkv.1
              have hC : MP y L50 F50 O G (tTh μ (ltR (inR xb 0 3) 1)) := MP_mono hC0 hLs hfr
              refine lv_pop hx hb dX6_bookText_76 rfl ?_
              refine lv_aload_n hx hb dX6_bookText_77 rfl (lv_at hl 3 rfl) ?_
              refine lv_iload hx hb dX6_bookText_78 (lv_at hl 0 rfl) ?_
              have ds52 := dsz_b (turn (vod μ (vbk μ xb)) r)
              have gq53 := g_pot3 ((kv + (q47.2.2 : Int)) + dsz (turn (vod μ (vbk μ xb)) r)) c51v (by omega) (by omega)
              refine q_vJa C0 lX6_153 (c_J4_append_bf812 l D y sl L50 F50 _ L q7 c51v (kv + (q47.2.2 : Int)) (turn (vod μ (vbk μ xb)) r) ⟨w51, f51, ha_q7, hF_q7, ha_w51, hF_w51, hf_w51, nB_q7, nB_w51, hLs, by omega, by omega, by omega⟩ (by omega) (by omega) (by omega)) ⟨rfl, rfl⟩ rfl hJ hP hD hS hA ha_q7 hF_q7 rfl rfl rfl hl rfl (Nat.le_of_ble_eq_true rfl) dX6_bookText_80 (by (try dsimp only); omega) (fun r54 H locs L55 F55 hP hD hS hz55 hp55 => ?_)
              refine W.widen (k := ((c51v + 2) + (gC ((kv + (q47.2.2 : Int)) + dsz (turn (vod μ (vbk μ xb)) r)) c51v))) (n := ((2 * c51v + 10) + (gS ((kv + (q47.2.2 : Int)) + dsz (turn (vod μ (vbk μ xb)) r)) c51v))) (by omega) (by omega) ?_
              obtain ⟨c56v, ec56v⟩ : ∃ z, z = gcap ((kv + (q47.2.2 : Int)) + dsz (turn (vod μ (vbk μ xb)) r)) c51v := ⟨_, rfl⟩
              have gp56 := g_pot3 ((kv + (q47.2.2 : Int)) + dsz (turn (vod μ (vbk μ xb)) r)) c51v (by omega) (by omega)
              rw [← ec56v] at hp55 gp56
              obtain ⟨er56, ⟨w56, f56, ha_q7, hF_q7, ha_w56, hF_w56, hf_w56, nB_q7, nB_w56, hLs, hk056, hk156, hk256⟩, hfr56⟩ := hp55
              replace er56 : q7 = r54 := er56.symm
              subst er56
              have n_q7_w56 : q7 ≠ w56 := ne_ob hF_q7 hF_w56
              have hfr : ∀ x ∈ L, F55 x = F4 x := fun x h => (hfr56 x h).trans (hfr x h)
              refine W.widen (k := (c56v + 2)) (n := (2 * c56v + 10)) (by omega) (by omega) ?_
              first | (have gi56 : (c56v : Int) ≤ 2 * ((kv + (q47.2.2 : Int)) + dsz (turn (vod μ (vbk μ xb)) r)) + 40 := by omega; clear gp56 gq53) | skip
              try clear ec56v
              try clear hk051
              try clear hk151
              try clear hk251
              try clear gi51
              have hC : MP y L55 F55 O G (tTh μ (ltR (inR xb 0 3) 1)) := MP_mono hC0 hLs hfr
              obtain ⟨q57, hq57, hv57, hn57⟩ := hJ.2.2.2.2.2.2 (RX6, 156, "=") (by unfold jstr; simp)
              refine q_ldcS C0 hv57 dX6_bookText_83 ?_
              have ds58 := dsz_b q57.1
              have gq59 := g_pot3 (((kv + (q47.2.2 : Int)) + dsz (turn (vod μ (vbk μ xb)) r)) + (q57.2.2 : Int)) c56v (by omega) (by omega)
              refine q_vJa C0 lX6_149 (c_J4_append_15ec4 l D y sl L55 F55 _ L q7 c56v ((kv + (q47.2.2 : Int)) + dsz (turn (vod μ (vbk μ xb)) r)) q57 ⟨w56, f56, ha_q7, hF_q7, ha_w56, hF_w56, hf_w56, nB_q7, nB_w56, hLs, by omega, by omega, by omega⟩ hq57 (by omega) (by omega)) ⟨rfl, rfl⟩ rfl hJ hP hD hS hA ha_q7 hF_q7 rfl rfl rfl hl rfl (Nat.le_of_ble_eq_true rfl) dX6_bookText_85 (by (try dsimp only); omega) (fun r60 H locs L61 F61 hP hD hS hz61 hp61 => ?_)
              refine W.widen (k := ((c56v + 2) + (gC (((kv + (q47.2.2 : Int)) + dsz (turn (vod μ (vbk μ xb)) r)) + (q57.2.2 : Int)) c56v))) (n := ((2 * c56v + 10) + (gS (((kv + (q47.2.2 : Int)) + dsz (turn (vod μ (vbk μ xb)) r)) + (q57.2.2 : Int)) c56v))) (by omega) (by omega) ?_
              obtain ⟨c62v, ec62v⟩ : ∃ z, z = gcap (((kv + (q47.2.2 : Int)) + dsz (turn (vod μ (vbk μ xb)) r)) + (q57.2.2 : Int)) c56v := ⟨_, rfl⟩
              have gp62 := g_pot3 (((kv + (q47.2.2 : Int)) + dsz (turn (vod μ (vbk μ xb)) r)) + (q57.2.2 : Int)) c56v (by omega) (by omega)
              rw [← ec62v] at hp61 gp62
              obtain ⟨er62, ⟨w62, f62, ha_q7, hF_q7, ha_w62, hF_w62, hf_w62, nB_q7, nB_w62, hLs, hk062, hk162, hk262⟩, hfr62⟩ := hp61
              replace er62 : q7 = r60 := er62.symm
              subst er62
              have n_q7_w62 : q7 ≠ w62 := ne_ob hF_q7 hF_w62
              have hfr : ∀ x ∈ L, F61 x = F4 x := fun x h => (hfr62 x h).trans (hfr x h)
              refine W.widen (k := (c62v + 2)) (n := (2 * c62v + 10)) (by omega) (by omega) ?_
              first | (have gi62 : (c62v : Int) ≤ 2 * (((kv + (q47.2.2 : Int)) + dsz (turn (vod μ (vbk μ xb)) r)) + (q57.2.2 : Int)) + 40 := by omega; clear gp62 gq59) | skip
              try clear ec62v
              try clear hk056
              try clear hk156
              try clear hk256
              try clear gi56
              have hC : MP y L61 F61 O G (tTh μ (ltR (inR xb 0 3) 1)) := MP_mono hC0 hLs hfr
              refine lv_aload_n hx hb dX6_bookText_88 rfl (lv_at hl 1 rfl) ?_
              refine q_get C0 iX6 hP hC.1.1 hC.1.2 rfl 0 (by decide) flX6_11 rfl (v := .ref ((uab G))) rfl dX6_bookText_89 ?_
              refine lv_iload_n hx hb dX6_bookText_92 rfl (lv_at hl 2 rfl) ?_
              refine q_aald C0 hP hC.2.1.1 hC.2.1.2 (t := 3) rfl (by omega) (by decide) (v := .ref ((urh G (vbk μ xb)))) rfl dX6_bookText_93 ?_
              refine q_getN C0 iX5 hP (MP_r hC (hW.1 xb)).1 (MP_r hC (hW.1 xb)).2.1 rfl 1 (by decide) C0.2.2.2.2.2.2.1 rfl (v := .ref ((urw G (vbk μ xb)))) rfl dX6_bookText_94 ?_
              refine lv_iload hx hb dX6_bookText_97 (lv_at hl 0 rfl) ?_
              refine q_iald C0 hP (f := (mwd (vod μ (vbk μ xb)) (vst μ (vbk μ xb)))) (MP_r hC (hW.1 xb)).2.2.1 (MP_r hC (hW.1 xb)).2.2.2.1 (by omega) (by decide) dX6_bookText_99 ?_
              have b_63 := (fun k => show -1 ≤ mwd (vod μ (vbk μ xb)) (vst μ (vbk μ xb)) k ∧ mwd (vod μ (vbk μ xb)) (vst μ (vbk μ xb)) k ≤ 99 from (MP_r hC (hW.1 xb)).2.2.2.2.2 (turn (vod μ (vbk μ xb)) k)) (turn (vod μ (vbk μ xb)) r)
              have ds64 := dsz_b ((mwd (vod μ (vbk μ xb)) (vst μ (vbk μ xb))) (turn (vod μ (vbk μ xb)) r))
              have gq65 := g_pot3 ((((kv + (q47.2.2 : Int)) + dsz (turn (vod μ (vbk μ xb)) r)) + (q57.2.2 : Int)) + dsz ((mwd (vod μ (vbk μ xb)) (vst μ (vbk μ xb))) (turn (vod μ (vbk μ xb)) r))) c62v (by omega) (by omega)
              refine q_vJa C0 lX6_153 (c_J4_append_bf812 l D y sl L61 F61 _ L q7 c62v (((kv + (q47.2.2 : Int)) + dsz (turn (vod μ (vbk μ xb)) r)) + (q57.2.2 : Int)) ((mwd (vod μ (vbk μ xb)) (vst μ (vbk μ xb))) (turn (vod μ (vbk μ xb)) r)) ⟨w62, f62, ha_q7, hF_q7, ha_w62, hF_w62, hf_w62, nB_q7, nB_w62, hLs, by omega, by omega, by omega⟩ (by omega) (by omega) (by omega)) ⟨rfl, rfl⟩ rfl hJ hP hD hS hA ha_q7 hF_q7 rfl rfl rfl hl rfl (Nat.le_of_ble_eq_true rfl) dX6_bookText_100 (by (try dsimp only); omega) (fun r66 H locs L67 F67 hP hD hS hz67 hp67 => ?_)
              refine W.widen (k := ((c62v + 2) + (gC ((((kv + (q47.2.2 : Int)) + dsz (turn (vod μ (vbk μ xb)) r)) + (q57.2.2 : Int)) + dsz ((mwd (vod μ (vbk μ xb)) (vst μ (vbk μ xb))) (turn (vod μ (vbk μ xb)) r))) c62v))) (n := ((2 * c62v + 10) + (gS ((((kv + (q47.2.2 : Int)) + dsz (turn (vod μ (vbk μ xb)) r)) + (q57.2.2 : Int)) + dsz ((mwd (vod μ (vbk μ xb)) (vst μ (vbk μ xb))) (turn (vod μ (vbk μ xb)) r))) c62v))) (by omega) (by omega) ?_
              obtain ⟨c68v, ec68v⟩ : ∃ z, z = gcap ((((kv + (q47.2.2 : Int)) + dsz (turn (vod μ (vbk μ xb)) r)) + (q57.2.2 : Int)) + dsz ((mwd (vod μ (vbk μ xb)) (vst μ (vbk μ xb))) (turn (vod μ (vbk μ xb)) r))) c62v := ⟨_, rfl⟩
              have gp68 := g_pot3 ((((kv + (q47.2.2 : Int)) + dsz (turn (vod μ (vbk μ xb)) r)) + (q57.2.2 : Int)) + dsz ((mwd (vod μ (vbk μ xb)) (vst μ (vbk μ xb))) (turn (vod μ (vbk μ xb)) r))) c62v (by omega) (by omega)
              rw [← ec68v] at hp67 gp68
              obtain ⟨er68, ⟨w68, f68, ha_q7, hF_q7, ha_w68, hF_w68, hf_w68, nB_q7, nB_w68, hLs, hk068, hk168, hk268⟩, hfr68⟩ := hp67
              replace er68 : q7 = r66 := er68.symm
              subst er68
              have n_q7_w68 : q7 ≠ w68 := ne_ob hF_q7 hF_w68
              have hfr : ∀ x ∈ L, F67 x = F4 x := fun x h => (hfr68 x h).trans (hfr x h)
              refine W.widen (k := (c68v + 2)) (n := (2 * c68v + 10)) (by omega) (by omega) ?_
              first | (have gi68 : (c68v : Int) ≤ 2 * ((((kv + (q47.2.2 : Int)) + dsz (turn (vod μ (vbk μ xb)) r)) + (q57.2.2 : Int)) + dsz ((mwd (vod μ (vbk μ xb)) (vst μ (vbk μ xb))) (turn (vod μ (vbk μ xb)) r))) + 40 := by omega; clear gp68 gq65) | skip
              try clear ec68v
              try clear hk062
              try clear hk162
              try clear hk262
              try clear gi62
              have hC : MP y L67 F67 O G (tTh μ (ltR (inR xb 0 3) 1)) := MP_mono hC0 hLs hfr
              refine lv_pop hx hb dX6_bookText_103 rfl ?_
              refine q_iinc (x := r) (n := 1) (lv' := [(3, .int (iI ((r + 1)))), (4, .int (iI ((turn (vod μ (vbk μ xb)) r)))), (0, .ref ((ubg G))), (1, .int (iI xb)), (2, .ref q7)]) hx hb dX6_bookText_104 hl (k := 4) rfl (by decide) rfl (fun ls hl => ?_)
              refine lv_goto (tgt := 27) hx hb dX6_bookText_107 (by decide) ?_
              exact ih_LP27 _ (by omega) (r + 1) c68v ((((kv + (q47.2.2 : Int)) + dsz (turn (vod μ (vbk μ xb)) r)) + (q57.2.2 : Int)) + dsz ((mwd (vod μ (vbk μ xb)) (vst μ (vbk μ xb))) (turn (vod μ (vbk μ xb)) r))) L67 F67 _ _ (by omega) (by omega) (hP) (hD) (hS) (⟨w68, f68, ha_q7, hF_q7, ha_w68, hF_w68, hf_w68, nB_q7, nB_w68, hLs, by omega, by omega, by omega⟩) (hfr) rfl ls (lv_sub hl [2, 3, 4, 0] rfl)
          · have t_ := isT_turn (vst μ (vbk μ xb)) (vod μ (vbk μ xb)) (r := r) (by omega)
            refine lv_goto (tgt := 104) hx hb dX6_bookText_59 (by decide) ?_
            refine q_iinc (x := r) (n := 1) (lv' := [(3, .int (iI ((r + 1)))), (4, .int (iI ((turn (vod μ (vbk μ xb)) r)))), (0, .ref ((ubg G))), (1, .int (iI xb)), (2, .ref q7)]) hx hb dX6_bookText_104 hl (k := 4) rfl (by decide) rfl (fun ls hl => ?_)
            refine lv_goto (tgt := 27) hx hb dX6_bookText_107 (by decide) ?_
            exact ih_LP27 _ (by omega) (r + 1) cv kv Lv Fv _ _ (by omega) (by omega) (hP) (hD) (hS) (⟨wv, fv, ha_q7, hF_q7, ha_wv, hF_wv, hf_wv, nB_q7, nB_wv, hLs, by omega, by omega, by omega⟩) (hfr) rfl ls (lv_sub hl [2, 3, 4, 0] rfl)
    exact LP27 _ 0 (q8.2.2 + 16) (q8.2.2 : Int) L10 F10 _ _ (by omega) (by omega) (hP) (hD) (hS) (⟨w11, f11, ha_q7, hF_q7, ha_w11, hF_w11, hf_w11, nB_q7, nB_w11, hLs, by omega, by omega, by omega⟩) (hfr) rfl ls (lv_sub hl [2, 3, 1, 0] rfl)
  · replace k_5 := k_5.resolve_left (fun h => absurd (h.1.symm.trans c6) (by decide))
    obtain ⟨a69, hv69⟩ := C0.2.2.2.2.2.2.2.2.2.2.2.2.2.1 (RX6, 135, "") (by decide)
    refine q_ldcS C0 hv69 dX6_bookText_12 ?_
    refine W.widen (k := 1800) (n := 5000) (by omega) (by omega) ?_
    exact q_retMa C0 hret (Or.inl ⟨_, rfl⟩) hlk dX6_bookText_14 hP hD hS (⟨O, G, MP_eq hC (by have lt_ := ltR_d (inR xb 0 3) 1; unfold jS_bookText; rw [if_neg (by omega), show ltR (inR xb 0 3) 1 = 1 by omega]), rfl, Ext0 hO⟩)
