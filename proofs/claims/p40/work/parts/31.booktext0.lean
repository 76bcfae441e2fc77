def kS_bookText (σ : CS) (b : Int) : CS := σ
def jS_bookText (μ : MS) (b : Int) : MS := if 0 ≤ b ∧ b ≤ 3 then tTh μ 0 else tTh μ 1
theorem keyR_in {o r : Int} (h : 0 ≤ r ∧ r ≤ 99) : 0 ≤ keyR o r ∧ keyR o r ≤ 99 := by
  have := keyR_b (o := o) (r := r) (by omega)
  omega
theorem g_pot3 (q : Int) (cap : Nat) (hq : 0 ≤ q) (h : (cap : Int) ≤ 2 * q + 40) : gC q cap + cap ≤ gcap q cap ∧ gS q cap + 2 * cap ≤ 2 * gcap q cap ∧ (gcap q cap : Int) ≤ 2 * q + 40 := by
  obtain ⟨h1, h2, h3⟩ := g_pot q cap hq
  exact ⟨h1, h2, by omega⟩
set_option maxHeartbeats 3000000 in
set_option maxRecDepth 100000 in
theorem c_X3_bookText (l : Launch) (hfl : l.stackTraces = false) (D : va_G) (y : Nat → ClassId) (sl : List (Nat × Nat × Nat)) (L : List Nat) (F : Nat → va_E) (sz : Nat) (O : Nat → Prop) (G : CG) (σ : CS) (xb : Int) (hC : CP y L F O G σ) (hW : CW σ) (h_xb : -2147483648 ≤ xb ∧ xb ≤ 2147483647) : vx_Met l yX3_bookText (.code yX3_bookText cX3_bookText 6 (some (.object "java/lang/String")) :: Tt) ({ frames := 7, cells := 1800, slots := 5000, locals := 151 }) (PcXJ D y sl L F sz [.ref ((gbg G)), .int (iI xb)]) (cMa D (AL L sz) (fun r L1 F1 => ((0 ≤ xb ∧ xb ≤ 3)) ∧ True ∧ ∃ O1 G1, CP y L1 F1 O1 G1 (kS_bookText σ xb) ∧ gbg G1 = gbg G ∧ Ext O O1 L L1 F F1)) (XC (pX ((0 ≤ xb ∧ xb ≤ 3)) (True))) 1800 5000 (AL L sz) := by
  have hw4 := hW.2.2.2.2.2.1
  refine q_ofXJ (lv := [(0, .ref ((gbg G))), (1, .int (iI xb))]) (by decide) (Nat.le_of_ble_eq_true rfl) rfl (fun p e s m below meth c C0 hret hlk hout hsz hA hP hD hS hX hJ ls hl => ?_)
  subst hsz
  have hx := C0.1.1
  have hb := C0.1.2.1
  have hts := C0.1.2.2.2.2
  refine lv_aload_n hx hb dX3_bookText_0 rfl (lv_at hl 0 rfl) ?_
  refine lv_iload_n hx hb dX3_bookText_1 rfl (lv_at hl 1 rfl) ?_
  refine q_vXa C0 lX3_37 (c_X3_bookAt l hfl D y L F _ O G σ xb hC (by omega)) ⟨rfl, rfl⟩ rfl hP hD hX hout hlk hC.1.1 hC.1.2 rfl rfl rfl hl rfl (Nat.le_of_ble_eq_true rfl) dX3_bookText_2 ⟨Nat.le_of_ble_eq_true rfl, Nat.le_of_ble_eq_true rfl⟩ ⟨Nat.le_of_ble_eq_true rfl, Nat.le_of_ble_eq_true rfl⟩ (fun E h => Or.inl ⟨h.1, fun q => h.2 (by omega)⟩) (fun r1 e_r1 => ?_)
  refine W.widen (k := 1) (n := 6) (Nat.le_of_ble_eq_true rfl) (Nat.le_of_ble_eq_true rfl) ?_
  obtain ⟨hb_r1, e_r1⟩ := e_r1
  subst e_r1
  refine lv_astore_n (lv' := [(2, .ref ((grh G (zbk σ xb)))), (0, .ref ((gbg G))), (1, .int (iI xb))]) hx hb dX3_bookText_5 rfl hl (by decide) rfl (fun ls hl => ?_)
  refine q_new C0 iJ4 tyJ4 tyJ4_ok klX3_148 insJ4 iniJ4 hP hD hS hA (ci := 1) rfl (fs := [.null, .int (iI 0), .int (iI 0), .int (iI 0)]) (fun j hj => by rcases (show j = 0 ∨ j = 1 ∨ j = 2 ∨ j = 3 by omega) with rfl | rfl | rfl | rfl <;> rfl) (Nat.le_of_ble_eq_true rfl) (Nat.le_of_ble_eq_true rfl) dX3_bookText_6 (fun q2 H h0q2 hP hD hS => ?_)
  refine W.widen (k := 2) (n := 10) (Nat.le_of_ble_eq_true rfl) (Nat.le_of_ble_eq_true rfl) ?_
  have hC0 : CP y L F O G σ := hC
  obtain ⟨Lq2x, eLq2⟩ : ∃ z, z = L ++ [q2] := ⟨_, rfl⟩
  obtain ⟨Fq2x, eFq2⟩ : ∃ z, z = va_up F q2 (.inr (1, [.null, .int (iI 0), .int (iI 0), .int (iI 0)])) := ⟨_, rfl⟩
  have hP : va_P D vwCl (va_pl Lq2x Fq2x) H := by rw [eLq2, eFq2]; exact hP
  have hD : va_D (AL L s.heap.size) (va_pl Lq2x Fq2x) := by rw [eLq2, eFq2]; exact hD
  have nB_q2 : q2 ∉ L := h0q2
  have hfr : ∀ x ∈ L, Fq2x x = F x := fun x h1 => by rw [eFq2]; exact va_up_ne _ _ (fun e : x = q2 => nB_q2 (e ▸ h1))
  have hLs : ∀ x ∈ L, x ∈ Lq2x := fun x h1 => by rw [eLq2]; exact List.mem_append_left _ h1
  have hF_q2 : Fq2x q2 = .inr (1, [.null, .int (iI 0), .int (iI 0), .int (iI 0)]) := by rw [eFq2]; exact va_up_self _ _ _
  have ha_q2 : q2 ∈ Lq2x := by rw [eLq2]; exact List.mem_append_right _ List.mem_cons_self
  refine lv_dup hx hb dX3_bookText_9 rfl ?_
  refine q_iJv C0 lX3_150 (c_J4_init_da8c8 l D y sl Lq2x Fq2x _ L q2 ha_q2 hF_q2 nB_q2 hLs) ⟨rfl, rfl⟩ rfl hJ hP hD hS hA rfl hl rfl (Nat.le_of_ble_eq_true rfl) dX3_bookText_10 (by (try dsimp only); omega) (fun _ H locs L4 F4 hP hD hS hz4 hp4 => ?_)
  refine W.widen (k := 3) (n := 26) (by omega) (by omega) ?_
  obtain ⟨⟨w5, f5, ha_q2, hF_q2, ha_w5, hF_w5, hf_w5, nB_q2, nB_w5, hLs, hk05, hk15, hk25⟩, hfr5⟩ := hp4
  have n_q2_w5 : q2 ≠ w5 := ne_ob hF_q2 hF_w5
  have hfr : ∀ x ∈ L, F4 x = F x := fun x h => (hfr5 x h).trans (hfr x h)
  refine W.widen (k := (16 + 2)) (n := (2 * 16 + 10)) (by omega) (by omega) ?_
  have hC : CP y L4 F4 O G σ := CP_mono hC0 hLs hfr
  refine lv_astore_n (lv' := [(3, .ref q2), (2, .ref ((grh G (zbk σ xb)))), (0, .ref ((gbg G))), (1, .int (iI xb))]) hx hb dX3_bookText_13 rfl hl (by decide) rfl (fun ls hl => ?_)
  refine lv_aload_n hx hb dX3_bookText_14 rfl (lv_at hl 0 rfl) ?_
  refine q_bipush hx hb dX3_bookText_15 (by decide) ?_
  have gq6 := g_pot3 (0 + 1) 16 (by omega) (by omega)
  refine q_vJa C0 lX3_151 (c_J4_append_cf468 l D y sl L4 F4 _ L q2 16 0 123 ⟨w5, f5, ha_q2, hF_q2, ha_w5, hF_w5, hf_w5, nB_q2, nB_w5, hLs, by omega, by omega, by omega⟩ (by omega) (by omega) (by omega)) ⟨rfl, rfl⟩ rfl hJ hP hD hS hA ha_q2 hF_q2 rfl rfl rfl hl rfl (Nat.le_of_ble_eq_true rfl) dX3_bookText_17 (by (try dsimp only); omega) (fun r7 H locs L8 F8 hP hD hS hz8 hp8 => ?_)
  refine W.widen (k := ((16 + 2) + (gC (0 + 1) 16))) (n := ((2 * 16 + 10) + (gS (0 + 1) 16))) (by omega) (by omega) ?_
  obtain ⟨c9v, ec9v⟩ : ∃ z, z = gcap (0 + 1) 16 := ⟨_, rfl⟩
  have gp9 := g_pot3 (0 + 1) 16 (by omega) (by omega)
  rw [← ec9v] at hp8 gp9
  obtain ⟨er9, ⟨w9, f9, ha_q2, hF_q2, ha_w9, hF_w9, hf_w9, nB_q2, nB_w9, hLs, hk09, hk19, hk29⟩, hfr9⟩ := hp8
  replace er9 : q2 = r7 := er9.symm
  subst er9
  have n_q2_w9 : q2 ≠ w9 := ne_ob hF_q2 hF_w9
  have hfr : ∀ x ∈ L, F8 x = F x := fun x h => (hfr9 x h).trans (hfr x h)
  refine W.widen (k := (c9v + 2)) (n := (2 * c9v + 10)) (by omega) (by omega) ?_
  first | (have gi9 : (c9v : Int) ≤ 2 * (0 + 1) + 40 := by omega; clear gp9 gq6) | skip
  try clear ec9v
  try clear hk05
  try clear hk15
  try clear hk25
  try clear gi5
  have hC : CP y L8 F8 O G σ := CP_mono hC0 hLs hfr
  refine lv_pop hx hb dX3_bookText_20 rfl ?_
  refine q_iconst hx hb dX3_bookText_21 ?_
  refine lv_istore (lv' := [(4, .int (iI 1)), (3, .ref q2), (2, .ref ((grh G (zbk σ xb)))), (0, .ref ((gbg G))), (1, .int (iI xb))]) hx hb dX3_bookText_22 hl (by decide) rfl (fun ls hl => ?_)
  refine q_iconst hx hb dX3_bookText_24 ?_
  refine lv_istore (lv' := [(5, .int (iI 0)), (4, .int (iI 1)), (3, .ref q2), (2, .ref ((grh G (zbk σ xb)))), (0, .ref ((gbg G))), (1, .int (iI xb))]) hx hb dX3_bookText_25 hl (by decide) rfl (fun ls hl => ?_)
  have LP27 : ∀ (n_LP27 : Nat) (r : Int) (cv : Nat) (kv : Int) (Lv : List Nat) (Fv : Nat → va_E) (z : Int) (H : Heap) (locs : List Loc), (0 ≤ r ∧ r ≤ 100) → (kv ≤ 2 + 8 * r ∧ (cv : Int) ≤ 2 * kv + 40) → (0 ≤ z ∧ z ≤ 1) → (va_P D vwCl (va_pl Lv Fv) H) → (va_D (AL L s.heap.size) (va_pl Lv Fv)) → (va_S (AL L s.heap.size) s.heap H locs) → (SBs y L Lv Fv q2 cv kv) → (∀ x ∈ L, Fv x = F x) → (100 - r).toNat = n_LP27 → ∀ ls : Array Slot, lv_has ls 6 [(0, .ref ((gbg G))), (1, .int (iI xb)), (2, .ref ((grh G (zbk σ xb)))), (3, .ref q2), (4, .int (iI z)), (5, .int (iI r))] → W p l e ({ frames := 7, cells := 1800, slots := 5000, locals := 151 } : Room) s m [.ref ((gbg G)), .int (iI xb)].toArray below meth c H locs (cv + 2) (2 * cv + 10) (vx_MQ below (cMa D (AL L s.heap.size) (fun r L1 F1 => ((0 ≤ xb ∧ xb ≤ 3)) ∧ True ∧ ∃ O1 G1, CP y L1 F1 O1 G1 (kS_bookText σ xb) ∧ gbg G1 = gbg G ∧ Ext O O1 L L1 F F1)) (XC (pX ((0 ≤ xb ∧ xb ≤ 3)) (True))) [.ref ((gbg G)), .int (iI xb)].toArray s 1800 5000 (AL L s.heap.size)) (F0 m 27 ls []) := by
    intro n_LP27
    induction n_LP27 using Nat.strongRecOn with
    | ind n_LP27 ih_LP27 =>
      intro r cv kv Lv Fv z H locs hr hkv hz hP hD hS hB hfr hm_LP27 ls hl
      obtain ⟨wv, fv, ha_q2, hF_q2, ha_wv, hF_wv, hf_wv, nB_q2, nB_wv, hLs, hk0v, hk1v, hk2v⟩ := hB
      have n_q2_wv : q2 ≠ wv := ne_ob hF_q2 hF_wv
      have hC : CP y Lv Fv O G σ := CP_mono hC0 hLs hfr
      refine lv_iload hx hb dX3_bookText_27 (lv_at hl 5 rfl) ?_
      refine q_bipush hx hb dX3_bookText_29 (by decide) ?_
      refine q_icmp_ge hx hb dX3_bookText_31 (tgt := 89) (by decide) (by omega) (by omega) (fun c10 => ?_) (fun c10 => ?_)
      · refine lv_aload_n hx hb dX3_bookText_89 rfl (lv_at hl 3 rfl) ?_
        refine q_bipush hx hb dX3_bookText_90 (by decide) ?_
        have gq11 := g_pot3 (kv + 1) cv (by omega) (by omega)
        refine q_vJa C0 lX3_151 (c_J4_append_cf468 l D y sl Lv Fv _ L q2 cv kv 125 ⟨wv, fv, ha_q2, hF_q2, ha_wv, hF_wv, hf_wv, nB_q2, nB_wv, hLs, by omega, by omega, by omega⟩ (by omega) (by omega) (by omega)) ⟨rfl, rfl⟩ rfl hJ hP hD hS hA ha_q2 hF_q2 rfl rfl rfl hl rfl (Nat.le_of_ble_eq_true rfl) dX3_bookText_92 (by (try dsimp only); omega) (fun r12 H locs L13 F13 hP hD hS hz13 hp13 => ?_)
        refine W.widen (k := ((cv + 2) + (gC (kv + 1) cv))) (n := ((2 * cv + 10) + (gS (kv + 1) cv))) (by omega) (by omega) ?_
        obtain ⟨c14v, ec14v⟩ : ∃ z, z = gcap (kv + 1) cv := ⟨_, rfl⟩
        have gp14 := g_pot3 (kv + 1) cv (by omega) (by omega)
        rw [← ec14v] at hp13 gp14
        obtain ⟨er14, ⟨w14, f14, ha_q2, hF_q2, ha_w14, hF_w14, hf_w14, nB_q2, nB_w14, hLs, hk014, hk114, hk214⟩, hfr14⟩ := hp13
        replace er14 : q2 = r12 := er14.symm
        subst er14
        have n_q2_w14 : q2 ≠ w14 := ne_ob hF_q2 hF_w14
        have hfr : ∀ x ∈ L, F13 x = F x := fun x h => (hfr14 x h).trans (hfr x h)
        refine W.widen (k := (c14v + 2)) (n := (2 * c14v + 10)) (by omega) (by omega) ?_
        first | (have gi14 : (c14v : Int) ≤ 2 * (kv + 1) + 40 := by omega; clear gp14 gq11) | skip
        try clear ec14v
        try clear hk0v
        try clear hk1v
        try clear hk2v
        try clear giv
        replace hkv := hkv.1
        have hC : CP y L13 F13 O G σ := CP_mono hC0 hLs hfr
        refine lv_pop hx hb dX3_bookText_95 rfl ?_
        refine lv_aload_n hx hb dX3_bookText_96 rfl (lv_at hl 3 rfl) ?_
        refine q_vJa C0 lX3_163 (c_J4_toString_0e30d l D y sl L13 F13 _ L q2 c14v (kv + 1) ⟨w14, f14, ha_q2, hF_q2, ha_w14, hF_w14, hf_w14, nB_q2, nB_w14, hLs, by omega, by omega, by omega⟩) ⟨rfl, rfl⟩ rfl hJ hP hD hS hA ha_q2 hF_q2 rfl rfl rfl hl rfl (Nat.le_of_ble_eq_true rfl) dX3_bookText_97 (by (try dsimp only); omega) (fun r15 H locs L16 F16 hP hD hS hz16 hp16 => ?_)
        refine W.widen (k := ((c14v + 2) + 2)) (n := ((2 * c14v + 10) + (4 + (kv + 1).toNat))) (by omega) (by omega) ?_
        obtain ⟨hLs, hfr17⟩ := hp16
        have hfr : ∀ x ∈ L, F16 x = F x := fun x h => (hfr17 x h).trans (hfr x h)
        have hC : CP y L16 F16 O G σ := CP_mono hC0 hLs hfr
        refine W.widen (k := 1800) (n := 5000) (by omega) (by omega) ?_
        exact vx_ret (q_retMa C0 hret (Or.inl ⟨_, rfl⟩) hlk dX3_bookText_100 hP hD hS (⟨by omega, trivial, O, G, hC, rfl, hLs, fun q h _ => hfr q h, fun q h => Or.inl h⟩))
      · refine lv_aload_n hx hb dX3_bookText_34 rfl (lv_at hl 2 rfl) ?_
        refine lv_iload hx hb dX3_bookText_35 (lv_at hl 5 rfl) ?_
        refine q_vS C0 lX3_119 (c_X0_isThere l D y Lv Fv (grh G (zbk σ xb)) (grw G (zbk σ xb)) (zod σ (zbk σ xb)) ((zst σ (zbk σ xb)).1) ((zst σ (zbk σ xb)).2.1) ((zst σ (zbk σ xb)).2.2) r (CP_r hC (hW.1 xb)) (by omega)) ⟨rfl, rfl⟩ rfl hP (CP_r hC (hW.1 xb)).1 (CP_r hC (hW.1 xb)).2.1 rfl rfl rfl hl rfl (Nat.le_of_ble_eq_true rfl) dX3_bookText_37 (by (try dsimp only); omega) (fun r18 e_r18 => ?_)
        subst e_r18
        have b_19 := isT_b ((zst σ (zbk σ xb)).2.2) r
        refine q_if_eq hx hb dX3_bookText_40 (tgt := 83) (by decide) (by omega) (fun c20 => ?_) (fun c20 => ?_)
        · refine q_iinc (x := r) (n := 1) (lv' := [(5, .int (iI ((r + 1)))), (0, .ref ((gbg G))), (1, .int (iI xb)), (2, .ref ((grh G (zbk σ xb)))), (3, .ref q2), (4, .int (iI z))]) hx hb dX3_bookText_83 hl (k := 5) rfl (by decide) rfl (fun ls hl => ?_)
          refine lv_goto (tgt := 27) hx hb dX3_bookText_86 (by decide) ?_
          exact ih_LP27 _ (by omega) (r + 1) cv kv Lv Fv z _ _ (by omega) (by omega) (by omega) (hP) (hD) (hS) (⟨wv, fv, ha_q2, hF_q2, ha_wv, hF_wv, hf_wv, nB_q2, nB_wv, hLs, by omega, by omega, by omega⟩) (hfr) rfl ls (lv_sub hl [1, 2, 3, 4, 5, 0] rfl)
        · have q_ := isT_w c20
          have fb_ := (CP_r hC (hW.1 xb)).2.2.2.2.2 r
          refine lv_iload hx hb dX3_bookText_43 (lv_at hl 4 rfl) ?_
          refine q_if_ne hx hb dX3_bookText_45 (tgt := 55) (by decide) (by omega) (fun c21 => ?_) (fun c21 => ?_)
          · refine q_iconst hx hb dX3_bookText_55 ?_
            refine lv_istore (lv' := [(4, .int (iI 0)), (0, .ref ((gbg G))), (1, .int (iI xb)), (2, .ref ((grh G (zbk σ xb)))), (3, .ref q2), (5, .int (iI r))]) hx hb dX3_bookText_56 hl (by decide) rfl (fun ls hl => ?_)
            refine lv_aload_n hx hb dX3_bookText_58 rfl (lv_at hl 4 rfl) ?_
            refine lv_aload_n hx hb dX3_bookText_59 rfl (lv_at hl 3 rfl) ?_
            refine lv_iload hx hb dX3_bookText_60 (lv_at hl 5 rfl) ?_
            refine q_vS C0 lX3_132 (c_X0_keyOf l D y Lv Fv (grh G (zbk σ xb)) (grw G (zbk σ xb)) (zod σ (zbk σ xb)) ((zst σ (zbk σ xb)).1) ((zst σ (zbk σ xb)).2.1) ((zst σ (zbk σ xb)).2.2) r (CP_r hC (hW.1 xb)) (by omega)) ⟨rfl, rfl⟩ rfl hP (CP_r hC (hW.1 xb)).1 (CP_r hC (hW.1 xb)).2.1 rfl rfl rfl hl rfl (Nat.le_of_ble_eq_true rfl) dX3_bookText_62 (by (try dsimp only); omega) (fun r22 e_r22 => ?_)
            subst e_r22
            have b_23 := @keyR_b (zod σ (zbk σ xb)) r (by omega)
            have ds24 := dsz_b (keyR (zod σ (zbk σ xb)) r)
            have gq25 := g_pot3 (kv + dsz (keyR (zod σ (zbk σ xb)) r)) cv (by omega) (by omega)
            refine q_vJa C0 lX3_160 (c_J4_append_bf812 l D y sl Lv Fv _ L q2 cv kv (keyR (zod σ (zbk σ xb)) r) ⟨wv, fv, ha_q2, hF_q2, ha_wv, hF_wv, hf_wv, nB_q2, nB_wv, hLs, by omega, by omega, by omega⟩ (by omega) (by omega) (by omega)) ⟨rfl, rfl⟩ rfl hJ hP hD hS hA ha_q2 hF_q2 rfl rfl rfl hl rfl (Nat.le_of_ble_eq_true rfl) dX3_bookText_65 (by (try dsimp only); omega) (fun r26 H locs L27 F27 hP hD hS hz27 hp27 => ?_)
            refine W.widen (k := ((cv + 2) + (gC (kv + dsz (keyR (zod σ (zbk σ xb)) r)) cv))) (n := ((2 * cv + 10) + (gS (kv + dsz (keyR (zod σ (zbk σ xb)) r)) cv))) (by omega) (by omega) ?_
            obtain ⟨c28v, ec28v⟩ : ∃ z, z = gcap (kv + dsz (keyR (zod σ (zbk σ xb)) r)) cv := ⟨_, rfl⟩
            have gp28 := g_pot3 (kv + dsz (keyR (zod σ (zbk σ xb)) r)) cv (by omega) (by omega)
            rw [← ec28v] at hp27 gp28
            obtain ⟨er28, ⟨w28, f28, ha_q2, hF_q2, ha_w28, hF_w28, hf_w28, nB_q2, nB_w28, hLs, hk028, hk128, hk228⟩, hfr28⟩ := hp27
            replace er28 : q2 = r26 := er28.symm
            subst er28
            have n_q2_w28 : q2 ≠ w28 := ne_ob hF_q2 hF_w28
            have hfr : ∀ x ∈ L, F27 x = F x := fun x h => (hfr28 x h).trans (hfr x h)
            refine W.widen (k := (c28v + 2)) (n := (2 * c28v + 10)) (by omega) (by omega) ?_
            first | (have gi28 : (c28v : Int) ≤ 2 * (kv + dsz (keyR (zod σ (zbk σ xb)) r)) + 40 := by omega; clear gp28 gq25) | skip
            try clear ec28v
            try clear hk0v
            try clear hk1v
            try clear hk2v
            try clear giv
            replace hkv := hkv.1
            have hC : CP y L27 F27 O G σ := CP_mono hC0 hLs hfr
            refine q_bipush hx hb dX3_bookText_68 (by decide) ?_
            have ds29 := dsz_b 61
            have gq30 := g_pot3 ((kv + dsz (keyR (zod σ (zbk σ xb)) r)) + 1) c28v (by omega) (by omega)
            refine q_vJa C0 lX3_151 (c_J4_append_cf468 l D y sl L27 F27 _ L q2 c28v (kv + dsz (keyR (zod σ (zbk σ xb)) r)) 61 ⟨w28, f28, ha_q2, hF_q2, ha_w28, hF_w28, hf_w28, nB_q2, nB_w28, hLs, by omega, by omega, by omega⟩ (by omega) (by omega) (by omega)) ⟨rfl, rfl⟩ rfl hJ hP hD hS hA ha_q2 hF_q2 rfl rfl rfl hl rfl (Nat.le_of_ble_eq_true rfl) dX3_bookText_70 (by (try dsimp only); omega) (fun r31 H locs L32 F32 hP hD hS hz32 hp32 => ?_)
            refine W.widen (k := ((c28v + 2) + (gC ((kv + dsz (keyR (zod σ (zbk σ xb)) r)) + 1) c28v))) (n := ((2 * c28v + 10) + (gS ((kv + dsz (keyR (zod σ (zbk σ xb)) r)) + 1) c28v))) (by omega) (by omega) ?_
            obtain ⟨c33v, ec33v⟩ : ∃ z, z = gcap ((kv + dsz (keyR (zod σ (zbk σ xb)) r)) + 1) c28v := ⟨_, rfl⟩
            have gp33 := g_pot3 ((kv + dsz (keyR (zod σ (zbk σ xb)) r)) + 1) c28v (by omega) (by omega)
            rw [← ec33v] at hp32 gp33
            obtain ⟨er33, ⟨w33, f33, ha_q2, hF_q2, ha_w33, hF_w33, hf_w33, nB_q2, nB_w33, hLs, hk033, hk133, hk233⟩, hfr33⟩ := hp32
            replace er33 : q2 = r31 := er33.symm
            subst er33
            have n_q2_w33 : q2 ≠ w33 := ne_ob hF_q2 hF_w33
            have hfr : ∀ x ∈ L, F32 x = F x := fun x h => (hfr33 x h).trans (hfr x h)
            refine W.widen (k := (c33v + 2)) (n := (2 * c33v + 10)) (by omega) (by omega) ?_
            first | (have gi33 : (c33v : Int) ≤ 2 * ((kv + dsz (keyR (zod σ (zbk σ xb)) r)) + 1) + 40 := by omega; clear gp33 gq30) | skip
            try clear ec33v
            try clear hk028
            try clear hk128
            try clear hk228
            try clear gi28
            have hC : CP y L32 F32 O G σ := CP_mono hC0 hLs hfr
            refine lv_aload_n hx hb dX3_bookText_73 rfl (lv_at hl 3 rfl) ?_
            refine lv_iload hx hb dX3_bookText_74 (lv_at hl 5 rfl) ?_
            refine q_vS C0 lX3_107 (c_X0_worthAt l D y L32 F32 (grh G (zbk σ xb)) (grw G (zbk σ xb)) (zod σ (zbk σ xb)) ((zst σ (zbk σ xb)).1) ((zst σ (zbk σ xb)).2.1) ((zst σ (zbk σ xb)).2.2) r (CP_r hC (hW.1 xb)) (by omega)) ⟨rfl, rfl⟩ rfl hP (CP_r hC (hW.1 xb)).1 (CP_r hC (hW.1 xb)).2.1 rfl rfl rfl hl rfl (Nat.le_of_ble_eq_true rfl) dX3_bookText_76 (by (try dsimp only); omega) (fun r34 e_r34 => ?_)
            subst e_r34
            have b_35 := @wAt_b ((zst σ (zbk σ xb)).2.2) ((CP_r hC (hW.1 xb)).2.2.2.2.2) r
            have ds36 := dsz_b (wAt ((zst σ (zbk σ xb)).2.2) r)
            have gq37 := g_pot3 (((kv + dsz (keyR (zod σ (zbk σ xb)) r)) + 1) + dsz (wAt ((zst σ (zbk σ xb)).2.2) r)) c33v (by omega) (by omega)
            refine q_vJa C0 lX3_160 (c_J4_append_bf812 l D y sl L32 F32 _ L q2 c33v ((kv + dsz (keyR (zod σ (zbk σ xb)) r)) + 1) (wAt ((zst σ (zbk σ xb)).2.2) r) ⟨w33, f33, ha_q2, hF_q2, ha_w33, hF_w33, hf_w33, nB_q2, nB_w33, hLs, by omega, by omega, by omega⟩ (by omega) (by omega) (by omega)) ⟨rfl, rfl⟩ rfl hJ hP hD hS hA ha_q2 hF_q2 rfl rfl rfl hl rfl (Nat.le_of_ble_eq_true rfl) dX3_bookText_79 (by (try dsimp only); omega) (fun r38 H locs L39 F39 hP hD hS hz39 hp39 => ?_)
            refine W.widen (k := ((c33v + 2) + (gC (((kv + dsz (keyR (zod σ (zbk σ xb)) r)) + 1) + dsz (wAt ((zst σ (zbk σ xb)).2.2) r)) c33v))) (n := ((2 * c33v + 10) + (gS (((kv + dsz (keyR (zod σ (zbk σ xb)) r)) + 1) + dsz (wAt ((zst σ (zbk σ xb)).2.2) r)) c33v))) (by omega) (by omega) ?_
            obtain ⟨c40v, ec40v⟩ : ∃ z, z = gcap (((kv + dsz (keyR (zod σ (zbk σ xb)) r)) + 1) + dsz (wAt ((zst σ (zbk σ xb)).2.2) r)) c33v := ⟨_, rfl⟩
            have gp40 := g_pot3 (((kv + dsz (keyR (zod σ (zbk σ xb)) r)) + 1) + dsz (wAt ((zst σ (zbk σ xb)).2.2) r)) c33v (by omega) (by omega)
            rw [← ec40v] at hp39 gp40
            obtain ⟨er40, ⟨w40, f40, ha_q2, hF_q2, ha_w40, hF_w40, hf_w40, nB_q2, nB_w40, hLs, hk040, hk140, hk240⟩, hfr40⟩ := hp39
            replace er40 : q2 = r38 := er40.symm
            subst er40
            have n_q2_w40 : q2 ≠ w40 := ne_ob hF_q2 hF_w40
            have hfr : ∀ x ∈ L, F39 x = F x := fun x h => (hfr40 x h).trans (hfr x h)
            refine W.widen (k := (c40v + 2)) (n := (2 * c40v + 10)) (by omega) (by omega) ?_
            first | (have gi40 : (c40v : Int) ≤ 2 * (((kv + dsz (keyR (zod σ (zbk σ xb)) r)) + 1) + dsz (wAt ((zst σ (zbk σ xb)).2.2) r)) + 40 := by omega; clear gp40 gq37) | skip
            try clear ec40v
            try clear hk033
            try clear hk133
            try clear hk233
            try clear gi33
            have hC : CP y L39 F39 O G σ := CP_mono hC0 hLs hfr
            refine lv_pop hx hb dX3_bookText_82 rfl ?_
            refine q_iinc (x := r) (n := 1) (lv' := [(5, .int (iI ((r + 1)))), (4, .int (iI 0)), (0, .ref ((gbg G))), (1, .int (iI xb)), (2, .ref ((grh G (zbk σ xb)))), (3, .ref q2)]) hx hb dX3_bookText_83 hl (k := 5) rfl (by decide) rfl (fun ls hl => ?_)
            refine lv_goto (tgt := 27) hx hb dX3_bookText_86 (by decide) ?_
            exact ih_LP27 _ (by omega) (r + 1) c40v (((kv + dsz (keyR (zod σ (zbk σ xb)) r)) + 1) + dsz (wAt ((zst σ (zbk σ xb)).2.2) r)) L39 F39 0 _ _ (by omega) (by omega) (by omega) (hP) (hD) (hS) (⟨w40, f40, ha_q2, hF_q2, ha_w40, hF_w40, hf_w40, nB_q2, nB_w40, hLs, by omega, by omega, by omega⟩) (hfr) rfl ls (lv_sub hl [2, 3, 4, 5, 1, 0] rfl)
          · refine lv_aload_n hx hb dX3_bookText_48 rfl (lv_at hl 3 rfl) ?_
            obtain ⟨q41, hq41, hv41, hn41⟩ := hJ.2.2.2.2.2.2 (RX3, 155, ", ") (by unfold jstr; simp)
            refine q_ldcS C0 hv41 dX3_bookText_49 ?_
            have gq42 := g_pot3 (kv + (q41.2.2 : Int)) cv (by omega) (by omega)
            refine q_vJa C0 lX3_157 (c_J4_append_15ec4 l D y sl Lv Fv _ L q2 cv kv q41 ⟨wv, fv, ha_q2, hF_q2, ha_wv, hF_wv, hf_wv, nB_q2, nB_wv, hLs, by omega, by omega, by omega⟩ hq41 (by omega) (by omega)) ⟨rfl, rfl⟩ rfl hJ hP hD hS hA ha_q2 hF_q2 rfl rfl rfl hl rfl (Nat.le_of_ble_eq_true rfl) dX3_bookText_51 (by (try dsimp only); omega) (fun r43 H locs L44 F44 hP hD hS hz44 hp44 => ?_)
            refine W.widen (k := ((cv + 2) + (gC (kv + (q41.2.2 : Int)) cv))) (n := ((2 * cv + 10) + (gS (kv + (q41.2.2 : Int)) cv))) (by omega) (by omega) ?_
            obtain ⟨c45v, ec45v⟩ : ∃ z, z = gcap (kv + (q41.2.2 : Int)) cv := ⟨_, rfl⟩
            have gp45 := g_pot3 (kv + (q41.2.2 : Int)) cv (by omega) (by omega)
            rw [← ec45v] at hp44 gp45
            obtain ⟨er45, ⟨w45, f45, ha_q2, hF_q2, ha_w45, hF_w45, hf_w45, nB_q2, nB_w45, hLs, hk045, hk145, hk245⟩, hfr45⟩ := hp44
            replace er45 : q2 = r43 := er45.symm
            subst er45
            have n_q2_w45 : q2 ≠ w45 := ne_ob hF_q2 hF_w45
            have hfr : ∀ x ∈ L, F44 x = F x := fun x h => (hfr45 x h).trans (hfr x h)
            refine W.widen (k := (c45v + 2)) (n := (2 * c45v + 10)) (by omega) (by omega) ?_
            first | (have gi45 : (c45v : Int) ≤ 2 * (kv + (q41.2.2 : Int)) + 40 := by omega; clear gp45 gq42) | skip
            try clear ec45v
            try clear hk0v
            try clear hk1v
            try clear hk2v
            try clear giv
            replace hkv := hkv.1
            have hC : CP y L44 F44 O G σ := CP_mono hC0 hLs hfr
            refine lv_pop hx hb dX3_bookText_54 rfl ?_
            refine q_iconst hx hb dX3_bookText_55 ?_
            refine lv_istore (lv' := [(4, .int (iI 0)), (0, .ref ((gbg G))), (1, .int (iI xb)), (2, .ref ((grh G (zbk σ xb)))), (3, .ref q2), (5, .int (iI r))]) hx hb dX3_bookText_56 hl (by decide) rfl (fun ls hl => ?_)
            refine lv_aload_n hx hb dX3_bookText_58 rfl (lv_at hl 4 rfl) ?_
            refine lv_aload_n hx hb dX3_bookText_59 rfl (lv_at hl 3 rfl) ?_
            refine lv_iload hx hb dX3_bookText_60 (lv_at hl 5 rfl) ?_
            refine q_vS C0 lX3_132 (c_X0_keyOf l D y L44 F44 (grh G (zbk σ xb)) (grw G (zbk σ xb)) (zod σ (zbk σ xb)) ((zst σ (zbk σ xb)).1) ((zst σ (zbk σ xb)).2.1) ((zst σ (zbk σ xb)).2.2) r (CP_r hC (hW.1 xb)) (by omega)) ⟨rfl, rfl⟩ rfl hP (CP_r hC (hW.1 xb)).1 (CP_r hC (hW.1 xb)).2.1 rfl rfl rfl hl rfl (Nat.le_of_ble_eq_true rfl) dX3_bookText_62 (by (try dsimp only); omega) (fun r46 e_r46 => ?_)
            subst e_r46
            have b_47 := @keyR_b (zod σ (zbk σ xb)) r (by omega)
            have ds48 := dsz_b (keyR (zod σ (zbk σ xb)) r)
            have gq49 := g_pot3 ((kv + (q41.2.2 : Int)) + dsz (keyR (zod σ (zbk σ xb)) r)) c45v (by omega) (by omega)
            refine q_vJa C0 lX3_160 (c_J4_append_bf812 l D y sl L44 F44 _ L q2 c45v (kv + (q41.2.2 : Int)) (keyR (zod σ (zbk σ xb)) r) ⟨w45, f45, ha_q2, hF_q2, ha_w45, hF_w45, hf_w45, nB_q2, nB_w45, hLs, by omega, by omega, by omega⟩ (by omega) (by omega) (by omega)) ⟨rfl, rfl⟩ rfl hJ hP hD hS hA ha_q2 hF_q2 rfl rfl rfl hl rfl (Nat.le_of_ble_eq_true rfl) dX3_bookText_65 (by (try dsimp only); omega) (fun r50 H locs L51 F51 hP hD hS hz51 hp51 => ?_)
            refine W.widen (k := ((c45v + 2) + (gC ((kv + (q41.2.2 : Int)) + dsz (keyR (zod σ (zbk σ xb)) r)) c45v))) (n := ((2 * c45v + 10) + (gS ((kv + (q41.2.2 : Int)) + dsz (keyR (zod σ (zbk σ xb)) r)) c45v))) (by omega) (by omega) ?_
            obtain ⟨c52v, ec52v⟩ : ∃ z, z = gcap ((kv + (q41.2.2 : Int)) + dsz (keyR (zod σ (zbk σ xb)) r)) c45v := ⟨_, rfl⟩
            have gp52 := g_pot3 ((kv + (q41.2.2 : Int)) + dsz (keyR (zod σ (zbk σ xb)) r)) c45v (by omega) (by omega)
            rw [← ec52v] at hp51 gp52
            obtain ⟨er52, ⟨w52, f52, ha_q2, hF_q2, ha_w52, hF_w52, hf_w52, nB_q2, nB_w52, hLs, hk052, hk152, hk252⟩, hfr52⟩ := hp51
            replace er52 : q2 = r50 := er52.symm
            subst er52
            have n_q2_w52 : q2 ≠ w52 := ne_ob hF_q2 hF_w52
            have hfr : ∀ x ∈ L, F51 x = F x := fun x h => (hfr52 x h).trans (hfr x h)
            refine W.widen (k := (c52v + 2)) (n := (2 * c52v + 10)) (by omega) (by omega) ?_
            first | (have gi52 : (c52v : Int) ≤ 2 * ((kv + (q41.2.2 : Int)) + dsz (keyR (zod σ (zbk σ xb)) r)) + 40 := by omega; clear gp52 gq49) | skip
            try clear ec52v
            try clear hk045
            try clear hk145
            try clear hk245
            try clear gi45
            have hC : CP y L51 F51 O G σ := CP_mono hC0 hLs hfr
            refine q_bipush hx hb dX3_bookText_68 (by decide) ?_
            have ds53 := dsz_b 61
            have gq54 := g_pot3 (((kv + (q41.2.2 : Int)) + dsz (keyR (zod σ (zbk σ xb)) r)) + 1) c52v (by omega) (by omega)
            refine q_vJa C0 lX3_151 (c_J4_append_cf468 l D y sl L51 F51 _ L q2 c52v ((kv + (q41.2.2 : Int)) + dsz (keyR (zod σ (zbk σ xb)) r)) 61 ⟨w52, f52, ha_q2, hF_q2, ha_w52, hF_w52, hf_w52, nB_q2, nB_w52, hLs, by omega, by omega, by omega⟩ (by omega) (by omega) (by omega)) ⟨rfl, rfl⟩ rfl hJ hP hD hS hA ha_q2 hF_q2 rfl rfl rfl hl rfl (Nat.le_of_ble_eq_true rfl) dX3_bookText_70 (by (try dsimp only); omega) (fun r55 H locs L56 F56 hP hD hS hz56 hp56 => ?_)
            refine W.widen (k := ((c52v + 2) + (gC (((kv + (q41.2.2 : Int)) + dsz (keyR (zod σ (zbk σ xb)) r)) + 1) c52v))) (n := ((2 * c52v + 10) + (gS (((kv + (q41.2.2 : Int)) + dsz (keyR (zod σ (zbk σ xb)) r)) + 1) c52v))) (by omega) (by omega) ?_
            obtain ⟨c57v, ec57v⟩ : ∃ z, z = gcap (((kv + (q41.2.2 : Int)) + dsz (keyR (zod σ (zbk σ xb)) r)) + 1) c52v := ⟨_, rfl⟩
            have gp57 := g_pot3 (((kv + (q41.2.2 : Int)) + dsz (keyR (zod σ (zbk σ xb)) r)) + 1) c52v (by omega) (by omega)
            rw [← ec57v] at hp56 gp57
            obtain ⟨er57, ⟨w57, f57, ha_q2, hF_q2, ha_w57, hF_w57, hf_w57, nB_q2, nB_w57, hLs, hk057, hk157, hk257⟩, hfr57⟩ := hp56
            replace er57 : q2 = r55 := er57.symm
            subst er57
            have n_q2_w57 : q2 ≠ w57 := ne_ob hF_q2 hF_w57
            have hfr : ∀ x ∈ L, F56 x = F x := fun x h => (hfr57 x h).trans (hfr x h)
            refine W.widen (k := (c57v + 2)) (n := (2 * c57v + 10)) (by omega) (by omega) ?_
            first | (have gi57 : (c57v : Int) ≤ 2 * (((kv + (q41.2.2 : Int)) + dsz (keyR (zod σ (zbk σ xb)) r)) + 1) + 40 := by omega; clear gp57 gq54) | skip
            try clear ec57v
            try clear hk052
            try clear hk152
            try clear hk252
            try clear gi52
            have hC : CP y L56 F56 O G σ := CP_mono hC0 hLs hfr
            refine lv_aload_n hx hb dX3_bookText_73 rfl (lv_at hl 3 rfl) ?_
            refine lv_iload hx hb dX3_bookText_74 (lv_at hl 5 rfl) ?_
            refine q_vS C0 lX3_107 (c_X0_worthAt l D y L56 F56 (grh G (zbk σ xb)) (grw G (zbk σ xb)) (zod σ (zbk σ xb)) ((zst σ (zbk σ xb)).1) ((zst σ (zbk σ xb)).2.1) ((zst σ (zbk σ xb)).2.2) r (CP_r hC (hW.1 xb)) (by omega)) ⟨rfl, rfl⟩ rfl hP (CP_r hC (hW.1 xb)).1 (CP_r hC (hW.1 xb)).2.1 rfl rfl rfl hl rfl (Nat.le_of_ble_eq_true rfl) dX3_bookText_76 (by (try dsimp only); omega) (fun r58 e_r58 => ?_)
            subst e_r58
            have b_59 := @wAt_b ((zst σ (zbk σ xb)).2.2) ((CP_r hC (hW.1 xb)).2.2.2.2.2) r
            have ds60 := dsz_b (wAt ((zst σ (zbk σ xb)).2.2) r)
            have gq61 := g_pot3 ((((kv + (q41.2.2 : Int)) + dsz (keyR (zod σ (zbk σ xb)) r)) + 1) + dsz (wAt ((zst σ (zbk σ xb)).2.2) r)) c57v (by omega) (by omega)
            refine q_vJa C0 lX3_160 (c_J4_append_bf812 l D y sl L56 F56 _ L q2 c57v (((kv + (q41.2.2 : Int)) + dsz (keyR (zod σ (zbk σ xb)) r)) + 1) (wAt ((zst σ (zbk σ xb)).2.2) r) ⟨w57, f57, ha_q2, hF_q2, ha_w57, hF_w57, hf_w57, nB_q2, nB_w57, hLs, by omega, by omega, by omega⟩ (by omega) (by omega) (by omega)) ⟨rfl, rfl⟩ rfl hJ hP hD hS hA ha_q2 hF_q2 rfl rfl rfl hl rfl (Nat.le_of_ble_eq_true rfl) dX3_bookText_79 (by (try dsimp only); omega) (fun r62 H locs L63 F63 hP hD hS hz63 hp63 => ?_)
            refine W.widen (k := ((c57v + 2) + (gC ((((kv + (q41.2.2 : Int)) + dsz (keyR (zod σ (zbk σ xb)) r)) + 1) + dsz (wAt ((zst σ (zbk σ xb)).2.2) r)) c57v))) (n := ((2 * c57v + 10) + (gS ((((kv + (q41.2.2 : Int)) + dsz (keyR (zod σ (zbk σ xb)) r)) + 1) + dsz (wAt ((zst σ (zbk σ xb)).2.2) r)) c57v))) (by omega) (by omega) ?_
            obtain ⟨c64v, ec64v⟩ : ∃ z, z = gcap ((((kv + (q41.2.2 : Int)) + dsz (keyR (zod σ (zbk σ xb)) r)) + 1) + dsz (wAt ((zst σ (zbk σ xb)).2.2) r)) c57v := ⟨_, rfl⟩
            have gp64 := g_pot3 ((((kv + (q41.2.2 : Int)) + dsz (keyR (zod σ (zbk σ xb)) r)) + 1) + dsz (wAt ((zst σ (zbk σ xb)).2.2) r)) c57v (by omega) (by omega)
            rw [← ec64v] at hp63 gp64
            obtain ⟨er64, ⟨w64, f64, ha_q2, hF_q2, ha_w64, hF_w64, hf_w64, nB_q2, nB_w64, hLs, hk064, hk164, hk264⟩, hfr64⟩ := hp63
            replace er64 : q2 = r62 := er64.symm
            subst er64
            have n_q2_w64 : q2 ≠ w64 := ne_ob hF_q2 hF_w64
            have hfr : ∀ x ∈ L, F63 x = F x := fun x h => (hfr64 x h).trans (hfr x h)
            refine W.widen (k := (c64v + 2)) (n := (2 * c64v + 10)) (by omega) (by omega) ?_
            first | (have gi64 : (c64v : Int) ≤ 2 * ((((kv + (q41.2.2 : Int)) + dsz (keyR (zod σ (zbk σ xb)) r)) + 1) + dsz (wAt ((zst σ (zbk σ xb)).2.2) r)) + 40 := by omega; clear gp64 gq61) | skip
            try clear ec64v
            try clear hk057
            try clear hk157
            try clear hk257
            try clear gi57
            have hC : CP y L63 F63 O G σ := CP_mono hC0 hLs hfr
            refine lv_pop hx hb dX3_bookText_82 rfl ?_
            refine q_iinc (x := r) (n := 1) (lv' := [(5, .int (iI ((r + 1)))), (4, .int (iI 0)), (0, .ref ((gbg G))), (1, .int (iI xb)), (2, .ref ((grh G (zbk σ xb)))), (3, .ref q2)]) hx hb dX3_bookText_83 hl (k := 5) rfl (by decide) rfl (fun ls hl => ?_)
            refine lv_goto (tgt := 27) hx hb dX3_bookText_86 (by decide) ?_
            exact ih_LP27 _ (by omega) (r + 1) c64v ((((kv + (q41.2.2 : Int)) + dsz (keyR (zod σ (zbk σ xb)) r)) + 1) + dsz (wAt ((zst σ (zbk σ xb)).2.2) r)) L63 F63 0 _ _ (by omega) (by omega) (by omega) (hP) (hD) (hS) (⟨w64, f64, ha_q2, hF_q2, ha_w64, hF_w64, hf_w64, nB_q2, nB_w64, hLs, by omega, by omega, by omega⟩) (hfr) rfl ls (lv_sub hl [2, 3, 4, 5, 1, 0] rfl)
  exact LP27 _ 0 c9v (0 + 1) L8 F8 1 _ _ (by omega) (by omega) (by omega) (hP) (hD) (hS) (⟨w9, f9, ha_q2, hF_q2, ha_w9, hF_w9, hf_w9, nB_q2, nB_w9, hLs, by omega, by omega, by omega⟩) (hfr) rfl ls (lv_sub hl [4, 5, 3, 2, 1, 0] rfl)
