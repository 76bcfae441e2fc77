abbrev sbE (w : Nat) (k : Int) : va_E := .inr (1, [.ref w, .int (iI 0), .int (iI 0), .int (iI k)])
/-- a StringBuilder at a: k letters, room for cap; B: what isn't its own -/
def SBs (y : Nat → ClassId) (B L : List Nat) (F : Nat → va_E) (a cap : Nat) (k : Int) : Prop := ∃ (w : Nat) (f : Nat → Int32), a ∈ L ∧ F a = sbE w k ∧ w ∈ L ∧ F w = arrB y cap f ∧ sb_Fit f ∧ a ∉ B ∧ w ∉ B ∧ (∀ x ∈ B, x ∈ L) ∧ 0 ≤ k ∧ k ≤ cap ∧ cap ≤ 20000
def gcap (q : Int) (cap : Nat) : Nat := if q ≤ cap then cap else cap + max (q.toNat - cap) (cap + 2)
def gC (q : Int) (cap : Nat) : Nat := if q ≤ cap then 0 else 1
def gS (q : Int) (cap : Nat) : Nat := if q ≤ cap then 0 else gcap q cap
theorem g_in {q : Int} {cap : Nat} (h : q ≤ cap) : gcap q cap = cap ∧ gC q cap = 0 ∧ gS q cap = 0 := ⟨if_pos h, if_pos h, if_pos h⟩
theorem g_out {q : Int} {cap : Nat} (h : ¬ q ≤ cap) : gcap q cap = cap + max (q.toNat - cap) (cap + 2) ∧ gC q cap = 1 ∧ gS q cap = cap + max (q.toNat - cap) (cap + 2) := ⟨if_neg h, if_neg h, by unfold gS; rw [if_neg h]; exact if_neg h⟩
def dsz (n : Int) : Int := if n < 10 then 1 else 2
theorem dsz_b (n : Int) : 1 ≤ dsz n ∧ dsz n ≤ 2 := by
  unfold dsz
  split <;> omega
theorem ne_ob {y : Nat → ClassId} {F : Nat → va_E} {a b i n : Nat} {fs : List Value} {f : Nat → Int32} (h : F a = .inr (i, fs)) (h2 : F b = arrB y n f) : a ≠ b := ne_oa h h2
theorem g_ge (q : Int) (cap : Nat) : q ≤ gcap q cap ∧ cap ≤ gcap q cap := by
  by_cases h : q ≤ cap
  · rw [(g_in h).1]
    omega
  · rw [(g_out h).1]
    omega
theorem g_pot (q : Int) (cap : Nat) (hq : 0 ≤ q) : gC q cap + cap ≤ gcap q cap ∧ gS q cap + 2 * cap ≤ 2 * gcap q cap ∧ (gcap q cap : Int) ≤ max (cap : Int) (2 * q) := by
  by_cases h : q ≤ cap
  · rw [(g_in h).1, (g_in h).2.1, (g_in h).2.2]
    omega
  · rw [(g_out h).1, (g_out h).2.1, (g_out h).2.2]
    omega
set_option maxHeartbeats 3000000 in
set_option maxRecDepth 100000 in
theorem c_J5_isLatin1_aae02 (l : Launch) (D : va_G) (y : Nat → ClassId) (sl : List (Nat × Nat × Nat)) (L : List Nat) (F : Nat → va_E) (sz : Nat) (B : List Nat) (a : Nat) (cap : Nat) (k : Int) (hB : SBs y B L F a cap k) : Met l yJ5_isLatin1_aae02 (.code yJ5_isLatin1_aae02 cJ5_isLatin1_aae02 1 (some .boolean) :: Tt) ({ frames := 0, cells := 0, slots := 0, locals := 0 }) (PcJ D y sl L F sz [.ref a]) (cMi D (AL L sz) (fun r L1 F1 => L = L1 ∧ F = F1 ∧ r = 1)) 0 0 (AL L sz) := by
  obtain ⟨w, f, ha_a, hF_a, ha_w, hF_w, hf_w, nB_a, nB_w, hLs, hk0, hk1, hk2⟩ := hB
  have n_a_w : a ≠ w := ne_ob hF_a hF_w
  have hfr : ∀ x ∈ B, F x = F x := fun _ _ => rfl
  refine q_ofJ (lv := [(0, .ref a)]) (by decide) (Nat.le_of_ble_eq_true rfl) rfl (fun p e s m below meth c C0 hret hlk hnm hA hP hD hS hJ ls hl => ?_)
  have hx := C0.1.1
  have hb := C0.1.2.1
  have hts := C0.1.2.2.2.2
  refine q_gets C0 hS hJ.1 flJ5_18 dJ5_isLatin1_aae02_0 ?_
  refine q_if_eq hx hb dJ5_isLatin1_aae02_3 (tgt := 17) (by decide) (by omega) (fun c1 => absurd c1 (by omega)) (fun c1 => ?_)
  refine lv_aload_n hx hb dJ5_isLatin1_aae02_6 rfl (lv_at hl 0 rfl) ?_
  refine q_get C0 iJ4 hP ha_a hF_a rfl 1 (by decide) flJ5_22 rfl rfl dJ5_isLatin1_aae02_7 ?_
  refine q_if_ne hx hb dJ5_isLatin1_aae02_10 (tgt := 17) (by decide) (by omega) (fun c2 => absurd c2 (by omega)) (fun c2 => ?_)
  refine q_iconst hx hb dJ5_isLatin1_aae02_13 ?_
  refine lv_goto (tgt := 18) hx hb dJ5_isLatin1_aae02_14 (by decide) ?_
  exact q_retMi C0 hret (by decide) hlk dJ5_isLatin1_aae02_18 hP hD hS (⟨rfl, rfl, rfl⟩)
set_option maxHeartbeats 3000000 in
set_option maxRecDepth 100000 in
theorem c_J5_length_8abf5 (l : Launch) (D : va_G) (y : Nat → ClassId) (sl : List (Nat × Nat × Nat)) (L : List Nat) (F : Nat → va_E) (sz : Nat) (B : List Nat) (a : Nat) (cap : Nat) (k : Int) (hB : SBs y B L F a cap k) : Met l yJ5_length_8abf5 (.code yJ5_length_8abf5 cJ5_length_8abf5 1 (some .int) :: Tt) ({ frames := 0, cells := 0, slots := 0, locals := 0 }) (PcJ D y sl L F sz [.ref a]) (cMi D (AL L sz) (fun r L1 F1 => L = L1 ∧ F = F1 ∧ r = k)) 0 0 (AL L sz) := by
  obtain ⟨w, f, ha_a, hF_a, ha_w, hF_w, hf_w, nB_a, nB_w, hLs, hk0, hk1, hk2⟩ := hB
  have n_a_w : a ≠ w := ne_ob hF_a hF_w
  have hfr : ∀ x ∈ B, F x = F x := fun _ _ => rfl
  refine q_ofJ (lv := [(0, .ref a)]) (by decide) (Nat.le_of_ble_eq_true rfl) rfl (fun p e s m below meth c C0 hret hlk hnm hA hP hD hS hJ ls hl => ?_)
  have hx := C0.1.1
  have hb := C0.1.2.1
  have hts := C0.1.2.2.2.2
  refine lv_aload_n hx hb dJ5_length_8abf5_0 rfl (lv_at hl 0 rfl) ?_
  refine q_get C0 iJ4 hP ha_a hF_a rfl 3 (by decide) flJ5_79 rfl rfl dJ5_length_8abf5_1 ?_
  exact q_retMi C0 hret rfl hlk dJ5_length_8abf5_4 hP hD hS (⟨rfl, rfl, rfl⟩)
set_option maxHeartbeats 3000000 in
set_option maxRecDepth 100000 in
theorem c_J4_length_8abf5 (l : Launch) (D : va_G) (y : Nat → ClassId) (sl : List (Nat × Nat × Nat)) (L : List Nat) (F : Nat → va_E) (sz : Nat) (B : List Nat) (a : Nat) (cap : Nat) (k : Int) (hB : SBs y B L F a cap k) : Met l yJ4_length_8abf5 (.code yJ4_length_8abf5 cJ4_length_8abf5 1 (some .int) :: Tt) ({ frames := 1, cells := 0, slots := 0, locals := 20 }) (PcJ D y sl L F sz [.ref a]) (cMi D (AL L sz) (fun r L1 F1 => L = L1 ∧ F = F1 ∧ r = k)) 0 0 (AL L sz) := by
  obtain ⟨w, f, ha_a, hF_a, ha_w, hF_w, hf_w, nB_a, nB_w, hLs, hk0, hk1, hk2⟩ := hB
  have n_a_w : a ≠ w := ne_ob hF_a hF_w
  have hfr : ∀ x ∈ B, F x = F x := fun _ _ => rfl
  refine q_ofJ (lv := [(0, .ref a)]) (by decide) (Nat.le_of_ble_eq_true rfl) rfl (fun p e s m below meth c C0 hret hlk hnm hA hP hD hS hJ ls hl => ?_)
  have hx := C0.1.1
  have hb := C0.1.2.1
  have hts := C0.1.2.2.2.2
  refine lv_aload_n hx hb dJ4_length_8abf5_0 rfl (lv_at hl 0 rfl) ?_
  refine q_pJi C0 uJ4_343 (c_J5_length_8abf5 l D y sl L F _ B a cap k ⟨w, f, ha_a, hF_a, ha_w, hF_w, hf_w, nB_a, nB_w, hLs, by omega, by omega, by omega⟩) ⟨rfl, rfl⟩ rfl hJ hP hD hS hA ha_a hF_a rfl rfl hl rfl (Nat.le_of_ble_eq_true rfl) dJ4_length_8abf5_1 (by (try dsimp only); omega) (fun r1 H locs L2 F2 hP hD hS hz2 hp2 => ?_)
  obtain ⟨eL3, eF3, er3⟩ := hp2
  subst eL3
  subst eF3
  replace er3 : k = r1 := er3.symm
  subst er3
  exact q_retMi C0 hret rfl hlk dJ4_length_8abf5_4 hP hD hS (⟨rfl, rfl, rfl⟩)
set_option maxHeartbeats 3000000 in
set_option maxRecDepth 100000 in
theorem c_J5_getValue_6d5f1 (l : Launch) (D : va_G) (y : Nat → ClassId) (sl : List (Nat × Nat × Nat)) (L : List Nat) (F : Nat → va_E) (sz : Nat) (a : Nat) (w : Nat) (k : Int) (ha_a : a ∈ L) (hF_a : F a = sbE w k) : Met l yJ5_getValue_6d5f1 (.code yJ5_getValue_6d5f1 cJ5_getValue_6d5f1 1 (some (.array .byte)) :: Tt) ({ frames := 0, cells := 0, slots := 0, locals := 0 }) (PcJ D y sl L F sz [.ref a]) (cMa D (AL L sz) (fun r L1 F1 => L = L1 ∧ F = F1 ∧ r = w)) 0 0 (AL L sz) := by
  refine q_ofJ (lv := [(0, .ref a)]) (by decide) (Nat.le_of_ble_eq_true rfl) rfl (fun p e s m below meth c C0 hret hlk hnm hA hP hD hS hJ ls hl => ?_)
  have hx := C0.1.1
  have hb := C0.1.2.1
  have hts := C0.1.2.2.2.2
  refine lv_aload_n hx hb dJ5_getValue_6d5f1_0 rfl (lv_at hl 0 rfl) ?_
  refine q_get C0 iJ4 hP ha_a hF_a rfl 0 (by decide) flJ5_15 rfl rfl dJ5_getValue_6d5f1_1 ?_
  exact q_retMa C0 hret (by first | exact Or.inl ⟨_, rfl⟩ | exact Or.inr ⟨_, rfl⟩) hlk dJ5_getValue_6d5f1_4 hP hD hS (⟨rfl, rfl, rfl⟩)
set_option maxHeartbeats 3000000 in
set_option maxRecDepth 100000 in
theorem c_J1_canEncode_fc78d (l : Launch) (D : va_G) (y : Nat → ClassId) (sl : List (Nat × Nat × Nat)) (L : List Nat) (F : Nat → va_E) (sz : Nat) (n : Int) (hn : 0 ≤ n ∧ n ≤ 255) : Met l yJ1_canEncode_fc78d (.code yJ1_canEncode_fc78d cJ1_canEncode_fc78d 1 (some .boolean) :: Tt) ({ frames := 0, cells := 0, slots := 0, locals := 0 }) (PcJ D y sl L F sz [.int (iI n)]) (cMi D (AL L sz) (fun r L1 F1 => L = L1 ∧ F = F1 ∧ r = 1)) 0 0 (AL L sz) := by
  refine q_ofJ (lv := [(0, .int (iI n))]) (by decide) (Nat.le_of_ble_eq_true rfl) rfl (fun p e s m below meth c C0 hret hlk hnm hA hP hD hS hJ ls hl => ?_)
  have hx := C0.1.1
  have hb := C0.1.2.1
  have hts := C0.1.2.2.2.2
  refine lv_iload_n hx hb dJ1_canEncode_fc78d_0 rfl (lv_at hl 0 rfl) ?_
  refine q_sipush hx hb dJ1_canEncode_fc78d_1 (by decide) ?_
  refine q_icmp_gt hx hb dJ1_canEncode_fc78d_4 (tgt := 11) (by decide) (by omega) (by omega) (fun c1 => absurd c1 (by omega)) (fun c1 => ?_)
  refine q_iconst hx hb dJ1_canEncode_fc78d_7 ?_
  refine lv_goto (tgt := 12) hx hb dJ1_canEncode_fc78d_8 (by decide) ?_
  exact q_retMi C0 hret (by decide) hlk dJ1_canEncode_fc78d_12 hP hD hS (⟨rfl, rfl, rfl⟩)
set_option maxHeartbeats 3000000 in
set_option maxRecDepth 100000 in
theorem c_J8_newLength_cabcc (l : Launch) (D : va_G) (y : Nat → ClassId) (sl : List (Nat × Nat × Nat)) (L : List Nat) (F : Nat → va_E) (sz : Nat) (n : Int) (b : Int) (v : Int) (hn : 0 ≤ n ∧ n ≤ 20000) (hb9 : 0 ≤ b ∧ b ≤ 60000) (hv : 1 ≤ v ∧ v ≤ 60000) : Met l yJ8_newLength_cabcc (.code yJ8_newLength_cabcc cJ8_newLength_cabcc 4 (some .int) :: Tt) ({ frames := 1, cells := 0, slots := 0, locals := 21 }) (PcJ D y sl L F sz [.int (iI n), .int (iI b), .int (iI v)]) (cMi D (AL L sz) (fun r L1 F1 => L = L1 ∧ F = F1 ∧ r = n + max b v)) 0 0 (AL L sz) := by
  refine q_ofJ (lv := [(0, .int (iI n)), (1, .int (iI b)), (2, .int (iI v))]) (by decide) (Nat.le_of_ble_eq_true rfl) rfl (fun p e s m below meth c C0 hret hlk hnm hA hP hD hS hJ ls hl => ?_)
  have hx := C0.1.1
  have hb := C0.1.2.1
  have hts := C0.1.2.2.2.2
  refine lv_iload_n hx hb dJ8_newLength_cabcc_0 rfl (lv_at hl 0 rfl) ?_
  refine lv_iload_n hx hb dJ8_newLength_cabcc_1 rfl (lv_at hl 1 rfl) ?_
  refine lv_iload_n hx hb dJ8_newLength_cabcc_2 rfl (lv_at hl 2 rfl) ?_
  refine q_max hx hb (by rw [hl.1]; exact C0.1.2.2.1) C0.1.2.2.2.1 hts mlJ8_194 stMax iniMath cdMax (Nat.le_of_ble_eq_true rfl) (Nat.le_of_ble_eq_true rfl) (by (try dsimp only); omega) (by (try dsimp only); omega) dJ8_newLength_cabcc_3 (by omega) (by omega) ?_
  refine q_iadd hx hb dJ8_newLength_cabcc_6 ?_
  refine lv_istore_n (lv' := [(3, .int (iI ((n + (max b v))))), (0, .int (iI n)), (1, .int (iI b)), (2, .int (iI v))]) hx hb dJ8_newLength_cabcc_7 rfl hl (by decide) rfl (fun ls hl => ?_)
  refine q_iconst hx hb dJ8_newLength_cabcc_8 ?_
  refine lv_iload_n hx hb dJ8_newLength_cabcc_9 rfl (lv_at hl 0 rfl) ?_
  refine q_icmp_ge hx hb dJ8_newLength_cabcc_10 (tgt := 21) (by decide) (by omega) (by omega) (fun c1 => absurd c1 (by omega)) (fun c1 => ?_)
  refine lv_iload_n hx hb dJ8_newLength_cabcc_13 rfl (lv_at hl 0 rfl) ?_
  refine q_ldcI C0 cIJ8_200 (z := 2147483639) (by decide) dJ8_newLength_cabcc_14 ?_
  refine q_icmp_gt hx hb dJ8_newLength_cabcc_16 (tgt := 21) (by decide) (by omega) (by omega) (fun c2 => absurd c2 (by omega)) (fun c2 => ?_)
  refine lv_iload_n hx hb dJ8_newLength_cabcc_19 rfl (lv_at hl 0 rfl) ?_
  exact q_retMi C0 hret rfl hlk dJ8_newLength_cabcc_20 hP hD hS (⟨rfl, rfl, rfl⟩)
set_option maxHeartbeats 3000000 in
set_option maxRecDepth 100000 in
theorem c_J5_newCapacity_0f7a4 (l : Launch) (D : va_G) (y : Nat → ClassId) (sl : List (Nat × Nat × Nat)) (L : List Nat) (F : Nat → va_E) (sz : Nat) (B : List Nat) (a : Nat) (cap : Nat) (k : Int) (q : Int) (hB : SBs y B L F a cap k) (hq : (cap : Int) < q ∧ q ≤ 40000) : Met l yJ5_newCapacity_0f7a4 (.code yJ5_newCapacity_0f7a4 cJ5_newCapacity_0f7a4 6 (some .int) :: Tt) ({ frames := 2, cells := 0, slots := 0, locals := 44 }) (PcJ D y sl L F sz [.ref a, .int (iI q)]) (cMi D (AL L sz) (fun r L1 F1 => L = L1 ∧ F = F1 ∧ r = ((gcap q cap : Nat) : Int))) 0 0 (AL L sz) := by
  obtain ⟨w, f, ha_a, hF_a, ha_w, hF_w, hf_w, nB_a, nB_w, hLs, hk0, hk1, hk2⟩ := hB
  have n_a_w : a ≠ w := ne_ob hF_a hF_w
  have hfr : ∀ x ∈ B, F x = F x := fun _ _ => rfl
  have gg_ := g_out (q := q) (cap := cap) (by omega)
  refine q_ofJ (lv := [(0, .ref a), (1, .int (iI q))]) (by decide) (Nat.le_of_ble_eq_true rfl) rfl (fun p e s m below meth c C0 hret hlk hnm hA hP hD hS hJ ls hl => ?_)
  have hx := C0.1.1
  have hb := C0.1.2.1
  have hts := C0.1.2.2.2.2
  refine lv_aload_n hx hb dJ5_newCapacity_0f7a4_0 rfl (lv_at hl 0 rfl) ?_
  refine q_get C0 iJ4 hP ha_a hF_a rfl 0 (by decide) flJ5_15 rfl rfl dJ5_newCapacity_0f7a4_1 ?_
  refine q_blen C0 hP ha_w hF_w dJ5_newCapacity_0f7a4_4 ?_
  refine lv_istore_n (lv' := [(2, .int (iI ((cap : Int)))), (0, .ref a), (1, .int (iI q))]) hx hb dJ5_newCapacity_0f7a4_5 rfl hl (by decide) rfl (fun ls hl => ?_)
  refine lv_iload_n hx hb dJ5_newCapacity_0f7a4_6 rfl (lv_at hl 2 rfl) ?_
  refine lv_aload_n hx hb dJ5_newCapacity_0f7a4_7 rfl (lv_at hl 1 rfl) ?_
  refine q_get C0 iJ4 hP ha_a hF_a rfl 1 (by decide) flJ5_22 rfl rfl dJ5_newCapacity_0f7a4_8 ?_
  refine q_ishl0 hx hb dJ5_newCapacity_0f7a4_11 ?_
  refine lv_istore_n (lv' := [(3, .int (iI q)), (2, .int (iI ((cap : Int)))), (0, .ref a), (1, .int (iI q))]) hx hb dJ5_newCapacity_0f7a4_12 rfl hl (by decide) rfl (fun ls hl => ?_)
  refine lv_iload_n hx hb dJ5_newCapacity_0f7a4_13 rfl (lv_at hl 0 rfl) ?_
  refine lv_iload_n hx hb dJ5_newCapacity_0f7a4_14 rfl (lv_at hl 1 rfl) ?_
  refine q_isub hx hb dJ5_newCapacity_0f7a4_15 ?_
  refine lv_istore (lv' := [(4, .int (iI ((q - (cap : Int))))), (3, .int (iI q)), (2, .int (iI ((cap : Int)))), (0, .ref a), (1, .int (iI q))]) hx hb dJ5_newCapacity_0f7a4_16 hl (by decide) rfl (fun ls hl => ?_)
  refine lv_iload_n hx hb dJ5_newCapacity_0f7a4_18 rfl (lv_at hl 2 rfl) ?_
  refine lv_iload hx hb dJ5_newCapacity_0f7a4_19 (lv_at hl 0 rfl) ?_
  refine lv_iload_n hx hb dJ5_newCapacity_0f7a4_21 rfl (lv_at hl 2 rfl) ?_
  refine q_iconst hx hb dJ5_newCapacity_0f7a4_22 ?_
  refine lv_aload_n hx hb dJ5_newCapacity_0f7a4_23 rfl (lv_at hl 3 rfl) ?_
  refine q_get C0 iJ4 hP ha_a hF_a rfl 1 (by decide) flJ5_22 rfl rfl dJ5_newCapacity_0f7a4_24 ?_
  refine q_ishl0 hx hb dJ5_newCapacity_0f7a4_27 ?_
  refine q_iadd hx hb dJ5_newCapacity_0f7a4_28 ?_
  refine q_sJi C0 lJ5_114 (c_J8_newLength_cabcc l D y sl L F _ (cap : Int) (q - (cap : Int)) ((cap : Int) + 2) (by omega) (by omega) (by omega)) ⟨rfl, rfl⟩ rfl hJ hP hD hS hA rfl hl rfl (Nat.le_of_ble_eq_true rfl) dJ5_newCapacity_0f7a4_29 (by (try dsimp only); omega) (fun r1 H locs L2 F2 hP hD hS hz2 hp2 => ?_)
  obtain ⟨eL3, eF3, er3⟩ := hp2
  subst eL3
  subst eF3
  replace er3 : ((cap : Int) + max (q - (cap : Int)) ((cap : Int) + 2)) = r1 := er3.symm
  subst er3
  refine lv_istore (lv' := [(5, .int (iI (((cap : Int) + max (q - (cap : Int)) ((cap : Int) + 2))))), (4, .int (iI ((q - (cap : Int))))), (3, .int (iI q)), (2, .int (iI ((cap : Int)))), (0, .ref a), (1, .int (iI q))]) hx hb dJ5_newCapacity_0f7a4_32 hl (by decide) rfl (fun ls hl => ?_)
  refine lv_iload hx hb dJ5_newCapacity_0f7a4_34 (lv_at hl 0 rfl) ?_
  refine q_ldcI C0 cIJ5_39 (z := 2147483647) (by decide) dJ5_newCapacity_0f7a4_36 ?_
  refine q_icmp_ne hx hb dJ5_newCapacity_0f7a4_38 (tgt := 51) (by decide) (by omega) (by omega) (fun c4 => ?_) (fun c4 => absurd c4 (by omega))
  refine lv_iload hx hb dJ5_newCapacity_0f7a4_51 (lv_at hl 0 rfl) ?_
  refine lv_aload_n hx hb dJ5_newCapacity_0f7a4_53 rfl (lv_at hl 4 rfl) ?_
  refine q_get C0 iJ4 hP ha_a hF_a rfl 1 (by decide) flJ5_22 rfl rfl dJ5_newCapacity_0f7a4_54 ?_
  refine q_ishr0 hx hb dJ5_newCapacity_0f7a4_57 ?_
  exact q_retMi C0 hret rfl hlk dJ5_newCapacity_0f7a4_58 hP hD hS (⟨rfl, rfl, by omega⟩)
set_option maxHeartbeats 3000000 in
set_option maxRecDepth 100000 in
theorem c_J7_copyOf_9075b (l : Launch) (D : va_G) (y : Nat → ClassId) (sl : List (Nat × Nat × Nat)) (L : List Nat) (F : Nat → va_E) (sz : Nat) (B : List Nat) (w : Nat) (n : Nat) (f : Nat → Int32) (N : Nat) (ha_w : w ∈ L) (hF_w : F w = arrB y n f) (hf_w : sb_Fit f) (hLs : ∀ x ∈ B, x ∈ L) (hN : n < N ∧ N ≤ 65536) : Met l yJ7_copyOf_9075b (.code yJ7_copyOf_9075b cJ7_copyOf_9075b 3 (some (.array .byte)) :: Tt) ({ frames := 1, cells := 1, slots := N, locals := 40 }) (PcJ D y sl L F sz [.ref w, .int (iI ((N : Int)))]) (cMa D (AL L sz) (fun r L1 F1 => r ∉ L ∧ L1 = L ++ [r] ∧ (∃ g, F1 r = arrB y N g ∧ sb_Fit g) ∧ ∀ x ∈ B, F1 x = F x)) 1 N (AL L sz) := by
  have hfr : ∀ x ∈ B, F x = F x := fun _ _ => rfl
  refine q_ofJ (lv := [(0, .ref w), (1, .int (iI ((N : Int))))]) (by decide) (Nat.le_of_ble_eq_true rfl) rfl (fun p e s m below meth c C0 hret hlk hnm hA hP hD hS hJ ls hl => ?_)
  have hx := C0.1.1
  have hb := C0.1.2.1
  have hts := C0.1.2.2.2.2
  refine lv_iload_n hx hb dJ7_copyOf_9075b_0 rfl (lv_at hl 1 rfl) ?_
  refine lv_aload_n hx hb dJ7_copyOf_9075b_1 rfl (lv_at hl 0 rfl) ?_
  refine q_blen C0 hP ha_w hF_w dJ7_copyOf_9075b_2 ?_
  refine q_icmp_ne hx hb dJ7_copyOf_9075b_3 (tgt := 14) (by decide) (by omega) (by omega) (fun c1 => ?_) (fun c1 => absurd c1 (by omega))
  refine lv_iload_n hx hb dJ7_copyOf_9075b_14 rfl (lv_at hl 1 rfl) ?_
  refine q_newb C0 hP hD hS hA (N := N) (by omega) (by omega) (by (try dsimp only); omega) (by (try dsimp only); omega) dJ7_copyOf_9075b_15 (fun q2 H h0q2 hP hD hS => ?_)
  refine W.widen (k := 1) (n := N) (by omega) (by omega) ?_
  have hf_q2 : sb_Fit (fun _ => 0) := sb_fit0
  have n_w_q2 : w ≠ q2 := fun e => h0q2 (e ▸ ha_w)
  have nB_q2 : q2 ∉ B := fun z => h0q2 (hLs _ z)
  obtain ⟨L3x, eLL3x⟩ : ∃ z, z = L ++ [q2] := ⟨_, rfl⟩
  obtain ⟨F3x, eFL3x⟩ : ∃ z, z = va_up F q2 (arrB y N (fun _ => 0)) := ⟨_, rfl⟩
  have hP : va_P D vwCl (va_pl L3x F3x) H := by rw [eLL3x, eFL3x]; exact hP
  have hD : va_D (AL L sz) (va_pl L3x F3x) := by rw [eLL3x, eFL3x]; exact hD
  have hF_w : F3x w = arrB y n f := by rw [eFL3x]; exact (va_up_ne _ _ n_w_q2).trans hF_w
  have ha_w : w ∈ L3x := by rw [eLL3x]; exact List.mem_append_left _ ha_w
  have hfr : ∀ x ∈ B, F3x x = F x := fun x h1 => by rw [eFL3x]; exact (va_up_ne _ _ (fun e : x = q2 => nB_q2 (e ▸ h1))).trans (hfr x h1)
  have hLs : ∀ x ∈ B, x ∈ L3x := fun x h1 => by rw [eLL3x]; exact List.mem_append_left _ (hLs x h1)
  have hF_q2 : F3x q2 = arrB y N (fun _ => 0) := by rw [eFL3x]; exact va_up_self _ _ _
  have ha_q2 : q2 ∈ L3x := by rw [eLL3x]; exact List.mem_append_right _ List.mem_cons_self
  refine lv_astore_n (lv' := [(2, .ref q2), (0, .ref w), (1, .int (iI ((N : Int))))]) hx hb dJ7_copyOf_9075b_17 rfl hl (by decide) rfl (fun ls hl => ?_)
  refine lv_aload_n hx hb dJ7_copyOf_9075b_18 rfl (lv_at hl 1 rfl) ?_
  refine q_iconst hx hb dJ7_copyOf_9075b_19 ?_
  refine lv_aload_n hx hb dJ7_copyOf_9075b_20 rfl (lv_at hl 0 rfl) ?_
  refine q_iconst hx hb dJ7_copyOf_9075b_21 ?_
  refine lv_aload_n hx hb dJ7_copyOf_9075b_22 rfl (lv_at hl 1 rfl) ?_
  refine q_blen C0 hP ha_w hF_w dJ7_copyOf_9075b_23 ?_
  refine lv_iload_n hx hb dJ7_copyOf_9075b_24 rfl (lv_at hl 2 rfl) ?_
  refine q_min hx hb (by rw [hl.1]; exact C0.1.2.2.1) C0.1.2.2.2.1 hts mlJ7_304 stMin iniMath cdMin (Nat.le_of_ble_eq_true rfl) (Nat.le_of_ble_eq_true rfl) (by (try dsimp only); omega) (by (try dsimp only); omega) dJ7_copyOf_9075b_25 (by omega) (by omega) ?_
  refine q_copyb C0 mlJ7_150 hl hP hD hS ha_w hF_w ha_q2 hF_q2 hf_w hf_q2 (by omega) (by omega) (by omega) (by omega) (by omega) (by omega) (Nat.le_of_ble_eq_true rfl) (Nat.le_of_ble_eq_true rfl) dJ7_copyOf_9075b_28 (fun H locs g4 hf_g4 hP hD hS => ?_)
  obtain ⟨F5x, eF5⟩ : ∃ z, z = va_up F3x q2 (arrB y N g4) := ⟨_, rfl⟩
  have hP : va_P D vwCl (va_pl L3x F5x) H := by rw [eF5]; exact hP
  have hD : va_D (AL L sz) (va_pl L3x F5x) := by rw [eF5]; exact hD
  have hF_w : F5x w = arrB y n f := by rw [eF5]; exact (va_up_ne _ _ n_w_q2).trans hF_w
  have hF_q2 : F5x q2 = arrB y N g4 := by rw [eF5]; exact va_up_self _ _ _
  have hfr : ∀ x ∈ B, F5x x = F x := fun x h1 => by rw [eF5]; exact (va_up_ne _ _ (fun e : x = q2 => nB_q2 (e ▸ h1))).trans (hfr x h1)
  refine lv_aload_n hx hb dJ7_copyOf_9075b_31 rfl (lv_at hl 0 rfl) ?_
  exact q_retMa C0 hret (by first | exact Or.inl ⟨_, rfl⟩ | exact Or.inr ⟨_, rfl⟩) hlk dJ7_copyOf_9075b_32 hP hD hS (⟨h0q2, eLL3x, ⟨g4, hF_q2, hf_g4⟩, hfr⟩)
set_option maxHeartbeats 3000000 in
set_option maxRecDepth 100000 in
theorem c_J7_checkLength_df160 (l : Launch) (D : va_G) (y : Nat → ClassId) (sl : List (Nat × Nat × Nat)) (L : List Nat) (F : Nat → va_E) (sz : Nat) (n : Int) (b : Int) (hn : 0 ≤ n ∧ n ≤ b ∧ b ≤ 65536) : Met l yJ7_checkLength_df160 (.code yJ7_checkLength_df160 cJ7_checkLength_df160 2 none :: Tt) ({ frames := 0, cells := 0, slots := 0, locals := 0 }) (PcJ D y sl L F sz [.int (iI n), .int (iI b)]) (cMv D (AL L sz) (fun _ L1 F1 => L = L1 ∧ F = F1)) 0 0 (AL L sz) := by
  refine q_ofJ (lv := [(0, .int (iI n)), (1, .int (iI b))]) (by decide) (Nat.le_of_ble_eq_true rfl) rfl (fun p e s m below meth c C0 hret hlk hnm hA hP hD hS hJ ls hl => ?_)
  have hx := C0.1.1
  have hb := C0.1.2.1
  have hts := C0.1.2.2.2.2
  refine lv_iload_n hx hb dJ7_checkLength_df160_0 rfl (lv_at hl 1 rfl) ?_
  refine lv_iload_n hx hb dJ7_checkLength_df160_1 rfl (lv_at hl 0 rfl) ?_
  refine q_icmp_ge hx hb dJ7_checkLength_df160_2 (tgt := 37) (by decide) (by omega) (by omega) (fun c1 => ?_) (fun c1 => absurd c1 (by omega))
  exact q_retMv C0 hret hlk dJ7_checkLength_df160_37 hP hD hS (⟨rfl, rfl⟩)
set_option maxHeartbeats 3000000 in
set_option maxRecDepth 100000 in
theorem c_J7_copyOfRangeByte_39247 (l : Launch) (D : va_G) (y : Nat → ClassId) (sl : List (Nat × Nat × Nat)) (L : List Nat) (F : Nat → va_E) (sz : Nat) (B : List Nat) (w : Nat) (n : Nat) (f : Nat → Int32) (v : Int) (ha_w : w ∈ L) (hF_w : F w = arrB y n f) (hf_w : sb_Fit f) (hLs : ∀ x ∈ B, x ∈ L) (hv : 0 ≤ v ∧ v ≤ n ∧ n ≤ 65536) : Met l yJ7_copyOfRangeByte_39247 (.code yJ7_copyOfRangeByte_39247 cJ7_copyOfRangeByte_39247 5 (some (.array .byte)) :: Tt) ({ frames := 1, cells := 1, slots := v.toNat, locals := 40 }) (PcJ D y sl L F sz [.ref w, .int (iI 0), .int (iI v)]) (cMa D (AL L sz) (fun r L1 F1 => r ∉ L ∧ L1 = L ++ [r] ∧ (∃ g, F1 r = arrB y v.toNat g ∧ sb_Fit g) ∧ ∀ x ∈ B, F1 x = F x)) 1 v.toNat (AL L sz) := by
  have hfr : ∀ x ∈ B, F x = F x := fun _ _ => rfl
  refine q_ofJ (lv := [(0, .ref w), (1, .int (iI 0)), (2, .int (iI v))]) (by decide) (Nat.le_of_ble_eq_true rfl) rfl (fun p e s m below meth c C0 hret hlk hnm hA hP hD hS hJ ls hl => ?_)
  have hx := C0.1.1
  have hb := C0.1.2.1
  have hts := C0.1.2.2.2.2
  refine lv_iload_n hx hb dJ7_copyOfRangeByte_39247_0 rfl (lv_at hl 1 rfl) ?_
  refine lv_iload_n hx hb dJ7_copyOfRangeByte_39247_1 rfl (lv_at hl 2 rfl) ?_
  refine q_sJv C0 lJ7_343 (c_J7_checkLength_df160 l D y sl L F _ 0 v (by omega)) ⟨rfl, rfl⟩ rfl hJ hP hD hS hA rfl hl rfl (Nat.le_of_ble_eq_true rfl) dJ7_copyOfRangeByte_39247_2 (by (try dsimp only); omega) (fun _ H locs L2 F2 hP hD hS hz2 hp2 => ?_)
  obtain ⟨eL3, eF3⟩ := hp2
  subst eL3
  subst eF3
  refine lv_iload_n hx hb dJ7_copyOfRangeByte_39247_5 rfl (lv_at hl 2 rfl) ?_
  refine lv_iload_n hx hb dJ7_copyOfRangeByte_39247_6 rfl (lv_at hl 1 rfl) ?_
  refine q_isub hx hb dJ7_copyOfRangeByte_39247_7 ?_
  refine lv_istore_n (lv' := [(3, .int (iI ((v - 0)))), (0, .ref w), (1, .int (iI 0)), (2, .int (iI v))]) hx hb dJ7_copyOfRangeByte_39247_8 rfl hl (by decide) rfl (fun ls hl => ?_)
  refine lv_iload_n hx hb dJ7_copyOfRangeByte_39247_9 rfl (lv_at hl 0 rfl) ?_
  refine q_newb C0 hP hD hS hA (N := v.toNat) (by omega) (by omega) (by (try dsimp only); omega) (by (try dsimp only); omega) dJ7_copyOfRangeByte_39247_10 (fun q4 H h0q4 hP hD hS => ?_)
  refine W.widen (k := 1) (n := v.toNat) (by omega) (by omega) ?_
  have hf_q4 : sb_Fit (fun _ => 0) := sb_fit0
  have n_w_q4 : w ≠ q4 := fun e => h0q4 (e ▸ ha_w)
  have nB_q4 : q4 ∉ B := fun z => h0q4 (hLs _ z)
  obtain ⟨L5x, eLL5x⟩ : ∃ z, z = L ++ [q4] := ⟨_, rfl⟩
  obtain ⟨F5x, eFL5x⟩ : ∃ z, z = va_up F q4 (arrB y v.toNat (fun _ => 0)) := ⟨_, rfl⟩
  have hP : va_P D vwCl (va_pl L5x F5x) H := by rw [eLL5x, eFL5x]; exact hP
  have hD : va_D (AL L sz) (va_pl L5x F5x) := by rw [eLL5x, eFL5x]; exact hD
  have hF_w : F5x w = arrB y n f := by rw [eFL5x]; exact (va_up_ne _ _ n_w_q4).trans hF_w
  have ha_w : w ∈ L5x := by rw [eLL5x]; exact List.mem_append_left _ ha_w
  have hfr : ∀ x ∈ B, F5x x = F x := fun x h1 => by rw [eFL5x]; exact (va_up_ne _ _ (fun e : x = q4 => nB_q4 (e ▸ h1))).trans (hfr x h1)
  have hLs : ∀ x ∈ B, x ∈ L5x := fun x h1 => by rw [eLL5x]; exact List.mem_append_left _ (hLs x h1)
  have hF_q4 : F5x q4 = arrB y v.toNat (fun _ => 0) := by rw [eFL5x]; exact va_up_self _ _ _
  have ha_q4 : q4 ∈ L5x := by rw [eLL5x]; exact List.mem_append_right _ List.mem_cons_self
  refine lv_astore (lv' := [(4, .ref q4), (3, .int (iI ((v - 0)))), (0, .ref w), (1, .int (iI 0)), (2, .int (iI v))]) hx hb dJ7_copyOfRangeByte_39247_12 hl (by decide) rfl (fun ls hl => ?_)
  refine lv_aload_n hx hb dJ7_copyOfRangeByte_39247_14 rfl (lv_at hl 2 rfl) ?_
  refine lv_iload_n hx hb dJ7_copyOfRangeByte_39247_15 rfl (lv_at hl 3 rfl) ?_
  refine lv_aload hx hb dJ7_copyOfRangeByte_39247_16 (lv_at hl 0 rfl) ?_
  refine q_iconst hx hb dJ7_copyOfRangeByte_39247_18 ?_
  refine lv_aload_n hx hb dJ7_copyOfRangeByte_39247_19 rfl (lv_at hl 2 rfl) ?_
  refine q_blen C0 hP ha_w hF_w dJ7_copyOfRangeByte_39247_20 ?_
  refine lv_iload_n hx hb dJ7_copyOfRangeByte_39247_21 rfl (lv_at hl 3 rfl) ?_
  refine q_isub hx hb dJ7_copyOfRangeByte_39247_22 ?_
  refine lv_iload_n hx hb dJ7_copyOfRangeByte_39247_23 rfl (lv_at hl 1 rfl) ?_
  refine q_min hx hb (by rw [hl.1]; exact C0.1.2.2.1) C0.1.2.2.2.1 hts mlJ7_304 stMin iniMath cdMin (Nat.le_of_ble_eq_true rfl) (Nat.le_of_ble_eq_true rfl) (by (try dsimp only); omega) (by (try dsimp only); omega) dJ7_copyOfRangeByte_39247_24 (by omega) (by omega) ?_
  refine q_copyb C0 mlJ7_150 hl hP hD hS ha_w hF_w ha_q4 hF_q4 hf_w hf_q4 (by omega) (by omega) (by omega) (by omega) (by omega) (by omega) (Nat.le_of_ble_eq_true rfl) (Nat.le_of_ble_eq_true rfl) dJ7_copyOfRangeByte_39247_27 (fun H locs g6 hf_g6 hP hD hS => ?_)
  obtain ⟨F7x, eF7⟩ : ∃ z, z = va_up F5x q4 (arrB y v.toNat g6) := ⟨_, rfl⟩
  have hP : va_P D vwCl (va_pl L5x F7x) H := by rw [eF7]; exact hP
  have hD : va_D (AL L sz) (va_pl L5x F7x) := by rw [eF7]; exact hD
  have hF_w : F7x w = arrB y n f := by rw [eF7]; exact (va_up_ne _ _ n_w_q4).trans hF_w
  have hF_q4 : F7x q4 = arrB y v.toNat g6 := by rw [eF7]; exact va_up_self _ _ _
  have hfr : ∀ x ∈ B, F7x x = F x := fun x h1 => by rw [eF7]; exact (va_up_ne _ _ (fun e : x = q4 => nB_q4 (e ▸ h1))).trans (hfr x h1)
  refine lv_aload hx hb dJ7_copyOfRangeByte_39247_30 (lv_at hl 0 rfl) ?_
  exact q_retMa C0 hret (by first | exact Or.inl ⟨_, rfl⟩ | exact Or.inr ⟨_, rfl⟩) hlk dJ7_copyOfRangeByte_39247_32 hP hD hS (⟨h0q4, eLL5x, ⟨g6, hF_q4, hf_g6⟩, hfr⟩)
set_option maxHeartbeats 3000000 in
set_option maxRecDepth 100000 in
theorem c_J7_copyOfRange_39247 (l : Launch) (D : va_G) (y : Nat → ClassId) (sl : List (Nat × Nat × Nat)) (L : List Nat) (F : Nat → va_E) (sz : Nat) (B : List Nat) (w : Nat) (n : Nat) (f : Nat → Int32) (v : Int) (ha_w : w ∈ L) (hF_w : F w = arrB y n f) (hf_w : sb_Fit f) (hLs : ∀ x ∈ B, x ∈ L) (hv : 0 ≤ v ∧ v ≤ n ∧ n ≤ 65536) : Met l yJ7_copyOfRange_39247 (.code yJ7_copyOfRange_39247 cJ7_copyOfRange_39247 3 (some (.array .byte)) :: Tt) ({ frames := 2, cells := 1, slots := v.toNat, locals := 64 }) (PcJ D y sl L F sz [.ref w, .int (iI 0), .int (iI v)]) (cMa D (AL L sz) (fun r L1 F1 => r ∉ L ∧ L1 = L ++ [r] ∧ (∃ g, F1 r = arrB y v.toNat g ∧ sb_Fit g) ∧ ∀ x ∈ B, F1 x = F x)) 1 v.toNat (AL L sz) := by
  have hfr : ∀ x ∈ B, F x = F x := fun _ _ => rfl
  refine q_ofJ (lv := [(0, .ref w), (1, .int (iI 0)), (2, .int (iI v))]) (by decide) (Nat.le_of_ble_eq_true rfl) rfl (fun p e s m below meth c C0 hret hlk hnm hA hP hD hS hJ ls hl => ?_)
  have hx := C0.1.1
  have hb := C0.1.2.1
  have hts := C0.1.2.2.2.2
  refine lv_iload_n hx hb dJ7_copyOfRange_39247_0 rfl (lv_at hl 1 rfl) ?_
  refine q_if_ne hx hb dJ7_copyOfRange_39247_1 (tgt := 10) (by decide) (by omega) (fun c1 => absurd c1 (by omega)) (fun c1 => ?_)
  refine lv_iload_n hx hb dJ7_copyOfRange_39247_4 rfl (lv_at hl 2 rfl) ?_
  refine lv_aload_n hx hb dJ7_copyOfRange_39247_5 rfl (lv_at hl 0 rfl) ?_
  refine q_blen C0 hP ha_w hF_w dJ7_copyOfRange_39247_6 ?_
  refine q_icmp_eq hx hb dJ7_copyOfRange_39247_7 (tgt := 17) (by decide) (by omega) (by omega) (fun c2 => ?_) (fun c2 => ?_)
  · refine lv_aload_n hx hb dJ7_copyOfRange_39247_17 rfl (lv_at hl 0 rfl) ?_
    refine q_cloneb C0 hJ mlJ7_310 hl hP hD hS hA ha_w hF_w hf_w (Nat.le_of_ble_eq_true rfl) (Nat.le_of_ble_eq_true rfl) (by (try dsimp only); omega) (by (try dsimp only); omega) dJ7_copyOfRange_39247_18 (fun q3 H h0q3 hP hD hS => ?_)
    refine W.widen (k := 1) (n := n) (by omega) (by omega) ?_
    have n_w_q3 : w ≠ q3 := fun e => h0q3 (e ▸ ha_w)
    have nB_q3 : q3 ∉ B := fun z => h0q3 (hLs _ z)
    obtain ⟨L4x, eLL4x⟩ : ∃ z, z = L ++ [q3] := ⟨_, rfl⟩
    obtain ⟨F4x, eFL4x⟩ : ∃ z, z = va_up F q3 (arrB y n f) := ⟨_, rfl⟩
    have hP : va_P D vwCl (va_pl L4x F4x) H := by rw [eLL4x, eFL4x]; exact hP
    have hD : va_D (AL L sz) (va_pl L4x F4x) := by rw [eLL4x, eFL4x]; exact hD
    have hF_w : F4x w = arrB y n f := by rw [eFL4x]; exact (va_up_ne _ _ n_w_q3).trans hF_w
    have ha_w : w ∈ L4x := by rw [eLL4x]; exact List.mem_append_left _ ha_w
    have hfr : ∀ x ∈ B, F4x x = F x := fun x h1 => by rw [eFL4x]; exact (va_up_ne _ _ (fun e : x = q3 => nB_q3 (e ▸ h1))).trans (hfr x h1)
    have hLs : ∀ x ∈ B, x ∈ L4x := fun x h1 => by rw [eLL4x]; exact List.mem_append_left _ (hLs x h1)
    have hF_q3 : F4x q3 = arrB y n f := by rw [eFL4x]; exact va_up_self _ _ _
    have ha_q3 : q3 ∈ L4x := by rw [eLL4x]; exact List.mem_append_right _ List.mem_cons_self
    refine q_castB C0 klJ7_311 hP ha_q3 hF_q3 dJ7_copyOfRange_39247_21 ?_
    refine W.widen (k := 1) (n := v.toNat) (by omega) (by omega) ?_
    exact q_retMa C0 hret (by first | exact Or.inl ⟨_, rfl⟩ | exact Or.inr ⟨_, rfl⟩) hlk dJ7_copyOfRange_39247_24 hP hD hS (⟨h0q3, eLL4x, ⟨f, by rw [show v.toNat = n by omega]; exact hF_q3, hf_w⟩, hfr⟩)
  · refine lv_aload_n hx hb dJ7_copyOfRange_39247_10 rfl (lv_at hl 0 rfl) ?_
    refine lv_iload_n hx hb dJ7_copyOfRange_39247_11 rfl (lv_at hl 1 rfl) ?_
    refine lv_iload_n hx hb dJ7_copyOfRange_39247_12 rfl (lv_at hl 2 rfl) ?_
    refine q_sJa C0 lJ7_339 (c_J7_copyOfRangeByte_39247 l D y sl L F _ L w n f v ha_w hF_w hf_w (fun _ h => h) (by omega)) ⟨rfl, rfl⟩ rfl hJ hP hD hS hA rfl hl rfl (Nat.le_of_ble_eq_true rfl) dJ7_copyOfRange_39247_13 (by (try dsimp only); omega) (fun r5 H locs L6 F6 hP hD hS hz6 hp6 => ?_)
    refine W.widen (k := 1) (n := v.toNat) (by omega) (by omega) ?_
    obtain ⟨h0r5, eL7, ⟨g7, hF_r5, hf_r5⟩, hfr7⟩ := hp6
    have n_w_r5 : w ≠ r5 := fun e => h0r5 (e ▸ ha_w)
    have nB_r5 : r5 ∉ B := fun z => h0r5 (hLs _ z)
    have hF_w : F6 w = arrB y n f := (hfr7 w ha_w).trans hF_w
    have ha_w : w ∈ L6 := by rw [eL7]; exact List.mem_append_left _ ha_w
    have hfr : ∀ x ∈ B, F6 x = F x := fun x h => (hfr7 x (hLs x h)).trans (hfr x h)
    have hLs : ∀ x ∈ B, x ∈ L6 := fun x h => by rw [eL7]; exact List.mem_append_left _ (hLs x h)
    have ha_r5 : r5 ∈ L6 := by rw [eL7]; exact List.mem_append_right _ List.mem_cons_self
    exact q_retMa C0 hret (by first | exact Or.inl ⟨_, rfl⟩ | exact Or.inr ⟨_, rfl⟩) hlk dJ7_copyOfRange_39247_16 hP hD hS (⟨h0r5, (by assumption), ⟨g7, hF_r5, hf_r5⟩, hfr⟩)
set_option maxHeartbeats 3000000 in
set_option maxRecDepth 100000 in
theorem c_J5_ensureCapacityInternal_d00df (l : Launch) (D : va_G) (y : Nat → ClassId) (sl : List (Nat × Nat × Nat)) (L : List Nat) (F : Nat → va_E) (sz : Nat) (B : List Nat) (a : Nat) (cap : Nat) (k : Int) (q : Int) (hB : SBs y B L F a cap k) (hq : 0 ≤ q ∧ q ≤ 40000) (hg : gcap q cap ≤ 20000) : Met l yJ5_ensureCapacityInternal_d00df (.code yJ5_ensureCapacityInternal_d00df cJ5_ensureCapacityInternal_d00df 3 none :: Tt) ({ frames := 3, cells := (gC q cap), slots := (gS q cap), locals := 69 }) (PcJ D y sl L F sz [.ref a, .int (iI q)]) (cMv D (AL L sz) (fun _ L1 F1 => SBs y B L1 F1 a (gcap q cap) k ∧ ∀ x ∈ B, F1 x = F x)) (gC q cap) (gS q cap) (AL L sz) := by
  obtain ⟨w, f, ha_a, hF_a, ha_w, hF_w, hf_w, nB_a, nB_w, hLs, hk0, hk1, hk2⟩ := hB
  have n_a_w : a ≠ w := ne_ob hF_a hF_w
  have hfr : ∀ x ∈ B, F x = F x := fun _ _ => rfl
  refine q_ofJ (lv := [(0, .ref a), (1, .int (iI q))]) (by decide) (Nat.le_of_ble_eq_true rfl) rfl (fun p e s m below meth c C0 hret hlk hnm hA hP hD hS hJ ls hl => ?_)
  have hx := C0.1.1
  have hb := C0.1.2.1
  have hts := C0.1.2.2.2.2
  refine lv_aload_n hx hb dJ5_ensureCapacityInternal_d00df_0 rfl (lv_at hl 0 rfl) ?_
  refine q_get C0 iJ4 hP ha_a hF_a rfl 0 (by decide) flJ5_15 rfl rfl dJ5_ensureCapacityInternal_d00df_1 ?_
  refine q_blen C0 hP ha_w hF_w dJ5_ensureCapacityInternal_d00df_4 ?_
  refine lv_aload_n hx hb dJ5_ensureCapacityInternal_d00df_5 rfl (lv_at hl 0 rfl) ?_
  refine q_get C0 iJ4 hP ha_a hF_a rfl 1 (by decide) flJ5_22 rfl rfl dJ5_ensureCapacityInternal_d00df_6 ?_
  refine q_ishr0 hx hb dJ5_ensureCapacityInternal_d00df_9 ?_
  refine lv_istore_n (lv' := [(2, .int (iI ((cap : Int)))), (0, .ref a), (1, .int (iI q))]) hx hb dJ5_ensureCapacityInternal_d00df_10 rfl hl (by decide) rfl (fun ls hl => ?_)
  refine lv_iload_n hx hb dJ5_ensureCapacityInternal_d00df_11 rfl (lv_at hl 2 rfl) ?_
  refine lv_iload_n hx hb dJ5_ensureCapacityInternal_d00df_12 rfl (lv_at hl 0 rfl) ?_
  refine q_isub hx hb dJ5_ensureCapacityInternal_d00df_13 ?_
  refine q_if_le hx hb dJ5_ensureCapacityInternal_d00df_14 (tgt := 38) (by decide) (by omega) (fun c1 => ?_) (fun c1 => ?_)
  · have gg_ := g_in (q := q) (cap := cap) (by omega)
    refine W.widen (k := (gC q cap)) (n := (gS q cap)) (by omega) (by omega) ?_
    exact q_retMv C0 hret hlk dJ5_ensureCapacityInternal_d00df_38 hP hD hS (⟨by rw [gg_.1]; exact ⟨w, f, ha_a, hF_a, ha_w, hF_w, hf_w, nB_a, nB_w, hLs, by omega, by omega, by omega⟩, hfr⟩)
  · have gg_ := g_out (q := q) (cap := cap) (by omega)
    refine lv_aload_n hx hb dJ5_ensureCapacityInternal_d00df_17 rfl (lv_at hl 1 rfl) ?_
    refine lv_aload_n hx hb dJ5_ensureCapacityInternal_d00df_18 rfl (lv_at hl 1 rfl) ?_
    refine q_get C0 iJ4 hP ha_a hF_a rfl 0 (by decide) flJ5_15 rfl rfl dJ5_ensureCapacityInternal_d00df_19 ?_
    refine lv_aload_n hx hb dJ5_ensureCapacityInternal_d00df_22 rfl (lv_at hl 1 rfl) ?_
    refine lv_iload_n hx hb dJ5_ensureCapacityInternal_d00df_23 rfl (lv_at hl 2 rfl) ?_
    refine q_uJi C0 uJ5_104 (selJ hJ (by unfold jsel; simp)) (c_J5_newCapacity_0f7a4 l D y sl L F _ B a cap k q ⟨w, f, ha_a, hF_a, ha_w, hF_w, hf_w, nB_a, nB_w, hLs, by omega, by omega, by omega⟩ (by omega)) ⟨rfl, rfl⟩ rfl hJ hP hD hS hA ha_a hF_a rfl rfl rfl hl rfl (Nat.le_of_ble_eq_true rfl) dJ5_ensureCapacityInternal_d00df_24 (by (try dsimp only); omega) (fun r2 H locs L3 F3 hP hD hS hz3 hp3 => ?_)
    obtain ⟨eL4, eF4, er4⟩ := hp3
    subst eL4
    subst eF4
    replace er4 : ((gcap q cap : Nat) : Int) = r2 := er4.symm
    subst er4
    refine lv_aload_n hx hb dJ5_ensureCapacityInternal_d00df_27 rfl (lv_at hl 1 rfl) ?_
    refine q_get C0 iJ4 hP ha_a hF_a rfl 1 (by decide) flJ5_22 rfl rfl dJ5_ensureCapacityInternal_d00df_28 ?_
    refine q_ishl0 hx hb dJ5_ensureCapacityInternal_d00df_31 ?_
    refine q_sJa C0 lJ5_108 (c_J7_copyOf_9075b l D y sl L F _ L w cap f (gcap q cap) ha_w hF_w hf_w (fun _ h => h) (by omega)) ⟨rfl, rfl⟩ rfl hJ hP hD hS hA rfl hl rfl (Nat.le_of_ble_eq_true rfl) dJ5_ensureCapacityInternal_d00df_32 (by (try dsimp only); omega) (fun r5 H locs L6 F6 hP hD hS hz6 hp6 => ?_)
    refine W.widen (k := 1) (n := (gcap q cap)) (by omega) (by omega) ?_
    obtain ⟨h0r5, eL7, ⟨g7, hF_r5, hf_r5⟩, hfr7⟩ := hp6
    have n_a_r5 : a ≠ r5 := fun e => h0r5 (e ▸ ha_a)
    have n_w_r5 : w ≠ r5 := fun e => h0r5 (e ▸ ha_w)
    have nB_r5 : r5 ∉ B := fun z => h0r5 (hLs _ z)
    have hF_a : F6 a = sbE w k := (hfr7 a ha_a).trans hF_a
    have ha_a : a ∈ L6 := by rw [eL7]; exact List.mem_append_left _ ha_a
    have hF_w : F6 w = arrB y cap f := (hfr7 w ha_w).trans hF_w
    have ha_w : w ∈ L6 := by rw [eL7]; exact List.mem_append_left _ ha_w
    have hfr : ∀ x ∈ B, F6 x = F x := fun x h => (hfr7 x (hLs x h)).trans (hfr x h)
    have hLs : ∀ x ∈ B, x ∈ L6 := fun x h => by rw [eL7]; exact List.mem_append_left _ (hLs x h)
    have ha_r5 : r5 ∈ L6 := by rw [eL7]; exact List.mem_append_right _ List.mem_cons_self
    refine q_put C0 iJ4 tyJ4 tyJ4_ok nmJ4 hP hD hS ha_a hF_a rfl 0 (by decide) flJ5_15 rfl rfl rfl rfl (Nat.le_of_ble_eq_true rfl) dJ5_ensureCapacityInternal_d00df_35 (fun H locs hP hD hS => ?_)
    obtain ⟨F8x, eF8⟩ : ∃ z, z = va_up F6 a (.inr (1, [.ref r5, .int (iI 0), .int (iI 0), .int (iI k)])) := ⟨_, rfl⟩
    have hP : va_P D vwCl (va_pl L6 F8x) H := by rw [eF8]; exact hP
    have hD : va_D (AL L sz) (va_pl L6 F8x) := by rw [eF8]; exact hD
    have hF_w : F8x w = arrB y cap f := by rw [eF8]; exact (va_up_ne _ _ n_a_w.symm).trans hF_w
    have hF_r5 : F8x r5 = arrB y (gcap q cap) g7 := by rw [eF8]; exact (va_up_ne _ _ n_a_r5.symm).trans hF_r5
    have hF_a : F8x a = .inr (1, [.ref r5, .int (iI 0), .int (iI 0), .int (iI k)]) := by rw [eF8]; exact va_up_self _ _ _
    have hfr : ∀ x ∈ B, F8x x = F x := fun x h1 => by rw [eF8]; exact (va_up_ne _ _ (fun e : x = a => nB_a (e ▸ h1))).trans (hfr x h1)
    refine W.widen (k := (gC q cap)) (n := (gS q cap)) (by omega) (by omega) ?_
    exact q_retMv C0 hret hlk dJ5_ensureCapacityInternal_d00df_38 hP hD hS (⟨⟨r5, g7, ha_a, hF_a, ha_r5, hF_r5, hf_r5, nB_a, nB_r5, hLs, by omega, by omega, by omega⟩, hfr⟩)
set_option maxHeartbeats 3000000 in
set_option maxRecDepth 100000 in
theorem c_J5_append_3fe6f (l : Launch) (D : va_G) (y : Nat → ClassId) (sl : List (Nat × Nat × Nat)) (L : List Nat) (F : Nat → va_E) (sz : Nat) (B : List Nat) (a : Nat) (cap : Nat) (k : Int) (v : Int) (hB : SBs y B L F a cap k) (hv : 0 ≤ v ∧ v ≤ 255) (hg : gcap (k + 1) cap ≤ 20000) (hq9 : (k + 1) ≤ 40000) : Met l yJ5_append_3fe6f (.code yJ5_append_3fe6f cJ5_append_3fe6f 2 (some (.object "java/lang/AbstractStringBuilder")) :: Tt) ({ frames := 4, cells := (gC (k + 1) cap), slots := (gS (k + 1) cap), locals := 91 }) (PcJ D y sl L F sz [.ref a, .int (iI v)]) (cMa D (AL L sz) (fun r L1 F1 => r = a ∧ SBs y B L1 F1 a (gcap (k + 1) cap) (k + 1) ∧ ∀ x ∈ B, F1 x = F x)) (gC (k + 1) cap) (gS (k + 1) cap) (AL L sz) := by
  obtain ⟨w, f, ha_a, hF_a, ha_w, hF_w, hf_w, nB_a, nB_w, hLs, hk0, hk1, hk2⟩ := hB
  have n_a_w : a ≠ w := ne_ob hF_a hF_w
  have hfr : ∀ x ∈ B, F x = F x := fun _ _ => rfl
  have gg_ := g_ge (k + 1) cap
  refine q_ofJ (lv := [(0, .ref a), (1, .int (iI v))]) (by decide) (Nat.le_of_ble_eq_true rfl) rfl (fun p e s m below meth c C0 hret hlk hnm hA hP hD hS hJ ls hl => ?_)
  have hx := C0.1.1
  have hb := C0.1.2.1
  have hts := C0.1.2.2.2.2
  refine lv_aload_n hx hb dJ5_append_3fe6f_0 rfl (lv_at hl 0 rfl) ?_
  refine lv_aload_n hx hb dJ5_append_3fe6f_1 rfl (lv_at hl 0 rfl) ?_
  refine q_get C0 iJ4 hP ha_a hF_a rfl 3 (by decide) flJ5_79 rfl rfl dJ5_append_3fe6f_2 ?_
  refine q_iconst hx hb dJ5_append_3fe6f_5 ?_
  refine q_iadd hx hb dJ5_append_3fe6f_6 ?_
  refine q_uJv C0 uJ5_100 (selJ hJ (by unfold jsel; simp)) (c_J5_ensureCapacityInternal_d00df l D y sl L F _ B a cap k (k + 1) ⟨w, f, ha_a, hF_a, ha_w, hF_w, hf_w, nB_a, nB_w, hLs, by omega, by omega, by omega⟩ (by omega) (by omega)) ⟨rfl, rfl⟩ rfl hJ hP hD hS hA ha_a hF_a rfl rfl rfl hl rfl (Nat.le_of_ble_eq_true rfl) dJ5_append_3fe6f_7 (by (try dsimp only); omega) (fun _ H locs L2 F2 hP hD hS hz2 hp2 => ?_)
  refine W.widen (k := (gC (k + 1) cap)) (n := (gS (k + 1) cap)) (by omega) (by omega) ?_
  obtain ⟨⟨w3, f3, ha_a, hF_a, ha_w3, hF_w3, hf_w3, nB_a, nB_w3, hLs, hk03, hk13, hk23⟩, hfr3⟩ := hp2
  have n_a_w3 : a ≠ w3 := ne_ob hF_a hF_w3
  have hfr : ∀ x ∈ B, F2 x = F x := fun x h => (hfr3 x h).trans (hfr x h)
  refine lv_aload_n hx hb dJ5_append_3fe6f_10 rfl (lv_at hl 0 rfl) ?_
  refine q_uJi C0 uJ5_83 (hts _ (List.mem_cons_of_mem _ selIsL)) (c_J5_isLatin1_aae02 l D y sl L2 F2 _ B a (gcap (k + 1) cap) k ⟨w3, f3, ha_a, hF_a, ha_w3, hF_w3, hf_w3, nB_a, nB_w3, hLs, by omega, by omega, by omega⟩) ⟨rfl, rfl⟩ rfl hJ hP hD hS hA ha_a hF_a rfl rfl rfl hl rfl (Nat.le_of_ble_eq_true rfl) dJ5_append_3fe6f_11 (by (try dsimp only); omega) (fun r4 H locs L5 F5 hP hD hS hz5 hp5 => ?_)
  obtain ⟨eL6, eF6, er6⟩ := hp5
  subst eL6
  subst eF6
  replace er6 : 1 = r4 := er6.symm
  subst er6
  refine q_if_eq hx hb dJ5_append_3fe6f_14 (tgt := 45) (by decide) (by omega) (fun c7 => absurd c7 (by omega)) (fun c7 => ?_)
  refine lv_iload_n hx hb dJ5_append_3fe6f_17 rfl (lv_at hl 1 rfl) ?_
  refine q_sJi C0 lJ5_191 (c_J1_canEncode_fc78d l D y sl L2 F2 _ v (by omega)) ⟨rfl, rfl⟩ rfl hJ hP hD hS hA rfl hl rfl (Nat.le_of_ble_eq_true rfl) dJ5_append_3fe6f_18 (by (try dsimp only); omega) (fun r8 H locs L9 F9 hP hD hS hz9 hp9 => ?_)
  obtain ⟨eL10, eF10, er10⟩ := hp9
  subst eL10
  subst eF10
  replace er10 : 1 = r8 := er10.symm
  subst er10
  refine q_if_eq hx hb dJ5_append_3fe6f_21 (tgt := 45) (by decide) (by omega) (fun c11 => absurd c11 (by omega)) (fun c11 => ?_)
  refine lv_aload_n hx hb dJ5_append_3fe6f_24 rfl (lv_at hl 0 rfl) ?_
  refine q_get C0 iJ4 hP ha_a hF_a rfl 0 (by decide) flJ5_15 rfl rfl dJ5_append_3fe6f_25 ?_
  refine lv_aload_n hx hb dJ5_append_3fe6f_28 rfl (lv_at hl 0 rfl) ?_
  refine lv_dup hx hb dJ5_append_3fe6f_29 rfl ?_
  refine q_get C0 iJ4 hP ha_a hF_a rfl 3 (by decide) flJ5_79 rfl rfl dJ5_append_3fe6f_30 ?_
  refine lv_dup_x1 hx hb dJ5_append_3fe6f_33 rfl rfl ?_
  refine q_iconst hx hb dJ5_append_3fe6f_34 ?_
  refine q_iadd hx hb dJ5_append_3fe6f_35 ?_
  refine q_put C0 iJ4 tyJ4 tyJ4_ok nmJ4 hP hD hS ha_a hF_a rfl 3 (by decide) flJ5_79 rfl rfl rfl rfl (Nat.le_of_ble_eq_true rfl) dJ5_append_3fe6f_36 (fun H locs hP hD hS => ?_)
  obtain ⟨F12x, eF12⟩ : ∃ z, z = va_up F2 a (.inr (1, [.ref w3, .int (iI 0), .int (iI 0), .int (iI ((k + 1)))])) := ⟨_, rfl⟩
  have hP : va_P D vwCl (va_pl L2 F12x) H := by rw [eF12]; exact hP
  have hD : va_D (AL L sz) (va_pl L2 F12x) := by rw [eF12]; exact hD
  have hF_w3 : F12x w3 = arrB y (gcap (k + 1) cap) f3 := by rw [eF12]; exact (va_up_ne _ _ n_a_w3.symm).trans hF_w3
  have hF_a : F12x a = .inr (1, [.ref w3, .int (iI 0), .int (iI 0), .int (iI ((k + 1)))]) := by rw [eF12]; exact va_up_self _ _ _
  have hfr : ∀ x ∈ B, F12x x = F x := fun x h1 => by rw [eF12]; exact (va_up_ne _ _ (fun e : x = a => nB_a (e ▸ h1))).trans (hfr x h1)
  refine lv_iload_n hx hb dJ5_append_3fe6f_39 rfl (lv_at hl 1 rfl) ?_
  refine q_i2b hx hb dJ5_append_3fe6f_40 ?_
  refine q_bast C0 hP hD hS ha_w3 hF_w3 hf_w3 (i := k) (by omega) (by omega) dJ5_append_3fe6f_41 (fun H locs g13 hf_g13 hP hD hS => ?_)
  obtain ⟨F14x, eF14⟩ : ∃ z, z = va_up F12x w3 (arrB y (gcap (k + 1) cap) g13) := ⟨_, rfl⟩
  have hP : va_P D vwCl (va_pl L2 F14x) H := by rw [eF14]; exact hP
  have hD : va_D (AL L sz) (va_pl L2 F14x) := by rw [eF14]; exact hD
  have hF_a : F14x a = .inr (1, [.ref w3, .int (iI 0), .int (iI 0), .int (iI ((k + 1)))]) := by rw [eF14]; exact (va_up_ne _ _ n_a_w3).trans hF_a
  have hF_w3 : F14x w3 = arrB y (gcap (k + 1) cap) g13 := by rw [eF14]; exact va_up_self _ _ _
  have hfr : ∀ x ∈ B, F14x x = F x := fun x h1 => by rw [eF14]; exact (va_up_ne _ _ (fun e : x = w3 => nB_w3 (e ▸ h1))).trans (hfr x h1)
  refine lv_goto (tgt := 75) hx hb dJ5_append_3fe6f_42 (by decide) ?_
  refine lv_aload_n hx hb dJ5_append_3fe6f_75 rfl (lv_at hl 0 rfl) ?_
  exact q_retMa C0 hret (by first | exact Or.inl ⟨_, rfl⟩ | exact Or.inr ⟨_, rfl⟩) hlk dJ5_append_3fe6f_76 hP hD hS (⟨rfl, ⟨w3, g13, ha_a, hF_a, ha_w3, hF_w3, hf_g13, nB_a, nB_w3, hLs, by omega, by omega, by omega⟩, hfr⟩)
set_option maxHeartbeats 3000000 in
set_option maxRecDepth 100000 in
theorem c_J4_append_cf468 (l : Launch) (D : va_G) (y : Nat → ClassId) (sl : List (Nat × Nat × Nat)) (L : List Nat) (F : Nat → va_E) (sz : Nat) (B : List Nat) (a : Nat) (cap : Nat) (k : Int) (v : Int) (hB : SBs y B L F a cap k) (hv : 0 ≤ v ∧ v ≤ 255) (hg : gcap (k + 1) cap ≤ 20000) (hq9 : (k + 1) ≤ 40000) : Met l yJ4_append_cf468 (.code yJ4_append_cf468 cJ4_append_cf468 2 (some (.object "java/lang/StringBuilder")) :: Tt) ({ frames := 5, cells := (gC (k + 1) cap), slots := (gS (k + 1) cap), locals := 112 }) (PcJ D y sl L F sz [.ref a, .int (iI v)]) (cMa D (AL L sz) (fun r L1 F1 => r = a ∧ SBs y B L1 F1 a (gcap (k + 1) cap) (k + 1) ∧ ∀ x ∈ B, F1 x = F x)) (gC (k + 1) cap) (gS (k + 1) cap) (AL L sz) := by
  obtain ⟨w, f, ha_a, hF_a, ha_w, hF_w, hf_w, nB_a, nB_w, hLs, hk0, hk1, hk2⟩ := hB
  have n_a_w : a ≠ w := ne_ob hF_a hF_w
  have hfr : ∀ x ∈ B, F x = F x := fun _ _ => rfl
  have gg_ := g_ge (k + 1) cap
  refine q_ofJ (lv := [(0, .ref a), (1, .int (iI v))]) (by decide) (Nat.le_of_ble_eq_true rfl) rfl (fun p e s m below meth c C0 hret hlk hnm hA hP hD hS hJ ls hl => ?_)
  have hx := C0.1.1
  have hb := C0.1.2.1
  have hts := C0.1.2.2.2.2
  refine lv_aload_n hx hb dJ4_append_cf468_0 rfl (lv_at hl 0 rfl) ?_
  refine lv_iload_n hx hb dJ4_append_cf468_1 rfl (lv_at hl 1 rfl) ?_
  refine q_pJa C0 uJ4_50 (c_J5_append_3fe6f l D y sl L F _ B a cap k v ⟨w, f, ha_a, hF_a, ha_w, hF_w, hf_w, nB_a, nB_w, hLs, by omega, by omega, by omega⟩ (by omega) (by omega) (by omega)) ⟨rfl, rfl⟩ rfl hJ hP hD hS hA ha_a hF_a rfl rfl hl rfl (Nat.le_of_ble_eq_true rfl) dJ4_append_cf468_2 (by (try dsimp only); omega) (fun r1 H locs L2 F2 hP hD hS hz2 hp2 => ?_)
  refine W.widen (k := (gC (k + 1) cap)) (n := (gS (k + 1) cap)) (by omega) (by omega) ?_
  obtain ⟨er3, ⟨w3, f3, ha_a, hF_a, ha_w3, hF_w3, hf_w3, nB_a, nB_w3, hLs, hk03, hk13, hk23⟩, hfr3⟩ := hp2
  replace er3 : a = r1 := er3.symm
  subst er3
  have n_a_w3 : a ≠ w3 := ne_ob hF_a hF_w3
  have hfr : ∀ x ∈ B, F2 x = F x := fun x h => (hfr3 x h).trans (hfr x h)
  refine lv_pop hx hb dJ4_append_cf468_5 rfl ?_
  refine lv_aload_n hx hb dJ4_append_cf468_6 rfl (lv_at hl 0 rfl) ?_
  exact q_retMa C0 hret (by first | exact Or.inl ⟨_, rfl⟩ | exact Or.inr ⟨_, rfl⟩) hlk dJ4_append_cf468_7 hP hD hS (⟨rfl, ⟨w3, f3, ha_a, hF_a, ha_w3, hF_w3, hf_w3, nB_a, nB_w3, hLs, by omega, by omega, by omega⟩, hfr⟩)
set_option maxHeartbeats 3000000 in
set_option maxRecDepth 100000 in
theorem c_J6_stringSize_0f7a4 (l : Launch) (D : va_G) (y : Nat → ClassId) (sl : List (Nat × Nat × Nat)) (L : List Nat) (F : Nat → va_E) (sz : Nat) (n : Int) (hn : 0 ≤ n ∧ n ≤ 99) : Met l yJ6_stringSize_0f7a4 (.code yJ6_stringSize_0f7a4 cJ6_stringSize_0f7a4 4 (some .int) :: Tt) ({ frames := 0, cells := 0, slots := 0, locals := 0 }) (PcJ D y sl L F sz [.int (iI n)]) (cMi D (AL L sz) (fun r L1 F1 => L = L1 ∧ F = F1 ∧ r = dsz n)) 0 0 (AL L sz) := by
  refine q_ofJ (lv := [(0, .int (iI n))]) (by decide) (Nat.le_of_ble_eq_true rfl) rfl (fun p e s m below meth c C0 hret hlk hnm hA hP hD hS hJ ls hl => ?_)
  have hx := C0.1.1
  have hb := C0.1.2.1
  have hts := C0.1.2.2.2.2
  refine q_iconst hx hb dJ6_stringSize_0f7a4_0 ?_
  refine lv_istore_n (lv' := [(1, .int (iI 1)), (0, .int (iI n))]) hx hb dJ6_stringSize_0f7a4_1 rfl hl (by decide) rfl (fun ls hl => ?_)
  refine lv_iload_n hx hb dJ6_stringSize_0f7a4_2 rfl (lv_at hl 1 rfl) ?_
  refine q_if_lt hx hb dJ6_stringSize_0f7a4_3 (tgt := 11) (by decide) (by omega) (fun c1 => absurd c1 (by omega)) (fun c1 => ?_)
  refine q_iconst hx hb dJ6_stringSize_0f7a4_6 ?_
  refine lv_istore_n (lv' := [(1, .int (iI 0)), (0, .int (iI n))]) hx hb dJ6_stringSize_0f7a4_7 rfl hl (by decide) rfl (fun ls hl => ?_)
  refine lv_iload_n hx hb dJ6_stringSize_0f7a4_8 rfl (lv_at hl 1 rfl) ?_
  refine q_ineg hx hb dJ6_stringSize_0f7a4_9 ?_
  refine lv_istore_n (lv' := [(0, .int (iI ((-n)))), (1, .int (iI 0))]) hx hb dJ6_stringSize_0f7a4_10 rfl hl (by decide) rfl (fun ls hl => ?_)
  refine q_bipush hx hb dJ6_stringSize_0f7a4_11 (by decide) ?_
  refine lv_istore_n (lv' := [(2, .int (iI ((-10)))), (0, .int (iI ((-n)))), (1, .int (iI 0))]) hx hb dJ6_stringSize_0f7a4_13 rfl hl (by decide) rfl (fun ls hl => ?_)
  refine q_iconst hx hb dJ6_stringSize_0f7a4_14 ?_
  refine lv_istore_n (lv' := [(3, .int (iI 1)), (2, .int (iI ((-10)))), (0, .int (iI ((-n)))), (1, .int (iI 0))]) hx hb dJ6_stringSize_0f7a4_15 rfl hl (by decide) rfl (fun ls hl => ?_)
  refine lv_iload_n hx hb dJ6_stringSize_0f7a4_16 rfl (lv_at hl 0 rfl) ?_
  refine q_bipush hx hb dJ6_stringSize_0f7a4_17 (by decide) ?_
  refine q_icmp_ge hx hb dJ6_stringSize_0f7a4_19 (tgt := 42) (by decide) (by omega) (by omega) (fun c2 => absurd c2 (by omega)) (fun c2 => ?_)
  refine lv_iload_n hx hb dJ6_stringSize_0f7a4_22 rfl (lv_at hl 2 rfl) ?_
  refine lv_iload_n hx hb dJ6_stringSize_0f7a4_23 rfl (lv_at hl 1 rfl) ?_
  refine q_icmp_le hx hb dJ6_stringSize_0f7a4_24 (tgt := 31) (by decide) (by omega) (by omega) (fun c3 => ?_) (fun c3 => ?_)
  · refine q_bipush hx hb dJ6_stringSize_0f7a4_31 (by decide) ?_
    refine lv_iload_n hx hb dJ6_stringSize_0f7a4_33 rfl (lv_at hl 1 rfl) ?_
    refine q_imul hx hb dJ6_stringSize_0f7a4_34 ?_
    refine lv_istore_n (lv' := [(2, .int (iI ((10 * (-10))))), (3, .int (iI 1)), (0, .int (iI ((-n)))), (1, .int (iI 0))]) hx hb dJ6_stringSize_0f7a4_35 rfl hl (by decide) rfl (fun ls hl => ?_)
    refine q_iinc (x := 1) (n := 1) (lv' := [(3, .int (iI 2)), (2, .int (iI ((10 * (-10))))), (0, .int (iI ((-n)))), (1, .int (iI 0))]) hx hb dJ6_stringSize_0f7a4_36 hl (k := 1) rfl (by decide) rfl (fun ls hl => ?_)
    refine lv_goto (tgt := 16) hx hb dJ6_stringSize_0f7a4_39 (by decide) ?_
    refine lv_iload_n hx hb dJ6_stringSize_0f7a4_16 rfl (lv_at hl 0 rfl) ?_
    refine q_bipush hx hb dJ6_stringSize_0f7a4_17 (by decide) ?_
    refine q_icmp_ge hx hb dJ6_stringSize_0f7a4_19 (tgt := 42) (by decide) (by omega) (by omega) (fun c4 => absurd c4 (by omega)) (fun c4 => ?_)
    refine lv_iload_n hx hb dJ6_stringSize_0f7a4_22 rfl (lv_at hl 2 rfl) ?_
    refine lv_iload_n hx hb dJ6_stringSize_0f7a4_23 rfl (lv_at hl 1 rfl) ?_
    refine q_icmp_le hx hb dJ6_stringSize_0f7a4_24 (tgt := 31) (by decide) (by omega) (by omega) (fun c5 => absurd c5 (by omega)) (fun c5 => ?_)
    refine lv_iload_n hx hb dJ6_stringSize_0f7a4_27 rfl (lv_at hl 0 rfl) ?_
    refine lv_iload_n hx hb dJ6_stringSize_0f7a4_28 rfl (lv_at hl 3 rfl) ?_
    refine q_iadd hx hb dJ6_stringSize_0f7a4_29 ?_
    exact q_retMi C0 hret rfl hlk dJ6_stringSize_0f7a4_30 hP hD hS (⟨rfl, rfl, by unfold dsz; first | (rw [if_pos (by omega)]; done) | (rw [if_neg (by omega)]; done) | (rw [if_pos (by omega)]; rfl) | (rw [if_neg (by omega)]; rfl)⟩)
  · refine lv_iload_n hx hb dJ6_stringSize_0f7a4_27 rfl (lv_at hl 0 rfl) ?_
    refine lv_iload_n hx hb dJ6_stringSize_0f7a4_28 rfl (lv_at hl 3 rfl) ?_
    refine q_iadd hx hb dJ6_stringSize_0f7a4_29 ?_
    exact q_retMi C0 hret rfl hlk dJ6_stringSize_0f7a4_30 hP hD hS (⟨rfl, rfl, by unfold dsz; first | (rw [if_pos (by omega)]; done) | (rw [if_neg (by omega)]; done) | (rw [if_pos (by omega)]; rfl) | (rw [if_neg (by omega)]; rfl)⟩)
set_option maxHeartbeats 3000000 in
set_option maxRecDepth 100000 in
theorem c_J6_getChars_ba4f3 (l : Launch) (D : va_G) (y : Nat → ClassId) (sl : List (Nat × Nat × Nat)) (L : List Nat) (F : Nat → va_E) (sz : Nat) (B : List Nat) (w : Nat) (cap : Nat) (f : Nat → Int32) (n : Int) (i : Int) (ha_w : w ∈ L) (hF_w : F w = arrB y cap f) (hf_w : sb_Fit f) (nB_w : w ∉ B) (hLs : ∀ x ∈ B, x ∈ L) (hcap : cap ≤ 20000) (hn : 0 ≤ n ∧ n ≤ 99) (hi9 : dsz n ≤ i ∧ i ≤ cap) : Met l yJ6_getChars_ba4f3 (.code yJ6_getChars_ba4f3 cJ6_getChars_ba4f3 7 (some .int) :: Tt) ({ frames := 0, cells := 0, slots := 0, locals := 0 }) (PcJ D y sl L F sz [.int (iI n), .int (iI i), .ref w]) (cMi D (AL L sz) (fun _ L1 F1 => L = L1 ∧ (∃ g, F1 w = arrB y cap g ∧ sb_Fit g) ∧ ∀ x ∈ B, F1 x = F x)) 0 0 (AL L sz) := by
  have ds_ := dsz_b n
  have hfr : ∀ x ∈ B, F x = F x := fun _ _ => rfl
  refine q_ofJ (lv := [(0, .int (iI n)), (1, .int (iI i)), (2, .ref w)]) (by decide) (Nat.le_of_ble_eq_true rfl) rfl (fun p e s m below meth c C0 hret hlk hnm hA hP hD hS hJ ls hl => ?_)
  have hx := C0.1.1
  have hb := C0.1.2.1
  have hts := C0.1.2.2.2.2
  refine lv_iload_n hx hb dJ6_getChars_ba4f3_0 rfl (lv_at hl 1 rfl) ?_
  refine lv_istore (lv' := [(5, .int (iI i)), (0, .int (iI n)), (1, .int (iI i)), (2, .ref w)]) hx hb dJ6_getChars_ba4f3_1 hl (by decide) rfl (fun ls hl => ?_)
  refine lv_iload_n hx hb dJ6_getChars_ba4f3_3 rfl (lv_at hl 1 rfl) ?_
  refine q_if_ge hx hb dJ6_getChars_ba4f3_4 (tgt := 11) (by decide) (by omega) (fun c1 => ?_) (fun c1 => absurd c1 (by omega))
  refine q_iconst hx hb dJ6_getChars_ba4f3_11 ?_
  refine lv_istore (lv' := [(6, .int (iI 0)), (5, .int (iI i)), (0, .int (iI n)), (1, .int (iI i)), (2, .ref w)]) hx hb dJ6_getChars_ba4f3_12 hl (by decide) rfl (fun ls hl => ?_)
  refine lv_iload hx hb dJ6_getChars_ba4f3_14 (lv_at hl 0 rfl) ?_
  refine q_if_ne hx hb dJ6_getChars_ba4f3_16 (tgt := 22) (by decide) (by omega) (fun c2 => absurd c2 (by omega)) (fun c2 => ?_)
  refine lv_iload_n hx hb dJ6_getChars_ba4f3_19 rfl (lv_at hl 2 rfl) ?_
  refine q_ineg hx hb dJ6_getChars_ba4f3_20 ?_
  refine lv_istore_n (lv' := [(0, .int (iI ((-n)))), (6, .int (iI 0)), (5, .int (iI i)), (1, .int (iI i)), (2, .ref w)]) hx hb dJ6_getChars_ba4f3_21 rfl hl (by decide) rfl (fun ls hl => ?_)
  refine lv_iload_n hx hb dJ6_getChars_ba4f3_22 rfl (lv_at hl 0 rfl) ?_
  refine q_bipush hx hb dJ6_getChars_ba4f3_23 (by decide) ?_
  refine q_icmp_gt hx hb dJ6_getChars_ba4f3_25 (tgt := 72) (by decide) (by omega) (by omega) (fun c3 => ?_) (fun c3 => absurd c3 (by omega))
  refine lv_aload_n hx hb dJ6_getChars_ba4f3_72 rfl (lv_at hl 4 rfl) ?_
  refine q_iinc (x := i) (n := -1) (lv' := [(5, .int (iI ((i + (-1))))), (0, .int (iI ((-n)))), (6, .int (iI 0)), (1, .int (iI i)), (2, .ref w)]) hx hb dJ6_getChars_ba4f3_73 hl (k := 2) rfl (by decide) rfl (fun ls hl => ?_)
  refine lv_iload hx hb dJ6_getChars_ba4f3_76 (lv_at hl 0 rfl) ?_
  obtain ⟨t4, ft4, hZ4, hT4⟩ := hJ.2.1
  refine q_gets C0 hS hZ4 flJ6_83 dJ6_getChars_ba4f3_78 ?_
  refine lv_iload_n hx hb dJ6_getChars_ba4f3_81 rfl (lv_at hl 1 rfl) ?_
  refine q_ineg hx hb dJ6_getChars_ba4f3_82 ?_
  refine q_tbl C0 hS hT4 (by omega) (by decide) dJ6_getChars_ba4f3_83 ?_
  refine q_bast C0 hP hD hS ha_w hF_w hf_w (i := (i + (-1))) (by omega) (by omega) dJ6_getChars_ba4f3_84 (fun H locs g5 hf_g5 hP hD hS => ?_)
  obtain ⟨F6x, eF6⟩ : ∃ z, z = va_up F w (arrB y cap g5) := ⟨_, rfl⟩
  have hP : va_P D vwCl (va_pl L F6x) H := by rw [eF6]; exact hP
  have hD : va_D (AL L sz) (va_pl L F6x) := by rw [eF6]; exact hD
  have hF_w : F6x w = arrB y cap g5 := by rw [eF6]; exact va_up_self _ _ _
  have hfr : ∀ x ∈ B, F6x x = F x := fun x h1 => by rw [eF6]; exact (va_up_ne _ _ (fun e : x = w => nB_w (e ▸ h1))).trans (hfr x h1)
  refine lv_iload_n hx hb dJ6_getChars_ba4f3_85 rfl (lv_at hl 1 rfl) ?_
  refine q_bipush hx hb dJ6_getChars_ba4f3_86 (by decide) ?_
  refine q_icmp_ge hx hb dJ6_getChars_ba4f3_88 (tgt := 104) (by decide) (by omega) (by omega) (fun c7 => ?_) (fun c7 => ?_)
  · refine lv_iload hx hb dJ6_getChars_ba4f3_104 (lv_at hl 2 rfl) ?_
    refine q_if_eq hx hb dJ6_getChars_ba4f3_106 (tgt := 118) (by decide) (by omega) (fun c8 => ?_) (fun c8 => absurd c8 (by omega))
    refine lv_iload hx hb dJ6_getChars_ba4f3_118 (lv_at hl 0 rfl) ?_
    exact q_retMi C0 hret rfl hlk dJ6_getChars_ba4f3_120 hP hD hS (⟨rfl, ⟨g5, hF_w, hf_g5⟩, hfr⟩)
  · have d2_ : dsz n = 2 := if_neg (by omega)
    refine lv_aload_n hx hb dJ6_getChars_ba4f3_91 rfl (lv_at hl 4 rfl) ?_
    refine q_iinc (x := (i + (-1))) (n := -1) (lv' := [(5, .int (iI (((i + (-1)) + (-1))))), (0, .int (iI ((-n)))), (6, .int (iI 0)), (1, .int (iI i)), (2, .ref w)]) hx hb dJ6_getChars_ba4f3_92 hl (k := 0) rfl (by decide) rfl (fun ls hl => ?_)
    refine lv_iload hx hb dJ6_getChars_ba4f3_95 (lv_at hl 0 rfl) ?_
    obtain ⟨t9, ft9, hZ9, hT9⟩ := hJ.2.2.1
    refine q_gets C0 hS hZ9 flJ6_87 dJ6_getChars_ba4f3_97 ?_
    refine lv_iload_n hx hb dJ6_getChars_ba4f3_100 rfl (lv_at hl 1 rfl) ?_
    refine q_ineg hx hb dJ6_getChars_ba4f3_101 ?_
    refine q_tbl C0 hS hT9 (by omega) (by decide) dJ6_getChars_ba4f3_102 ?_
    refine q_bast C0 hP hD hS ha_w hF_w hf_g5 (i := ((i + (-1)) + (-1))) (by omega) (by omega) dJ6_getChars_ba4f3_103 (fun H locs g10 hf_g10 hP hD hS => ?_)
    obtain ⟨F11x, eF11⟩ : ∃ z, z = va_up F6x w (arrB y cap g10) := ⟨_, rfl⟩
    have hP : va_P D vwCl (va_pl L F11x) H := by rw [eF11]; exact hP
    have hD : va_D (AL L sz) (va_pl L F11x) := by rw [eF11]; exact hD
    have hF_w : F11x w = arrB y cap g10 := by rw [eF11]; exact va_up_self _ _ _
    have hfr : ∀ x ∈ B, F11x x = F x := fun x h1 => by rw [eF11]; exact (va_up_ne _ _ (fun e : x = w => nB_w (e ▸ h1))).trans (hfr x h1)
    refine lv_iload hx hb dJ6_getChars_ba4f3_104 (lv_at hl 2 rfl) ?_
    refine q_if_eq hx hb dJ6_getChars_ba4f3_106 (tgt := 118) (by decide) (by omega) (fun c12 => ?_) (fun c12 => absurd c12 (by omega))
    refine lv_iload hx hb dJ6_getChars_ba4f3_118 (lv_at hl 0 rfl) ?_
    exact q_retMi C0 hret rfl hlk dJ6_getChars_ba4f3_120 hP hD hS (⟨rfl, ⟨g10, hF_w, hf_g10⟩, hfr⟩)
set_option maxHeartbeats 3000000 in
set_option maxRecDepth 100000 in
theorem c_J5_append_c97b9 (l : Launch) (D : va_G) (y : Nat → ClassId) (sl : List (Nat × Nat × Nat)) (L : List Nat) (F : Nat → va_E) (sz : Nat) (B : List Nat) (a : Nat) (cap : Nat) (k : Int) (v : Int) (hB : SBs y B L F a cap k) (hv : 0 ≤ v ∧ v ≤ 99) (hg : gcap (k + dsz v) cap ≤ 20000) (hq9 : (k + dsz v) ≤ 40000) : Met l yJ5_append_c97b9 (.code yJ5_append_c97b9 cJ5_append_c97b9 4 (some (.object "java/lang/AbstractStringBuilder")) :: Tt) ({ frames := 4, cells := (gC (k + dsz v) cap), slots := (gS (k + dsz v) cap), locals := 91 }) (PcJ D y sl L F sz [.ref a, .int (iI v)]) (cMa D (AL L sz) (fun r L1 F1 => r = a ∧ SBs y B L1 F1 a (gcap (k + dsz v) cap) (k + dsz v) ∧ ∀ x ∈ B, F1 x = F x)) (gC (k + dsz v) cap) (gS (k + dsz v) cap) (AL L sz) := by
  obtain ⟨w, f, ha_a, hF_a, ha_w, hF_w, hf_w, nB_a, nB_w, hLs, hk0, hk1, hk2⟩ := hB
  have n_a_w : a ≠ w := ne_ob hF_a hF_w
  have hfr : ∀ x ∈ B, F x = F x := fun _ _ => rfl
  have gg_ := g_ge (k + dsz v) cap
  have ds_ := dsz_b v
  refine q_ofJ (lv := [(0, .ref a), (1, .int (iI v))]) (by decide) (Nat.le_of_ble_eq_true rfl) rfl (fun p e s m below meth c C0 hret hlk hnm hA hP hD hS hJ ls hl => ?_)
  have hx := C0.1.1
  have hb := C0.1.2.1
  have hts := C0.1.2.2.2.2
  refine lv_aload_n hx hb dJ5_append_c97b9_0 rfl (lv_at hl 0 rfl) ?_
  refine q_get C0 iJ4 hP ha_a hF_a rfl 3 (by decide) flJ5_79 rfl rfl dJ5_append_c97b9_1 ?_
  refine lv_istore_n (lv' := [(2, .int (iI k)), (0, .ref a), (1, .int (iI v))]) hx hb dJ5_append_c97b9_4 rfl hl (by decide) rfl (fun ls hl => ?_)
  refine lv_iload_n hx hb dJ5_append_c97b9_5 rfl (lv_at hl 0 rfl) ?_
  refine lv_iload_n hx hb dJ5_append_c97b9_6 rfl (lv_at hl 2 rfl) ?_
  refine q_sJi C0 lJ5_245 (c_J6_stringSize_0f7a4 l D y sl L F _ v (by omega)) ⟨rfl, rfl⟩ rfl hJ hP hD hS hA rfl hl rfl (Nat.le_of_ble_eq_true rfl) dJ5_append_c97b9_7 (by (try dsimp only); omega) (fun r1 H locs L2 F2 hP hD hS hz2 hp2 => ?_)
  obtain ⟨eL3, eF3, er3⟩ := hp2
  subst eL3
  subst eF3
  replace er3 : (dsz v) = r1 := er3.symm
  subst er3
  refine q_iadd hx hb dJ5_append_c97b9_10 ?_
  refine lv_istore_n (lv' := [(3, .int (iI ((k + (dsz v))))), (2, .int (iI k)), (0, .ref a), (1, .int (iI v))]) hx hb dJ5_append_c97b9_11 rfl hl (by decide) rfl (fun ls hl => ?_)
  refine lv_aload_n hx hb dJ5_append_c97b9_12 rfl (lv_at hl 2 rfl) ?_
  refine lv_iload_n hx hb dJ5_append_c97b9_13 rfl (lv_at hl 0 rfl) ?_
  refine q_uJv C0 uJ5_100 (selJ hJ (by unfold jsel; simp)) (c_J5_ensureCapacityInternal_d00df l D y sl L F _ B a cap k (k + (dsz v)) ⟨w, f, ha_a, hF_a, ha_w, hF_w, hf_w, nB_a, nB_w, hLs, by omega, by omega, by omega⟩ (by omega) (by omega)) ⟨rfl, rfl⟩ rfl hJ hP hD hS hA ha_a hF_a rfl rfl rfl hl rfl (Nat.le_of_ble_eq_true rfl) dJ5_append_c97b9_14 (by (try dsimp only); omega) (fun _ H locs L5 F5 hP hD hS hz5 hp5 => ?_)
  refine W.widen (k := (gC (k + (dsz v)) cap)) (n := (gS (k + (dsz v)) cap)) (by omega) (by omega) ?_
  obtain ⟨⟨w6, f6, ha_a, hF_a, ha_w6, hF_w6, hf_w6, nB_a, nB_w6, hLs, hk06, hk16, hk26⟩, hfr6⟩ := hp5
  have n_a_w6 : a ≠ w6 := ne_ob hF_a hF_w6
  have hfr : ∀ x ∈ B, F5 x = F x := fun x h => (hfr6 x h).trans (hfr x h)
  refine lv_aload_n hx hb dJ5_append_c97b9_17 rfl (lv_at hl 2 rfl) ?_
  refine q_uJi C0 uJ5_83 (hts _ (List.mem_cons_of_mem _ selIsL)) (c_J5_isLatin1_aae02 l D y sl L5 F5 _ B a (gcap (k + (dsz v)) cap) k ⟨w6, f6, ha_a, hF_a, ha_w6, hF_w6, hf_w6, nB_a, nB_w6, hLs, by omega, by omega, by omega⟩) ⟨rfl, rfl⟩ rfl hJ hP hD hS hA ha_a hF_a rfl rfl rfl hl rfl (Nat.le_of_ble_eq_true rfl) dJ5_append_c97b9_18 (by (try dsimp only); omega) (fun r7 H locs L8 F8 hP hD hS hz8 hp8 => ?_)
  obtain ⟨eL9, eF9, er9⟩ := hp8
  subst eL9
  subst eF9
  replace er9 : 1 = r7 := er9.symm
  subst er9
  refine q_if_eq hx hb dJ5_append_c97b9_21 (tgt := 37) (by decide) (by omega) (fun c10 => absurd c10 (by omega)) (fun c10 => ?_)
  refine lv_iload_n hx hb dJ5_append_c97b9_24 rfl (lv_at hl 3 rfl) ?_
  refine lv_iload_n hx hb dJ5_append_c97b9_25 rfl (lv_at hl 0 rfl) ?_
  refine lv_aload_n hx hb dJ5_append_c97b9_26 rfl (lv_at hl 2 rfl) ?_
  refine q_get C0 iJ4 hP ha_a hF_a rfl 0 (by decide) flJ5_15 rfl rfl dJ5_append_c97b9_27 ?_
  refine q_sJi C0 lJ5_248 (c_J6_getChars_ba4f3 l D y sl L5 F5 _ (a :: B) w6 (gcap (k + (dsz v)) cap) f6 v (k + (dsz v)) ha_w6 hF_w6 hf_w6 (fun z => (List.mem_cons.mp z).elim (fun e => n_a_w6 e.symm) nB_w6) (fun x z => (List.mem_cons.mp z).elim (fun e => e ▸ ha_a) (hLs x)) (by omega) (by omega) (by omega)) ⟨rfl, rfl⟩ rfl hJ hP hD hS hA rfl hl rfl (Nat.le_of_ble_eq_true rfl) dJ5_append_c97b9_30 (by (try dsimp only); omega) (fun r11 H locs L12 F12 hP hD hS hz12 hp12 => ?_)
  obtain ⟨eL13, ⟨g13, hF_w6, hf_g13⟩, hfr13⟩ := hp12
  subst eL13
  have hF_a : F12 a = sbE w6 k := (hfr13 _ List.mem_cons_self).trans hF_a
  have hfr : ∀ x ∈ B, F12 x = F x := fun x h => (hfr13 x (List.mem_cons_of_mem _ h)).trans (hfr x h)
  refine lv_pop hx hb dJ5_append_c97b9_33 rfl ?_
  refine lv_goto (tgt := 48) hx hb dJ5_append_c97b9_34 (by decide) ?_
  refine lv_aload_n hx hb dJ5_append_c97b9_48 rfl (lv_at hl 2 rfl) ?_
  refine lv_iload_n hx hb dJ5_append_c97b9_49 rfl (lv_at hl 0 rfl) ?_
  refine q_put C0 iJ4 tyJ4 tyJ4_ok nmJ4 hP hD hS ha_a hF_a rfl 3 (by decide) flJ5_79 rfl rfl rfl rfl (Nat.le_of_ble_eq_true rfl) dJ5_append_c97b9_50 (fun H locs hP hD hS => ?_)
  obtain ⟨F14x, eF14⟩ : ∃ z, z = va_up F12 a (.inr (1, [.ref w6, .int (iI 0), .int (iI 0), .int (iI ((k + (dsz v))))])) := ⟨_, rfl⟩
  have hP : va_P D vwCl (va_pl L5 F14x) H := by rw [eF14]; exact hP
  have hD : va_D (AL L sz) (va_pl L5 F14x) := by rw [eF14]; exact hD
  have hF_w6 : F14x w6 = arrB y (gcap (k + (dsz v)) cap) g13 := by rw [eF14]; exact (va_up_ne _ _ n_a_w6.symm).trans hF_w6
  have hF_a : F14x a = .inr (1, [.ref w6, .int (iI 0), .int (iI 0), .int (iI ((k + (dsz v))))]) := by rw [eF14]; exact va_up_self _ _ _
  have hfr : ∀ x ∈ B, F14x x = F x := fun x h1 => by rw [eF14]; exact (va_up_ne _ _ (fun e : x = a => nB_a (e ▸ h1))).trans (hfr x h1)
  refine lv_aload_n hx hb dJ5_append_c97b9_53 rfl (lv_at hl 2 rfl) ?_
  refine W.widen (k := (gC (k + dsz v) cap)) (n := (gS (k + dsz v) cap)) (by omega) (by omega) ?_
  exact q_retMa C0 hret (by first | exact Or.inl ⟨_, rfl⟩ | exact Or.inr ⟨_, rfl⟩) hlk dJ5_append_c97b9_54 hP hD hS (⟨rfl, ⟨w6, g13, ha_a, hF_a, ha_w6, hF_w6, hf_g13, nB_a, nB_w6, hLs, by omega, by omega, by omega⟩, hfr⟩)
set_option maxHeartbeats 3000000 in
set_option maxRecDepth 100000 in
theorem c_J4_append_bf812 (l : Launch) (D : va_G) (y : Nat → ClassId) (sl : List (Nat × Nat × Nat)) (L : List Nat) (F : Nat → va_E) (sz : Nat) (B : List Nat) (a : Nat) (cap : Nat) (k : Int) (v : Int) (hB : SBs y B L F a cap k) (hv : 0 ≤ v ∧ v ≤ 99) (hg : gcap (k + dsz v) cap ≤ 20000) (hq9 : (k + dsz v) ≤ 40000) : Met l yJ4_append_bf812 (.code yJ4_append_bf812 cJ4_append_bf812 2 (some (.object "java/lang/StringBuilder")) :: Tt) ({ frames := 5, cells := (gC (k + dsz v) cap), slots := (gS (k + dsz v) cap), locals := 114 }) (PcJ D y sl L F sz [.ref a, .int (iI v)]) (cMa D (AL L sz) (fun r L1 F1 => r = a ∧ SBs y B L1 F1 a (gcap (k + dsz v) cap) (k + dsz v) ∧ ∀ x ∈ B, F1 x = F x)) (gC (k + dsz v) cap) (gS (k + dsz v) cap) (AL L sz) := by
  obtain ⟨w, f, ha_a, hF_a, ha_w, hF_w, hf_w, nB_a, nB_w, hLs, hk0, hk1, hk2⟩ := hB
  have n_a_w : a ≠ w := ne_ob hF_a hF_w
  have hfr : ∀ x ∈ B, F x = F x := fun _ _ => rfl
  have gg_ := g_ge (k + dsz v) cap
  have ds_ := dsz_b v
  refine q_ofJ (lv := [(0, .ref a), (1, .int (iI v))]) (by decide) (Nat.le_of_ble_eq_true rfl) rfl (fun p e s m below meth c C0 hret hlk hnm hA hP hD hS hJ ls hl => ?_)
  have hx := C0.1.1
  have hb := C0.1.2.1
  have hts := C0.1.2.2.2.2
  refine lv_aload_n hx hb dJ4_append_bf812_0 rfl (lv_at hl 0 rfl) ?_
  refine lv_iload_n hx hb dJ4_append_bf812_1 rfl (lv_at hl 1 rfl) ?_
  refine q_pJa C0 uJ4_53 (c_J5_append_c97b9 l D y sl L F _ B a cap k v ⟨w, f, ha_a, hF_a, ha_w, hF_w, hf_w, nB_a, nB_w, hLs, by omega, by omega, by omega⟩ (by omega) (by omega) (by omega)) ⟨rfl, rfl⟩ rfl hJ hP hD hS hA ha_a hF_a rfl rfl hl rfl (Nat.le_of_ble_eq_true rfl) dJ4_append_bf812_2 (by (try dsimp only); omega) (fun r1 H locs L2 F2 hP hD hS hz2 hp2 => ?_)
  refine W.widen (k := (gC (k + dsz v) cap)) (n := (gS (k + dsz v) cap)) (by omega) (by omega) ?_
  obtain ⟨er3, ⟨w3, f3, ha_a, hF_a, ha_w3, hF_w3, hf_w3, nB_a, nB_w3, hLs, hk03, hk13, hk23⟩, hfr3⟩ := hp2
  replace er3 : a = r1 := er3.symm
  subst er3
  have n_a_w3 : a ≠ w3 := ne_ob hF_a hF_w3
  have hfr : ∀ x ∈ B, F2 x = F x := fun x h => (hfr3 x h).trans (hfr x h)
  refine lv_pop hx hb dJ4_append_bf812_5 rfl ?_
  refine lv_aload_n hx hb dJ4_append_bf812_6 rfl (lv_at hl 0 rfl) ?_
  exact q_retMa C0 hret (by first | exact Or.inl ⟨_, rfl⟩ | exact Or.inr ⟨_, rfl⟩) hlk dJ4_append_bf812_7 hP hD hS (⟨rfl, ⟨w3, f3, ha_a, hF_a, ha_w3, hF_w3, hf_w3, nB_a, nB_w3, hLs, by omega, by omega, by omega⟩, hfr⟩)
set_option maxHeartbeats 3000000 in
set_option maxRecDepth 100000 in
theorem c_J0_coder_7d493 (l : Launch) (D : va_G) (y : Nat → ClassId) (sl : List (Nat × Nat × Nat)) (L : List Nat) (F : Nat → va_E) (sz : Nat) (q : Nat × Nat × Nat) (hq : q ∈ sl) : Met l yJ0_coder_7d493 (.code yJ0_coder_7d493 cJ0_coder_7d493 1 (some .byte) :: Tt) ({ frames := 0, cells := 0, slots := 0, locals := 0 }) (PcJ D y sl L F sz [.ref (q.1)]) (cMi D (AL L sz) (fun r L1 F1 => L = L1 ∧ F = F1 ∧ r = 0)) 0 0 (AL L sz) := by
  refine q_ofJ (lv := [(0, .ref (q.1))]) (by decide) (Nat.le_of_ble_eq_true rfl) rfl (fun p e s m below meth c C0 hret hlk hnm hA hP hD hS hJ ls hl => ?_)
  have hx := C0.1.1
  have hb := C0.1.2.1
  have hts := C0.1.2.2.2.2
  refine q_gets C0 hS hJ.1 flJ0_38 dJ0_coder_7d493_0 ?_
  refine q_if_eq hx hb dJ0_coder_7d493_3 (tgt := 13) (by decide) (by omega) (fun c1 => absurd c1 (by omega)) (fun c1 => ?_)
  refine lv_aload_n hx hb dJ0_coder_7d493_6 rfl (lv_at hl 0 rfl) ?_
  refine q_getK C0 hS (hJ.2.2.2.1 q hq).2.1 flJ0_15 dJ0_coder_7d493_7 ?_
  refine lv_goto (tgt := 14) hx hb dJ0_coder_7d493_10 (by decide) ?_
  exact q_retMi C0 hret (by decide) hlk dJ0_coder_7d493_14 hP hD hS (⟨rfl, rfl, rfl⟩)
set_option maxHeartbeats 3000000 in
set_option maxRecDepth 100000 in
theorem c_J0_length_8abf5 (l : Launch) (D : va_G) (y : Nat → ClassId) (sl : List (Nat × Nat × Nat)) (L : List Nat) (F : Nat → va_E) (sz : Nat) (q : Nat × Nat × Nat) (hq : q ∈ sl) : Met l yJ0_length_8abf5 (.code yJ0_length_8abf5 cJ0_length_8abf5 1 (some .int) :: Tt) ({ frames := 1, cells := 0, slots := 0, locals := 20 }) (PcJ D y sl L F sz [.ref (q.1)]) (cMi D (AL L sz) (fun r L1 F1 => L = L1 ∧ F = F1 ∧ r = (q.2.2 : Int))) 0 0 (AL L sz) := by
  refine q_ofJ (lv := [(0, .ref (q.1))]) (by decide) (Nat.le_of_ble_eq_true rfl) rfl (fun p e s m below meth c C0 hret hlk hnm hA hP hD hS hJ ls hl => ?_)
  have hx := C0.1.1
  have hb := C0.1.2.1
  have hts := C0.1.2.2.2.2
  obtain ⟨fs_, hT_, hfs_⟩ := (hJ.2.2.2.1 q hq).2.2.2.1
  have hql := (hJ.2.2.2.1 q hq).2.2.2.2
  refine lv_aload_n hx hb dJ0_length_8abf5_0 rfl (lv_at hl 0 rfl) ?_
  refine q_getK C0 hS (hJ.2.2.2.1 q hq).2.2.1 flJ0_9 dJ0_length_8abf5_1 ?_
  refine q_tlen C0 hS hT_ dJ0_length_8abf5_4 ?_
  refine lv_aload_n hx hb dJ0_length_8abf5_5 rfl (lv_at hl 0 rfl) ?_
  refine q_kJi C0 lJ0_335 (c_J0_coder_7d493 l D y sl L F _ q hq) ⟨rfl, rfl⟩ rfl hJ hP hD hS hA hq rfl rfl rfl hl rfl (Nat.le_of_ble_eq_true rfl) dJ0_length_8abf5_6 (by (try dsimp only); omega) (fun r1 H locs L2 F2 hP hD hS hz2 hp2 => ?_)
  obtain ⟨eL3, eF3, er3⟩ := hp2
  subst eL3
  subst eF3
  replace er3 : 0 = r1 := er3.symm
  subst er3
  refine q_ishr0 hx hb dJ0_length_8abf5_9 ?_
  exact q_retMi C0 hret rfl hlk dJ0_length_8abf5_10 hP hD hS (⟨rfl, rfl, rfl⟩)
set_option maxHeartbeats 3000000 in
set_option maxRecDepth 100000 in
theorem c_J0_getBytes_840e7 (l : Launch) (D : va_G) (y : Nat → ClassId) (sl : List (Nat × Nat × Nat)) (L : List Nat) (F : Nat → va_E) (sz : Nat) (q : Nat × Nat × Nat) (B : List Nat) (w : Nat) (cap : Nat) (f : Nat → Int32) (i : Int) (hq : q ∈ sl) (ha_w : w ∈ L) (hF_w : F w = arrB y cap f) (hf_w : sb_Fit f) (nB_w : w ∉ B) (hLs : ∀ x ∈ B, x ∈ L) (hcap : cap ≤ 20000) (hi9 : 0 ≤ i ∧ i + q.2.2 ≤ cap) : Met l yJ0_getBytes_840e7 (.code yJ0_getBytes_840e7 cJ0_getBytes_840e7 4 none :: Tt) ({ frames := 1, cells := 0, slots := 0, locals := 40 }) (PcJ D y sl L F sz [.ref (q.1), .ref w, .int (iI i), .int (iI 0)]) (cMv D (AL L sz) (fun _ L1 F1 => L = L1 ∧ (∃ g, F1 w = arrB y cap g ∧ sb_Fit g) ∧ ∀ x ∈ B, F1 x = F x)) 0 0 (AL L sz) := by
  have hfr : ∀ x ∈ B, F x = F x := fun _ _ => rfl
  refine q_ofJ (lv := [(0, .ref (q.1)), (1, .ref w), (2, .int (iI i)), (3, .int (iI 0))]) (by decide) (Nat.le_of_ble_eq_true rfl) rfl (fun p e s m below meth c C0 hret hlk hnm hA hP hD hS hJ ls hl => ?_)
  have hx := C0.1.1
  have hb := C0.1.2.1
  have hts := C0.1.2.2.2.2
  obtain ⟨fs_, hT_, hfs_⟩ := (hJ.2.2.2.1 q hq).2.2.2.1
  have hql := (hJ.2.2.2.1 q hq).2.2.2.2
  refine lv_aload_n hx hb dJ0_getBytes_840e7_0 rfl (lv_at hl 0 rfl) ?_
  refine q_kJi C0 lJ0_335 (c_J0_coder_7d493 l D y sl L F _ q hq) ⟨rfl, rfl⟩ rfl hJ hP hD hS hA hq rfl rfl rfl hl rfl (Nat.le_of_ble_eq_true rfl) dJ0_getBytes_840e7_1 (by (try dsimp only); omega) (fun r1 H locs L2 F2 hP hD hS hz2 hp2 => ?_)
  obtain ⟨eL3, eF3, er3⟩ := hp2
  subst eL3
  subst eF3
  replace er3 : 0 = r1 := er3.symm
  subst er3
  refine lv_iload_n hx hb dJ0_getBytes_840e7_4 rfl (lv_at hl 3 rfl) ?_
  refine q_icmp_ne hx hb dJ0_getBytes_840e7_5 (tgt := 28) (by decide) (by omega) (by omega) (fun c4 => absurd c4 (by omega)) (fun c4 => ?_)
  refine lv_aload_n hx hb dJ0_getBytes_840e7_8 rfl (lv_at hl 0 rfl) ?_
  refine q_getK C0 hS (hJ.2.2.2.1 q hq).2.2.1 flJ0_9 dJ0_getBytes_840e7_9 ?_
  refine q_iconst hx hb dJ0_getBytes_840e7_12 ?_
  refine lv_aload_n hx hb dJ0_getBytes_840e7_13 rfl (lv_at hl 1 rfl) ?_
  refine lv_iload_n hx hb dJ0_getBytes_840e7_14 rfl (lv_at hl 2 rfl) ?_
  refine lv_iload_n hx hb dJ0_getBytes_840e7_15 rfl (lv_at hl 3 rfl) ?_
  refine q_ishl0 hx hb dJ0_getBytes_840e7_16 ?_
  refine lv_aload_n hx hb dJ0_getBytes_840e7_17 rfl (lv_at hl 0 rfl) ?_
  refine q_getK C0 hS (hJ.2.2.2.1 q hq).2.2.1 flJ0_9 dJ0_getBytes_840e7_18 ?_
  refine q_tlen C0 hS hT_ dJ0_getBytes_840e7_21 ?_
  refine q_copyt C0 mlJ0_212 hl hP hD hS hT_ hfs_ ha_w hF_w hf_w (by omega) (by omega) (by omega) (Nat.le_of_ble_eq_true rfl) (Nat.le_of_ble_eq_true rfl) dJ0_getBytes_840e7_22 (fun H locs g5 hf_g5 hP hD hS => ?_)
  obtain ⟨F6x, eF6⟩ : ∃ z, z = va_up F w (arrB y cap g5) := ⟨_, rfl⟩
  have hP : va_P D vwCl (va_pl L F6x) H := by rw [eF6]; exact hP
  have hD : va_D (AL L sz) (va_pl L F6x) := by rw [eF6]; exact hD
  have hF_w : F6x w = arrB y cap g5 := by rw [eF6]; exact va_up_self _ _ _
  have hfr : ∀ x ∈ B, F6x x = F x := fun x h1 => by rw [eF6]; exact (va_up_ne _ _ (fun e : x = w => nB_w (e ▸ h1))).trans (hfr x h1)
  refine lv_goto (tgt := 43) hx hb dJ0_getBytes_840e7_25 (by decide) ?_
  exact q_retMv C0 hret hlk dJ0_getBytes_840e7_43 hP hD hS (⟨rfl, ⟨g5, hF_w, hf_g5⟩, hfr⟩)
set_option maxHeartbeats 3000000 in
set_option maxRecDepth 100000 in
theorem c_J5_inflateIfNeededFor_a7421 (l : Launch) (D : va_G) (y : Nat → ClassId) (sl : List (Nat × Nat × Nat)) (L : List Nat) (F : Nat → va_E) (sz : Nat) (B : List Nat) (a : Nat) (cap : Nat) (k : Int) (q : Nat × Nat × Nat) (hB : SBs y B L F a cap k) (hq : q ∈ sl) : Met l yJ5_inflateIfNeededFor_a7421 (.code yJ5_inflateIfNeededFor_a7421 cJ5_inflateIfNeededFor_a7421 2 none :: Tt) ({ frames := 1, cells := 0, slots := 0, locals := 20 }) (PcJ D y sl L F sz [.ref a, .ref (q.1)]) (cMv D (AL L sz) (fun _ L1 F1 => L = L1 ∧ F = F1)) 0 0 (AL L sz) := by
  obtain ⟨w, f, ha_a, hF_a, ha_w, hF_w, hf_w, nB_a, nB_w, hLs, hk0, hk1, hk2⟩ := hB
  have n_a_w : a ≠ w := ne_ob hF_a hF_w
  have hfr : ∀ x ∈ B, F x = F x := fun _ _ => rfl
  refine q_ofJ (lv := [(0, .ref a), (1, .ref (q.1))]) (by decide) (Nat.le_of_ble_eq_true rfl) rfl (fun p e s m below meth c C0 hret hlk hnm hA hP hD hS hJ ls hl => ?_)
  have hx := C0.1.1
  have hb := C0.1.2.1
  have hts := C0.1.2.2.2.2
  refine q_gets C0 hS hJ.1 flJ5_18 dJ5_inflateIfNeededFor_a7421_0 ?_
  refine q_if_eq hx hb dJ5_inflateIfNeededFor_a7421_3 (tgt := 21) (by decide) (by omega) (fun c1 => absurd c1 (by omega)) (fun c1 => ?_)
  refine lv_aload_n hx hb dJ5_inflateIfNeededFor_a7421_6 rfl (lv_at hl 0 rfl) ?_
  refine q_get C0 iJ4 hP ha_a hF_a rfl 1 (by decide) flJ5_22 rfl rfl dJ5_inflateIfNeededFor_a7421_7 ?_
  refine lv_aload_n hx hb dJ5_inflateIfNeededFor_a7421_10 rfl (lv_at hl 1 rfl) ?_
  refine q_kJi C0 lJ5_40 (c_J0_coder_7d493 l D y sl L F _ q hq) ⟨rfl, rfl⟩ rfl hJ hP hD hS hA hq rfl rfl rfl hl rfl (Nat.le_of_ble_eq_true rfl) dJ5_inflateIfNeededFor_a7421_11 (by (try dsimp only); omega) (fun r2 H locs L3 F3 hP hD hS hz3 hp3 => ?_)
  obtain ⟨eL4, eF4, er4⟩ := hp3
  subst eL4
  subst eF4
  replace er4 : 0 = r2 := er4.symm
  subst er4
  refine q_icmp_eq hx hb dJ5_inflateIfNeededFor_a7421_14 (tgt := 21) (by decide) (by omega) (by omega) (fun c5 => ?_) (fun c5 => absurd c5 (by omega))
  exact q_retMv C0 hret hlk dJ5_inflateIfNeededFor_a7421_21 hP hD hS (⟨rfl, rfl⟩)
set_option maxHeartbeats 3000000 in
set_option maxRecDepth 100000 in
theorem c_J5_putStringAt_47b60 (l : Launch) (D : va_G) (y : Nat → ClassId) (sl : List (Nat × Nat × Nat)) (L : List Nat) (F : Nat → va_E) (sz : Nat) (B : List Nat) (a : Nat) (cap : Nat) (k : Int) (q : Nat × Nat × Nat) (i : Int) (hB : SBs y B L F a cap k) (hq : q ∈ sl) (hi9 : 0 ≤ i ∧ i + q.2.2 ≤ cap) : Met l yJ5_putStringAt_47b60 (.code yJ5_putStringAt_47b60 cJ5_putStringAt_47b60 3 none :: Tt) ({ frames := 2, cells := 0, slots := 0, locals := 63 }) (PcJ D y sl L F sz [.ref a, .int (iI i), .ref (q.1)]) (cMv D (AL L sz) (fun _ L1 F1 => SBs y B L1 F1 a cap k ∧ ∀ x ∈ B, F1 x = F x)) 0 0 (AL L sz) := by
  obtain ⟨w, f, ha_a, hF_a, ha_w, hF_w, hf_w, nB_a, nB_w, hLs, hk0, hk1, hk2⟩ := hB
  have n_a_w : a ≠ w := ne_ob hF_a hF_w
  have hfr : ∀ x ∈ B, F x = F x := fun _ _ => rfl
  refine q_ofJ (lv := [(0, .ref a), (1, .int (iI i)), (2, .ref (q.1))]) (by decide) (Nat.le_of_ble_eq_true rfl) rfl (fun p e s m below meth c C0 hret hlk hnm hA hP hD hS hJ ls hl => ?_)
  have hx := C0.1.1
  have hb := C0.1.2.1
  have hts := C0.1.2.2.2.2
  refine lv_aload_n hx hb dJ5_putStringAt_47b60_0 rfl (lv_at hl 0 rfl) ?_
  refine lv_aload_n hx hb dJ5_putStringAt_47b60_1 rfl (lv_at hl 2 rfl) ?_
  refine q_uJv C0 uJ5_397 (selJ hJ (by unfold jsel; simp)) (c_J5_inflateIfNeededFor_a7421 l D y sl L F _ B a cap k q ⟨w, f, ha_a, hF_a, ha_w, hF_w, hf_w, nB_a, nB_w, hLs, by omega, by omega, by omega⟩ hq) ⟨rfl, rfl⟩ rfl hJ hP hD hS hA ha_a hF_a rfl rfl rfl hl rfl (Nat.le_of_ble_eq_true rfl) dJ5_putStringAt_47b60_2 (by (try dsimp only); omega) (fun _ H locs L2 F2 hP hD hS hz2 hp2 => ?_)
  obtain ⟨eL3, eF3⟩ := hp2
  subst eL3
  subst eF3
  refine lv_aload_n hx hb dJ5_putStringAt_47b60_5 rfl (lv_at hl 2 rfl) ?_
  refine lv_aload_n hx hb dJ5_putStringAt_47b60_6 rfl (lv_at hl 0 rfl) ?_
  refine q_get C0 iJ4 hP ha_a hF_a rfl 0 (by decide) flJ5_15 rfl rfl dJ5_putStringAt_47b60_7 ?_
  refine lv_iload_n hx hb dJ5_putStringAt_47b60_10 rfl (lv_at hl 1 rfl) ?_
  refine lv_aload_n hx hb dJ5_putStringAt_47b60_11 rfl (lv_at hl 0 rfl) ?_
  refine q_get C0 iJ4 hP ha_a hF_a rfl 1 (by decide) flJ5_22 rfl rfl dJ5_putStringAt_47b60_12 ?_
  refine q_kJv C0 lJ5_399 (c_J0_getBytes_840e7 l D y sl L F _ q (a :: B) w cap f i hq ha_w hF_w hf_w (fun z => (List.mem_cons.mp z).elim (fun e => n_a_w e.symm) nB_w) (fun x z => (List.mem_cons.mp z).elim (fun e => e ▸ ha_a) (hLs x)) (by omega) (by omega)) ⟨rfl, rfl⟩ rfl hJ hP hD hS hA hq rfl rfl rfl hl rfl (Nat.le_of_ble_eq_true rfl) dJ5_putStringAt_47b60_15 (by (try dsimp only); omega) (fun _ H locs L5 F5 hP hD hS hz5 hp5 => ?_)
  obtain ⟨eL6, ⟨g6, hF_w, hf_g6⟩, hfr6⟩ := hp5
  subst eL6
  have hF_a : F5 a = sbE w k := (hfr6 _ List.mem_cons_self).trans hF_a
  have hfr : ∀ x ∈ B, F5 x = F x := fun x h => (hfr6 x (List.mem_cons_of_mem _ h)).trans (hfr x h)
  exact q_retMv C0 hret hlk dJ5_putStringAt_47b60_18 hP hD hS (⟨⟨w, g6, ha_a, hF_a, ha_w, hF_w, hf_g6, nB_a, nB_w, hLs, by omega, by omega, by omega⟩, hfr⟩)
set_option maxHeartbeats 3000000 in
set_option maxRecDepth 100000 in
theorem c_J5_append_cf1ce (l : Launch) (D : va_G) (y : Nat → ClassId) (sl : List (Nat × Nat × Nat)) (L : List Nat) (F : Nat → va_E) (sz : Nat) (B : List Nat) (a : Nat) (cap : Nat) (k : Int) (q : Nat × Nat × Nat) (hB : SBs y B L F a cap k) (hq : q ∈ sl) (hg : gcap (k + (q.2.2 : Int)) cap ≤ 20000) (hq9 : (k + (q.2.2 : Int)) ≤ 40000) : Met l yJ5_append_cf1ce (.code yJ5_append_cf1ce cJ5_append_cf1ce 3 (some (.object "java/lang/AbstractStringBuilder")) :: Tt) ({ frames := 4, cells := (gC (k + (q.2.2 : Int)) cap), slots := (gS (k + (q.2.2 : Int)) cap), locals := 91 }) (PcJ D y sl L F sz [.ref a, .ref (q.1)]) (cMa D (AL L sz) (fun r L1 F1 => r = a ∧ SBs y B L1 F1 a (gcap (k + (q.2.2 : Int)) cap) (k + (q.2.2 : Int)) ∧ ∀ x ∈ B, F1 x = F x)) (gC (k + (q.2.2 : Int)) cap) (gS (k + (q.2.2 : Int)) cap) (AL L sz) := by
  obtain ⟨w, f, ha_a, hF_a, ha_w, hF_w, hf_w, nB_a, nB_w, hLs, hk0, hk1, hk2⟩ := hB
  have n_a_w : a ≠ w := ne_ob hF_a hF_w
  have hfr : ∀ x ∈ B, F x = F x := fun _ _ => rfl
  have gg_ := g_ge (k + (q.2.2 : Int)) cap
  refine q_ofJ (lv := [(0, .ref a), (1, .ref (q.1))]) (by decide) (Nat.le_of_ble_eq_true rfl) rfl (fun p e s m below meth c C0 hret hlk hnm hA hP hD hS hJ ls hl => ?_)
  have hx := C0.1.1
  have hb := C0.1.2.1
  have hts := C0.1.2.2.2.2
  refine lv_aload_n hx hb dJ5_append_cf1ce_0 rfl (lv_at hl 1 rfl) ?_
  refine lv_ifnonnull (tgt := 9) hx hb dJ5_append_cf1ce_1 (by decide) ?_
  refine lv_aload_n hx hb dJ5_append_cf1ce_9 rfl (lv_at hl 1 rfl) ?_
  refine q_kJi C0 lJ5_32 (c_J0_length_8abf5 l D y sl L F _ q hq) ⟨rfl, rfl⟩ rfl hJ hP hD hS hA hq rfl rfl rfl hl rfl (Nat.le_of_ble_eq_true rfl) dJ5_append_cf1ce_10 (by (try dsimp only); omega) (fun r1 H locs L2 F2 hP hD hS hz2 hp2 => ?_)
  obtain ⟨eL3, eF3, er3⟩ := hp2
  subst eL3
  subst eF3
  replace er3 : (q.2.2 : Int) = r1 := er3.symm
  subst er3
  refine lv_istore_n (lv' := [(2, .int (iI ((q.2.2 : Int)))), (0, .ref a), (1, .ref (q.1))]) hx hb dJ5_append_cf1ce_13 rfl hl (by decide) rfl (fun ls hl => ?_)
  refine lv_aload_n hx hb dJ5_append_cf1ce_14 rfl (lv_at hl 1 rfl) ?_
  refine lv_aload_n hx hb dJ5_append_cf1ce_15 rfl (lv_at hl 1 rfl) ?_
  refine q_get C0 iJ4 hP ha_a hF_a rfl 3 (by decide) flJ5_79 rfl rfl dJ5_append_cf1ce_16 ?_
  refine lv_iload_n hx hb dJ5_append_cf1ce_19 rfl (lv_at hl 0 rfl) ?_
  refine q_iadd hx hb dJ5_append_cf1ce_20 ?_
  refine q_uJv C0 uJ5_100 (selJ hJ (by unfold jsel; simp)) (c_J5_ensureCapacityInternal_d00df l D y sl L F _ B a cap k (k + (q.2.2 : Int)) ⟨w, f, ha_a, hF_a, ha_w, hF_w, hf_w, nB_a, nB_w, hLs, by omega, by omega, by omega⟩ (by omega) (by omega)) ⟨rfl, rfl⟩ rfl hJ hP hD hS hA ha_a hF_a rfl rfl rfl hl rfl (Nat.le_of_ble_eq_true rfl) dJ5_append_cf1ce_21 (by (try dsimp only); omega) (fun _ H locs L5 F5 hP hD hS hz5 hp5 => ?_)
  refine W.widen (k := (gC (k + (q.2.2 : Int)) cap)) (n := (gS (k + (q.2.2 : Int)) cap)) (by omega) (by omega) ?_
  obtain ⟨⟨w6, f6, ha_a, hF_a, ha_w6, hF_w6, hf_w6, nB_a, nB_w6, hLs, hk06, hk16, hk26⟩, hfr6⟩ := hp5
  have n_a_w6 : a ≠ w6 := ne_ob hF_a hF_w6
  have hfr : ∀ x ∈ B, F5 x = F x := fun x h => (hfr6 x h).trans (hfr x h)
  refine lv_aload_n hx hb dJ5_append_cf1ce_24 rfl (lv_at hl 1 rfl) ?_
  refine lv_aload_n hx hb dJ5_append_cf1ce_25 rfl (lv_at hl 1 rfl) ?_
  refine q_get C0 iJ4 hP ha_a hF_a rfl 3 (by decide) flJ5_79 rfl rfl dJ5_append_cf1ce_26 ?_
  refine lv_aload_n hx hb dJ5_append_cf1ce_29 rfl (lv_at hl 2 rfl) ?_
  refine q_uJv C0 uJ5_208 (selJ hJ (by unfold jsel; simp)) (c_J5_putStringAt_47b60 l D y sl L5 F5 _ B a (gcap (k + (q.2.2 : Int)) cap) k q k ⟨w6, f6, ha_a, hF_a, ha_w6, hF_w6, hf_w6, nB_a, nB_w6, hLs, by omega, by omega, by omega⟩ hq (by omega)) ⟨rfl, rfl⟩ rfl hJ hP hD hS hA ha_a hF_a rfl rfl rfl hl rfl (Nat.le_of_ble_eq_true rfl) dJ5_append_cf1ce_30 (by (try dsimp only); omega) (fun _ H locs L8 F8 hP hD hS hz8 hp8 => ?_)
  obtain ⟨⟨w9, f9, ha_a, hF_a, ha_w9, hF_w9, hf_w9, nB_a, nB_w9, hLs, hk09, hk19, hk29⟩, hfr9⟩ := hp8
  have n_a_w9 : a ≠ w9 := ne_ob hF_a hF_w9
  have hfr : ∀ x ∈ B, F8 x = F x := fun x h => (hfr9 x h).trans (hfr x h)
  refine lv_aload_n hx hb dJ5_append_cf1ce_33 rfl (lv_at hl 1 rfl) ?_
  refine lv_dup hx hb dJ5_append_cf1ce_34 rfl ?_
  refine q_get C0 iJ4 hP ha_a hF_a rfl 3 (by decide) flJ5_79 rfl rfl dJ5_append_cf1ce_35 ?_
  refine lv_iload_n hx hb dJ5_append_cf1ce_38 rfl (lv_at hl 0 rfl) ?_
  refine q_iadd hx hb dJ5_append_cf1ce_39 ?_
  refine q_put C0 iJ4 tyJ4 tyJ4_ok nmJ4 hP hD hS ha_a hF_a rfl 3 (by decide) flJ5_79 rfl rfl rfl rfl (Nat.le_of_ble_eq_true rfl) dJ5_append_cf1ce_40 (fun H locs hP hD hS => ?_)
  obtain ⟨F10x, eF10⟩ : ∃ z, z = va_up F8 a (.inr (1, [.ref w9, .int (iI 0), .int (iI 0), .int (iI ((k + (q.2.2 : Int))))])) := ⟨_, rfl⟩
  have hP : va_P D vwCl (va_pl L8 F10x) H := by rw [eF10]; exact hP
  have hD : va_D (AL L sz) (va_pl L8 F10x) := by rw [eF10]; exact hD
  have hF_w9 : F10x w9 = arrB y (gcap (k + (q.2.2 : Int)) cap) f9 := by rw [eF10]; exact (va_up_ne _ _ n_a_w9.symm).trans hF_w9
  have hF_a : F10x a = .inr (1, [.ref w9, .int (iI 0), .int (iI 0), .int (iI ((k + (q.2.2 : Int))))]) := by rw [eF10]; exact va_up_self _ _ _
  have hfr : ∀ x ∈ B, F10x x = F x := fun x h1 => by rw [eF10]; exact (va_up_ne _ _ (fun e : x = a => nB_a (e ▸ h1))).trans (hfr x h1)
  refine lv_aload_n hx hb dJ5_append_cf1ce_43 rfl (lv_at hl 1 rfl) ?_
  exact q_retMa C0 hret (by first | exact Or.inl ⟨_, rfl⟩ | exact Or.inr ⟨_, rfl⟩) hlk dJ5_append_cf1ce_44 hP hD hS (⟨rfl, ⟨w9, f9, ha_a, hF_a, ha_w9, hF_w9, hf_w9, nB_a, nB_w9, hLs, by omega, by omega, by omega⟩, hfr⟩)
set_option maxHeartbeats 3000000 in
set_option maxRecDepth 100000 in
theorem c_J4_append_15ec4 (l : Launch) (D : va_G) (y : Nat → ClassId) (sl : List (Nat × Nat × Nat)) (L : List Nat) (F : Nat → va_E) (sz : Nat) (B : List Nat) (a : Nat) (cap : Nat) (k : Int) (q : Nat × Nat × Nat) (hB : SBs y B L F a cap k) (hq : q ∈ sl) (hg : gcap (k + (q.2.2 : Int)) cap ≤ 20000) (hq9 : (k + (q.2.2 : Int)) ≤ 40000) : Met l yJ4_append_15ec4 (.code yJ4_append_15ec4 cJ4_append_15ec4 2 (some (.object "java/lang/StringBuilder")) :: Tt) ({ frames := 5, cells := (gC (k + (q.2.2 : Int)) cap), slots := (gS (k + (q.2.2 : Int)) cap), locals := 113 }) (PcJ D y sl L F sz [.ref a, .ref (q.1)]) (cMa D (AL L sz) (fun r L1 F1 => r = a ∧ SBs y B L1 F1 a (gcap (k + (q.2.2 : Int)) cap) (k + (q.2.2 : Int)) ∧ ∀ x ∈ B, F1 x = F x)) (gC (k + (q.2.2 : Int)) cap) (gS (k + (q.2.2 : Int)) cap) (AL L sz) := by
  obtain ⟨w, f, ha_a, hF_a, ha_w, hF_w, hf_w, nB_a, nB_w, hLs, hk0, hk1, hk2⟩ := hB
  have n_a_w : a ≠ w := ne_ob hF_a hF_w
  have hfr : ∀ x ∈ B, F x = F x := fun _ _ => rfl
  have gg_ := g_ge (k + (q.2.2 : Int)) cap
  refine q_ofJ (lv := [(0, .ref a), (1, .ref (q.1))]) (by decide) (Nat.le_of_ble_eq_true rfl) rfl (fun p e s m below meth c C0 hret hlk hnm hA hP hD hS hJ ls hl => ?_)
  have hx := C0.1.1
  have hb := C0.1.2.1
  have hts := C0.1.2.2.2.2
  refine lv_aload_n hx hb dJ4_append_15ec4_0 rfl (lv_at hl 0 rfl) ?_
  refine lv_aload_n hx hb dJ4_append_15ec4_1 rfl (lv_at hl 1 rfl) ?_
  refine q_pJa C0 uJ4_29 (c_J5_append_cf1ce l D y sl L F _ B a cap k q ⟨w, f, ha_a, hF_a, ha_w, hF_w, hf_w, nB_a, nB_w, hLs, by omega, by omega, by omega⟩ hq (by omega) (by omega)) ⟨rfl, rfl⟩ rfl hJ hP hD hS hA ha_a hF_a rfl rfl hl rfl (Nat.le_of_ble_eq_true rfl) dJ4_append_15ec4_2 (by (try dsimp only); omega) (fun r1 H locs L2 F2 hP hD hS hz2 hp2 => ?_)
  refine W.widen (k := (gC (k + (q.2.2 : Int)) cap)) (n := (gS (k + (q.2.2 : Int)) cap)) (by omega) (by omega) ?_
  obtain ⟨er3, ⟨w3, f3, ha_a, hF_a, ha_w3, hF_w3, hf_w3, nB_a, nB_w3, hLs, hk03, hk13, hk23⟩, hfr3⟩ := hp2
  replace er3 : a = r1 := er3.symm
  subst er3
  have n_a_w3 : a ≠ w3 := ne_ob hF_a hF_w3
  have hfr : ∀ x ∈ B, F2 x = F x := fun x h => (hfr3 x h).trans (hfr x h)
  refine lv_pop hx hb dJ4_append_15ec4_5 rfl ?_
  refine lv_aload_n hx hb dJ4_append_15ec4_6 rfl (lv_at hl 0 rfl) ?_
  exact q_retMa C0 hret (by first | exact Or.inl ⟨_, rfl⟩ | exact Or.inr ⟨_, rfl⟩) hlk dJ4_append_15ec4_7 hP hD hS (⟨rfl, ⟨w3, f3, ha_a, hF_a, ha_w3, hF_w3, hf_w3, nB_a, nB_w3, hLs, by omega, by omega, by omega⟩, hfr⟩)
set_option maxHeartbeats 3000000 in
set_option maxRecDepth 100000 in
theorem c_J4_append_cf1ce (l : Launch) (D : va_G) (y : Nat → ClassId) (sl : List (Nat × Nat × Nat)) (L : List Nat) (F : Nat → va_E) (sz : Nat) (B : List Nat) (a : Nat) (cap : Nat) (k : Int) (q : Nat × Nat × Nat) (hB : SBs y B L F a cap k) (hq : q ∈ sl) (hg : gcap (k + (q.2.2 : Int)) cap ≤ 20000) (hq9 : (k + (q.2.2 : Int)) ≤ 40000) : Met l yJ4_append_cf1ce (.code yJ4_append_cf1ce cJ4_append_cf1ce 2 (some (.object "java/lang/AbstractStringBuilder")) :: Tt) ({ frames := 6, cells := (gC (k + (q.2.2 : Int)) cap), slots := (gS (k + (q.2.2 : Int)) cap), locals := 134 }) (PcJ D y sl L F sz [.ref a, .ref (q.1)]) (cMa D (AL L sz) (fun r L1 F1 => r = a ∧ SBs y B L1 F1 a (gcap (k + (q.2.2 : Int)) cap) (k + (q.2.2 : Int)) ∧ ∀ x ∈ B, F1 x = F x)) (gC (k + (q.2.2 : Int)) cap) (gS (k + (q.2.2 : Int)) cap) (AL L sz) := by
  obtain ⟨w, f, ha_a, hF_a, ha_w, hF_w, hf_w, nB_a, nB_w, hLs, hk0, hk1, hk2⟩ := hB
  have n_a_w : a ≠ w := ne_ob hF_a hF_w
  have hfr : ∀ x ∈ B, F x = F x := fun _ _ => rfl
  have gg_ := g_ge (k + (q.2.2 : Int)) cap
  refine q_ofJ (lv := [(0, .ref a), (1, .ref (q.1))]) (by decide) (Nat.le_of_ble_eq_true rfl) rfl (fun p e s m below meth c C0 hret hlk hnm hA hP hD hS hJ ls hl => ?_)
  have hx := C0.1.1
  have hb := C0.1.2.1
  have hts := C0.1.2.2.2.2
  refine lv_aload_n hx hb dJ4_append_cf1ce_0 rfl (lv_at hl 0 rfl) ?_
  refine lv_aload_n hx hb dJ4_append_cf1ce_1 rfl (lv_at hl 1 rfl) ?_
  refine q_vJa C0 lJ4_23 (c_J4_append_15ec4 l D y sl L F _ B a cap k q ⟨w, f, ha_a, hF_a, ha_w, hF_w, hf_w, nB_a, nB_w, hLs, by omega, by omega, by omega⟩ hq (by omega) (by omega)) ⟨rfl, rfl⟩ rfl hJ hP hD hS hA ha_a hF_a rfl rfl rfl hl rfl (Nat.le_of_ble_eq_true rfl) dJ4_append_cf1ce_2 (by (try dsimp only); omega) (fun r1 H locs L2 F2 hP hD hS hz2 hp2 => ?_)
  refine W.widen (k := (gC (k + (q.2.2 : Int)) cap)) (n := (gS (k + (q.2.2 : Int)) cap)) (by omega) (by omega) ?_
  obtain ⟨er3, ⟨w3, f3, ha_a, hF_a, ha_w3, hF_w3, hf_w3, nB_a, nB_w3, hLs, hk03, hk13, hk23⟩, hfr3⟩ := hp2
  replace er3 : a = r1 := er3.symm
  subst er3
  have n_a_w3 : a ≠ w3 := ne_ob hF_a hF_w3
  have hfr : ∀ x ∈ B, F2 x = F x := fun x h => (hfr3 x h).trans (hfr x h)
  exact q_retMa C0 hret (by first | exact Or.inl ⟨_, rfl⟩ | exact Or.inr ⟨_, rfl⟩) hlk dJ4_append_cf1ce_5 hP hD hS (⟨rfl, ⟨w3, f3, ha_a, hF_a, ha_w3, hF_w3, hf_w3, nB_a, nB_w3, hLs, by omega, by omega, by omega⟩, hfr⟩)
set_option maxHeartbeats 3000000 in
set_option maxRecDepth 100000 in
theorem c_J5_init_d00df (l : Launch) (D : va_G) (y : Nat → ClassId) (sl : List (Nat × Nat × Nat)) (L : List Nat) (F : Nat → va_E) (sz : Nat) (B : List Nat) (a : Nat) (ha_a : a ∈ L) (hF_a : F a = .inr (1, [.null, .int (iI 0), .int (iI 0), .int (iI 0)])) (nB_a : a ∉ B) (hLs : ∀ x ∈ B, x ∈ L) : Met l yJ5_init_d00df (.code yJ5_init_d00df cJ5_init_d00df 2 none :: Tt) ({ frames := 1, cells := 1, slots := 16, locals := 12 }) (PcJ D y sl L F sz [.ref a, .int (iI 16)]) (cMv D (AL L sz) (fun _ L1 F1 => SBs y B L1 F1 a 16 0 ∧ ∀ x ∈ B, F1 x = F x)) 1 16 (AL L sz) := by
  have hfr : ∀ x ∈ B, F x = F x := fun _ _ => rfl
  refine q_ofJ (lv := [(0, .ref a), (1, .int (iI 16))]) (by decide) (Nat.le_of_ble_eq_true rfl) rfl (fun p e s m below meth c C0 hret hlk hnm hA hP hD hS hJ ls hl => ?_)
  have hx := C0.1.1
  have hb := C0.1.2.1
  have hts := C0.1.2.2.2.2
  refine lv_aload_n hx hb dJ5_init_d00df_0 rfl (lv_at hl 0 rfl) ?_
  refine W.objInit hx hb C0.1.2.2.2.1 (hts (.methodLink RJ5 3 objectInit) (List.mem_cons_of_mem _ mlJ5_3)) (hts (.instanceMethod objectInit) (List.mem_cons_of_mem _ imObj)) (hts _ (List.mem_cons_of_mem _ cdObj)) rfl (by rw [C0.1.2.2.1]; exact hl.1) rfl dJ5_init_d00df_1 (Nat.le_of_ble_eq_true rfl) (Nat.le_of_ble_eq_true rfl) ?_
  refine W.eq (g2 := F0 m 4 ls []) rfl ?_
  refine q_gets C0 hS hJ.1 flJ5_18 dJ5_init_d00df_4 ?_
  refine q_if_eq hx hb dJ5_init_d00df_7 (tgt := 25) (by decide) (by omega) (fun c1 => absurd c1 (by omega)) (fun c1 => ?_)
  refine lv_aload_n hx hb dJ5_init_d00df_10 rfl (lv_at hl 0 rfl) ?_
  refine lv_iload_n hx hb dJ5_init_d00df_11 rfl (lv_at hl 1 rfl) ?_
  refine q_newb C0 hP hD hS hA (N := 16) (by omega) (by omega) (by (try dsimp only); omega) (by (try dsimp only); omega) dJ5_init_d00df_12 (fun q2 H h0q2 hP hD hS => ?_)
  refine W.widen (k := 1) (n := 16) (by omega) (by omega) ?_
  have hf_q2 : sb_Fit (fun _ => 0) := sb_fit0
  have n_a_q2 : a ≠ q2 := fun e => h0q2 (e ▸ ha_a)
  have nB_q2 : q2 ∉ B := fun z => h0q2 (hLs _ z)
  obtain ⟨L3x, eLL3x⟩ : ∃ z, z = L ++ [q2] := ⟨_, rfl⟩
  obtain ⟨F3x, eFL3x⟩ : ∃ z, z = va_up F q2 (arrB y 16 (fun _ => 0)) := ⟨_, rfl⟩
  have hP : va_P D vwCl (va_pl L3x F3x) H := by rw [eLL3x, eFL3x]; exact hP
  have hD : va_D (AL L sz) (va_pl L3x F3x) := by rw [eLL3x, eFL3x]; exact hD
  have hF_a : F3x a = .inr (1, [.null, .int (iI 0), .int (iI 0), .int (iI 0)]) := by rw [eFL3x]; exact (va_up_ne _ _ n_a_q2).trans hF_a
  have ha_a : a ∈ L3x := by rw [eLL3x]; exact List.mem_append_left _ ha_a
  have hfr : ∀ x ∈ B, F3x x = F x := fun x h1 => by rw [eFL3x]; exact (va_up_ne _ _ (fun e : x = q2 => nB_q2 (e ▸ h1))).trans (hfr x h1)
  have hLs : ∀ x ∈ B, x ∈ L3x := fun x h1 => by rw [eLL3x]; exact List.mem_append_left _ (hLs x h1)
  have hF_q2 : F3x q2 = arrB y 16 (fun _ => 0) := by rw [eFL3x]; exact va_up_self _ _ _
  have ha_q2 : q2 ∈ L3x := by rw [eLL3x]; exact List.mem_append_right _ List.mem_cons_self
  refine q_put C0 iJ4 tyJ4 tyJ4_ok nmJ4 hP hD hS ha_a hF_a rfl 0 (by decide) flJ5_15 rfl rfl rfl rfl (Nat.le_of_ble_eq_true rfl) dJ5_init_d00df_14 (fun H locs hP hD hS => ?_)
  obtain ⟨F4x, eF4⟩ : ∃ z, z = va_up F3x a (.inr (1, [.ref q2, .int (iI 0), .int (iI 0), .int (iI 0)])) := ⟨_, rfl⟩
  have hP : va_P D vwCl (va_pl L3x F4x) H := by rw [eF4]; exact hP
  have hD : va_D (AL L sz) (va_pl L3x F4x) := by rw [eF4]; exact hD
  have hF_q2 : F4x q2 = arrB y 16 (fun _ => 0) := by rw [eF4]; exact (va_up_ne _ _ n_a_q2.symm).trans hF_q2
  have hF_a : F4x a = .inr (1, [.ref q2, .int (iI 0), .int (iI 0), .int (iI 0)]) := by rw [eF4]; exact va_up_self _ _ _
  have hfr : ∀ x ∈ B, F4x x = F x := fun x h1 => by rw [eF4]; exact (va_up_ne _ _ (fun e : x = a => nB_a (e ▸ h1))).trans (hfr x h1)
  refine lv_aload_n hx hb dJ5_init_d00df_17 rfl (lv_at hl 0 rfl) ?_
  refine q_iconst hx hb dJ5_init_d00df_18 ?_
  refine q_put C0 iJ4 tyJ4 tyJ4_ok nmJ4 hP hD hS ha_a hF_a rfl 1 (by decide) flJ5_22 rfl rfl (by decide) (by decide) (Nat.le_of_ble_eq_true rfl) dJ5_init_d00df_19 (fun H locs hP hD hS => ?_)
  obtain ⟨F5x, eF5⟩ : ∃ z, z = va_up F4x a (.inr (1, [.ref q2, .int (iI 0), .int (iI 0), .int (iI 0)])) := ⟨_, rfl⟩
  have hP : va_P D vwCl (va_pl L3x F5x) H := by rw [eF5]; exact hP
  have hD : va_D (AL L sz) (va_pl L3x F5x) := by rw [eF5]; exact hD
  have hF_q2 : F5x q2 = arrB y 16 (fun _ => 0) := by rw [eF5]; exact (va_up_ne _ _ n_a_q2.symm).trans hF_q2
  have hF_a : F5x a = .inr (1, [.ref q2, .int (iI 0), .int (iI 0), .int (iI 0)]) := by rw [eF5]; exact va_up_self _ _ _
  have hfr : ∀ x ∈ B, F5x x = F x := fun x h1 => by rw [eF5]; exact (va_up_ne _ _ (fun e : x = a => nB_a (e ▸ h1))).trans (hfr x h1)
  refine lv_goto (tgt := 38) hx hb dJ5_init_d00df_22 (by decide) ?_
  exact q_retMv C0 hret hlk dJ5_init_d00df_38 hP hD hS (⟨⟨q2, (fun _ => 0), ha_a, hF_a, ha_q2, hF_q2, hf_q2, nB_a, nB_q2, hLs, by omega, by omega, by omega⟩, hfr⟩)
set_option maxHeartbeats 3000000 in
set_option maxRecDepth 100000 in
theorem c_J4_init_da8c8 (l : Launch) (D : va_G) (y : Nat → ClassId) (sl : List (Nat × Nat × Nat)) (L : List Nat) (F : Nat → va_E) (sz : Nat) (B : List Nat) (a : Nat) (ha_a : a ∈ L) (hF_a : F a = .inr (1, [.null, .int (iI 0), .int (iI 0), .int (iI 0)])) (nB_a : a ∉ B) (hLs : ∀ x ∈ B, x ∈ L) : Met l yJ4_init_da8c8 (.code yJ4_init_da8c8 cJ4_init_da8c8 1 none :: Tt) ({ frames := 2, cells := 1, slots := 16, locals := 33 }) (PcJ D y sl L F sz [.ref a]) (cMv D (AL L sz) (fun _ L1 F1 => SBs y B L1 F1 a 16 0 ∧ ∀ x ∈ B, F1 x = F x)) 1 16 (AL L sz) := by
  have hfr : ∀ x ∈ B, F x = F x := fun _ _ => rfl
  refine q_ofJ (lv := [(0, .ref a)]) (by decide) (Nat.le_of_ble_eq_true rfl) rfl (fun p e s m below meth c C0 hret hlk hnm hA hP hD hS hJ ls hl => ?_)
  have hx := C0.1.1
  have hb := C0.1.2.1
  have hts := C0.1.2.2.2.2
  refine lv_aload_n hx hb dJ4_init_da8c8_0 rfl (lv_at hl 0 rfl) ?_
  refine q_bipush hx hb dJ4_init_da8c8_1 (by decide) ?_
  refine q_iJv C0 lJ4_1 (c_J5_init_d00df l D y sl L F _ B a ha_a hF_a nB_a hLs) ⟨rfl, rfl⟩ rfl hJ hP hD hS hA rfl hl rfl (Nat.le_of_ble_eq_true rfl) dJ4_init_da8c8_3 (by (try dsimp only); omega) (fun _ H locs L2 F2 hP hD hS hz2 hp2 => ?_)
  refine W.widen (k := 1) (n := 16) (by omega) (by omega) ?_
  obtain ⟨⟨w3, f3, ha_a, hF_a, ha_w3, hF_w3, hf_w3, nB_a, nB_w3, hLs, hk03, hk13, hk23⟩, hfr3⟩ := hp2
  have n_a_w3 : a ≠ w3 := ne_ob hF_a hF_w3
  have hfr : ∀ x ∈ B, F2 x = F x := fun x h => (hfr3 x h).trans (hfr x h)
  exact q_retMv C0 hret hlk dJ4_init_da8c8_6 hP hD hS (⟨⟨w3, f3, ha_a, hF_a, ha_w3, hF_w3, hf_w3, nB_a, nB_w3, hLs, by omega, by omega, by omega⟩, hfr⟩)
set_option maxHeartbeats 3000000 in
set_option maxRecDepth 100000 in
theorem c_J5_init_a7421 (l : Launch) (D : va_G) (y : Nat → ClassId) (sl : List (Nat × Nat × Nat)) (L : List Nat) (F : Nat → va_E) (sz : Nat) (B : List Nat) (a : Nat) (q : Nat × Nat × Nat) (ha_a : a ∈ L) (hF_a : F a = .inr (1, [.null, .int (iI 0), .int (iI 0), .int (iI 0)])) (nB_a : a ∉ B) (hLs : ∀ x ∈ B, x ∈ L) (hq : q ∈ sl) : Met l yJ5_init_a7421 (.code yJ5_init_a7421 cJ5_init_a7421 5 none :: Tt) ({ frames := 7, cells := 1, slots := (q.2.2 + 16), locals := 155 }) (PcJ D y sl L F sz [.ref a, .ref (q.1)]) (cMv D (AL L sz) (fun _ L1 F1 => SBs y B L1 F1 a (q.2.2 + 16) (q.2.2 : Int) ∧ ∀ x ∈ B, F1 x = F x)) 1 (q.2.2 + 16) (AL L sz) := by
  have hfr : ∀ x ∈ B, F x = F x := fun _ _ => rfl
  refine q_ofJ (lv := [(0, .ref a), (1, .ref (q.1))]) (by decide) (Nat.le_of_ble_eq_true rfl) rfl (fun p e s m below meth c C0 hret hlk hnm hA hP hD hS hJ ls hl => ?_)
  have hx := C0.1.1
  have hb := C0.1.2.1
  have hts := C0.1.2.2.2.2
  have hql := (hJ.2.2.2.1 q hq).2.2.2.2
  have gi_ := g_in (q := 0 + (q.2.2 : Int)) (cap := q.2.2 + 16) (by omega)
  refine lv_aload_n hx hb dJ5_init_a7421_0 rfl (lv_at hl 0 rfl) ?_
  refine W.objInit hx hb C0.1.2.2.2.1 (hts (.methodLink RJ5 3 objectInit) (List.mem_cons_of_mem _ mlJ5_3)) (hts (.instanceMethod objectInit) (List.mem_cons_of_mem _ imObj)) (hts _ (List.mem_cons_of_mem _ cdObj)) rfl (by rw [C0.1.2.2.1]; exact hl.1) rfl dJ5_init_a7421_1 (Nat.le_of_ble_eq_true rfl) (Nat.le_of_ble_eq_true rfl) ?_
  refine W.eq (g2 := F0 m 4 ls []) rfl ?_
  refine lv_aload_n hx hb dJ5_init_a7421_4 rfl (lv_at hl 1 rfl) ?_
  refine q_kJi C0 lJ5_32 (c_J0_length_8abf5 l D y sl L F _ q hq) ⟨rfl, rfl⟩ rfl hJ hP hD hS hA hq rfl rfl rfl hl rfl (Nat.le_of_ble_eq_true rfl) dJ5_init_a7421_5 (by (try dsimp only); omega) (fun r1 H locs L2 F2 hP hD hS hz2 hp2 => ?_)
  obtain ⟨eL3, eF3, er3⟩ := hp2
  subst eL3
  subst eF3
  replace er3 : (q.2.2 : Int) = r1 := er3.symm
  subst er3
  refine lv_istore_n (lv' := [(2, .int (iI ((q.2.2 : Int)))), (0, .ref a), (1, .ref (q.1))]) hx hb dJ5_init_a7421_8 rfl hl (by decide) rfl (fun ls hl => ?_)
  refine lv_iload_n hx hb dJ5_init_a7421_9 rfl (lv_at hl 0 rfl) ?_
  refine q_ldcI C0 cIJ5_38 (z := 2147483631) (by decide) dJ5_init_a7421_10 ?_
  refine q_icmp_ge hx hb dJ5_init_a7421_12 (tgt := 22) (by decide) (by omega) (by omega) (fun c4 => absurd c4 (by omega)) (fun c4 => ?_)
  refine lv_iload_n hx hb dJ5_init_a7421_15 rfl (lv_at hl 0 rfl) ?_
  refine q_bipush hx hb dJ5_init_a7421_16 (by decide) ?_
  refine q_iadd hx hb dJ5_init_a7421_18 ?_
  refine lv_goto (tgt := 24) hx hb dJ5_init_a7421_19 (by decide) ?_
  refine lv_istore_n (lv' := [(3, .int (iI (((q.2.2 : Int) + 16)))), (2, .int (iI ((q.2.2 : Int)))), (0, .ref a), (1, .ref (q.1))]) hx hb dJ5_init_a7421_24 rfl hl (by decide) rfl (fun ls hl => ?_)
  refine lv_aload_n hx hb dJ5_init_a7421_25 rfl (lv_at hl 3 rfl) ?_
  refine q_kJi C0 lJ5_40 (c_J0_coder_7d493 l D y sl L F _ q hq) ⟨rfl, rfl⟩ rfl hJ hP hD hS hA hq rfl rfl rfl hl rfl (Nat.le_of_ble_eq_true rfl) dJ5_init_a7421_26 (by (try dsimp only); omega) (fun r5 H locs L6 F6 hP hD hS hz6 hp6 => ?_)
  obtain ⟨eL7, eF7, er7⟩ := hp6
  subst eL7
  subst eF7
  replace er7 : 0 = r5 := er7.symm
  subst er7
  refine lv_istore (lv' := [(4, .int (iI 0)), (3, .int (iI (((q.2.2 : Int) + 16)))), (2, .int (iI ((q.2.2 : Int)))), (0, .ref a), (1, .ref (q.1))]) hx hb dJ5_init_a7421_29 hl (by decide) rfl (fun ls hl => ?_)
  refine lv_aload_n hx hb dJ5_init_a7421_31 rfl (lv_at hl 3 rfl) ?_
  refine lv_iload hx hb dJ5_init_a7421_32 (lv_at hl 0 rfl) ?_
  refine q_put C0 iJ4 tyJ4 tyJ4_ok nmJ4 hP hD hS ha_a hF_a rfl 1 (by decide) flJ5_22 rfl rfl (by decide) (by decide) (Nat.le_of_ble_eq_true rfl) dJ5_init_a7421_34 (fun H locs hP hD hS => ?_)
  obtain ⟨F8x, eF8⟩ : ∃ z, z = va_up F a (.inr (1, [.null, .int (iI 0), .int (iI 0), .int (iI 0)])) := ⟨_, rfl⟩
  have hP : va_P D vwCl (va_pl L F8x) H := by rw [eF8]; exact hP
  have hD : va_D (AL L sz) (va_pl L F8x) := by rw [eF8]; exact hD
  have hF_a : F8x a = .inr (1, [.null, .int (iI 0), .int (iI 0), .int (iI 0)]) := by rw [eF8]; exact va_up_self _ _ _
  have hfr : ∀ x ∈ B, F8x x = F x := fun x h1 => by rw [eF8]; exact (va_up_ne _ _ (fun e : x = a => nB_a (e ▸ h1))).trans (hfr x h1)
  refine lv_aload_n hx hb dJ5_init_a7421_37 rfl (lv_at hl 3 rfl) ?_
  refine lv_iload hx hb dJ5_init_a7421_38 (lv_at hl 0 rfl) ?_
  refine q_if_ne hx hb dJ5_init_a7421_40 (tgt := 49) (by decide) (by omega) (fun c9 => absurd c9 (by omega)) (fun c9 => ?_)
  refine lv_iload_n hx hb dJ5_init_a7421_43 rfl (lv_at hl 1 rfl) ?_
  refine q_newb C0 hP hD hS hA (N := (q.2.2 + 16)) (by omega) (by omega) (by (try dsimp only); omega) (by (try dsimp only); omega) dJ5_init_a7421_44 (fun q10 H h0q10 hP hD hS => ?_)
  refine W.widen (k := 1) (n := (q.2.2 + 16)) (by omega) (by omega) ?_
  have hf_q10 : sb_Fit (fun _ => 0) := sb_fit0
  have n_a_q10 : a ≠ q10 := fun e => h0q10 (e ▸ ha_a)
  have nB_q10 : q10 ∉ B := fun z => h0q10 (hLs _ z)
  obtain ⟨L11x, eLL11x⟩ : ∃ z, z = L ++ [q10] := ⟨_, rfl⟩
  obtain ⟨F11x, eFL11x⟩ : ∃ z, z = va_up F8x q10 (arrB y (q.2.2 + 16) (fun _ => 0)) := ⟨_, rfl⟩
  have hP : va_P D vwCl (va_pl L11x F11x) H := by rw [eLL11x, eFL11x]; exact hP
  have hD : va_D (AL L sz) (va_pl L11x F11x) := by rw [eLL11x, eFL11x]; exact hD
  have hF_a : F11x a = .inr (1, [.null, .int (iI 0), .int (iI 0), .int (iI 0)]) := by rw [eFL11x]; exact (va_up_ne _ _ n_a_q10).trans hF_a
  have ha_a : a ∈ L11x := by rw [eLL11x]; exact List.mem_append_left _ ha_a
  have hfr : ∀ x ∈ B, F11x x = F x := fun x h1 => by rw [eFL11x]; exact (va_up_ne _ _ (fun e : x = q10 => nB_q10 (e ▸ h1))).trans (hfr x h1)
  have hLs : ∀ x ∈ B, x ∈ L11x := fun x h1 => by rw [eLL11x]; exact List.mem_append_left _ (hLs x h1)
  have hF_q10 : F11x q10 = arrB y (q.2.2 + 16) (fun _ => 0) := by rw [eFL11x]; exact va_up_self _ _ _
  have ha_q10 : q10 ∈ L11x := by rw [eLL11x]; exact List.mem_append_right _ List.mem_cons_self
  refine lv_goto (tgt := 53) hx hb dJ5_init_a7421_46 (by decide) ?_
  refine q_put C0 iJ4 tyJ4 tyJ4_ok nmJ4 hP hD hS ha_a hF_a rfl 0 (by decide) flJ5_15 rfl rfl rfl rfl (Nat.le_of_ble_eq_true rfl) dJ5_init_a7421_53 (fun H locs hP hD hS => ?_)
  obtain ⟨F12x, eF12⟩ : ∃ z, z = va_up F11x a (.inr (1, [.ref q10, .int (iI 0), .int (iI 0), .int (iI 0)])) := ⟨_, rfl⟩
  have hP : va_P D vwCl (va_pl L11x F12x) H := by rw [eF12]; exact hP
  have hD : va_D (AL L sz) (va_pl L11x F12x) := by rw [eF12]; exact hD
  have hF_q10 : F12x q10 = arrB y (q.2.2 + 16) (fun _ => 0) := by rw [eF12]; exact (va_up_ne _ _ n_a_q10.symm).trans hF_q10
  have hF_a : F12x a = .inr (1, [.ref q10, .int (iI 0), .int (iI 0), .int (iI 0)]) := by rw [eF12]; exact va_up_self _ _ _
  have hfr : ∀ x ∈ B, F12x x = F x := fun x h1 => by rw [eF12]; exact (va_up_ne _ _ (fun e : x = a => nB_a (e ▸ h1))).trans (hfr x h1)
  refine lv_aload_n hx hb dJ5_init_a7421_56 rfl (lv_at hl 3 rfl) ?_
  refine lv_aload_n hx hb dJ5_init_a7421_57 rfl (lv_at hl 4 rfl) ?_
  refine q_uJa C0 uJ5_43 (hts _ (List.mem_cons_of_mem _ selApp)) (c_J4_append_cf1ce l D y sl L11x F12x _ B a (q.2.2 + 16) 0 q ⟨q10, (fun _ => 0), ha_a, hF_a, ha_q10, hF_q10, hf_q10, nB_a, nB_q10, hLs, by omega, by omega, by omega⟩ hq (by omega) (by omega)) ⟨rfl, rfl⟩ rfl hJ hP hD hS hA ha_a hF_a rfl rfl rfl hl rfl (Nat.le_of_ble_eq_true rfl) dJ5_init_a7421_58 (by (try dsimp only); omega) (fun r13 H locs L14 F14 hP hD hS hz14 hp14 => ?_)
  refine W.widen (k := (1 + (gC (0 + (q.2.2 : Int)) (q.2.2 + 16)))) (n := ((q.2.2 + 16) + (gS (0 + (q.2.2 : Int)) (q.2.2 + 16)))) (by omega) (by omega) ?_
  obtain ⟨er15, ⟨w15, f15, ha_a, hF_a, ha_w15, hF_w15, hf_w15, nB_a, nB_w15, hLs, hk015, hk115, hk215⟩, hfr15⟩ := hp14
  replace er15 : a = r13 := er15.symm
  subst er15
  have n_a_w15 : a ≠ w15 := ne_ob hF_a hF_w15
  have hfr : ∀ x ∈ B, F14 x = F x := fun x h => (hfr15 x h).trans (hfr x h)
  refine lv_pop hx hb dJ5_init_a7421_61 rfl ?_
  refine W.widen (k := 1) (n := (q.2.2 + 16)) (by omega) (by omega) ?_
  exact q_retMv C0 hret hlk dJ5_init_a7421_62 hP hD hS (⟨by have z : SBs y B L14 F14 a _ _ := ⟨w15, f15, ha_a, hF_a, ha_w15, hF_w15, hf_w15, nB_a, nB_w15, hLs, by omega, by omega, by omega⟩; rw [gi_.1, Int.zero_add] at z; exact z, hfr⟩)
set_option maxHeartbeats 3000000 in
set_option maxRecDepth 100000 in
theorem c_J4_init_a7421 (l : Launch) (D : va_G) (y : Nat → ClassId) (sl : List (Nat × Nat × Nat)) (L : List Nat) (F : Nat → va_E) (sz : Nat) (B : List Nat) (a : Nat) (q : Nat × Nat × Nat) (ha_a : a ∈ L) (hF_a : F a = .inr (1, [.null, .int (iI 0), .int (iI 0), .int (iI 0)])) (nB_a : a ∉ B) (hLs : ∀ x ∈ B, x ∈ L) (hq : q ∈ sl) : Met l yJ4_init_a7421 (.code yJ4_init_a7421 cJ4_init_a7421 2 none :: Tt) ({ frames := 8, cells := 1, slots := (q.2.2 + 16), locals := 179 }) (PcJ D y sl L F sz [.ref a, .ref (q.1)]) (cMv D (AL L sz) (fun _ L1 F1 => SBs y B L1 F1 a (q.2.2 + 16) (q.2.2 : Int) ∧ ∀ x ∈ B, F1 x = F x)) 1 (q.2.2 + 16) (AL L sz) := by
  have hfr : ∀ x ∈ B, F x = F x := fun _ _ => rfl
  refine q_ofJ (lv := [(0, .ref a), (1, .ref (q.1))]) (by decide) (Nat.le_of_ble_eq_true rfl) rfl (fun p e s m below meth c C0 hret hlk hnm hA hP hD hS hJ ls hl => ?_)
  have hx := C0.1.1
  have hb := C0.1.2.1
  have hts := C0.1.2.2.2.2
  have hql := (hJ.2.2.2.1 q hq).2.2.2.2
  have gi_ := g_in (q := 0 + (q.2.2 : Int)) (cap := q.2.2 + 16) (by omega)
  refine lv_aload_n hx hb dJ4_init_a7421_0 rfl (lv_at hl 0 rfl) ?_
  refine lv_aload_n hx hb dJ4_init_a7421_1 rfl (lv_at hl 1 rfl) ?_
  refine q_iJv C0 lJ4_7 (c_J5_init_a7421 l D y sl L F _ B a q ha_a hF_a nB_a hLs hq) ⟨rfl, rfl⟩ rfl hJ hP hD hS hA rfl hl rfl (Nat.le_of_ble_eq_true rfl) dJ4_init_a7421_2 (by (try dsimp only); omega) (fun _ H locs L2 F2 hP hD hS hz2 hp2 => ?_)
  refine W.widen (k := 1) (n := (q.2.2 + 16)) (by omega) (by omega) ?_
  obtain ⟨⟨w3, f3, ha_a, hF_a, ha_w3, hF_w3, hf_w3, nB_a, nB_w3, hLs, hk03, hk13, hk23⟩, hfr3⟩ := hp2
  have n_a_w3 : a ≠ w3 := ne_ob hF_a hF_w3
  have hfr : ∀ x ∈ B, F2 x = F x := fun x h => (hfr3 x h).trans (hfr x h)
  exact q_retMv C0 hret hlk dJ4_init_a7421_5 hP hD hS (⟨⟨w3, f3, ha_a, hF_a, ha_w3, hF_w3, hf_w3, nB_a, nB_w3, hLs, by omega, by omega, by omega⟩, hfr⟩)
set_option maxHeartbeats 3000000 in
set_option maxRecDepth 100000 in
theorem c_J0_init_db425 (l : Launch) (D : va_G) (y : Nat → ClassId) (sl : List (Nat × Nat × Nat)) (L : List Nat) (F : Nat → va_E) (sz : Nat) (B : List Nat) (a : Nat) (cap : Nat) (k : Int) (h : Nat) (hB : SBs y B L F a cap k) (ha_h : h ∈ L) (hF_h : F h = .inr (0, [.null, .int (iI 0), .int (iI 0), .int (iI 0)])) (nB_h : h ∉ B) (n_h_a : h ≠ a) : Met l yJ0_init_db425 (.code yJ0_init_db425 cJ0_init_db425 5 none :: Tt) ({ frames := 3, cells := 1, slots := k.toNat, locals := 86 }) (PcJ D y sl L F sz [.ref h, .ref a, .null]) (cMv D (AL L sz) (fun _ L1 F1 => (∀ x ∈ B, x ∈ L1) ∧ ∀ x ∈ B, F1 x = F x)) 1 k.toNat (AL L sz) := by
  obtain ⟨w, f, ha_a, hF_a, ha_w, hF_w, hf_w, nB_a, nB_w, hLs, hk0, hk1, hk2⟩ := hB
  have n_a_w : a ≠ w := ne_ob hF_a hF_w
  have hfr : ∀ x ∈ B, F x = F x := fun _ _ => rfl
  have n_h_w : h ≠ w := ne_ob hF_h hF_w
  refine q_ofJ (lv := [(0, .ref h), (1, .ref a), (2, .null)]) (by decide) (Nat.le_of_ble_eq_true rfl) rfl (fun p e s m below meth c C0 hret hlk hnm hA hP hD hS hJ ls hl => ?_)
  have hx := C0.1.1
  have hb := C0.1.2.1
  have hts := C0.1.2.2.2.2
  refine lv_aload_n hx hb dJ0_init_db425_0 rfl (lv_at hl 0 rfl) ?_
  refine W.objInit hx hb C0.1.2.2.2.1 (hts (.methodLink RJ0 1 objectInit) (List.mem_cons_of_mem _ mlJ0_1)) (hts (.instanceMethod objectInit) (List.mem_cons_of_mem _ imObj)) (hts _ (List.mem_cons_of_mem _ cdObj)) rfl (by rw [C0.1.2.2.1]; exact hl.1) rfl dJ0_init_db425_1 (Nat.le_of_ble_eq_true rfl) (Nat.le_of_ble_eq_true rfl) ?_
  refine W.eq (g2 := F0 m 4 ls []) rfl ?_
  refine lv_aload_n hx hb dJ0_init_db425_4 rfl (lv_at hl 1 rfl) ?_
  refine q_uJa C0 uJ0_552 (hts _ (List.mem_cons_of_mem _ selGet)) (c_J5_getValue_6d5f1 l D y sl L F _ a w k ha_a hF_a) ⟨rfl, rfl⟩ rfl hJ hP hD hS hA ha_a hF_a rfl rfl rfl hl rfl (Nat.le_of_ble_eq_true rfl) dJ0_init_db425_5 (by (try dsimp only); omega) (fun r1 H locs L2 F2 hP hD hS hz2 hp2 => ?_)
  obtain ⟨eL3, eF3, er3⟩ := hp2
  subst eL3
  subst eF3
  replace er3 : w = r1 := er3.symm
  subst er3
  refine lv_astore_n (lv' := [(3, .ref w), (0, .ref h), (1, .ref a), (2, .null)]) hx hb dJ0_init_db425_8 rfl hl (by decide) rfl (fun ls hl => ?_)
  refine lv_aload_n hx hb dJ0_init_db425_9 rfl (lv_at hl 2 rfl) ?_
  refine q_uJi C0 uJ0_549 (hts _ (List.mem_cons_of_mem _ selLen)) (c_J4_length_8abf5 l D y sl L F _ B a cap k ⟨w, f, ha_a, hF_a, ha_w, hF_w, hf_w, nB_a, nB_w, hLs, by omega, by omega, by omega⟩) ⟨rfl, rfl⟩ rfl hJ hP hD hS hA ha_a hF_a rfl rfl rfl hl rfl (Nat.le_of_ble_eq_true rfl) dJ0_init_db425_10 (by (try dsimp only); omega) (fun r4 H locs L5 F5 hP hD hS hz5 hp5 => ?_)
  obtain ⟨eL6, eF6, er6⟩ := hp5
  subst eL6
  subst eF6
  replace er6 : k = r4 := er6.symm
  subst er6
  refine lv_istore (lv' := [(4, .int (iI k)), (3, .ref w), (0, .ref h), (1, .ref a), (2, .null)]) hx hb dJ0_init_db425_13 hl (by decide) rfl (fun ls hl => ?_)
  refine lv_aload_n hx hb dJ0_init_db425_15 rfl (lv_at hl 3 rfl) ?_
  refine q_uJi C0 uJ0_1047 (hts _ (List.mem_cons_of_mem _ selIsL)) (c_J5_isLatin1_aae02 l D y sl L F _ B a cap k ⟨w, f, ha_a, hF_a, ha_w, hF_w, hf_w, nB_a, nB_w, hLs, by omega, by omega, by omega⟩) ⟨rfl, rfl⟩ rfl hJ hP hD hS hA ha_a hF_a rfl rfl rfl hl rfl (Nat.le_of_ble_eq_true rfl) dJ0_init_db425_16 (by (try dsimp only); omega) (fun r7 H locs L8 F8 hP hD hS hz8 hp8 => ?_)
  obtain ⟨eL9, eF9, er9⟩ := hp8
  subst eL9
  subst eF9
  replace er9 : 1 = r7 := er9.symm
  subst er9
  refine q_if_eq hx hb dJ0_init_db425_19 (tgt := 41) (by decide) (by omega) (fun c10 => absurd c10 (by omega)) (fun c10 => ?_)
  refine lv_aload_n hx hb dJ0_init_db425_22 rfl (lv_at hl 2 rfl) ?_
  refine q_iconst hx hb dJ0_init_db425_23 ?_
  refine q_putF C0 iJ0 tyJ0 tyJ0_ok nmJ0 hP hD hS ha_h hF_h rfl 1 (by decide) flJ0_15 rfl rfl hnm rfl (by decide) (by decide) (Nat.le_of_ble_eq_true rfl) dJ0_init_db425_24 (fun H locs hP hD hS => ?_)
  obtain ⟨F11x, eF11⟩ : ∃ z, z = va_up F h (.inr (0, [.null, .int (iI 0), .int (iI 0), .int (iI 0)])) := ⟨_, rfl⟩
  have hP : va_P D vwCl (va_pl L F11x) H := by rw [eF11]; exact hP
  have hD : va_D (AL L sz) (va_pl L F11x) := by rw [eF11]; exact hD
  have hF_a : F11x a = sbE w k := by rw [eF11]; exact (va_up_ne _ _ n_h_a.symm).trans hF_a
  have hF_w : F11x w = arrB y cap f := by rw [eF11]; exact (va_up_ne _ _ n_h_w.symm).trans hF_w
  have hF_h : F11x h = .inr (0, [.null, .int (iI 0), .int (iI 0), .int (iI 0)]) := by rw [eF11]; exact va_up_self _ _ _
  have hfr : ∀ x ∈ B, F11x x = F x := fun x h1 => by rw [eF11]; exact (va_up_ne _ _ (fun e : x = h => nB_h (e ▸ h1))).trans (hfr x h1)
  refine lv_aload_n hx hb dJ0_init_db425_27 rfl (lv_at hl 2 rfl) ?_
  refine lv_aload_n hx hb dJ0_init_db425_28 rfl (lv_at hl 1 rfl) ?_
  refine q_iconst hx hb dJ0_init_db425_29 ?_
  refine lv_iload hx hb dJ0_init_db425_30 (lv_at hl 0 rfl) ?_
  refine q_sJa C0 lJ0_54 (c_J7_copyOfRange_39247 l D y sl L F11x _ L w cap f k ha_w hF_w hf_w (fun _ h => h) (by omega)) ⟨rfl, rfl⟩ rfl hJ hP hD hS hA rfl hl rfl (Nat.le_of_ble_eq_true rfl) dJ0_init_db425_32 (by (try dsimp only); omega) (fun r12 H locs L13 F13 hP hD hS hz13 hp13 => ?_)
  refine W.widen (k := 1) (n := k.toNat) (by omega) (by omega) ?_
  obtain ⟨h0r12, eL14, ⟨g14, hF_r12, hf_r12⟩, hfr14⟩ := hp13
  have n_h_r12 : h ≠ r12 := fun e => h0r12 (e ▸ ha_h)
  have n_a_r12 : a ≠ r12 := fun e => h0r12 (e ▸ ha_a)
  have n_w_r12 : w ≠ r12 := fun e => h0r12 (e ▸ ha_w)
  have nB_r12 : r12 ∉ B := fun z => h0r12 (hLs _ z)
  have hF_h : F13 h = .inr (0, [.null, .int (iI 0), .int (iI 0), .int (iI 0)]) := (hfr14 h ha_h).trans hF_h
  have ha_h : h ∈ L13 := by rw [eL14]; exact List.mem_append_left _ ha_h
  have hF_a : F13 a = sbE w k := (hfr14 a ha_a).trans hF_a
  have ha_a : a ∈ L13 := by rw [eL14]; exact List.mem_append_left _ ha_a
  have hF_w : F13 w = arrB y cap f := (hfr14 w ha_w).trans hF_w
  have ha_w : w ∈ L13 := by rw [eL14]; exact List.mem_append_left _ ha_w
  have hfr : ∀ x ∈ B, F13 x = F x := fun x h => (hfr14 x (hLs x h)).trans (hfr x h)
  have hLs : ∀ x ∈ B, x ∈ L13 := fun x h => by rw [eL14]; exact List.mem_append_left _ (hLs x h)
  have ha_r12 : r12 ∈ L13 := by rw [eL14]; exact List.mem_append_right _ List.mem_cons_self
  refine q_putF C0 iJ0 tyJ0 tyJ0_ok nmJ0 hP hD hS ha_h hF_h rfl 0 (by decide) flJ0_9 rfl rfl hnm rfl rfl rfl (Nat.le_of_ble_eq_true rfl) dJ0_init_db425_35 (fun H locs hP hD hS => ?_)
  obtain ⟨F15x, eF15⟩ : ∃ z, z = va_up F13 h (.inr (0, [.ref r12, .int (iI 0), .int (iI 0), .int (iI 0)])) := ⟨_, rfl⟩
  have hP : va_P D vwCl (va_pl L13 F15x) H := by rw [eF15]; exact hP
  have hD : va_D (AL L sz) (va_pl L13 F15x) := by rw [eF15]; exact hD
  have hF_a : F15x a = sbE w k := by rw [eF15]; exact (va_up_ne _ _ n_h_a.symm).trans hF_a
  have hF_w : F15x w = arrB y cap f := by rw [eF15]; exact (va_up_ne _ _ n_h_w.symm).trans hF_w
  have hF_r12 : F15x r12 = arrB y ((k).toNat) g14 := by rw [eF15]; exact (va_up_ne _ _ n_h_r12.symm).trans hF_r12
  have hF_h : F15x h = .inr (0, [.ref r12, .int (iI 0), .int (iI 0), .int (iI 0)]) := by rw [eF15]; exact va_up_self _ _ _
  have hfr : ∀ x ∈ B, F15x x = F x := fun x h1 => by rw [eF15]; exact (va_up_ne _ _ (fun e : x = h => nB_h (e ▸ h1))).trans (hfr x h1)
  refine lv_goto (tgt := 97) hx hb dJ0_init_db425_38 (by decide) ?_
  exact q_retMv C0 hret hlk dJ0_init_db425_97 hP hD hS (⟨hLs, hfr⟩)
set_option maxHeartbeats 3000000 in
set_option maxRecDepth 100000 in
theorem c_J0_init_81219 (l : Launch) (D : va_G) (y : Nat → ClassId) (sl : List (Nat × Nat × Nat)) (L : List Nat) (F : Nat → va_E) (sz : Nat) (B : List Nat) (a : Nat) (cap : Nat) (k : Int) (h : Nat) (hB : SBs y B L F a cap k) (ha_h : h ∈ L) (hF_h : F h = .inr (0, [.null, .int (iI 0), .int (iI 0), .int (iI 0)])) (nB_h : h ∉ B) (n_h_a : h ≠ a) : Met l yJ0_init_81219 (.code yJ0_init_81219 cJ0_init_81219 2 none :: Tt) ({ frames := 4, cells := 1, slots := k.toNat, locals := 110 }) (PcJ D y sl L F sz [.ref h, .ref a]) (cMv D (AL L sz) (fun _ L1 F1 => (∀ x ∈ B, x ∈ L1) ∧ ∀ x ∈ B, F1 x = F x)) 1 k.toNat (AL L sz) := by
  obtain ⟨w, f, ha_a, hF_a, ha_w, hF_w, hf_w, nB_a, nB_w, hLs, hk0, hk1, hk2⟩ := hB
  have n_a_w : a ≠ w := ne_ob hF_a hF_w
  have hfr : ∀ x ∈ B, F x = F x := fun _ _ => rfl
  have n_h_w : h ≠ w := ne_ob hF_h hF_w
  refine q_ofJ (lv := [(0, .ref h), (1, .ref a)]) (by decide) (Nat.le_of_ble_eq_true rfl) rfl (fun p e s m below meth c C0 hret hlk hnm hA hP hD hS hJ ls hl => ?_)
  have hx := C0.1.1
  have hb := C0.1.2.1
  have hts := C0.1.2.2.2.2
  refine lv_aload_n hx hb dJ0_init_81219_0 rfl (lv_at hl 0 rfl) ?_
  refine lv_aload_n hx hb dJ0_init_81219_1 rfl (lv_at hl 1 rfl) ?_
  refine lv_null hx hb dJ0_init_81219_2 ?_
  refine q_iJv C0 lJ0_489 (c_J0_init_db425 l D y sl L F _ B a cap k h ⟨w, f, ha_a, hF_a, ha_w, hF_w, hf_w, nB_a, nB_w, hLs, by omega, by omega, by omega⟩ ha_h hF_h nB_h n_h_a) ⟨rfl, rfl⟩ rfl hJ hP hD hS hA rfl hl rfl (Nat.le_of_ble_eq_true rfl) dJ0_init_81219_3 (by (try dsimp only); omega) (fun _ H locs L2 F2 hP hD hS hz2 hp2 => ?_)
  refine W.widen (k := 1) (n := k.toNat) (by omega) (by omega) ?_
  obtain ⟨hLs, hfr3⟩ := hp2
  have hfr : ∀ x ∈ B, F2 x = F x := fun x h => (hfr3 x h).trans (hfr x h)
  exact q_retMv C0 hret hlk dJ0_init_81219_6 hP hD hS (⟨hLs, hfr⟩)
set_option maxHeartbeats 3000000 in
set_option maxRecDepth 100000 in
theorem c_J4_toString_0e30d (l : Launch) (D : va_G) (y : Nat → ClassId) (sl : List (Nat × Nat × Nat)) (L : List Nat) (F : Nat → va_E) (sz : Nat) (B : List Nat) (a : Nat) (cap : Nat) (k : Int) (hB : SBs y B L F a cap k) : Met l yJ4_toString_0e30d (.code yJ4_toString_0e30d cJ4_toString_0e30d 1 (some (.object "java/lang/String")) :: Tt) ({ frames := 5, cells := 2, slots := (4 + k.toNat), locals := 131 }) (PcJ D y sl L F sz [.ref a]) (cMa D (AL L sz) (fun _ L1 F1 => (∀ x ∈ B, x ∈ L1) ∧ ∀ x ∈ B, F1 x = F x)) 2 (4 + k.toNat) (AL L sz) := by
  obtain ⟨w, f, ha_a, hF_a, ha_w, hF_w, hf_w, nB_a, nB_w, hLs, hk0, hk1, hk2⟩ := hB
  have n_a_w : a ≠ w := ne_ob hF_a hF_w
  have hfr : ∀ x ∈ B, F x = F x := fun _ _ => rfl
  refine q_ofJ (lv := [(0, .ref a)]) (by decide) (Nat.le_of_ble_eq_true rfl) rfl (fun p e s m below meth c C0 hret hlk hnm hA hP hD hS hJ ls hl => ?_)
  have hx := C0.1.1
  have hb := C0.1.2.1
  have hts := C0.1.2.2.2.2
  refine q_new C0 iJ0 tyJ0 tyJ0_ok klJ4_18 insJ0 iniJ0 hP hD hS hA (ci := 0) rfl (fs := [.null, .int (iI 0), .int (iI 0), .int (iI 0)]) (fun j hj => by rcases (show j = 0 ∨ j = 1 ∨ j = 2 ∨ j = 3 by omega) with rfl | rfl | rfl | rfl <;> rfl) (by (try dsimp only); omega) (by (try dsimp only); omega) dJ4_toString_0e30d_0 (fun q1 H h0q1 hP hD hS => ?_)
  refine W.widen (k := 1) (n := 4) (by omega) (by omega) ?_
  have n_a_q1 : a ≠ q1 := fun e => h0q1 (e ▸ ha_a)
  have n_w_q1 : w ≠ q1 := fun e => h0q1 (e ▸ ha_w)
  have nB_q1 : q1 ∉ B := fun z => h0q1 (hLs _ z)
  obtain ⟨L2x, eLL2x⟩ : ∃ z, z = L ++ [q1] := ⟨_, rfl⟩
  obtain ⟨F2x, eFL2x⟩ : ∃ z, z = va_up F q1 (.inr (0, [.null, .int (iI 0), .int (iI 0), .int (iI 0)])) := ⟨_, rfl⟩
  have hP : va_P D vwCl (va_pl L2x F2x) H := by rw [eLL2x, eFL2x]; exact hP
  have hD : va_D (AL L sz) (va_pl L2x F2x) := by rw [eLL2x, eFL2x]; exact hD
  have hF_a : F2x a = sbE w k := by rw [eFL2x]; exact (va_up_ne _ _ n_a_q1).trans hF_a
  have ha_a : a ∈ L2x := by rw [eLL2x]; exact List.mem_append_left _ ha_a
  have hF_w : F2x w = arrB y cap f := by rw [eFL2x]; exact (va_up_ne _ _ n_w_q1).trans hF_w
  have ha_w : w ∈ L2x := by rw [eLL2x]; exact List.mem_append_left _ ha_w
  have hfr : ∀ x ∈ B, F2x x = F x := fun x h1 => by rw [eFL2x]; exact (va_up_ne _ _ (fun e : x = q1 => nB_q1 (e ▸ h1))).trans (hfr x h1)
  have hLs : ∀ x ∈ B, x ∈ L2x := fun x h1 => by rw [eLL2x]; exact List.mem_append_left _ (hLs x h1)
  have hF_q1 : F2x q1 = .inr (0, [.null, .int (iI 0), .int (iI 0), .int (iI 0)]) := by rw [eFL2x]; exact va_up_self _ _ _
  have ha_q1 : q1 ∈ L2x := by rw [eLL2x]; exact List.mem_append_right _ List.mem_cons_self
  refine lv_dup hx hb dJ4_toString_0e30d_3 rfl ?_
  refine lv_aload_n hx hb dJ4_toString_0e30d_4 rfl (lv_at hl 0 rfl) ?_
  refine q_iJv C0 lJ4_137 (c_J0_init_81219 l D y sl L2x F2x _ B a cap k q1 ⟨w, f, ha_a, hF_a, ha_w, hF_w, hf_w, nB_a, nB_w, hLs, by omega, by omega, by omega⟩ ha_q1 hF_q1 nB_q1 n_a_q1.symm) ⟨rfl, rfl⟩ rfl hJ hP hD hS hA rfl hl rfl (Nat.le_of_ble_eq_true rfl) dJ4_toString_0e30d_5 (by (try dsimp only); omega) (fun _ H locs L4 F4 hP hD hS hz4 hp4 => ?_)
  refine W.widen (k := 2) (n := (4 + k.toNat)) (by omega) (by omega) ?_
  obtain ⟨hLs, hfr5⟩ := hp4
  have hfr : ∀ x ∈ B, F4 x = F x := fun x h => (hfr5 x h).trans (hfr x h)
  exact q_retMa C0 hret (by first | exact Or.inl ⟨_, rfl⟩ | exact Or.inr ⟨_, rfl⟩) hlk dJ4_toString_0e30d_8 hP hD hS (⟨hLs, hfr⟩)
