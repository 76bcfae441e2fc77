set_option maxHeartbeats 800000 in
set_option maxRecDepth 100000 in
theorem c_X3_checkUpTo (l : Launch) (hfl : l.stackTraces = false) (D : va_G) (y : Nat → ClassId) (L : List Nat) (F : Nat → va_E) (sz : Nat) (n : Int) (k : Int) (hn : -2147483648 ≤ n ∧ n ≤ 2147483647) (hk : -2147483648 ≤ k ∧ k ≤ 2147483647) : vx_Met l yX3_checkUpTo (.code yX3_checkUpTo cX3_checkUpTo 2 none :: Tt) ({ frames := 6, cells := 1, slots := 6, locals := 82 }) (PcX D y L F sz [.int (iI n), .int (iI k)]) (cXv (fun _ => 0 ≤ n ∧ n ≤ k)) (XC (fun E => E = xIA ∧ ¬ (0 ≤ n ∧ n ≤ k))) 1 6 (fun q => sz ≤ q) := by
  refine q_ofX (lv := [(0, .int (iI n)), (1, .int (iI k))]) (by decide) (Nat.le_of_ble_eq_true rfl) rfl (fun p e s m below meth c C0 hret hlk hout hsz hA hP hD hS hX ls hl => ?_)
  subst hsz
  have hx := C0.1.1
  have hb := C0.1.2.1
  have hts := C0.1.2.2.2.2
  refine lv_iload_n hx hb dX3_checkUpTo_0 rfl (lv_at hl 0 rfl) ?_
  refine q_if_lt hx hb dX3_checkUpTo_1 (tgt := 9) (by decide) (by omega) (fun c1 => ?_) (fun c1 => ?_)
  · exact q_throwA hfl C0 (is := 287) (text := "a number out of its range") (by decide) hl hX hout hlk dX3_checkUpTo_9 dX3_checkUpTo_12 dX3_checkUpTo_13 dX3_checkUpTo_16 dX3_checkUpTo_19 (Nat.le_of_ble_eq_true rfl) (Nat.le_of_ble_eq_true rfl) (Nat.le_of_ble_eq_true rfl) (Nat.le_of_ble_eq_true rfl) (⟨rfl, by omega⟩)
  · refine lv_iload_n hx hb dX3_checkUpTo_4 rfl (lv_at hl 0 rfl) ?_
    refine lv_iload_n hx hb dX3_checkUpTo_5 rfl (lv_at hl 1 rfl) ?_
    refine q_icmp_le hx hb dX3_checkUpTo_6 (tgt := 20) (by decide) (by omega) (by omega) (fun c2 => ?_) (fun c2 => ?_)
    · exact q_retXv C0 hret hlk dX3_checkUpTo_20 (Nat.le_of_ble_eq_true rfl) (Nat.le_of_ble_eq_true rfl) (⟨by omega, by omega⟩)
    · exact q_throwA hfl C0 (is := 287) (text := "a number out of its range") (by decide) hl hX hout hlk dX3_checkUpTo_9 dX3_checkUpTo_12 dX3_checkUpTo_13 dX3_checkUpTo_16 dX3_checkUpTo_19 (Nat.le_of_ble_eq_true rfl) (Nat.le_of_ble_eq_true rfl) (Nat.le_of_ble_eq_true rfl) (Nat.le_of_ble_eq_true rfl) (⟨rfl, by omega⟩)
set_option maxHeartbeats 800000 in
set_option maxRecDepth 100000 in
theorem c_X3_checkKey (l : Launch) (hfl : l.stackTraces = false) (D : va_G) (y : Nat → ClassId) (L : List Nat) (F : Nat → va_E) (sz : Nat) (n : Int) (hn : -2147483648 ≤ n ∧ n ≤ 2147483647) : vx_Met l yX3_checkKey (.code yX3_checkKey cX3_checkKey 1 none :: Tt) ({ frames := 6, cells := 1, slots := 6, locals := 82 }) (PcX D y L F sz [.int (iI n)]) (cXv (fun _ => 0 ≤ n ∧ n ≤ 99)) (XC (fun E => E = xIA ∧ ¬ (0 ≤ n ∧ n ≤ 99))) 1 6 (fun q => sz ≤ q) := by
  refine q_ofX (lv := [(0, .int (iI n))]) (by decide) (Nat.le_of_ble_eq_true rfl) rfl (fun p e s m below meth c C0 hret hlk hout hsz hA hP hD hS hX ls hl => ?_)
  subst hsz
  have hx := C0.1.1
  have hb := C0.1.2.1
  have hts := C0.1.2.2.2.2
  refine lv_iload_n hx hb dX3_checkKey_0 rfl (lv_at hl 0 rfl) ?_
  refine q_if_lt hx hb dX3_checkKey_1 (tgt := 10) (by decide) (by omega) (fun c1 => ?_) (fun c1 => ?_)
  · exact q_throwA hfl C0 (is := 290) (text := "no key") (by decide) hl hX hout hlk dX3_checkKey_10 dX3_checkKey_13 dX3_checkKey_14 dX3_checkKey_17 dX3_checkKey_20 (Nat.le_of_ble_eq_true rfl) (Nat.le_of_ble_eq_true rfl) (Nat.le_of_ble_eq_true rfl) (Nat.le_of_ble_eq_true rfl) (⟨rfl, by omega⟩)
  · refine lv_iload_n hx hb dX3_checkKey_4 rfl (lv_at hl 0 rfl) ?_
    refine q_bipush hx hb dX3_checkKey_5 (by decide) ?_
    refine q_icmp_lt hx hb dX3_checkKey_7 (tgt := 21) (by decide) (by omega) (by omega) (fun c2 => ?_) (fun c2 => ?_)
    · exact q_retXv C0 hret hlk dX3_checkKey_21 (Nat.le_of_ble_eq_true rfl) (Nat.le_of_ble_eq_true rfl) (⟨by omega, by omega⟩)
    · exact q_throwA hfl C0 (is := 290) (text := "no key") (by decide) hl hX hout hlk dX3_checkKey_10 dX3_checkKey_13 dX3_checkKey_14 dX3_checkKey_17 dX3_checkKey_20 (Nat.le_of_ble_eq_true rfl) (Nat.le_of_ble_eq_true rfl) (Nat.le_of_ble_eq_true rfl) (Nat.le_of_ble_eq_true rfl) (⟨rfl, by omega⟩)
set_option maxHeartbeats 800000 in
set_option maxRecDepth 100000 in
theorem c_X3_checkWorth (l : Launch) (hfl : l.stackTraces = false) (D : va_G) (y : Nat → ClassId) (L : List Nat) (F : Nat → va_E) (sz : Nat) (n : Int) (hn : -2147483648 ≤ n ∧ n ≤ 2147483647) : vx_Met l yX3_checkWorth (.code yX3_checkWorth cX3_checkWorth 1 none :: Tt) ({ frames := 6, cells := 1, slots := 6, locals := 82 }) (PcX D y L F sz [.int (iI n)]) (cXv (fun _ => 0 ≤ n ∧ n ≤ 99)) (XC (fun E => E = xIA ∧ ¬ (0 ≤ n ∧ n ≤ 99))) 1 6 (fun q => sz ≤ q) := by
  refine q_ofX (lv := [(0, .int (iI n))]) (by decide) (Nat.le_of_ble_eq_true rfl) rfl (fun p e s m below meth c C0 hret hlk hout hsz hA hP hD hS hX ls hl => ?_)
  subst hsz
  have hx := C0.1.1
  have hb := C0.1.2.1
  have hts := C0.1.2.2.2.2
  refine lv_iload_n hx hb dX3_checkWorth_0 rfl (lv_at hl 0 rfl) ?_
  refine q_if_lt hx hb dX3_checkWorth_1 (tgt := 10) (by decide) (by omega) (fun c1 => ?_) (fun c1 => ?_)
  · exact q_throwA hfl C0 (is := 292) (text := "no worth") (by decide) hl hX hout hlk dX3_checkWorth_10 dX3_checkWorth_13 dX3_checkWorth_14 dX3_checkWorth_17 dX3_checkWorth_20 (Nat.le_of_ble_eq_true rfl) (Nat.le_of_ble_eq_true rfl) (Nat.le_of_ble_eq_true rfl) (Nat.le_of_ble_eq_true rfl) (⟨rfl, by omega⟩)
  · refine lv_iload_n hx hb dX3_checkWorth_4 rfl (lv_at hl 0 rfl) ?_
    refine q_bipush hx hb dX3_checkWorth_5 (by decide) ?_
    refine q_icmp_le hx hb dX3_checkWorth_7 (tgt := 21) (by decide) (by omega) (by omega) (fun c2 => ?_) (fun c2 => ?_)
    · exact q_retXv C0 hret hlk dX3_checkWorth_21 (Nat.le_of_ble_eq_true rfl) (Nat.le_of_ble_eq_true rfl) (⟨by omega, by omega⟩)
    · exact q_throwA hfl C0 (is := 292) (text := "no worth") (by decide) hl hX hout hlk dX3_checkWorth_10 dX3_checkWorth_13 dX3_checkWorth_14 dX3_checkWorth_17 dX3_checkWorth_20 (Nat.le_of_ble_eq_true rfl) (Nat.le_of_ble_eq_true rfl) (Nat.le_of_ble_eq_true rfl) (Nat.le_of_ble_eq_true rfl) (⟨rfl, by omega⟩)
set_option maxHeartbeats 800000 in
set_option maxRecDepth 100000 in
theorem c_X3_checkWorthOrNone (l : Launch) (hfl : l.stackTraces = false) (D : va_G) (y : Nat → ClassId) (L : List Nat) (F : Nat → va_E) (sz : Nat) (n : Int) (hn : -2147483648 ≤ n ∧ n ≤ 2147483647) : vx_Met l yX3_checkWorthOrNone (.code yX3_checkWorthOrNone cX3_checkWorthOrNone 1 none :: Tt) ({ frames := 7, cells := 1, slots := 6, locals := 102 }) (PcX D y L F sz [.int (iI n)]) (cXv (fun _ => -1 ≤ n ∧ n ≤ 99)) (XC (fun E => E = xIA ∧ ¬ (-1 ≤ n ∧ n ≤ 99))) 1 6 (fun q => sz ≤ q) := by
  refine q_ofX (lv := [(0, .int (iI n))]) (by decide) (Nat.le_of_ble_eq_true rfl) rfl (fun p e s m below meth c C0 hret hlk hout hsz hA hP hD hS hX ls hl => ?_)
  subst hsz
  have hx := C0.1.1
  have hb := C0.1.2.1
  have hts := C0.1.2.2.2.2
  refine lv_iload_n hx hb dX3_checkWorthOrNone_0 rfl (lv_at hl 0 rfl) ?_
  refine q_iconst hx hb dX3_checkWorthOrNone_1 ?_
  refine q_icmp_eq hx hb dX3_checkWorthOrNone_2 (tgt := 9) (by decide) (by omega) (by omega) (fun c1 => ?_) (fun c1 => ?_)
  · exact q_retXv C0 hret hlk dX3_checkWorthOrNone_9 (Nat.le_of_ble_eq_true rfl) (Nat.le_of_ble_eq_true rfl) (⟨by omega, by omega⟩)
  · refine lv_iload_n hx hb dX3_checkWorthOrNone_5 rfl (lv_at hl 0 rfl) ?_
    refine q_sXv C0 lX3_104 (c_X3_checkWorth l hfl D y L F _ n (by omega)) ⟨rfl, rfl⟩ rfl hP hD hX hout hlk rfl hl rfl (Nat.le_of_ble_eq_true rfl) dX3_checkWorthOrNone_6 ⟨Nat.le_of_ble_eq_true rfl, Nat.le_of_ble_eq_true rfl⟩ ⟨Nat.le_of_ble_eq_true rfl, Nat.le_of_ble_eq_true rfl⟩ (fun E h => ⟨h.1, fun q => h.2 (by omega)⟩) (fun _ e_r2 => ?_)
    refine W.widen (k := 1) (n := 6) (Nat.le_of_ble_eq_true rfl) (Nat.le_of_ble_eq_true rfl) ?_
    exact q_retXv C0 hret hlk dX3_checkWorthOrNone_9 (Nat.le_of_ble_eq_true rfl) (Nat.le_of_ble_eq_true rfl) (⟨by omega, by omega⟩)
set_option maxHeartbeats 800000 in
set_option maxRecDepth 100000 in
theorem c_X3_checkSteps (l : Launch) (hfl : l.stackTraces = false) (D : va_G) (y : Nat → ClassId) (L : List Nat) (F : Nat → va_E) (sz : Nat) (a : Int) (b : Int) (n : Int) (hn : -2147483648 ≤ a ∧ a ≤ 2147483647) (hb2 : -2147483648 ≤ b ∧ b ≤ 2147483647) (hn2 : -2147483648 ≤ n ∧ n ≤ 2147483647) : vx_Met l yX3_checkSteps (.code yX3_checkSteps cX3_checkSteps 3 none :: Tt) ({ frames := 7, cells := 3, slots := 18, locals := 103 }) (PcX D y L F sz [.int (iI a), .int (iI b), .int (iI n)]) (cXv (fun _ => (0 ≤ a ∧ a ≤ 99) ∧ (0 ≤ b ∧ b ≤ 99) ∧ 0 ≤ n ∧ n ≤ 100)) (XC (fun E => E = xIA ∧ ¬ ((0 ≤ a ∧ a ≤ 99) ∧ (0 ≤ b ∧ b ≤ 99) ∧ 0 ≤ n ∧ n ≤ 100))) 3 18 (fun q => sz ≤ q) := by
  refine q_ofX (lv := [(0, .int (iI a)), (1, .int (iI b)), (2, .int (iI n))]) (by decide) (Nat.le_of_ble_eq_true rfl) rfl (fun p e s m below meth c C0 hret hlk hout hsz hA hP hD hS hX ls hl => ?_)
  subst hsz
  have hx := C0.1.1
  have hb := C0.1.2.1
  have hts := C0.1.2.2.2.2
  refine lv_iload_n hx hb dX3_checkSteps_0 rfl (lv_at hl 0 rfl) ?_
  refine q_sXv C0 lX3_60 (c_X3_checkKey l hfl D y L F _ a (by omega)) ⟨rfl, rfl⟩ rfl hP hD hX hout hlk rfl hl rfl (Nat.le_of_ble_eq_true rfl) dX3_checkSteps_1 ⟨Nat.le_of_ble_eq_true rfl, Nat.le_of_ble_eq_true rfl⟩ ⟨Nat.le_of_ble_eq_true rfl, Nat.le_of_ble_eq_true rfl⟩ (fun E h => ⟨h.1, fun q => h.2 (by omega)⟩) (fun _ e_r1 => ?_)
  refine W.widen (k := 1) (n := 6) (Nat.le_of_ble_eq_true rfl) (Nat.le_of_ble_eq_true rfl) ?_
  refine lv_iload_n hx hb dX3_checkSteps_4 rfl (lv_at hl 1 rfl) ?_
  refine q_bipush hx hb dX3_checkSteps_5 (by decide) ?_
  refine q_sXv C0 lX3_41 (c_X3_checkUpTo l hfl D y L F _ b 99 (by omega) (by omega)) ⟨rfl, rfl⟩ rfl hP hD hX hout hlk rfl hl rfl (Nat.le_of_ble_eq_true rfl) dX3_checkSteps_7 ⟨Nat.le_of_ble_eq_true rfl, Nat.le_of_ble_eq_true rfl⟩ ⟨Nat.le_of_ble_eq_true rfl, Nat.le_of_ble_eq_true rfl⟩ (fun E h => ⟨h.1, fun q => h.2 (by omega)⟩) (fun _ e_r2 => ?_)
  refine W.widen (k := 2) (n := 12) (Nat.le_of_ble_eq_true rfl) (Nat.le_of_ble_eq_true rfl) ?_
  refine lv_iload_n hx hb dX3_checkSteps_10 rfl (lv_at hl 2 rfl) ?_
  refine q_bipush hx hb dX3_checkSteps_11 (by decide) ?_
  refine q_sXv C0 lX3_41 (c_X3_checkUpTo l hfl D y L F _ n 100 (by omega) (by omega)) ⟨rfl, rfl⟩ rfl hP hD hX hout hlk rfl hl rfl (Nat.le_of_ble_eq_true rfl) dX3_checkSteps_13 ⟨Nat.le_of_ble_eq_true rfl, Nat.le_of_ble_eq_true rfl⟩ ⟨Nat.le_of_ble_eq_true rfl, Nat.le_of_ble_eq_true rfl⟩ (fun E h => ⟨h.1, fun q => h.2 (by omega)⟩) (fun _ e_r3 => ?_)
  refine W.widen (k := 3) (n := 18) (Nat.le_of_ble_eq_true rfl) (Nat.le_of_ble_eq_true rfl) ?_
  exact q_retXv C0 hret hlk dX3_checkSteps_16 (Nat.le_of_ble_eq_true rfl) (Nat.le_of_ble_eq_true rfl) (⟨by omega, by omega, by omega⟩)
set_option maxHeartbeats 800000 in
set_option maxRecDepth 100000 in
theorem c_X3_checkKindAndBounds (l : Launch) (hfl : l.stackTraces = false) (D : va_G) (y : Nat → ClassId) (L : List Nat) (F : Nat → va_E) (sz : Nat) (k : Int) (a : Int) (b : Int) (hn : -2147483648 ≤ k ∧ k ≤ 2147483647) (hn2 : -2147483648 ≤ a ∧ a ≤ 2147483647) (hn3 : -2147483648 ≤ b ∧ b ≤ 2147483647) : vx_Met l yX3_checkKindAndBounds (.code yX3_checkKindAndBounds cX3_checkKindAndBounds 3 none :: Tt) ({ frames := 7, cells := 3, slots := 18, locals := 103 }) (PcX D y L F sz [.int (iI k), .int (iI a), .int (iI b)]) (cXv (fun _ => (0 ≤ k ∧ k ≤ 2) ∧ (0 ≤ a ∧ a ≤ 99) ∧ 0 ≤ b ∧ b ≤ 99)) (XC (fun E => E = xIA ∧ ¬ ((0 ≤ k ∧ k ≤ 2) ∧ (0 ≤ a ∧ a ≤ 99) ∧ 0 ≤ b ∧ b ≤ 99))) 3 18 (fun q => sz ≤ q) := by
  refine q_ofX (lv := [(0, .int (iI k)), (1, .int (iI a)), (2, .int (iI b))]) (by decide) (Nat.le_of_ble_eq_true rfl) rfl (fun p e s m below meth c C0 hret hlk hout hsz hA hP hD hS hX ls hl => ?_)
  subst hsz
  have hx := C0.1.1
  have hb := C0.1.2.1
  have hts := C0.1.2.2.2.2
  refine lv_iload_n hx hb dX3_checkKindAndBounds_0 rfl (lv_at hl 0 rfl) ?_
  refine q_iconst hx hb dX3_checkKindAndBounds_1 ?_
  refine q_sXv C0 lX3_41 (c_X3_checkUpTo l hfl D y L F _ k 2 (by omega) (by omega)) ⟨rfl, rfl⟩ rfl hP hD hX hout hlk rfl hl rfl (Nat.le_of_ble_eq_true rfl) dX3_checkKindAndBounds_2 ⟨Nat.le_of_ble_eq_true rfl, Nat.le_of_ble_eq_true rfl⟩ ⟨Nat.le_of_ble_eq_true rfl, Nat.le_of_ble_eq_true rfl⟩ (fun E h => ⟨h.1, fun q => h.2 (by omega)⟩) (fun _ e_r1 => ?_)
  refine W.widen (k := 1) (n := 6) (Nat.le_of_ble_eq_true rfl) (Nat.le_of_ble_eq_true rfl) ?_
  refine lv_iload_n hx hb dX3_checkKindAndBounds_5 rfl (lv_at hl 1 rfl) ?_
  refine q_sXv C0 lX3_60 (c_X3_checkKey l hfl D y L F _ a (by omega)) ⟨rfl, rfl⟩ rfl hP hD hX hout hlk rfl hl rfl (Nat.le_of_ble_eq_true rfl) dX3_checkKindAndBounds_6 ⟨Nat.le_of_ble_eq_true rfl, Nat.le_of_ble_eq_true rfl⟩ ⟨Nat.le_of_ble_eq_true rfl, Nat.le_of_ble_eq_true rfl⟩ (fun E h => ⟨h.1, fun q => h.2 (by omega)⟩) (fun _ e_r2 => ?_)
  refine W.widen (k := 2) (n := 12) (Nat.le_of_ble_eq_true rfl) (Nat.le_of_ble_eq_true rfl) ?_
  refine lv_iload_n hx hb dX3_checkKindAndBounds_9 rfl (lv_at hl 2 rfl) ?_
  refine q_sXv C0 lX3_60 (c_X3_checkKey l hfl D y L F _ b (by omega)) ⟨rfl, rfl⟩ rfl hP hD hX hout hlk rfl hl rfl (Nat.le_of_ble_eq_true rfl) dX3_checkKindAndBounds_10 ⟨Nat.le_of_ble_eq_true rfl, Nat.le_of_ble_eq_true rfl⟩ ⟨Nat.le_of_ble_eq_true rfl, Nat.le_of_ble_eq_true rfl⟩ (fun E h => ⟨h.1, fun q => h.2 (by omega)⟩) (fun _ e_r3 => ?_)
  refine W.widen (k := 3) (n := 18) (Nat.le_of_ble_eq_true rfl) (Nat.le_of_ble_eq_true rfl) ?_
  exact q_retXv C0 hret hlk dX3_checkKindAndBounds_13 (Nat.le_of_ble_eq_true rfl) (Nat.le_of_ble_eq_true rfl) (⟨by omega, by omega, by omega⟩)
set_option maxHeartbeats 800000 in
set_option maxRecDepth 100000 in
theorem c_X3_bookAt (l : Launch) (hfl : l.stackTraces = false) (D : va_G) (y : Nat → ClassId) (L : List Nat) (F : Nat → va_E) (sz : Nat) (O : Nat → Prop) (G : CG) (σ : CS) (b : Int) (hC : CP y L F O G σ) (hb : -2147483648 ≤ b ∧ b ≤ 2147483647) : vx_Met l yX3_bookAt (.code yX3_bookAt cX3_bookAt 2 (some (.object "Bookgrafter$Row")) :: Tt) ({ frames := 6, cells := 1, slots := 6, locals := 82 }) (PcX D y L F sz [.ref ((gbg G)), .int (iI b)]) (cXa (fun r => (0 ≤ b ∧ b < 4) ∧ r = grh G (zbk σ b))) (XC (fun E => E = xIO ∧ ¬ (0 ≤ b ∧ b < 4))) 1 6 (fun q => sz ≤ q) := by
  refine q_ofX (lv := [(0, .ref ((gbg G))), (1, .int (iI b))]) (by decide) (Nat.le_of_ble_eq_true rfl) rfl (fun p e s m below meth c C0 hret hlk hout hsz hA hP hD hS hX ls hl => ?_)
  subst hsz
  have hx := C0.1.1
  have hb := C0.1.2.1
  have hts := C0.1.2.2.2.2
  refine lv_iload_n hx hb dX3_bookAt_0 rfl (lv_at hl 1 rfl) ?_
  refine q_if_lt hx hb dX3_bookAt_1 (tgt := 9) (by decide) (by omega) (fun c1 => ?_) (fun c1 => ?_)
  · exact q_throwI hfl C0 (is := 276) (text := "no such place") (by decide) hl hX hout hlk dX3_bookAt_9 dX3_bookAt_12 dX3_bookAt_13 dX3_bookAt_16 dX3_bookAt_19 (Nat.le_of_ble_eq_true rfl) (Nat.le_of_ble_eq_true rfl) (Nat.le_of_ble_eq_true rfl) (Nat.le_of_ble_eq_true rfl) (⟨rfl, by omega⟩)
  · refine lv_iload_n hx hb dX3_bookAt_4 rfl (lv_at hl 1 rfl) ?_
    refine q_iconst hx hb dX3_bookAt_5 ?_
    refine q_icmp_lt hx hb dX3_bookAt_6 (tgt := 20) (by decide) (by omega) (by omega) (fun c2 => ?_) (fun c2 => ?_)
    · refine lv_aload_n hx hb dX3_bookAt_20 rfl (lv_at hl 0 rfl) ?_
      refine q_get C0 iX3 hP hC.1.1 hC.1.2 rfl 0 (by decide) flX3_11 rfl rfl dX3_bookAt_21 ?_
      refine lv_iload_n hx hb dX3_bookAt_24 rfl (lv_at hl 1 rfl) ?_
      refine q_aald C0 hP hC.2.1.1 hC.2.1.2 (t := 1) rfl (by omega) (by decide) (v := .ref ((grh G (zbk σ b)))) rfl dX3_bookAt_25 ?_
      exact q_retXa C0 hret (Or.inl ⟨_, rfl⟩) hlk dX3_bookAt_26 (Nat.le_of_ble_eq_true rfl) (Nat.le_of_ble_eq_true rfl) (⟨by omega, rfl⟩)
    · exact q_throwI hfl C0 (is := 276) (text := "no such place") (by decide) hl hX hout hlk dX3_bookAt_9 dX3_bookAt_12 dX3_bookAt_13 dX3_bookAt_16 dX3_bookAt_19 (Nat.le_of_ble_eq_true rfl) (Nat.le_of_ble_eq_true rfl) (Nat.le_of_ble_eq_true rfl) (Nat.le_of_ble_eq_true rfl) (⟨rfl, by omega⟩)
set_option maxHeartbeats 800000 in
set_option maxRecDepth 100000 in
theorem c_X3_shelfAt (l : Launch) (hfl : l.stackTraces = false) (D : va_G) (y : Nat → ClassId) (L : List Nat) (F : Nat → va_E) (sz : Nat) (O : Nat → Prop) (G : CG) (σ : CS) (b : Int) (hC : CP y L F O G σ) (hb : -2147483648 ≤ b ∧ b ≤ 2147483647) : vx_Met l yX3_shelfAt (.code yX3_shelfAt cX3_shelfAt 2 (some (.object "Bookgrafter$Row")) :: Tt) ({ frames := 6, cells := 1, slots := 6, locals := 82 }) (PcX D y L F sz [.ref ((gbg G)), .int (iI b)]) (cXa (fun r => (0 ≤ b ∧ b < 3) ∧ r = grh G (zsh σ b))) (XC (fun E => E = xIO ∧ ¬ (0 ≤ b ∧ b < 3))) 1 6 (fun q => sz ≤ q) := by
  refine q_ofX (lv := [(0, .ref ((gbg G))), (1, .int (iI b))]) (by decide) (Nat.le_of_ble_eq_true rfl) rfl (fun p e s m below meth c C0 hret hlk hout hsz hA hP hD hS hX ls hl => ?_)
  subst hsz
  have hx := C0.1.1
  have hb := C0.1.2.1
  have hts := C0.1.2.2.2.2
  refine lv_iload_n hx hb dX3_shelfAt_0 rfl (lv_at hl 1 rfl) ?_
  refine q_if_lt hx hb dX3_shelfAt_1 (tgt := 9) (by decide) (by omega) (fun c1 => ?_) (fun c1 => ?_)
  · exact q_throwI hfl C0 (is := 281) (text := "no such shelf") (by decide) hl hX hout hlk dX3_shelfAt_9 dX3_shelfAt_12 dX3_shelfAt_13 dX3_shelfAt_16 dX3_shelfAt_19 (Nat.le_of_ble_eq_true rfl) (Nat.le_of_ble_eq_true rfl) (Nat.le_of_ble_eq_true rfl) (Nat.le_of_ble_eq_true rfl) (⟨rfl, by omega⟩)
  · refine lv_iload_n hx hb dX3_shelfAt_4 rfl (lv_at hl 1 rfl) ?_
    refine q_iconst hx hb dX3_shelfAt_5 ?_
    refine q_icmp_lt hx hb dX3_shelfAt_6 (tgt := 20) (by decide) (by omega) (by omega) (fun c2 => ?_) (fun c2 => ?_)
    · refine lv_aload_n hx hb dX3_shelfAt_20 rfl (lv_at hl 0 rfl) ?_
      refine q_get C0 iX3 hP hC.1.1 hC.1.2 rfl 1 (by decide) flX3_18 rfl rfl dX3_shelfAt_21 ?_
      refine lv_iload_n hx hb dX3_shelfAt_24 rfl (lv_at hl 1 rfl) ?_
      refine q_aald C0 hP hC.2.2.1.1 hC.2.2.1.2 (t := 1) rfl (by omega) (by decide) (v := .ref ((grh G (zsh σ b)))) rfl dX3_shelfAt_25 ?_
      exact q_retXa C0 hret (Or.inl ⟨_, rfl⟩) hlk dX3_shelfAt_26 (Nat.le_of_ble_eq_true rfl) (Nat.le_of_ble_eq_true rfl) (⟨by omega, rfl⟩)
    · exact q_throwI hfl C0 (is := 281) (text := "no such shelf") (by decide) hl hX hout hlk dX3_shelfAt_9 dX3_shelfAt_12 dX3_shelfAt_13 dX3_shelfAt_16 dX3_shelfAt_19 (Nat.le_of_ble_eq_true rfl) (Nat.le_of_ble_eq_true rfl) (Nat.le_of_ble_eq_true rfl) (Nat.le_of_ble_eq_true rfl) (⟨rfl, by omega⟩)
set_option maxHeartbeats 800000 in
set_option maxRecDepth 100000 in
theorem c_X3_viewAt (l : Launch) (hfl : l.stackTraces = false) (D : va_G) (y : Nat → ClassId) (L : List Nat) (F : Nat → va_E) (sz : Nat) (O : Nat → Prop) (G : CG) (σ : CS) (b : Int) (hC : CP y L F O G σ) (hb : -2147483648 ≤ b ∧ b ≤ 2147483647) : vx_Met l yX3_viewAt (.code yX3_viewAt cX3_viewAt 2 (some (.object "Bookgrafter$View")) :: Tt) ({ frames := 6, cells := 1, slots := 6, locals := 82 }) (PcX D y L F sz [.ref ((gbg G)), .int (iI b)]) (cXa (fun r => (0 ≤ b ∧ b < 2) ∧ r = gva G b)) (XC (fun E => E = xIO ∧ ¬ (0 ≤ b ∧ b < 2))) 1 6 (fun q => sz ≤ q) := by
  refine q_ofX (lv := [(0, .ref ((gbg G))), (1, .int (iI b))]) (by decide) (Nat.le_of_ble_eq_true rfl) rfl (fun p e s m below meth c C0 hret hlk hout hsz hA hP hD hS hX ls hl => ?_)
  subst hsz
  have hx := C0.1.1
  have hb := C0.1.2.1
  have hts := C0.1.2.2.2.2
  refine lv_iload_n hx hb dX3_viewAt_0 rfl (lv_at hl 1 rfl) ?_
  refine q_if_lt hx hb dX3_viewAt_1 (tgt := 9) (by decide) (by omega) (fun c1 => ?_) (fun c1 => ?_)
  · exact q_throwI hfl C0 (is := 283) (text := "no such view") (by decide) hl hX hout hlk dX3_viewAt_9 dX3_viewAt_12 dX3_viewAt_13 dX3_viewAt_16 dX3_viewAt_19 (Nat.le_of_ble_eq_true rfl) (Nat.le_of_ble_eq_true rfl) (Nat.le_of_ble_eq_true rfl) (Nat.le_of_ble_eq_true rfl) (⟨rfl, by omega⟩)
  · refine lv_iload_n hx hb dX3_viewAt_4 rfl (lv_at hl 1 rfl) ?_
    refine q_iconst hx hb dX3_viewAt_5 ?_
    refine q_icmp_lt hx hb dX3_viewAt_6 (tgt := 20) (by decide) (by omega) (by omega) (fun c2 => ?_) (fun c2 => ?_)
    · refine lv_aload_n hx hb dX3_viewAt_20 rfl (lv_at hl 0 rfl) ?_
      refine q_get C0 iX3 hP hC.1.1 hC.1.2 rfl 2 (by decide) flX3_23 rfl rfl dX3_viewAt_21 ?_
      refine lv_iload_n hx hb dX3_viewAt_24 rfl (lv_at hl 1 rfl) ?_
      refine q_aald C0 hP hC.2.2.2.1.1 hC.2.2.2.1.2 (t := 2) rfl (by omega) (by decide) (v := .ref ((gva G b))) rfl dX3_viewAt_25 ?_
      exact q_retXa C0 hret (Or.inl ⟨_, rfl⟩) hlk dX3_viewAt_26 (Nat.le_of_ble_eq_true rfl) (Nat.le_of_ble_eq_true rfl) (⟨by omega, rfl⟩)
    · exact q_throwI hfl C0 (is := 283) (text := "no such view") (by decide) hl hX hout hlk dX3_viewAt_9 dX3_viewAt_12 dX3_viewAt_13 dX3_viewAt_16 dX3_viewAt_19 (Nat.le_of_ble_eq_true rfl) (Nat.le_of_ble_eq_true rfl) (Nat.le_of_ble_eq_true rfl) (Nat.le_of_ble_eq_true rfl) (⟨rfl, by omega⟩)
set_option maxHeartbeats 800000 in
set_option maxRecDepth 100000 in
theorem c_X3_refuse (l : Launch) (D : va_G) (y : Nat → ClassId) (L : List Nat) (F : Nat → va_E) (sz : Nat) (O : Nat → Prop) (G : CG) (σ : CS) (hC : CP y L F O G σ) : Met l yX3_refuse (.code yX3_refuse cX3_refuse 1 (some .int) :: Tt) ({ frames := 0, cells := 0, slots := 0, locals := 0 }) (PcM D y L F sz [.ref ((gbg G))]) (cMi D (AL L sz) (fun r L1 F1 => L = L1 ∧ CP y L F1 O G (inc2 σ) ∧ r = -9 ∧ OE O F F1)) 0 0 (AL L sz) := by
  have hO : OE O F F := fun _ _ => rfl
  refine q_ofM (lv := [(0, .ref ((gbg G)))]) (by decide) (Nat.le_of_ble_eq_true rfl) rfl (fun p e s m below meth c C0 hret hlk hnm hA hP hD hS ls hl => ?_)
  have hx := C0.1.1
  have hb := C0.1.2.1
  have hts := C0.1.2.2.2.2
  refine lv_aload_n hx hb dX3_refuse_0 rfl (lv_at hl 0 rfl) ?_
  refine lv_dup hx hb dX3_refuse_1 rfl ?_
  refine q_get C0 iX3 hP hC.1.1 hC.1.2 rfl 6 (by decide) flX3_294 rfl rfl dX3_refuse_2 ?_
  refine q_iconst hx hb dX3_refuse_5 ?_
  refine q_iadd hx hb dX3_refuse_6 ?_
  refine q_put C0 iX3 tyX3 tyX3_ok nmX3 hP hD hS hC.1.1 hC.1.2 rfl 6 (by decide) flX3_294 rfl rfl rfl rfl (Nat.le_of_ble_eq_true rfl) dX3_refuse_7 (fun H locs hP hD hS => ?_)
  obtain ⟨F1, eF1⟩ : ∃ z, z = va_up F (gbg G) (.inr (5, [.ref ((gab G)), .ref ((gas G)), .ref ((gav G)), .ref ((gkk G)), .int (iI (z0 σ)), .int (iI (z1 σ)), .int (iI ((z2 σ + 1))), .int (iI (z3 σ))])) := ⟨_, rfl⟩
  have hP : va_P D vwCl (va_pl L F1) H := by rw [eF1]; exact hP
  have hD : va_D (AL L sz) (va_pl L F1) := by rw [eF1]; exact hD
  have hO : OE O F F1 := by rw [eF1]; exact hO.tr (OE1 (CP_O hC).1)
  have hC : CP y L F1 O G (sCt σ (z0 σ) (z1 σ) (z2 σ + 1) (z3 σ)) := by rw [eF1]; exact CP_ct hC (va_up_self _ _ _) (fun q hq => va_up_ne _ _ hq)
  refine q_bipush hx hb dX3_refuse_10 (by decide) ?_
  exact q_retMi C0 hret rfl hlk dX3_refuse_12 hP hD hS (⟨rfl, CP_eq hC rfl, rfl, hO⟩)
set_option maxHeartbeats 800000 in
set_option maxRecDepth 100000 in
theorem c_X3_write (l : Launch) (D : va_G) (y : Nat → ClassId) (L : List Nat) (F : Nat → va_E) (sz : Nat) (O : Nat → Prop) (G : CG) (σ : CS) (i : Nat) (hC : CP y L F O G σ) (hi : i < zn σ) (hwf : ∀ i, zwk σ = some i → i < zn σ) : Met l yX3_write (.code yX3_write cX3_write 2 none :: Tt) ({ frames := 1, cells := 0, slots := 0, locals := 21 }) (PcM D y L F sz [.ref ((gbg G)), .ref ((grh G i))]) (cMv D (AL L sz) (fun r L1 F1 => L = L1 ∧ CP y L F1 O G (wrt σ i) ∧ True ∧ OE O F F1)) 0 0 (AL L sz) := by
  have hO : OE O F F := fun _ _ => rfl
  refine q_ofM (lv := [(0, .ref ((gbg G))), (1, .ref ((grh G i)))]) (by decide) (Nat.le_of_ble_eq_true rfl) rfl (fun p e s m below meth c C0 hret hlk hnm hA hP hD hS ls hl => ?_)
  have hx := C0.1.1
  have hb := C0.1.2.1
  have hts := C0.1.2.2.2.2
  refine lv_aload_n hx hb dX3_write_0 rfl (lv_at hl 0 rfl) ?_
  refine lv_dup hx hb dX3_write_1 rfl ?_
  refine q_get C0 iX3 hP hC.1.1 hC.1.2 rfl 4 (by decide) flX3_45 rfl rfl dX3_write_2 ?_
  refine q_iconst hx hb dX3_write_5 ?_
  refine q_iadd hx hb dX3_write_6 ?_
  refine q_put C0 iX3 tyX3 tyX3_ok nmX3 hP hD hS hC.1.1 hC.1.2 rfl 4 (by decide) flX3_45 rfl rfl rfl rfl (Nat.le_of_ble_eq_true rfl) dX3_write_7 (fun H locs hP hD hS => ?_)
  obtain ⟨F1, eF1⟩ : ∃ z, z = va_up F (gbg G) (.inr (5, [.ref ((gab G)), .ref ((gas G)), .ref ((gav G)), .ref ((gkk G)), .int (iI ((z0 σ + 1))), .int (iI (z1 σ)), .int (iI (z2 σ)), .int (iI (z3 σ))])) := ⟨_, rfl⟩
  have hP : va_P D vwCl (va_pl L F1) H := by rw [eF1]; exact hP
  have hD : va_D (AL L sz) (va_pl L F1) := by rw [eF1]; exact hD
  have hO : OE O F F1 := by rw [eF1]; exact hO.tr (OE1 (CP_O hC).1)
  have hC : CP y L F1 O G (sCt σ (z0 σ + 1) (z1 σ) (z2 σ) (z3 σ)) := by rw [eF1]; exact CP_ct hC (va_up_self _ _ _) (fun q hq => va_up_ne _ _ hq)
  refine lv_aload_n hx hb dX3_write_10 rfl (lv_at hl 0 rfl) ?_
  refine q_get C0 iX3 hP hC.1.1 hC.1.2 rfl 3 (by decide) flX3_33 rfl rfl dX3_write_11 ?_
  refine lv_aload_n hx hb dX3_write_14 rfl (lv_at hl 1 rfl) ?_
  refine q_vMv C0 lX3_297 (c_X2_forgetIfOn l D y L F1 _ O G (sCt σ (z0 σ + 1) (z1 σ) (z2 σ) (z3 σ)) i hC hi hwf) ⟨rfl, rfl⟩ rfl hP hD hS hA (CP_k hC).1 (CP_k hC).2 rfl rfl rfl hl rfl (Nat.le_of_ble_eq_true rfl) dX3_write_15 ⟨Nat.le_of_ble_eq_true rfl, Nat.le_of_ble_eq_true rfl⟩ (fun _ H locs L3 F3 hP hD hS hz3 hp3 => ?_)
  obtain ⟨eL, hC, er, hO1⟩ := hp3
  subst eL
  have hO := hO.tr hO1
  exact q_retMv C0 hret hlk dX3_write_18 hP hD hS (⟨rfl, CP_eq hC rfl, trivial, hO⟩)
set_option maxHeartbeats 800000 in
set_option maxRecDepth 100000 in
theorem c_X3_keyOrRefuse (l : Launch) (D : va_G) (y : Nat → ClassId) (L : List Nat) (F : Nat → va_E) (sz : Nat) (O : Nat → Prop) (G : CG) (σ : CS) (i : Nat) (n : Int) (hC : CP y L F O G σ) (hi : i < zn σ) (hn : -1 ≤ n ∧ n ≤ 99) : Met l yX3_keyOrRefuse (.code yX3_keyOrRefuse cX3_keyOrRefuse 3 (some .int) :: Tt) ({ frames := 2, cells := 0, slots := 0, locals := 42 }) (PcM D y L F sz [.ref ((gbg G)), .ref ((grh G i)), .int (iI n)]) (cMi D (AL L sz) (fun r L1 F1 => L = L1 ∧ CP y L F1 O G (kor σ n) ∧ r = korR (zod σ i) n ∧ OE O F F1)) 0 0 (AL L sz) := by
  have hO : OE O F F := fun _ _ => rfl
  refine q_ofM (lv := [(0, .ref ((gbg G))), (1, .ref ((grh G i))), (2, .int (iI n))]) (by decide) (Nat.le_of_ble_eq_true rfl) rfl (fun p e s m below meth c C0 hret hlk hnm hA hP hD hS ls hl => ?_)
  have hx := C0.1.1
  have hb := C0.1.2.1
  have hts := C0.1.2.2.2.2
  refine lv_iload_n hx hb dX3_keyOrRefuse_0 rfl (lv_at hl 2 rfl) ?_
  refine q_iconst hx hb dX3_keyOrRefuse_1 ?_
  refine q_icmp_ne hx hb dX3_keyOrRefuse_2 (tgt := 12) (by decide) (by omega) (by omega) (fun c1 => ?_) (fun c1 => ?_)
  · refine lv_aload_n hx hb dX3_keyOrRefuse_12 rfl (lv_at hl 1 rfl) ?_
    refine lv_iload_n hx hb dX3_keyOrRefuse_13 rfl (lv_at hl 2 rfl) ?_
    refine q_vS C0 lX3_132 (c_X0_keyOf l D y L F (grh G i) (grw G i) (zod σ i) ((zst σ i).1) ((zst σ i).2.1) ((zst σ i).2.2) n (CP_r hC hi) (by omega)) ⟨rfl, rfl⟩ rfl hP (CP_r hC hi).1 (CP_r hC hi).2.1 rfl rfl rfl hl rfl (Nat.le_of_ble_eq_true rfl) dX3_keyOrRefuse_14 ⟨Nat.zero_le _, Nat.zero_le _⟩ (fun r2 e_r2 => ?_)
    subst e_r2
    have b_3 := @keyR_b (zod σ i) n (by omega)
    exact q_retMi C0 hret rfl hlk dX3_keyOrRefuse_17 hP hD hS (⟨rfl, by unfold kor; first | (rw [if_pos (by omega)]; exact hC) | (rw [if_neg (by omega)]; exact hC), by unfold korR; first | rw [if_pos (by omega)] | rw [if_neg (by omega)], hO⟩)
  · refine lv_aload_n hx hb dX3_keyOrRefuse_5 rfl (lv_at hl 0 rfl) ?_
    refine q_vMi C0 lX3_63 (c_X3_refuse l D y L F _ O G σ hC) ⟨rfl, rfl⟩ rfl hP hD hS hA hC.1.1 hC.1.2 rfl rfl rfl hl rfl (Nat.le_of_ble_eq_true rfl) dX3_keyOrRefuse_6 ⟨Nat.le_of_ble_eq_true rfl, Nat.le_of_ble_eq_true rfl⟩ (fun r4 H locs L5 F5 hP hD hS hz5 hp5 => ?_)
    obtain ⟨eL, hC, er, hO1⟩ := hp5
    subst eL
    subst er
    have hO := hO.tr hO1
    refine lv_goto (tgt := 17) hx hb dX3_keyOrRefuse_9 (by decide) ?_
    exact q_retMi C0 hret rfl hlk dX3_keyOrRefuse_17 hP hD hS (⟨rfl, by unfold kor; first | (rw [if_pos (by omega)]; exact hC) | (rw [if_neg (by omega)]; exact hC), by unfold korR; first | rw [if_pos (by omega)] | rw [if_neg (by omega)], hO⟩)
set_option maxHeartbeats 800000 in
set_option maxRecDepth 100000 in
theorem c_X3_builtOrder (l : Launch) (D : va_G) (y : Nat → ClassId) (L : List Nat) (F : Nat → va_E) (h : Nat) (w : Nat) (o : Int) (k : Int) (g : Int) (f : Int → Int) (n : Int) (hR : Rw y L F h w o k g f) (hn : -2147483648 ≤ n ∧ n ≤ 2147483647) : Met l yX3_builtOrder (.code yX3_builtOrder cX3_builtOrder 2 (some .int) :: Tt) ({ frames := 0, cells := 0, slots := 0, locals := 0 }) (PcR D y L F [.ref h, .int (iI n)]) (cS (fun r => r = bo n o)) 0 0 (fun _ => False) := by
  have hR0 := hR
  obtain ⟨ha, hF, hw, hFw, ho, hfb⟩ := hR0
  refine q_ofR (lv := [(0, .ref h), (1, .int (iI n))]) (by decide) (Nat.le_of_ble_eq_true rfl) rfl (fun p e s m below meth c C0 hret hlk hP ls hl => ?_)
  have hx := C0.1.1
  have hb := C0.1.2.1
  have hts := C0.1.2.2.2.2
  refine lv_iload_n hx hb dX3_builtOrder_0 rfl (lv_at hl 1 rfl) ?_
  refine q_iconst hx hb dX3_builtOrder_1 ?_
  refine q_icmp_ge hx hb dX3_builtOrder_2 (tgt := 12) (by decide) (by omega) (by omega) (fun c1 => ?_) (fun c1 => ?_)
  · refine lv_iload_n hx hb dX3_builtOrder_12 rfl (lv_at hl 1 rfl) ?_
    refine q_iconst hx hb dX3_builtOrder_13 ?_
    refine q_isub hx hb dX3_builtOrder_14 ?_
    exact q_iretS C0 hret hlk dX3_builtOrder_15 rfl (by unfold bo; first | rw [if_pos (by omega)] | rw [if_neg (by omega)])
  · refine lv_aload_n hx hb dX3_builtOrder_5 rfl (lv_at hl 0 rfl) ?_
    refine q_get C0 iX0 hP ha hF rfl 0 (by decide) flX3_74 rfl rfl dX3_builtOrder_6 ?_
    refine lv_goto (tgt := 15) hx hb dX3_builtOrder_9 (by decide) ?_
    exact q_iretS C0 hret hlk dX3_builtOrder_15 rfl (by unfold bo; first | rw [if_pos (by omega)] | rw [if_neg (by omega)])
set_option maxHeartbeats 800000 in
set_option maxRecDepth 100000 in
theorem c_X3_bookFact (l : Launch) (D : va_G) (y : Nat → ClassId) (L : List Nat) (F : Nat → va_E) (h : Nat) (w : Nat) (o : Int) (k : Int) (g : Int) (f : Int → Int) (n : Int) (hR : Rw y L F h w o k g f) (hn : -2147483648 ≤ n ∧ n ≤ 2147483647) (hk : -1000000 ≤ k ∧ k ≤ 1000000) : Met l yX3_bookFact (.code yX3_bookFact cX3_bookFact 2 (some .int) :: Tt) ({ frames := 3, cells := 0, slots := 0, locals := 64 }) (PcR D y L F [.ref h, .int (iI n)]) (cS (fun r => r = bfact o k f n)) 0 0 (fun _ => False) := by
  have hR0 := hR
  obtain ⟨ha, hF, hw, hFw, ho, hfb⟩ := hR0
  refine q_ofR (lv := [(0, .ref h), (1, .int (iI n))]) (by decide) (Nat.le_of_ble_eq_true rfl) rfl (fun p e s m below meth c C0 hret hlk hP ls hl => ?_)
  have hx := C0.1.1
  have hb := C0.1.2.1
  have hts := C0.1.2.2.2.2
  refine lv_iload_n hx hb dX3_bookFact_0 rfl (lv_at hl 1 rfl) ?_
  rcases (show n = 0 ∨ n = 1 ∨ n = 2 ∨ (n < 0 ∨ 2 < n) by omega) with sw1 | sw1 | sw1 | sw1
  · refine lv_tableIn (tgt := 28) (off := 27) hx hb dX3_bookFact_1 (by rw [iI_toInt (by omega)]; omega) (by rw [iI_toInt (by omega)]; omega) (by rw [iI_toInt (by omega), sw1]; rfl) (by decide) ?_
    refine lv_aload_n hx hb dX3_bookFact_28 rfl (lv_at hl 0 rfl) ?_
    refine q_get C0 iX0 hP ha hF rfl 2 (by decide) flX3_49 rfl rfl dX3_bookFact_29 ?_
    exact q_iretS C0 hret hlk dX3_bookFact_32 rfl (by unfold bfact; (repeat' split) <;> first | rfl | omega)
  · refine lv_tableIn (tgt := 33) (off := 32) hx hb dX3_bookFact_1 (by rw [iI_toInt (by omega)]; omega) (by rw [iI_toInt (by omega)]; omega) (by rw [iI_toInt (by omega), sw1]; rfl) (by decide) ?_
    refine lv_aload_n hx hb dX3_bookFact_33 rfl (lv_at hl 0 rfl) ?_
    refine q_get C0 iX0 hP ha hF rfl 0 (by decide) flX3_74 rfl rfl dX3_bookFact_34 ?_
    exact q_iretS C0 hret hlk dX3_bookFact_37 rfl (by unfold bfact; (repeat' split) <;> first | rfl | omega)
  · refine lv_tableIn (tgt := 38) (off := 37) hx hb dX3_bookFact_1 (by rw [iI_toInt (by omega)]; omega) (by rw [iI_toInt (by omega)]; omega) (by rw [iI_toInt (by omega), sw1]; rfl) (by decide) ?_
    refine lv_aload_n hx hb dX3_bookFact_38 rfl (lv_at hl 0 rfl) ?_
    refine q_vS C0 lX3_300 (c_X0_hash l D y L F h w o k g f hR) ⟨rfl, rfl⟩ rfl hP ha hF rfl rfl rfl hl rfl (Nat.le_of_ble_eq_true rfl) dX3_bookFact_39 ⟨Nat.zero_le _, Nat.zero_le _⟩ (fun r2 e_r2 => ?_)
    subst e_r2
    exact q_iretS C0 hret hlk dX3_bookFact_42 rfl (by unfold bfact; (repeat' split) <;> first | rfl | omega)
  · refine lv_tableOut (tgt := 43) hx hb dX3_bookFact_1 (by rw [iI_toInt (by omega)]; omega) (by decide) ?_
    refine lv_aload_n hx hb dX3_bookFact_43 rfl (lv_at hl 0 rfl) ?_
    refine q_get C0 iX0 hP ha hF rfl 2 (by decide) flX3_49 rfl rfl dX3_bookFact_44 ?_
    refine q_if_ne hx hb dX3_bookFact_47 (tgt := 54) (by decide) (by omega) (fun c3 => ?_) (fun c3 => ?_)
    · refine q_iconst hx hb dX3_bookFact_54 ?_
      exact q_iretS C0 hret hlk dX3_bookFact_55 rfl (by unfold bfact; (repeat' split) <;> first | rfl | omega)
    · refine q_iconst hx hb dX3_bookFact_50 ?_
      refine lv_goto (tgt := 55) hx hb dX3_bookFact_51 (by decide) ?_
      exact q_iretS C0 hret hlk dX3_bookFact_55 rfl (by unfold bfact; (repeat' split) <;> first | rfl | omega)
set_option maxHeartbeats 800000 in
set_option maxRecDepth 100000 in
theorem c_X3_shelfFact (l : Launch) (D : va_G) (y : Nat → ClassId) (L : List Nat) (F : Nat → va_E) (h : Nat) (w : Nat) (o : Int) (k : Int) (g : Int) (f : Int → Int) (n : Int) (hR : Rw y L F h w o k g f) (hn : -2147483648 ≤ n ∧ n ≤ 2147483647) : Met l yX3_shelfFact (.code yX3_shelfFact cX3_shelfFact 2 (some .int) :: Tt) ({ frames := 3, cells := 0, slots := 0, locals := 64 }) (PcR D y L F [.ref h, .int (iI n)]) (cS (fun r => r = sfact o k f n)) 0 0 (fun _ => False) := by
  have hR0 := hR
  obtain ⟨ha, hF, hw, hFw, ho, hfb⟩ := hR0
  refine q_ofR (lv := [(0, .ref h), (1, .int (iI n))]) (by decide) (Nat.le_of_ble_eq_true rfl) rfl (fun p e s m below meth c C0 hret hlk hP ls hl => ?_)
  have hx := C0.1.1
  have hb := C0.1.2.1
  have hts := C0.1.2.2.2.2
  refine lv_iload_n hx hb dX3_shelfFact_0 rfl (lv_at hl 1 rfl) ?_
  rcases (show n = 0 ∨ n = 1 ∨ (n < 0 ∨ 1 < n) by omega) with sw1 | sw1 | sw1
  · refine lv_lookup (tgt := 28) (off := 27) hx hb dX3_shelfFact_1 (by decide) (by rw [iI_toInt (by omega), sw1]; rfl) (by decide) ?_
    refine lv_aload_n hx hb dX3_shelfFact_28 rfl (lv_at hl 0 rfl) ?_
    refine q_get C0 iX0 hP ha hF rfl 2 (by decide) flX3_49 rfl rfl dX3_shelfFact_29 ?_
    exact q_iretS C0 hret hlk dX3_shelfFact_32 rfl (by unfold sfact; (repeat' split) <;> first | rfl | omega)
  · refine lv_lookup (tgt := 33) (off := 32) hx hb dX3_shelfFact_1 (by decide) (by rw [iI_toInt (by omega), sw1]; rfl) (by decide) ?_
    refine lv_aload_n hx hb dX3_shelfFact_33 rfl (lv_at hl 0 rfl) ?_
    refine q_get C0 iX0 hP ha hF rfl 0 (by decide) flX3_74 rfl rfl dX3_shelfFact_34 ?_
    exact q_iretS C0 hret hlk dX3_shelfFact_37 rfl (by unfold sfact; (repeat' split) <;> first | rfl | omega)
  · refine lv_lookup (tgt := 38) (off := 37) hx hb dX3_shelfFact_1 (by decide) (by rw [iI_toInt (by omega), Op.lookupswitch.offset_cons, if_neg (by omega), Op.lookupswitch.offset_cons, if_neg (by omega)]; rfl) (by decide) ?_
    refine lv_aload_n hx hb dX3_shelfFact_38 rfl (lv_at hl 0 rfl) ?_
    refine q_vS C0 lX3_303 (c_X0_sumOfKeys l D y L F h w o k g f hR) ⟨rfl, rfl⟩ rfl hP ha hF rfl rfl rfl hl rfl (Nat.le_of_ble_eq_true rfl) dX3_shelfFact_39 ⟨Nat.zero_le _, Nat.zero_le _⟩ (fun r2 e_r2 => ?_)
    subst e_r2
    exact q_iretS C0 hret hlk dX3_shelfFact_42 rfl (by unfold sfact; (repeat' split) <;> first | rfl | omega)
set_option maxHeartbeats 800000 in
set_option maxRecDepth 100000 in
theorem c_X3_houseFact (l : Launch) (D : va_G) (y : Nat → ClassId) (L : List Nat) (F : Nat → va_E) (O : Nat → Prop) (G : CG) (σ : CS) (n : Int) (hC : CP y L F O G σ) (hn : -2147483648 ≤ n ∧ n ≤ 2147483647) : Met l yX3_houseFact (.code yX3_houseFact cX3_houseFact 2 (some .int) :: Tt) ({ frames := 0, cells := 0, slots := 0, locals := 0 }) (PcR D y L F [.ref ((gbg G)), .int (iI n)]) (cS (fun r => r = hfact σ n)) 0 0 (fun _ => False) := by
  refine q_ofR (lv := [(0, .ref ((gbg G))), (1, .int (iI n))]) (by decide) (Nat.le_of_ble_eq_true rfl) rfl (fun p e s m below meth c C0 hret hlk hP ls hl => ?_)
  have hx := C0.1.1
  have hb := C0.1.2.1
  have hts := C0.1.2.2.2.2
  refine lv_iload_n hx hb dX3_houseFact_0 rfl (lv_at hl 1 rfl) ?_
  rcases (show n = 0 ∨ n = 1 ∨ n = 2 ∨ (n < 0 ∨ 2 < n) by omega) with sw1 | sw1 | sw1 | sw1
  · refine lv_tableIn (tgt := 28) (off := 27) hx hb dX3_houseFact_1 (by rw [iI_toInt (by omega)]; omega) (by rw [iI_toInt (by omega)]; omega) (by rw [iI_toInt (by omega), sw1]; rfl) (by decide) ?_
    refine lv_aload_n hx hb dX3_houseFact_28 rfl (lv_at hl 0 rfl) ?_
    refine q_get C0 iX3 hP hC.1.1 hC.1.2 rfl 4 (by decide) flX3_45 rfl rfl dX3_houseFact_29 ?_
    exact q_iretS C0 hret hlk dX3_houseFact_32 rfl (by unfold hfact; (repeat' split) <;> first | rfl | omega)
  · refine lv_tableIn (tgt := 33) (off := 32) hx hb dX3_houseFact_1 (by rw [iI_toInt (by omega)]; omega) (by rw [iI_toInt (by omega)]; omega) (by rw [iI_toInt (by omega), sw1]; rfl) (by decide) ?_
    refine lv_aload_n hx hb dX3_houseFact_33 rfl (lv_at hl 0 rfl) ?_
    refine q_get C0 iX3 hP hC.1.1 hC.1.2 rfl 5 (by decide) flX3_219 rfl rfl dX3_houseFact_34 ?_
    exact q_iretS C0 hret hlk dX3_houseFact_37 rfl (by unfold hfact; (repeat' split) <;> first | rfl | omega)
  · refine lv_tableIn (tgt := 38) (off := 37) hx hb dX3_houseFact_1 (by rw [iI_toInt (by omega)]; omega) (by rw [iI_toInt (by omega)]; omega) (by rw [iI_toInt (by omega), sw1]; rfl) (by decide) ?_
    refine lv_aload_n hx hb dX3_houseFact_38 rfl (lv_at hl 0 rfl) ?_
    refine q_get C0 iX3 hP hC.1.1 hC.1.2 rfl 6 (by decide) flX3_294 rfl rfl dX3_houseFact_39 ?_
    exact q_iretS C0 hret hlk dX3_houseFact_42 rfl (by unfold hfact; (repeat' split) <;> first | rfl | omega)
  · refine lv_tableOut (tgt := 43) hx hb dX3_houseFact_1 (by rw [iI_toInt (by omega)]; omega) (by decide) ?_
    refine lv_aload_n hx hb dX3_houseFact_43 rfl (lv_at hl 0 rfl) ?_
    refine q_get C0 iX3 hP hC.1.1 hC.1.2 rfl 7 (by decide) flX3_241 rfl rfl dX3_houseFact_44 ?_
    exact q_iretS C0 hret hlk dX3_houseFact_47 rfl (by unfold hfact; (repeat' split) <;> first | rfl | omega)
