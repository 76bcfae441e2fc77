set_option maxHeartbeats 800000 in
set_option maxRecDepth 100000 in
theorem c_X0_turned (l : Launch) (D : va_G) (y : Nat → ClassId) (L : List Nat) (F : Nat → va_E) (h : Nat) (w : Nat) (o : Int) (k : Int) (g : Int) (f : Int → Int) (n : Int) (hR : Rw y L F h w o k g f) (hn : 0 ≤ n ∧ n ≤ 99) : Met l yX0_turned (.code yX0_turned cX0_turned 2 (some .int) :: Tt) ({ frames := 0, cells := 0, slots := 0, locals := 0 }) (PcR D y L F [.ref h, .int (iI n)]) (cS (fun r => r = turn o n)) 0 0 (fun _ => False) := by
  have hR0 := hR
  obtain ⟨ha, hF, hw, hFw, ho, hfb⟩ := hR0
  refine q_ofR (lv := [(0, .ref h), (1, .int (iI n))]) (by decide) (Nat.le_of_ble_eq_true rfl) rfl (fun p e s m below meth c C0 hret hlk hP ls hl => ?_)
  have hx := C0.1.1
  have hb := C0.1.2.1
  have hts := C0.1.2.2.2.2
  refine lv_aload_n hx hb dX0_turned_0 rfl (lv_at hl 0 rfl) ?_
  refine q_get C0 iX0 hP ha hF rfl 0 (by decide) flX0_9 rfl rfl dX0_turned_1 ?_
  refine q_if_ne hx hb dX0_turned_4 (tgt := 9) (by decide) (by omega) (fun c1 => ?_) (fun c1 => ?_)
  · refine lv_aload_n hx hb dX0_turned_9 rfl (lv_at hl 0 rfl) ?_
    refine q_get C0 iX0 hP ha hF rfl 0 (by decide) flX0_9 rfl rfl dX0_turned_10 ?_
    refine q_iconst hx hb dX0_turned_13 ?_
    refine q_icmp_ne hx hb dX0_turned_14 (tgt := 24) (by decide) (by omega) (by omega) (fun c2 => ?_) (fun c2 => ?_)
    · refine lv_iload_n hx hb dX0_turned_24 rfl (lv_at hl 1 rfl) ?_
      refine q_bipush hx hb dX0_turned_25 (by decide) ?_
      refine q_irem hx hb dX0_turned_27 (by omega) (by omega) ?_
      refine q_bipush hx hb dX0_turned_28 (by decide) ?_
      refine q_imul hx hb dX0_turned_30 ?_
      refine lv_iload_n hx hb dX0_turned_31 rfl (lv_at hl 1 rfl) ?_
      refine q_bipush hx hb dX0_turned_32 (by decide) ?_
      refine q_idiv hx hb dX0_turned_34 (by omega) (by omega) ?_
      refine q_iadd hx hb dX0_turned_35 ?_
      exact q_iretS C0 hret hlk dX0_turned_36 rfl (by unfold turn; (repeat' split) <;> omega)
    · refine q_bipush hx hb dX0_turned_17 (by decide) ?_
      refine lv_iload_n hx hb dX0_turned_19 rfl (lv_at hl 1 rfl) ?_
      refine q_isub hx hb dX0_turned_20 ?_
      refine lv_goto (tgt := 36) hx hb dX0_turned_21 (by decide) ?_
      exact q_iretS C0 hret hlk dX0_turned_36 rfl (by unfold turn; (repeat' split) <;> omega)
  · refine lv_iload_n hx hb dX0_turned_7 rfl (lv_at hl 1 rfl) ?_
    exact q_iretS C0 hret hlk dX0_turned_8 rfl (by unfold turn; (repeat' split) <;> omega)
set_option maxHeartbeats 800000 in
set_option maxRecDepth 100000 in
theorem c_X0_rankOf (l : Launch) (D : va_G) (y : Nat → ClassId) (L : List Nat) (F : Nat → va_E) (h : Nat) (w : Nat) (o : Int) (k : Int) (g : Int) (f : Int → Int) (n : Int) (hR : Rw y L F h w o k g f) (hn : 0 ≤ n ∧ n ≤ 99) : Met l yX0_rankOf (.code yX0_rankOf cX0_rankOf 2 (some .int) :: Tt) ({ frames := 1, cells := 0, slots := 0, locals := 21 }) (PcR D y L F [.ref h, .int (iI n)]) (cS (fun r => r = turn o n)) 0 0 (fun _ => False) := by
  have hR0 := hR
  obtain ⟨ha, hF, hw, hFw, ho, hfb⟩ := hR0
  refine q_ofR (lv := [(0, .ref h), (1, .int (iI n))]) (by decide) (Nat.le_of_ble_eq_true rfl) rfl (fun p e s m below meth c C0 hret hlk hP ls hl => ?_)
  have hx := C0.1.1
  have hb := C0.1.2.1
  have hts := C0.1.2.2.2.2
  refine lv_aload_n hx hb dX0_rankOf_0 rfl (lv_at hl 0 rfl) ?_
  refine lv_iload_n hx hb dX0_rankOf_1 rfl (lv_at hl 1 rfl) ?_
  refine q_vS C0 lX0_25 (c_X0_turned l D y L F h w o k g f n hR (by omega)) ⟨rfl, rfl⟩ rfl hP ha hF rfl rfl rfl hl rfl (Nat.le_of_ble_eq_true rfl) dX0_rankOf_2 ⟨Nat.zero_le _, Nat.zero_le _⟩ (fun r1 e_r1 => ?_)
  subst e_r1
  have b_2 := @turn_b o n (by omega)
  exact q_iretS C0 hret hlk dX0_rankOf_5 rfl (rfl)
set_option maxHeartbeats 800000 in
set_option maxRecDepth 100000 in
theorem c_X0_keyOf (l : Launch) (D : va_G) (y : Nat → ClassId) (L : List Nat) (F : Nat → va_E) (h : Nat) (w : Nat) (o : Int) (k : Int) (g : Int) (f : Int → Int) (n : Int) (hR : Rw y L F h w o k g f) (hn : -1 ≤ n ∧ n ≤ 99) : Met l yX0_keyOf (.code yX0_keyOf cX0_keyOf 2 (some .int) :: Tt) ({ frames := 1, cells := 0, slots := 0, locals := 21 }) (PcR D y L F [.ref h, .int (iI n)]) (cS (fun r => r = keyR o n)) 0 0 (fun _ => False) := by
  have hR0 := hR
  obtain ⟨ha, hF, hw, hFw, ho, hfb⟩ := hR0
  refine q_ofR (lv := [(0, .ref h), (1, .int (iI n))]) (by decide) (Nat.le_of_ble_eq_true rfl) rfl (fun p e s m below meth c C0 hret hlk hP ls hl => ?_)
  have hx := C0.1.1
  have hb := C0.1.2.1
  have hts := C0.1.2.2.2.2
  refine lv_iload_n hx hb dX0_keyOf_0 rfl (lv_at hl 1 rfl) ?_
  refine q_iconst hx hb dX0_keyOf_1 ?_
  refine q_icmp_ne hx hb dX0_keyOf_2 (tgt := 9) (by decide) (by omega) (by omega) (fun c1 => ?_) (fun c1 => ?_)
  · refine lv_aload_n hx hb dX0_keyOf_9 rfl (lv_at hl 0 rfl) ?_
    refine lv_iload_n hx hb dX0_keyOf_10 rfl (lv_at hl 1 rfl) ?_
    refine q_vS C0 lX0_25 (c_X0_turned l D y L F h w o k g f n hR (by omega)) ⟨rfl, rfl⟩ rfl hP ha hF rfl rfl rfl hl rfl (Nat.le_of_ble_eq_true rfl) dX0_keyOf_11 ⟨Nat.zero_le _, Nat.zero_le _⟩ (fun r2 e_r2 => ?_)
    subst e_r2
    have b_3 := @turn_b o n (by omega)
    exact q_iretS C0 hret hlk dX0_keyOf_14 rfl (by unfold keyR; split <;> first | rfl | omega)
  · refine q_iconst hx hb dX0_keyOf_5 ?_
    refine lv_goto (tgt := 14) hx hb dX0_keyOf_6 (by decide) ?_
    exact q_iretS C0 hret hlk dX0_keyOf_14 rfl (by unfold keyR; split <;> first | rfl | omega)
set_option maxHeartbeats 800000 in
set_option maxRecDepth 100000 in
theorem c_X0_isAhead (l : Launch) (D : va_G) (y : Nat → ClassId) (L : List Nat) (F : Nat → va_E) (h : Nat) (w : Nat) (o : Int) (k : Int) (g : Int) (f : Int → Int) (n : Int) (n2 : Int) (hR : Rw y L F h w o k g f) (hn : 0 ≤ n ∧ n ≤ 99) (hn2 : 0 ≤ n2 ∧ n2 ≤ 99) : Met l yX0_isAhead (.code yX0_isAhead cX0_isAhead 3 (some .boolean) :: Tt) ({ frames := 2, cells := 0, slots := 0, locals := 42 }) (PcR D y L F [.ref h, .int (iI n), .int (iI n2)]) (cS (fun r => r = ahd o n n2)) 0 0 (fun _ => False) := by
  have hR0 := hR
  obtain ⟨ha, hF, hw, hFw, ho, hfb⟩ := hR0
  refine q_ofR (lv := [(0, .ref h), (1, .int (iI n)), (2, .int (iI n2))]) (by decide) (Nat.le_of_ble_eq_true rfl) rfl (fun p e s m below meth c C0 hret hlk hP ls hl => ?_)
  have hx := C0.1.1
  have hb := C0.1.2.1
  have hts := C0.1.2.2.2.2
  refine lv_aload_n hx hb dX0_isAhead_0 rfl (lv_at hl 0 rfl) ?_
  refine lv_iload_n hx hb dX0_isAhead_1 rfl (lv_at hl 1 rfl) ?_
  refine q_vS C0 lX0_29 (c_X0_rankOf l D y L F h w o k g f n hR (by omega)) ⟨rfl, rfl⟩ rfl hP ha hF rfl rfl rfl hl rfl (Nat.le_of_ble_eq_true rfl) dX0_isAhead_2 ⟨Nat.zero_le _, Nat.zero_le _⟩ (fun r1 e_r1 => ?_)
  subst e_r1
  have b_2 := @turn_b o n (by omega)
  refine lv_aload_n hx hb dX0_isAhead_5 rfl (lv_at hl 0 rfl) ?_
  refine lv_iload_n hx hb dX0_isAhead_6 rfl (lv_at hl 2 rfl) ?_
  refine q_vS C0 lX0_29 (c_X0_rankOf l D y L F h w o k g f n2 hR (by omega)) ⟨rfl, rfl⟩ rfl hP ha hF rfl rfl rfl hl rfl (Nat.le_of_ble_eq_true rfl) dX0_isAhead_7 ⟨Nat.zero_le _, Nat.zero_le _⟩ (fun r3 e_r3 => ?_)
  subst e_r3
  have b_4 := @turn_b o n2 (by omega)
  refine q_icmp_ge hx hb dX0_isAhead_10 (tgt := 17) (by decide) (by omega) (by omega) (fun c5 => ?_) (fun c5 => ?_)
  · refine q_iconst hx hb dX0_isAhead_17 ?_
    exact q_iretS C0 hret hlk dX0_isAhead_18 (by decide) (by unfold ahd; split <;> omega)
  · refine q_iconst hx hb dX0_isAhead_13 ?_
    refine lv_goto (tgt := 18) hx hb dX0_isAhead_14 (by decide) ?_
    exact q_iretS C0 hret hlk dX0_isAhead_18 (by decide) (by unfold ahd; split <;> omega)
set_option maxHeartbeats 800000 in
set_option maxRecDepth 100000 in
theorem c_X0_worthAt (l : Launch) (D : va_G) (y : Nat → ClassId) (L : List Nat) (F : Nat → va_E) (h : Nat) (w : Nat) (o : Int) (k : Int) (g : Int) (f : Int → Int) (n : Int) (hR : Rw y L F h w o k g f) (hn : -2147483648 ≤ n ∧ n ≤ 2147483647) : Met l yX0_worthAt (.code yX0_worthAt cX0_worthAt 2 (some .int) :: Tt) ({ frames := 0, cells := 0, slots := 0, locals := 0 }) (PcR D y L F [.ref h, .int (iI n)]) (cS (fun r => r = wAt f n)) 0 0 (fun _ => False) := by
  have hR0 := hR
  obtain ⟨ha, hF, hw, hFw, ho, hfb⟩ := hR0
  refine q_ofR (lv := [(0, .ref h), (1, .int (iI n))]) (by decide) (Nat.le_of_ble_eq_true rfl) rfl (fun p e s m below meth c C0 hret hlk hP ls hl => ?_)
  have hx := C0.1.1
  have hb := C0.1.2.1
  have hts := C0.1.2.2.2.2
  refine lv_iload_n hx hb dX0_worthAt_0 rfl (lv_at hl 1 rfl) ?_
  refine q_if_lt hx hb dX0_worthAt_1 (tgt := 10) (by decide) (by omega) (fun c1 => ?_) (fun c1 => ?_)
  · refine q_iconst hx hb dX0_worthAt_10 ?_
    refine lv_goto (tgt := 20) hx hb dX0_worthAt_11 (by decide) ?_
    exact q_iretS C0 hret hlk dX0_worthAt_20 rfl (by unfold wAt; split <;> first | rfl | omega)
  · refine lv_iload_n hx hb dX0_worthAt_4 rfl (lv_at hl 1 rfl) ?_
    refine q_bipush hx hb dX0_worthAt_5 (by decide) ?_
    refine q_icmp_lt hx hb dX0_worthAt_7 (tgt := 14) (by decide) (by omega) (by omega) (fun c2 => ?_) (fun c2 => ?_)
    · refine lv_aload_n hx hb dX0_worthAt_14 rfl (lv_at hl 0 rfl) ?_
      refine q_get C0 iX0 hP ha hF rfl 1 (by decide) flX0_15 rfl rfl dX0_worthAt_15 ?_
      refine lv_iload_n hx hb dX0_worthAt_18 rfl (lv_at hl 1 rfl) ?_
      refine q_iald C0 hP hw hFw (by omega) (by decide) dX0_worthAt_19 ?_
      have b_3 := hfb n
      exact q_iretS C0 hret hlk dX0_worthAt_20 rfl (by unfold wAt; split <;> first | rfl | omega)
    · refine q_iconst hx hb dX0_worthAt_10 ?_
      refine lv_goto (tgt := 20) hx hb dX0_worthAt_11 (by decide) ?_
      exact q_iretS C0 hret hlk dX0_worthAt_20 rfl (by unfold wAt; split <;> first | rfl | omega)
set_option maxHeartbeats 800000 in
set_option maxRecDepth 100000 in
theorem c_X0_isThere (l : Launch) (D : va_G) (y : Nat → ClassId) (L : List Nat) (F : Nat → va_E) (h : Nat) (w : Nat) (o : Int) (k : Int) (g : Int) (f : Int → Int) (n : Int) (hR : Rw y L F h w o k g f) (hn : -2147483648 ≤ n ∧ n ≤ 2147483647) : Met l yX0_isThere (.code yX0_isThere cX0_isThere 2 (some .boolean) :: Tt) ({ frames := 0, cells := 0, slots := 0, locals := 0 }) (PcR D y L F [.ref h, .int (iI n)]) (cS (fun r => r = isT f n)) 0 0 (fun _ => False) := by
  have hR0 := hR
  obtain ⟨ha, hF, hw, hFw, ho, hfb⟩ := hR0
  refine q_ofR (lv := [(0, .ref h), (1, .int (iI n))]) (by decide) (Nat.le_of_ble_eq_true rfl) rfl (fun p e s m below meth c C0 hret hlk hP ls hl => ?_)
  have hx := C0.1.1
  have hb := C0.1.2.1
  have hts := C0.1.2.2.2.2
  refine lv_iload_n hx hb dX0_isThere_0 rfl (lv_at hl 1 rfl) ?_
  refine q_if_lt hx hb dX0_isThere_1 (tgt := 24) (by decide) (by omega) (fun c1 => ?_) (fun c1 => ?_)
  · refine q_iconst hx hb dX0_isThere_24 ?_
    exact q_iretS C0 hret hlk dX0_isThere_25 (by decide) (by unfold isT; split <;> omega)
  · refine lv_iload_n hx hb dX0_isThere_4 rfl (lv_at hl 1 rfl) ?_
    refine q_bipush hx hb dX0_isThere_5 (by decide) ?_
    refine q_icmp_ge hx hb dX0_isThere_7 (tgt := 24) (by decide) (by omega) (by omega) (fun c2 => ?_) (fun c2 => ?_)
    · refine q_iconst hx hb dX0_isThere_24 ?_
      exact q_iretS C0 hret hlk dX0_isThere_25 (by decide) (by unfold isT; split <;> omega)
    · refine lv_aload_n hx hb dX0_isThere_10 rfl (lv_at hl 0 rfl) ?_
      refine q_get C0 iX0 hP ha hF rfl 1 (by decide) flX0_15 rfl rfl dX0_isThere_11 ?_
      refine lv_iload_n hx hb dX0_isThere_14 rfl (lv_at hl 1 rfl) ?_
      refine q_iald C0 hP hw hFw (by omega) (by decide) dX0_isThere_15 ?_
      have b_3 := hfb n
      refine q_iconst hx hb dX0_isThere_16 ?_
      refine q_icmp_eq hx hb dX0_isThere_17 (tgt := 24) (by decide) (by omega) (by omega) (fun c4 => ?_) (fun c4 => ?_)
      · refine q_iconst hx hb dX0_isThere_24 ?_
        exact q_iretS C0 hret hlk dX0_isThere_25 (by decide) (by unfold isT; split <;> omega)
      · refine q_iconst hx hb dX0_isThere_20 ?_
        refine lv_goto (tgt := 25) hx hb dX0_isThere_21 (by decide) ?_
        exact q_iretS C0 hret hlk dX0_isThere_25 (by decide) (by unfold isT; split <;> omega)
set_option maxHeartbeats 800000 in
set_option maxRecDepth 100000 in
theorem c_X0_pairAt (l : Launch) (D : va_G) (y : Nat → ClassId) (L : List Nat) (F : Nat → va_E) (h : Nat) (w : Nat) (o : Int) (k : Int) (g : Int) (f : Int → Int) (n : Int) (hR : Rw y L F h w o k g f) (hn : -2147483648 ≤ n ∧ n ≤ 2147483647) : Met l yX0_pairAt (.code yX0_pairAt cX0_pairAt 2 (some .int) :: Tt) ({ frames := 2, cells := 0, slots := 0, locals := 42 }) (PcR D y L F [.ref h, .int (iI n)]) (cS (fun r => r = pairR o f n)) 0 0 (fun _ => False) := by
  have hR0 := hR
  obtain ⟨ha, hF, hw, hFw, ho, hfb⟩ := hR0
  refine q_ofR (lv := [(0, .ref h), (1, .int (iI n))]) (by decide) (Nat.le_of_ble_eq_true rfl) rfl (fun p e s m below meth c C0 hret hlk hP ls hl => ?_)
  have hx := C0.1.1
  have hb := C0.1.2.1
  have hts := C0.1.2.2.2.2
  refine lv_aload_n hx hb dX0_pairAt_0 rfl (lv_at hl 0 rfl) ?_
  refine lv_iload_n hx hb dX0_pairAt_1 rfl (lv_at hl 1 rfl) ?_
  refine q_vS C0 lX0_32 (c_X0_isThere l D y L F h w o k g f n hR (by omega)) ⟨rfl, rfl⟩ rfl hP ha hF rfl rfl rfl hl rfl (Nat.le_of_ble_eq_true rfl) dX0_pairAt_2 ⟨Nat.zero_le _, Nat.zero_le _⟩ (fun r1 e_r1 => ?_)
  subst e_r1
  have b_2 := isT_b f n
  refine q_if_eq hx hb dX0_pairAt_5 (tgt := 25) (by decide) (by omega) (fun c3 => ?_) (fun c3 => ?_)
  · refine q_iconst hx hb dX0_pairAt_25 ?_
    exact q_iretS C0 hret hlk dX0_pairAt_26 rfl (by unfold pairR; split <;> first | rfl | omega)
  · have q_ := isT_in c3
    refine lv_aload_n hx hb dX0_pairAt_8 rfl (lv_at hl 0 rfl) ?_
    refine lv_iload_n hx hb dX0_pairAt_9 rfl (lv_at hl 1 rfl) ?_
    refine q_vS C0 lX0_36 (c_X0_keyOf l D y L F h w o k g f n hR (by omega)) ⟨rfl, rfl⟩ rfl hP ha hF rfl rfl rfl hl rfl (Nat.le_of_ble_eq_true rfl) dX0_pairAt_10 ⟨Nat.zero_le _, Nat.zero_le _⟩ (fun r4 e_r4 => ?_)
    subst e_r4
    have b_5 := @keyR_b o n (by omega)
    refine q_bipush hx hb dX0_pairAt_13 (by decide) ?_
    refine q_imul hx hb dX0_pairAt_15 ?_
    refine lv_aload_n hx hb dX0_pairAt_16 rfl (lv_at hl 0 rfl) ?_
    refine lv_iload_n hx hb dX0_pairAt_17 rfl (lv_at hl 1 rfl) ?_
    refine q_vS C0 lX0_39 (c_X0_worthAt l D y L F h w o k g f n hR (by omega)) ⟨rfl, rfl⟩ rfl hP ha hF rfl rfl rfl hl rfl (Nat.le_of_ble_eq_true rfl) dX0_pairAt_18 ⟨Nat.zero_le _, Nat.zero_le _⟩ (fun r6 e_r6 => ?_)
    subst e_r6
    have b_7 := @wAt_b f (hR.2.2.2.2.2) n
    refine q_iadd hx hb dX0_pairAt_21 ?_
    refine lv_goto (tgt := 26) hx hb dX0_pairAt_22 (by decide) ?_
    exact q_iretS C0 hret hlk dX0_pairAt_26 rfl (by unfold pairR; split <;> first | rfl | omega)
set_option maxHeartbeats 800000 in
set_option maxRecDepth 100000 in
theorem c_X0_firstInPart (l : Launch) (D : va_G) (y : Nat → ClassId) (L : List Nat) (F : Nat → va_E) (h : Nat) (w : Nat) (o : Int) (k : Int) (g : Int) (f : Int → Int) (lo : Int) (hi : Int) (hR : Rw y L F h w o k g f) (hlo : -1000 ≤ lo ∧ lo ≤ 1000) (hhi : -1000 ≤ hi ∧ hi ≤ 1000) : Met l yX0_firstInPart (.code yX0_firstInPart cX0_firstInPart 4 (some .int) :: Tt) ({ frames := 1, cells := 0, slots := 0, locals := 21 }) (PcR D y L F [.ref h, .int (iI lo), .int (iI hi)]) (cS (fun r => r = firP f lo hi)) 0 0 (fun _ => False) := by
  have hR0 := hR
  obtain ⟨ha, hF, hw, hFw, ho, hfb⟩ := hR0
  refine q_ofR (lv := [(0, .ref h), (1, .int (iI lo)), (2, .int (iI hi))]) (by decide) (Nat.le_of_ble_eq_true rfl) rfl (fun p e s m below meth c C0 hret hlk hP ls hl => ?_)
  have hx := C0.1.1
  have hb := C0.1.2.1
  have hts := C0.1.2.2.2.2
  refine lv_iload_n hx hb dX0_firstInPart_0 rfl (lv_at hl 1 rfl) ?_
  refine lv_istore_n (lv' := [(3, .int (iI lo)), (0, .ref h), (1, .int (iI lo)), (2, .int (iI hi))]) hx hb dX0_firstInPart_1 rfl hl (by decide) rfl (fun ls hl => ?_)
  have LP2 : ∀ (n_LP2 : Nat) (r : Int), (lo ≤ r ∧ r ≤ 1001) → (firP f lo hi = firP f r hi) → (hi + 1 - r).toNat = n_LP2 → ∀ ls : Array Slot, lv_has ls 4 [(0, .ref h), (1, .int (iI lo)), (2, .int (iI hi)), (3, .int (iI r))] → W p l e ({ frames := 1, cells := 0, slots := 0, locals := 21 } : Room) s m [.ref h, .int (iI lo), .int (iI hi)].toArray below meth c s.heap [] 0 0 (MQ below (cS (fun r => r = firP f lo hi)) [.ref h, .int (iI lo), .int (iI hi)].toArray s 0 0 (fun _ => False)) (F0 m 2 ls []) := by
    intro n_LP2
    induction n_LP2 using Nat.strongRecOn with
    | ind n_LP2 ih_LP2 =>
      intro r hr hI hm_LP2 ls hl
      refine lv_iload_n hx hb dX0_firstInPart_2 rfl (lv_at hl 3 rfl) ?_
      refine lv_iload_n hx hb dX0_firstInPart_3 rfl (lv_at hl 2 rfl) ?_
      refine q_icmp_gt hx hb dX0_firstInPart_4 (tgt := 23) (by decide) (by omega) (by omega) (fun c1 => ?_) (fun c1 => ?_)
      · refine q_iconst hx hb dX0_firstInPart_23 ?_
        exact q_iretS C0 hret hlk dX0_firstInPart_24 rfl (by rw [hI, firP_e (by omega)])
      · refine lv_aload_n hx hb dX0_firstInPart_7 rfl (lv_at hl 0 rfl) ?_
        refine lv_iload_n hx hb dX0_firstInPart_8 rfl (lv_at hl 3 rfl) ?_
        refine q_vS C0 lX0_32 (c_X0_isThere l D y L F h w o k g f r hR (by omega)) ⟨rfl, rfl⟩ rfl hP ha hF rfl rfl rfl hl rfl (Nat.le_of_ble_eq_true rfl) dX0_firstInPart_9 ⟨Nat.zero_le _, Nat.zero_le _⟩ (fun r2 e_r2 => ?_)
        subst e_r2
        have b_3 := isT_b f r
        refine q_if_eq hx hb dX0_firstInPart_12 (tgt := 17) (by decide) (by omega) (fun c4 => ?_) (fun c4 => ?_)
        · refine q_iinc (x := r) (n := 1) (lv' := [(3, .int (iI ((r + 1)))), (0, .ref h), (1, .int (iI lo)), (2, .int (iI hi))]) hx hb dX0_firstInPart_17 hl (k := 3) rfl (by decide) rfl (fun ls hl => ?_)
          refine lv_goto (tgt := 2) hx hb dX0_firstInPart_20 (by decide) ?_
          exact ih_LP2 _ (by omega) (r + 1) (by omega) (by rw [hI, firP_s (by omega), if_neg (by omega)]) rfl ls (lv_sub hl [1, 2, 3, 0] rfl)
        · refine lv_iload_n hx hb dX0_firstInPart_15 rfl (lv_at hl 3 rfl) ?_
          exact q_iretS C0 hret hlk dX0_firstInPart_16 rfl (by rw [hI, firP_s (by omega), if_pos (by omega)])
  exact LP2 _ lo (by omega) (rfl) rfl ls (lv_sub hl [1, 2, 3, 0] rfl)
set_option maxHeartbeats 800000 in
set_option maxRecDepth 100000 in
theorem c_X0_lastInPart (l : Launch) (D : va_G) (y : Nat → ClassId) (L : List Nat) (F : Nat → va_E) (h : Nat) (w : Nat) (o : Int) (k : Int) (g : Int) (f : Int → Int) (lo : Int) (hi : Int) (hR : Rw y L F h w o k g f) (hlo : -1000 ≤ lo ∧ lo ≤ 1000) (hhi : -1000 ≤ hi ∧ hi ≤ 1000) : Met l yX0_lastInPart (.code yX0_lastInPart cX0_lastInPart 4 (some .int) :: Tt) ({ frames := 1, cells := 0, slots := 0, locals := 21 }) (PcR D y L F [.ref h, .int (iI lo), .int (iI hi)]) (cS (fun r => r = lasP f lo hi)) 0 0 (fun _ => False) := by
  have hR0 := hR
  obtain ⟨ha, hF, hw, hFw, ho, hfb⟩ := hR0
  refine q_ofR (lv := [(0, .ref h), (1, .int (iI lo)), (2, .int (iI hi))]) (by decide) (Nat.le_of_ble_eq_true rfl) rfl (fun p e s m below meth c C0 hret hlk hP ls hl => ?_)
  have hx := C0.1.1
  have hb := C0.1.2.1
  have hts := C0.1.2.2.2.2
  refine lv_iload_n hx hb dX0_lastInPart_0 rfl (lv_at hl 2 rfl) ?_
  refine lv_istore_n (lv' := [(3, .int (iI hi)), (0, .ref h), (1, .int (iI lo)), (2, .int (iI hi))]) hx hb dX0_lastInPart_1 rfl hl (by decide) rfl (fun ls hl => ?_)
  have LP2 : ∀ (n_LP2 : Nat) (r : Int), (-1001 ≤ r ∧ r ≤ hi) → (lasP f lo hi = lasP f lo r) → (r + 1 - lo).toNat = n_LP2 → ∀ ls : Array Slot, lv_has ls 4 [(0, .ref h), (1, .int (iI lo)), (2, .int (iI hi)), (3, .int (iI r))] → W p l e ({ frames := 1, cells := 0, slots := 0, locals := 21 } : Room) s m [.ref h, .int (iI lo), .int (iI hi)].toArray below meth c s.heap [] 0 0 (MQ below (cS (fun r => r = lasP f lo hi)) [.ref h, .int (iI lo), .int (iI hi)].toArray s 0 0 (fun _ => False)) (F0 m 2 ls []) := by
    intro n_LP2
    induction n_LP2 using Nat.strongRecOn with
    | ind n_LP2 ih_LP2 =>
      intro r hr hI hm_LP2 ls hl
      refine lv_iload_n hx hb dX0_lastInPart_2 rfl (lv_at hl 3 rfl) ?_
      refine lv_iload_n hx hb dX0_lastInPart_3 rfl (lv_at hl 1 rfl) ?_
      refine q_icmp_lt hx hb dX0_lastInPart_4 (tgt := 23) (by decide) (by omega) (by omega) (fun c1 => ?_) (fun c1 => ?_)
      · refine q_iconst hx hb dX0_lastInPart_23 ?_
        exact q_iretS C0 hret hlk dX0_lastInPart_24 rfl (by rw [hI, lasP_e (by omega)])
      · refine lv_aload_n hx hb dX0_lastInPart_7 rfl (lv_at hl 0 rfl) ?_
        refine lv_iload_n hx hb dX0_lastInPart_8 rfl (lv_at hl 3 rfl) ?_
        refine q_vS C0 lX0_32 (c_X0_isThere l D y L F h w o k g f r hR (by omega)) ⟨rfl, rfl⟩ rfl hP ha hF rfl rfl rfl hl rfl (Nat.le_of_ble_eq_true rfl) dX0_lastInPart_9 ⟨Nat.zero_le _, Nat.zero_le _⟩ (fun r2 e_r2 => ?_)
        subst e_r2
        have b_3 := isT_b f r
        refine q_if_eq hx hb dX0_lastInPart_12 (tgt := 17) (by decide) (by omega) (fun c4 => ?_) (fun c4 => ?_)
        · refine q_iinc (x := r) (n := -1) (lv' := [(3, .int (iI ((r + (-1))))), (0, .ref h), (1, .int (iI lo)), (2, .int (iI hi))]) hx hb dX0_lastInPart_17 hl (k := 3) rfl (by decide) rfl (fun ls hl => ?_)
          refine lv_goto (tgt := 2) hx hb dX0_lastInPart_20 (by decide) ?_
          exact ih_LP2 _ (by omega) (r + (-1)) (by omega) (by rw [hI, lasP_s (by omega), if_neg (by omega)]; rfl) rfl ls (lv_sub hl [1, 2, 3, 0] rfl)
        · refine lv_iload_n hx hb dX0_lastInPart_15 rfl (lv_at hl 3 rfl) ?_
          exact q_iretS C0 hret hlk dX0_lastInPart_16 rfl (by rw [hI, lasP_s (by omega), if_pos (by omega)])
  exact LP2 _ hi (by omega) (rfl) rfl ls (lv_sub hl [1, 2, 3, 0] rfl)
set_option maxHeartbeats 800000 in
set_option maxRecDepth 100000 in
theorem c_X0_endOfPart (l : Launch) (D : va_G) (y : Nat → ClassId) (L : List Nat) (F : Nat → va_E) (h : Nat) (w : Nat) (o : Int) (k : Int) (g : Int) (f : Int → Int) (lo : Int) (hi : Int) (b : Int) (hR : Rw y L F h w o k g f) (hlo : -1000 ≤ lo ∧ lo ≤ 1000) (hhi : -1000 ≤ hi ∧ hi ≤ 1000) (hb0 : 0 ≤ b ∧ b ≤ 1) : Met l yX0_endOfPart (.code yX0_endOfPart cX0_endOfPart 4 (some .int) :: Tt) ({ frames := 2, cells := 0, slots := 0, locals := 44 }) (PcR D y L F [.ref h, .int (iI lo), .int (iI hi), .int (iI b)]) (cS (fun r => r = endP f lo hi b)) 0 0 (fun _ => False) := by
  have hR0 := hR
  obtain ⟨ha, hF, hw, hFw, ho, hfb⟩ := hR0
  refine q_ofR (lv := [(0, .ref h), (1, .int (iI lo)), (2, .int (iI hi)), (3, .int (iI b))]) (by decide) (Nat.le_of_ble_eq_true rfl) rfl (fun p e s m below meth c C0 hret hlk hP ls hl => ?_)
  have hx := C0.1.1
  have hb := C0.1.2.1
  have hts := C0.1.2.2.2.2
  refine lv_iload_n hx hb dX0_endOfPart_0 rfl (lv_at hl 3 rfl) ?_
  refine q_if_eq hx hb dX0_endOfPart_1 (tgt := 13) (by decide) (by omega) (fun c1 => ?_) (fun c1 => ?_)
  · refine lv_aload_n hx hb dX0_endOfPart_13 rfl (lv_at hl 0 rfl) ?_
    refine lv_iload_n hx hb dX0_endOfPart_14 rfl (lv_at hl 1 rfl) ?_
    refine lv_iload_n hx hb dX0_endOfPart_15 rfl (lv_at hl 2 rfl) ?_
    refine q_vS C0 lX0_52 (c_X0_firstInPart l D y L F h w o k g f lo hi hR (by omega) (by omega)) ⟨rfl, rfl⟩ rfl hP ha hF rfl rfl rfl hl rfl (Nat.le_of_ble_eq_true rfl) dX0_endOfPart_16 ⟨Nat.zero_le _, Nat.zero_le _⟩ (fun r2 e_r2 => ?_)
    subst e_r2
    have b_3 := firP_r f lo hi
    exact q_iretS C0 hret hlk dX0_endOfPart_19 rfl (by unfold endP; split <;> first | rfl | omega)
  · refine lv_aload_n hx hb dX0_endOfPart_4 rfl (lv_at hl 0 rfl) ?_
    refine lv_iload_n hx hb dX0_endOfPart_5 rfl (lv_at hl 1 rfl) ?_
    refine lv_iload_n hx hb dX0_endOfPart_6 rfl (lv_at hl 2 rfl) ?_
    refine q_vS C0 lX0_48 (c_X0_lastInPart l D y L F h w o k g f lo hi hR (by omega) (by omega)) ⟨rfl, rfl⟩ rfl hP ha hF rfl rfl rfl hl rfl (Nat.le_of_ble_eq_true rfl) dX0_endOfPart_7 ⟨Nat.zero_le _, Nat.zero_le _⟩ (fun r4 e_r4 => ?_)
    subst e_r4
    have b_5 := lasP_r f lo hi
    refine lv_goto (tgt := 19) hx hb dX0_endOfPart_10 (by decide) ?_
    exact q_iretS C0 hret hlk dX0_endOfPart_19 rfl (by unfold endP; split <;> first | rfl | omega)
set_option maxHeartbeats 800000 in
set_option maxRecDepth 100000 in
theorem c_X0_nearInPart (l : Launch) (D : va_G) (y : Nat → ClassId) (L : List Nat) (F : Nat → va_E) (h : Nat) (w : Nat) (o : Int) (k : Int) (g : Int) (f : Int → Int) (lo : Int) (hi : Int) (key : Int) (what : Int) (hR : Rw y L F h w o k g f) (hlo : -900 ≤ lo ∧ lo ≤ 900) (hhi : -900 ≤ hi ∧ hi ≤ 900) (hk : 0 ≤ key ∧ key ≤ 99) (hwh : -2147483648 ≤ what ∧ what ≤ 2147483647) : Met l yX0_nearInPart (.code yX0_nearInPart cX0_nearInPart 6 (some .int) :: Tt) ({ frames := 2, cells := 0, slots := 0, locals := 44 }) (PcR D y L F [.ref h, .int (iI lo), .int (iI hi), .int (iI key), .int (iI what)]) (cS (fun r => r = nearP o f lo hi key what)) 0 0 (fun _ => False) := by
  have hR0 := hR
  obtain ⟨ha, hF, hw, hFw, ho, hfb⟩ := hR0
  refine q_ofR (lv := [(0, .ref h), (1, .int (iI lo)), (2, .int (iI hi)), (3, .int (iI key)), (4, .int (iI what))]) (by decide) (Nat.le_of_ble_eq_true rfl) rfl (fun p e s m below meth c C0 hret hlk hP ls hl => ?_)
  have hx := C0.1.1
  have hb := C0.1.2.1
  have hts := C0.1.2.2.2.2
  refine lv_aload_n hx hb dX0_nearInPart_0 rfl (lv_at hl 0 rfl) ?_
  refine lv_iload_n hx hb dX0_nearInPart_1 rfl (lv_at hl 3 rfl) ?_
  refine q_vS C0 lX0_29 (c_X0_rankOf l D y L F h w o k g f key hR (by omega)) ⟨rfl, rfl⟩ rfl hP ha hF rfl rfl rfl hl rfl (Nat.le_of_ble_eq_true rfl) dX0_nearInPart_2 ⟨Nat.zero_le _, Nat.zero_le _⟩ (fun r1 e_r1 => ?_)
  subst e_r1
  have b_2 := @turn_b o key (by omega)
  refine lv_istore (lv' := [(5, .int (iI ((turn o key)))), (0, .ref h), (1, .int (iI lo)), (2, .int (iI hi)), (3, .int (iI key)), (4, .int (iI what))]) hx hb dX0_nearInPart_5 hl (by decide) rfl (fun ls hl => ?_)
  refine lv_iload hx hb dX0_nearInPart_7 (lv_at hl 5 rfl) ?_
  rcases (show what = 0 ∨ what = 1 ∨ what = 2 ∨ what = 3 ∨ (what < 0 ∨ 3 < what) by omega) with sw3 | sw3 | sw3 | sw3 | sw3
  · refine lv_tableIn (tgt := 40) (off := 31) hx hb dX0_nearInPart_9 (by rw [iI_toInt (by omega)]; omega) (by rw [iI_toInt (by omega)]; omega) (by rw [iI_toInt (by omega), sw3]; rfl) (by decide) ?_
    refine lv_aload_n hx hb dX0_nearInPart_40 rfl (lv_at hl 1 rfl) ?_
    refine lv_iload_n hx hb dX0_nearInPart_41 rfl (lv_at hl 2 rfl) ?_
    refine lv_iload hx hb dX0_nearInPart_42 (lv_at hl 0 rfl) ?_
    refine lv_iload_n hx hb dX0_nearInPart_44 rfl (lv_at hl 3 rfl) ?_
    refine q_min hx hb (by rw [hl.1]; exact C0.1.2.2.1) C0.1.2.2.2.1 hts mlX0_55 stMin iniMath cdMin (Nat.le_of_ble_eq_true rfl) (Nat.le_of_ble_eq_true rfl) (Nat.zero_le _) (Nat.zero_le _) dX0_nearInPart_45 (by omega) (by omega) ?_
    refine q_vS C0 lX0_48 (c_X0_lastInPart l D y L F h w o k g f lo (min (turn o key) hi) hR (by omega) (by omega)) ⟨rfl, rfl⟩ rfl hP ha hF rfl rfl rfl hl rfl (Nat.le_of_ble_eq_true rfl) dX0_nearInPart_48 ⟨Nat.zero_le _, Nat.zero_le _⟩ (fun r4 e_r4 => ?_)
    subst e_r4
    have b_5 := lasP_r f lo (min (turn o key) hi)
    exact q_iretS C0 hret hlk dX0_nearInPart_51 rfl (by unfold nearP; (repeat' split) <;> first | rfl | omega)
  · refine lv_tableIn (tgt := 52) (off := 43) hx hb dX0_nearInPart_9 (by rw [iI_toInt (by omega)]; omega) (by rw [iI_toInt (by omega)]; omega) (by rw [iI_toInt (by omega), sw3]; rfl) (by decide) ?_
    refine lv_aload_n hx hb dX0_nearInPart_52 rfl (lv_at hl 1 rfl) ?_
    refine lv_iload hx hb dX0_nearInPart_53 (lv_at hl 0 rfl) ?_
    refine lv_iload_n hx hb dX0_nearInPart_55 rfl (lv_at hl 2 rfl) ?_
    refine q_max hx hb (by rw [hl.1]; exact C0.1.2.2.1) C0.1.2.2.2.1 hts mlX0_60 stMax iniMath cdMax (Nat.le_of_ble_eq_true rfl) (Nat.le_of_ble_eq_true rfl) (Nat.zero_le _) (Nat.zero_le _) dX0_nearInPart_56 (by omega) (by omega) ?_
    refine lv_iload_n hx hb dX0_nearInPart_59 rfl (lv_at hl 3 rfl) ?_
    refine q_vS C0 lX0_52 (c_X0_firstInPart l D y L F h w o k g f (max (turn o key) lo) hi hR (by omega) (by omega)) ⟨rfl, rfl⟩ rfl hP ha hF rfl rfl rfl hl rfl (Nat.le_of_ble_eq_true rfl) dX0_nearInPart_60 ⟨Nat.zero_le _, Nat.zero_le _⟩ (fun r6 e_r6 => ?_)
    subst e_r6
    have b_7 := firP_r f (max (turn o key) lo) hi
    exact q_iretS C0 hret hlk dX0_nearInPart_63 rfl (by unfold nearP; (repeat' split) <;> first | rfl | omega)
  · refine lv_tableIn (tgt := 64) (off := 55) hx hb dX0_nearInPart_9 (by rw [iI_toInt (by omega)]; omega) (by rw [iI_toInt (by omega)]; omega) (by rw [iI_toInt (by omega), sw3]; rfl) (by decide) ?_
    refine lv_aload_n hx hb dX0_nearInPart_64 rfl (lv_at hl 1 rfl) ?_
    refine lv_iload_n hx hb dX0_nearInPart_65 rfl (lv_at hl 2 rfl) ?_
    refine lv_iload hx hb dX0_nearInPart_66 (lv_at hl 0 rfl) ?_
    refine q_iconst hx hb dX0_nearInPart_68 ?_
    refine q_isub hx hb dX0_nearInPart_69 ?_
    refine lv_iload_n hx hb dX0_nearInPart_70 rfl (lv_at hl 3 rfl) ?_
    refine q_min hx hb (by rw [hl.1]; exact C0.1.2.2.1) C0.1.2.2.2.1 hts mlX0_55 stMin iniMath cdMin (Nat.le_of_ble_eq_true rfl) (Nat.le_of_ble_eq_true rfl) (Nat.zero_le _) (Nat.zero_le _) dX0_nearInPart_71 (by omega) (by omega) ?_
    refine q_vS C0 lX0_48 (c_X0_lastInPart l D y L F h w o k g f lo (min ((turn o key) - 1) hi) hR (by omega) (by omega)) ⟨rfl, rfl⟩ rfl hP ha hF rfl rfl rfl hl rfl (Nat.le_of_ble_eq_true rfl) dX0_nearInPart_74 ⟨Nat.zero_le _, Nat.zero_le _⟩ (fun r8 e_r8 => ?_)
    subst e_r8
    have b_9 := lasP_r f lo (min ((turn o key) - 1) hi)
    exact q_iretS C0 hret hlk dX0_nearInPart_77 rfl (by unfold nearP; (repeat' split) <;> first | rfl | omega)
  · refine lv_tableIn (tgt := 78) (off := 69) hx hb dX0_nearInPart_9 (by rw [iI_toInt (by omega)]; omega) (by rw [iI_toInt (by omega)]; omega) (by rw [iI_toInt (by omega), sw3]; rfl) (by decide) ?_
    refine lv_aload_n hx hb dX0_nearInPart_78 rfl (lv_at hl 1 rfl) ?_
    refine lv_iload hx hb dX0_nearInPart_79 (lv_at hl 0 rfl) ?_
    refine q_iconst hx hb dX0_nearInPart_81 ?_
    refine q_iadd hx hb dX0_nearInPart_82 ?_
    refine lv_iload_n hx hb dX0_nearInPart_83 rfl (lv_at hl 2 rfl) ?_
    refine q_max hx hb (by rw [hl.1]; exact C0.1.2.2.1) C0.1.2.2.2.1 hts mlX0_60 stMax iniMath cdMax (Nat.le_of_ble_eq_true rfl) (Nat.le_of_ble_eq_true rfl) (Nat.zero_le _) (Nat.zero_le _) dX0_nearInPart_84 (by omega) (by omega) ?_
    refine lv_iload_n hx hb dX0_nearInPart_87 rfl (lv_at hl 3 rfl) ?_
    refine q_vS C0 lX0_52 (c_X0_firstInPart l D y L F h w o k g f (max ((turn o key) + 1) lo) hi hR (by omega) (by omega)) ⟨rfl, rfl⟩ rfl hP ha hF rfl rfl rfl hl rfl (Nat.le_of_ble_eq_true rfl) dX0_nearInPart_88 ⟨Nat.zero_le _, Nat.zero_le _⟩ (fun r10 e_r10 => ?_)
    subst e_r10
    have b_11 := firP_r f (max ((turn o key) + 1) lo) hi
    exact q_iretS C0 hret hlk dX0_nearInPart_91 rfl (by unfold nearP; (repeat' split) <;> first | rfl | omega)
  · refine lv_tableOut (tgt := 92) hx hb dX0_nearInPart_9 (by rw [iI_toInt (by omega)]; omega) (by decide) ?_
    refine lv_aload_n hx hb dX0_nearInPart_92 rfl (lv_at hl 1 rfl) ?_
    refine lv_iload hx hb dX0_nearInPart_93 (lv_at hl 0 rfl) ?_
    refine lv_iload_n hx hb dX0_nearInPart_95 rfl (lv_at hl 2 rfl) ?_
    refine q_max hx hb (by rw [hl.1]; exact C0.1.2.2.1) C0.1.2.2.2.1 hts mlX0_60 stMax iniMath cdMax (Nat.le_of_ble_eq_true rfl) (Nat.le_of_ble_eq_true rfl) (Nat.zero_le _) (Nat.zero_le _) dX0_nearInPart_96 (by omega) (by omega) ?_
    refine lv_iload hx hb dX0_nearInPart_99 (lv_at hl 0 rfl) ?_
    refine lv_iload_n hx hb dX0_nearInPart_101 rfl (lv_at hl 3 rfl) ?_
    refine q_min hx hb (by rw [hl.1]; exact C0.1.2.2.1) C0.1.2.2.2.1 hts mlX0_55 stMin iniMath cdMin (Nat.le_of_ble_eq_true rfl) (Nat.le_of_ble_eq_true rfl) (Nat.zero_le _) (Nat.zero_le _) dX0_nearInPart_102 (by omega) (by omega) ?_
    refine q_vS C0 lX0_52 (c_X0_firstInPart l D y L F h w o k g f (max (turn o key) lo) (min (turn o key) hi) hR (by omega) (by omega)) ⟨rfl, rfl⟩ rfl hP ha hF rfl rfl rfl hl rfl (Nat.le_of_ble_eq_true rfl) dX0_nearInPart_105 ⟨Nat.zero_le _, Nat.zero_le _⟩ (fun r12 e_r12 => ?_)
    subst e_r12
    have b_13 := firP_r f (max (turn o key) lo) (min (turn o key) hi)
    exact q_iretS C0 hret hlk dX0_nearInPart_108 rfl (by unfold nearP; (repeat' split) <;> first | rfl | omega)
set_option maxHeartbeats 800000 in
set_option maxRecDepth 100000 in
theorem c_X0_rankBehind (l : Launch) (D : va_G) (y : Nat → ClassId) (L : List Nat) (F : Nat → va_E) (h : Nat) (w : Nat) (o : Int) (k : Int) (g : Int) (f : Int → Int) (n : Int) (hR : Rw y L F h w o k g f) (hn : -1000 ≤ n ∧ n ≤ 1000) : Met l yX0_rankBehind (.code yX0_rankBehind cX0_rankBehind 4 (some .int) :: Tt) ({ frames := 1, cells := 0, slots := 0, locals := 21 }) (PcR D y L F [.ref h, .int (iI n)]) (cS (fun r => r = rbP f n 0)) 0 0 (fun _ => False) := by
  have hR0 := hR
  obtain ⟨ha, hF, hw, hFw, ho, hfb⟩ := hR0
  refine q_ofR (lv := [(0, .ref h), (1, .int (iI n))]) (by decide) (Nat.le_of_ble_eq_true rfl) rfl (fun p e s m below meth c C0 hret hlk hP ls hl => ?_)
  have hx := C0.1.1
  have hb := C0.1.2.1
  have hts := C0.1.2.2.2.2
  refine q_iconst hx hb dX0_rankBehind_0 ?_
  refine lv_istore_n (lv' := [(2, .int (iI 0)), (0, .ref h), (1, .int (iI n))]) hx hb dX0_rankBehind_1 rfl hl (by decide) rfl (fun ls hl => ?_)
  refine q_iconst hx hb dX0_rankBehind_2 ?_
  refine lv_istore_n (lv' := [(3, .int (iI 0)), (2, .int (iI 0)), (0, .ref h), (1, .int (iI n))]) hx hb dX0_rankBehind_3 rfl hl (by decide) rfl (fun ls hl => ?_)
  have LP4 : ∀ (n_LP4 : Nat) (r : Int) (j : Int), (0 ≤ r ∧ r ≤ 100) → (0 ≤ j ∧ j ≤ r) → (rbP f n 0 = rbP f (n - j) r) → (100 - r).toNat = n_LP4 → ∀ ls : Array Slot, lv_has ls 4 [(0, .ref h), (1, .int (iI n)), (2, .int (iI j)), (3, .int (iI r))] → W p l e ({ frames := 1, cells := 0, slots := 0, locals := 21 } : Room) s m [.ref h, .int (iI n)].toArray below meth c s.heap [] 0 0 (MQ below (cS (fun r => r = rbP f n 0)) [.ref h, .int (iI n)].toArray s 0 0 (fun _ => False)) (F0 m 4 ls []) := by
    intro n_LP4
    induction n_LP4 using Nat.strongRecOn with
    | ind n_LP4 ih_LP4 =>
      intro r j hr hj hI hm_LP4 ls hl
      refine lv_iload_n hx hb dX0_rankBehind_4 rfl (lv_at hl 3 rfl) ?_
      refine q_bipush hx hb dX0_rankBehind_5 (by decide) ?_
      refine q_icmp_ge hx hb dX0_rankBehind_7 (tgt := 34) (by decide) (by omega) (by omega) (fun c1 => ?_) (fun c1 => ?_)
      · refine q_iconst hx hb dX0_rankBehind_34 ?_
        exact q_iretS C0 hret hlk dX0_rankBehind_35 rfl (by rw [hI, rbP_e (by omega)])
      · refine lv_aload_n hx hb dX0_rankBehind_10 rfl (lv_at hl 0 rfl) ?_
        refine lv_iload_n hx hb dX0_rankBehind_11 rfl (lv_at hl 3 rfl) ?_
        refine q_vS C0 lX0_32 (c_X0_isThere l D y L F h w o k g f r hR (by omega)) ⟨rfl, rfl⟩ rfl hP ha hF rfl rfl rfl hl rfl (Nat.le_of_ble_eq_true rfl) dX0_rankBehind_12 ⟨Nat.zero_le _, Nat.zero_le _⟩ (fun r2 e_r2 => ?_)
        subst e_r2
        have b_3 := isT_b f r
        refine q_if_eq hx hb dX0_rankBehind_15 (tgt := 28) (by decide) (by omega) (fun c4 => ?_) (fun c4 => ?_)
        · refine q_iinc (x := r) (n := 1) (lv' := [(3, .int (iI ((r + 1)))), (0, .ref h), (1, .int (iI n)), (2, .int (iI j))]) hx hb dX0_rankBehind_28 hl (k := 3) rfl (by decide) rfl (fun ls hl => ?_)
          refine lv_goto (tgt := 4) hx hb dX0_rankBehind_31 (by decide) ?_
          exact ih_LP4 _ (by omega) (r + 1) j (by omega) (by omega) (by first | (rw [hI, rbP_s (by omega), if_neg (by omega)]; done) | (rw [hI, rbP_s (by omega), if_pos (by omega), if_neg (by omega), Int.sub_sub])) rfl ls (lv_sub hl [1, 2, 3, 0] rfl)
        · refine lv_iload_n hx hb dX0_rankBehind_18 rfl (lv_at hl 2 rfl) ?_
          refine lv_iload_n hx hb dX0_rankBehind_19 rfl (lv_at hl 1 rfl) ?_
          refine q_icmp_ne hx hb dX0_rankBehind_20 (tgt := 25) (by decide) (by omega) (by omega) (fun c5 => ?_) (fun c5 => ?_)
          · refine q_iinc (x := j) (n := 1) (lv' := [(2, .int (iI ((j + 1)))), (0, .ref h), (1, .int (iI n)), (3, .int (iI r))]) hx hb dX0_rankBehind_25 hl (k := 2) rfl (by decide) rfl (fun ls hl => ?_)
            refine q_iinc (x := r) (n := 1) (lv' := [(3, .int (iI ((r + 1)))), (2, .int (iI ((j + 1)))), (0, .ref h), (1, .int (iI n))]) hx hb dX0_rankBehind_28 hl (k := 3) rfl (by decide) rfl (fun ls hl => ?_)
            refine lv_goto (tgt := 4) hx hb dX0_rankBehind_31 (by decide) ?_
            exact ih_LP4 _ (by omega) (r + 1) (j + 1) (by omega) (by omega) (by first | (rw [hI, rbP_s (by omega), if_neg (by omega)]; done) | (rw [hI, rbP_s (by omega), if_pos (by omega), if_neg (by omega), Int.sub_sub])) rfl ls (lv_sub hl [2, 3, 1, 0] rfl)
          · refine lv_iload_n hx hb dX0_rankBehind_23 rfl (lv_at hl 3 rfl) ?_
            exact q_iretS C0 hret hlk dX0_rankBehind_24 rfl (by rw [hI, rbP_s (by omega), if_pos (by omega), if_pos (by omega)])
  exact LP4 _ 0 0 (by omega) (by omega) (by rw [Int.sub_zero]) rfl ls (lv_sub hl [2, 3, 1, 0] rfl)
set_option maxHeartbeats 800000 in
set_option maxRecDepth 100000 in
theorem c_X0_countOfPart (l : Launch) (D : va_G) (y : Nat → ClassId) (L : List Nat) (F : Nat → va_E) (h : Nat) (w : Nat) (o : Int) (k : Int) (g : Int) (f : Int → Int) (lo : Int) (hi : Int) (hR : Rw y L F h w o k g f) (hlo : -1000 ≤ lo ∧ lo ≤ 1000) (hhi : -1000 ≤ hi ∧ hi ≤ 1000) : Met l yX0_countOfPart (.code yX0_countOfPart cX0_countOfPart 5 (some .int) :: Tt) ({ frames := 1, cells := 0, slots := 0, locals := 21 }) (PcR D y L F [.ref h, .int (iI lo), .int (iI hi)]) (cS (fun r => r = cntP f lo hi)) 0 0 (fun _ => False) := by
  have hR0 := hR
  obtain ⟨ha, hF, hw, hFw, ho, hfb⟩ := hR0
  refine q_ofR (lv := [(0, .ref h), (1, .int (iI lo)), (2, .int (iI hi))]) (by decide) (Nat.le_of_ble_eq_true rfl) rfl (fun p e s m below meth c C0 hret hlk hP ls hl => ?_)
  have hx := C0.1.1
  have hb := C0.1.2.1
  have hts := C0.1.2.2.2.2
  refine q_iconst hx hb dX0_countOfPart_0 ?_
  refine lv_istore_n (lv' := [(3, .int (iI 0)), (0, .ref h), (1, .int (iI lo)), (2, .int (iI hi))]) hx hb dX0_countOfPart_1 rfl hl (by decide) rfl (fun ls hl => ?_)
  refine lv_iload_n hx hb dX0_countOfPart_2 rfl (lv_at hl 2 rfl) ?_
  refine lv_istore (lv' := [(4, .int (iI lo)), (3, .int (iI 0)), (0, .ref h), (1, .int (iI lo)), (2, .int (iI hi))]) hx hb dX0_countOfPart_3 hl (by decide) rfl (fun ls hl => ?_)
  have LP5 : ∀ (n_LP5 : Nat) (r : Int) (a : Int), (lo ≤ r ∧ r ≤ 1001) → (cntP f lo hi = a + cntP f r hi) → (hi + 1 - r).toNat = n_LP5 → ∀ ls : Array Slot, lv_has ls 5 [(0, .ref h), (1, .int (iI lo)), (2, .int (iI hi)), (3, .int (iI a)), (4, .int (iI r))] → W p l e ({ frames := 1, cells := 0, slots := 0, locals := 21 } : Room) s m [.ref h, .int (iI lo), .int (iI hi)].toArray below meth c s.heap [] 0 0 (MQ below (cS (fun r => r = cntP f lo hi)) [.ref h, .int (iI lo), .int (iI hi)].toArray s 0 0 (fun _ => False)) (F0 m 5 ls []) := by
    intro n_LP5
    induction n_LP5 using Nat.strongRecOn with
    | ind n_LP5 ih_LP5 =>
      intro r a hr hI hm_LP5 ls hl
      refine lv_iload hx hb dX0_countOfPart_5 (lv_at hl 4 rfl) ?_
      refine lv_iload_n hx hb dX0_countOfPart_7 rfl (lv_at hl 2 rfl) ?_
      refine q_icmp_gt hx hb dX0_countOfPart_8 (tgt := 29) (by decide) (by omega) (by omega) (fun c1 => ?_) (fun c1 => ?_)
      · refine lv_iload_n hx hb dX0_countOfPart_29 rfl (lv_at hl 3 rfl) ?_
        exact q_iretS C0 hret hlk dX0_countOfPart_30 rfl (by rw [hI, cntP_e (by omega), Int.add_zero])
      · refine lv_aload_n hx hb dX0_countOfPart_11 rfl (lv_at hl 0 rfl) ?_
        refine lv_iload hx hb dX0_countOfPart_12 (lv_at hl 4 rfl) ?_
        refine q_vS C0 lX0_32 (c_X0_isThere l D y L F h w o k g f r hR (by omega)) ⟨rfl, rfl⟩ rfl hP ha hF rfl rfl rfl hl rfl (Nat.le_of_ble_eq_true rfl) dX0_countOfPart_14 ⟨Nat.zero_le _, Nat.zero_le _⟩ (fun r2 e_r2 => ?_)
        subst e_r2
        have b_3 := isT_b f r
        refine q_if_eq hx hb dX0_countOfPart_17 (tgt := 23) (by decide) (by omega) (fun c4 => ?_) (fun c4 => ?_)
        · refine q_iinc (x := r) (n := 1) (lv' := [(4, .int (iI ((r + 1)))), (0, .ref h), (1, .int (iI lo)), (2, .int (iI hi)), (3, .int (iI a))]) hx hb dX0_countOfPart_23 hl (k := 4) rfl (by decide) rfl (fun ls hl => ?_)
          refine lv_goto (tgt := 5) hx hb dX0_countOfPart_26 (by decide) ?_
          exact ih_LP5 _ (by omega) (r + 1) a (by omega) (by first | (rw [hI, cntP_s (by omega), if_pos (by omega), Int.add_assoc]; done) | (rw [hI, cntP_s (by omega), if_neg (by omega), Int.zero_add]; done) | (have q_ := cntP_s (f := f) (lo := r) (hi := hi) (by omega); omega)) rfl ls (lv_sub hl [1, 2, 3, 4, 0] rfl)
        · refine q_iinc (x := a) (n := 1) (lv' := [(3, .int (iI ((a + 1)))), (0, .ref h), (1, .int (iI lo)), (2, .int (iI hi)), (4, .int (iI r))]) hx hb dX0_countOfPart_20 hl (k := 3) rfl (by decide) rfl (fun ls hl => ?_)
          refine q_iinc (x := r) (n := 1) (lv' := [(4, .int (iI ((r + 1)))), (3, .int (iI ((a + 1)))), (0, .ref h), (1, .int (iI lo)), (2, .int (iI hi))]) hx hb dX0_countOfPart_23 hl (k := 4) rfl (by decide) rfl (fun ls hl => ?_)
          refine lv_goto (tgt := 5) hx hb dX0_countOfPart_26 (by decide) ?_
          exact ih_LP5 _ (by omega) (r + 1) (a + 1) (by omega) (by first | (rw [hI, cntP_s (by omega), if_pos (by omega), Int.add_assoc]; done) | (rw [hI, cntP_s (by omega), if_neg (by omega), Int.zero_add]; done) | (have q_ := cntP_s (f := f) (lo := r) (hi := hi) (by omega); omega)) rfl ls (lv_sub hl [2, 3, 4, 1, 0] rfl)
  exact LP5 _ lo 0 (by omega) (by rw [Int.zero_add]) rfl ls (lv_sub hl [2, 3, 4, 1, 0] rfl)
set_option maxHeartbeats 800000 in
set_option maxRecDepth 100000 in
theorem c_X0_worthsOfPart (l : Launch) (D : va_G) (y : Nat → ClassId) (L : List Nat) (F : Nat → va_E) (h : Nat) (w : Nat) (o : Int) (k : Int) (g : Int) (f : Int → Int) (lo : Int) (hi : Int) (hR : Rw y L F h w o k g f) (hlo : -1000 ≤ lo ∧ lo ≤ 1000) (hhi : -1000 ≤ hi ∧ hi ≤ 1000) : Met l yX0_worthsOfPart (.code yX0_worthsOfPart cX0_worthsOfPart 5 (some .int) :: Tt) ({ frames := 1, cells := 0, slots := 0, locals := 21 }) (PcR D y L F [.ref h, .int (iI lo), .int (iI hi)]) (cS (fun r => r = worP f lo hi)) 0 0 (fun _ => False) := by
  have hR0 := hR
  obtain ⟨ha, hF, hw, hFw, ho, hfb⟩ := hR0
  refine q_ofR (lv := [(0, .ref h), (1, .int (iI lo)), (2, .int (iI hi))]) (by decide) (Nat.le_of_ble_eq_true rfl) rfl (fun p e s m below meth c C0 hret hlk hP ls hl => ?_)
  have hx := C0.1.1
  have hb := C0.1.2.1
  have hts := C0.1.2.2.2.2
  refine q_iconst hx hb dX0_worthsOfPart_0 ?_
  refine lv_istore_n (lv' := [(3, .int (iI 0)), (0, .ref h), (1, .int (iI lo)), (2, .int (iI hi))]) hx hb dX0_worthsOfPart_1 rfl hl (by decide) rfl (fun ls hl => ?_)
  refine lv_iload_n hx hb dX0_worthsOfPart_2 rfl (lv_at hl 2 rfl) ?_
  refine lv_istore (lv' := [(4, .int (iI lo)), (3, .int (iI 0)), (0, .ref h), (1, .int (iI lo)), (2, .int (iI hi))]) hx hb dX0_worthsOfPart_3 hl (by decide) rfl (fun ls hl => ?_)
  have LP5 : ∀ (n_LP5 : Nat) (r : Int) (a : Int), (lo ≤ r ∧ r ≤ 1001) → (worP f lo hi = a + worP f r hi) → (hi + 1 - r).toNat = n_LP5 → ∀ ls : Array Slot, lv_has ls 5 [(0, .ref h), (1, .int (iI lo)), (2, .int (iI hi)), (3, .int (iI a)), (4, .int (iI r))] → W p l e ({ frames := 1, cells := 0, slots := 0, locals := 21 } : Room) s m [.ref h, .int (iI lo), .int (iI hi)].toArray below meth c s.heap [] 0 0 (MQ below (cS (fun r => r = worP f lo hi)) [.ref h, .int (iI lo), .int (iI hi)].toArray s 0 0 (fun _ => False)) (F0 m 5 ls []) := by
    intro n_LP5
    induction n_LP5 using Nat.strongRecOn with
    | ind n_LP5 ih_LP5 =>
      intro r a hr hI hm_LP5 ls hl
      refine lv_iload hx hb dX0_worthsOfPart_5 (lv_at hl 4 rfl) ?_
      refine lv_iload_n hx hb dX0_worthsOfPart_7 rfl (lv_at hl 2 rfl) ?_
      refine q_icmp_gt hx hb dX0_worthsOfPart_8 (tgt := 35) (by decide) (by omega) (by omega) (fun c1 => ?_) (fun c1 => ?_)
      · refine lv_iload_n hx hb dX0_worthsOfPart_35 rfl (lv_at hl 3 rfl) ?_
        exact q_iretS C0 hret hlk dX0_worthsOfPart_36 rfl (by rw [hI, worP_e (by omega), Int.add_zero])
      · refine lv_aload_n hx hb dX0_worthsOfPart_11 rfl (lv_at hl 0 rfl) ?_
        refine lv_iload hx hb dX0_worthsOfPart_12 (lv_at hl 4 rfl) ?_
        refine q_vS C0 lX0_32 (c_X0_isThere l D y L F h w o k g f r hR (by omega)) ⟨rfl, rfl⟩ rfl hP ha hF rfl rfl rfl hl rfl (Nat.le_of_ble_eq_true rfl) dX0_worthsOfPart_14 ⟨Nat.zero_le _, Nat.zero_le _⟩ (fun r2 e_r2 => ?_)
        subst e_r2
        have b_3 := isT_b f r
        refine q_if_eq hx hb dX0_worthsOfPart_17 (tgt := 29) (by decide) (by omega) (fun c4 => ?_) (fun c4 => ?_)
        · refine q_iinc (x := r) (n := 1) (lv' := [(4, .int (iI ((r + 1)))), (0, .ref h), (1, .int (iI lo)), (2, .int (iI hi)), (3, .int (iI a))]) hx hb dX0_worthsOfPart_29 hl (k := 4) rfl (by decide) rfl (fun ls hl => ?_)
          refine lv_goto (tgt := 5) hx hb dX0_worthsOfPart_32 (by decide) ?_
          exact ih_LP5 _ (by omega) (r + 1) a (by omega) (by first | (rw [hI, worP_s (by omega), if_pos (by omega), Int.add_assoc]; done) | (rw [hI, worP_s (by omega), if_neg (by omega), Int.zero_add])) rfl ls (lv_sub hl [1, 2, 3, 4, 0] rfl)
        · refine lv_iload_n hx hb dX0_worthsOfPart_20 rfl (lv_at hl 3 rfl) ?_
          refine lv_aload_n hx hb dX0_worthsOfPart_21 rfl (lv_at hl 0 rfl) ?_
          refine lv_iload hx hb dX0_worthsOfPart_22 (lv_at hl 4 rfl) ?_
          refine q_vS C0 lX0_39 (c_X0_worthAt l D y L F h w o k g f r hR (by omega)) ⟨rfl, rfl⟩ rfl hP ha hF rfl rfl rfl hl rfl (Nat.le_of_ble_eq_true rfl) dX0_worthsOfPart_24 ⟨Nat.zero_le _, Nat.zero_le _⟩ (fun r5 e_r5 => ?_)
          subst e_r5
          have b_6 := @wAt_b f (hR.2.2.2.2.2) r
          refine q_iadd hx hb dX0_worthsOfPart_27 ?_
          refine lv_istore_n (lv' := [(3, .int (iI ((a + (wAt f r))))), (0, .ref h), (1, .int (iI lo)), (2, .int (iI hi)), (4, .int (iI r))]) hx hb dX0_worthsOfPart_28 rfl hl (by decide) rfl (fun ls hl => ?_)
          refine q_iinc (x := r) (n := 1) (lv' := [(4, .int (iI ((r + 1)))), (3, .int (iI ((a + (wAt f r))))), (0, .ref h), (1, .int (iI lo)), (2, .int (iI hi))]) hx hb dX0_worthsOfPart_29 hl (k := 4) rfl (by decide) rfl (fun ls hl => ?_)
          refine lv_goto (tgt := 5) hx hb dX0_worthsOfPart_32 (by decide) ?_
          exact ih_LP5 _ (by omega) (r + 1) (a + (wAt f r)) (by omega) (by first | (rw [hI, worP_s (by omega), if_pos (by omega), Int.add_assoc]; done) | (rw [hI, worP_s (by omega), if_neg (by omega), Int.zero_add])) rfl ls (lv_sub hl [2, 3, 4, 1, 0] rfl)
  exact LP5 _ lo 0 (by omega) (by rw [Int.zero_add]) rfl ls (lv_sub hl [2, 3, 4, 1, 0] rfl)
set_option maxHeartbeats 800000 in
set_option maxRecDepth 100000 in
theorem c_X0_sumOfKeys (l : Launch) (D : va_G) (y : Nat → ClassId) (L : List Nat) (F : Nat → va_E) (h : Nat) (w : Nat) (o : Int) (k : Int) (g : Int) (f : Int → Int) (hR : Rw y L F h w o k g f) : Met l yX0_sumOfKeys (.code yX0_sumOfKeys cX0_sumOfKeys 3 (some .int) :: Tt) ({ frames := 2, cells := 0, slots := 0, locals := 42 }) (PcR D y L F [.ref h]) (cS (fun r => r = keyP o f 0)) 0 0 (fun _ => False) := by
  have hR0 := hR
  obtain ⟨ha, hF, hw, hFw, ho, hfb⟩ := hR0
  refine q_ofR (lv := [(0, .ref h)]) (by decide) (Nat.le_of_ble_eq_true rfl) rfl (fun p e s m below meth c C0 hret hlk hP ls hl => ?_)
  have hx := C0.1.1
  have hb := C0.1.2.1
  have hts := C0.1.2.2.2.2
  refine q_iconst hx hb dX0_sumOfKeys_0 ?_
  refine lv_istore_n (lv' := [(1, .int (iI 0)), (0, .ref h)]) hx hb dX0_sumOfKeys_1 rfl hl (by decide) rfl (fun ls hl => ?_)
  refine q_iconst hx hb dX0_sumOfKeys_2 ?_
  refine lv_istore_n (lv' := [(2, .int (iI 0)), (1, .int (iI 0)), (0, .ref h)]) hx hb dX0_sumOfKeys_3 rfl hl (by decide) rfl (fun ls hl => ?_)
  have LP4 : ∀ (n_LP4 : Nat) (r : Int) (a : Int), (0 ≤ r ∧ r ≤ 100) → (keyP o f 0 = a + keyP o f r) → (99 + 1 - r).toNat = n_LP4 → ∀ ls : Array Slot, lv_has ls 3 [(0, .ref h), (1, .int (iI a)), (2, .int (iI r))] → W p l e ({ frames := 2, cells := 0, slots := 0, locals := 42 } : Room) s m [.ref h].toArray below meth c s.heap [] 0 0 (MQ below (cS (fun r => r = keyP o f 0)) [.ref h].toArray s 0 0 (fun _ => False)) (F0 m 4 ls []) := by
    intro n_LP4
    induction n_LP4 using Nat.strongRecOn with
    | ind n_LP4 ih_LP4 =>
      intro r a hr hI hm_LP4 ls hl
      refine lv_iload_n hx hb dX0_sumOfKeys_4 rfl (lv_at hl 2 rfl) ?_
      refine q_bipush hx hb dX0_sumOfKeys_5 (by decide) ?_
      refine q_icmp_ge hx hb dX0_sumOfKeys_7 (tgt := 32) (by decide) (by omega) (by omega) (fun c1 => ?_) (fun c1 => ?_)
      · refine lv_iload_n hx hb dX0_sumOfKeys_32 rfl (lv_at hl 1 rfl) ?_
        exact q_iretS C0 hret hlk dX0_sumOfKeys_33 rfl (by rw [hI, keyP_e (by omega), Int.add_zero])
      · refine lv_aload_n hx hb dX0_sumOfKeys_10 rfl (lv_at hl 0 rfl) ?_
        refine lv_iload_n hx hb dX0_sumOfKeys_11 rfl (lv_at hl 2 rfl) ?_
        refine q_vS C0 lX0_32 (c_X0_isThere l D y L F h w o k g f r hR (by omega)) ⟨rfl, rfl⟩ rfl hP ha hF rfl rfl rfl hl rfl (Nat.le_of_ble_eq_true rfl) dX0_sumOfKeys_12 ⟨Nat.zero_le _, Nat.zero_le _⟩ (fun r2 e_r2 => ?_)
        subst e_r2
        have b_3 := isT_b f r
        refine q_if_eq hx hb dX0_sumOfKeys_15 (tgt := 26) (by decide) (by omega) (fun c4 => ?_) (fun c4 => ?_)
        · refine q_iinc (x := r) (n := 1) (lv' := [(2, .int (iI ((r + 1)))), (0, .ref h), (1, .int (iI a))]) hx hb dX0_sumOfKeys_26 hl (k := 2) rfl (by decide) rfl (fun ls hl => ?_)
          refine lv_goto (tgt := 4) hx hb dX0_sumOfKeys_29 (by decide) ?_
          exact ih_LP4 _ (by omega) (r + 1) a (by omega) (by first | (rw [hI, keyP_s (by omega), if_pos (by omega), Int.add_assoc]; done) | (rw [hI, keyP_s (by omega), if_neg (by omega), Int.zero_add])) rfl ls (lv_sub hl [1, 2, 0] rfl)
        · refine lv_iload_n hx hb dX0_sumOfKeys_18 rfl (lv_at hl 1 rfl) ?_
          refine lv_aload_n hx hb dX0_sumOfKeys_19 rfl (lv_at hl 0 rfl) ?_
          refine lv_iload_n hx hb dX0_sumOfKeys_20 rfl (lv_at hl 2 rfl) ?_
          refine q_vS C0 lX0_36 (c_X0_keyOf l D y L F h w o k g f r hR (by omega)) ⟨rfl, rfl⟩ rfl hP ha hF rfl rfl rfl hl rfl (Nat.le_of_ble_eq_true rfl) dX0_sumOfKeys_21 ⟨Nat.zero_le _, Nat.zero_le _⟩ (fun r5 e_r5 => ?_)
          subst e_r5
          have b_6 := @keyR_b o r (by omega)
          refine q_iadd hx hb dX0_sumOfKeys_24 ?_
          refine lv_istore_n (lv' := [(1, .int (iI ((a + (keyR o r))))), (0, .ref h), (2, .int (iI r))]) hx hb dX0_sumOfKeys_25 rfl hl (by decide) rfl (fun ls hl => ?_)
          refine q_iinc (x := r) (n := 1) (lv' := [(2, .int (iI ((r + 1)))), (1, .int (iI ((a + (keyR o r))))), (0, .ref h)]) hx hb dX0_sumOfKeys_26 hl (k := 2) rfl (by decide) rfl (fun ls hl => ?_)
          refine lv_goto (tgt := 4) hx hb dX0_sumOfKeys_29 (by decide) ?_
          exact ih_LP4 _ (by omega) (r + 1) (a + (keyR o r)) (by omega) (by first | (rw [hI, keyP_s (by omega), if_pos (by omega), Int.add_assoc]; done) | (rw [hI, keyP_s (by omega), if_neg (by omega), Int.zero_add])) rfl ls (lv_sub hl [2, 1, 0] rfl)
  exact LP4 _ 0 0 (by omega) (by rw [Int.zero_add]) rfl ls (lv_sub hl [2, 1, 0] rfl)
set_option maxHeartbeats 800000 in
set_option maxRecDepth 100000 in
theorem c_X0_hash (l : Launch) (D : va_G) (y : Nat → ClassId) (L : List Nat) (F : Nat → va_E) (h : Nat) (w : Nat) (o : Int) (k : Int) (g : Int) (f : Int → Int) (hR : Rw y L F h w o k g f) : Met l yX0_hash (.code yX0_hash cX0_hash 3 (some .int) :: Tt) ({ frames := 2, cells := 0, slots := 0, locals := 42 }) (PcR D y L F [.ref h]) (cS (fun r => r = hashP o f 0)) 0 0 (fun _ => False) := by
  have hR0 := hR
  obtain ⟨ha, hF, hw, hFw, ho, hfb⟩ := hR0
  refine q_ofR (lv := [(0, .ref h)]) (by decide) (Nat.le_of_ble_eq_true rfl) rfl (fun p e s m below meth c C0 hret hlk hP ls hl => ?_)
  have hx := C0.1.1
  have hb := C0.1.2.1
  have hts := C0.1.2.2.2.2
  refine q_iconst hx hb dX0_hash_0 ?_
  refine lv_istore_n (lv' := [(1, .int (iI 0)), (0, .ref h)]) hx hb dX0_hash_1 rfl hl (by decide) rfl (fun ls hl => ?_)
  refine q_iconst hx hb dX0_hash_2 ?_
  refine lv_istore_n (lv' := [(2, .int (iI 0)), (1, .int (iI 0)), (0, .ref h)]) hx hb dX0_hash_3 rfl hl (by decide) rfl (fun ls hl => ?_)
  have LP4 : ∀ (n_LP4 : Nat) (r : Int) (a : Int), (0 ≤ r ∧ r ≤ 100) → (hashP o f 0 = a + hashP o f r) → (99 + 1 - r).toNat = n_LP4 → ∀ ls : Array Slot, lv_has ls 3 [(0, .ref h), (1, .int (iI a)), (2, .int (iI r))] → W p l e ({ frames := 2, cells := 0, slots := 0, locals := 42 } : Room) s m [.ref h].toArray below meth c s.heap [] 0 0 (MQ below (cS (fun r => r = hashP o f 0)) [.ref h].toArray s 0 0 (fun _ => False)) (F0 m 4 ls []) := by
    intro n_LP4
    induction n_LP4 using Nat.strongRecOn with
    | ind n_LP4 ih_LP4 =>
      intro r a hr hI hm_LP4 ls hl
      refine lv_iload_n hx hb dX0_hash_4 rfl (lv_at hl 2 rfl) ?_
      refine q_bipush hx hb dX0_hash_5 (by decide) ?_
      refine q_icmp_ge hx hb dX0_hash_7 (tgt := 38) (by decide) (by omega) (by omega) (fun c1 => ?_) (fun c1 => ?_)
      · refine lv_iload_n hx hb dX0_hash_38 rfl (lv_at hl 1 rfl) ?_
        exact q_iretS C0 hret hlk dX0_hash_39 rfl (by rw [hI, hashP_e (by omega), Int.add_zero])
      · refine lv_aload_n hx hb dX0_hash_10 rfl (lv_at hl 0 rfl) ?_
        refine lv_iload_n hx hb dX0_hash_11 rfl (lv_at hl 2 rfl) ?_
        refine q_vS C0 lX0_32 (c_X0_isThere l D y L F h w o k g f r hR (by omega)) ⟨rfl, rfl⟩ rfl hP ha hF rfl rfl rfl hl rfl (Nat.le_of_ble_eq_true rfl) dX0_hash_12 ⟨Nat.zero_le _, Nat.zero_le _⟩ (fun r2 e_r2 => ?_)
        subst e_r2
        have b_3 := isT_b f r
        refine q_if_eq hx hb dX0_hash_15 (tgt := 32) (by decide) (by omega) (fun c4 => ?_) (fun c4 => ?_)
        · refine q_iinc (x := r) (n := 1) (lv' := [(2, .int (iI ((r + 1)))), (0, .ref h), (1, .int (iI a))]) hx hb dX0_hash_32 hl (k := 2) rfl (by decide) rfl (fun ls hl => ?_)
          refine lv_goto (tgt := 4) hx hb dX0_hash_35 (by decide) ?_
          exact ih_LP4 _ (by omega) (r + 1) a (by omega) (by first | (rw [hI, hashP_s (by omega), if_pos (by omega), Int.add_assoc]; done) | (rw [hI, hashP_s (by omega), if_neg (by omega), Int.zero_add])) rfl ls (lv_sub hl [1, 2, 0] rfl)
        · refine lv_iload_n hx hb dX0_hash_18 rfl (lv_at hl 1 rfl) ?_
          refine lv_aload_n hx hb dX0_hash_19 rfl (lv_at hl 0 rfl) ?_
          refine lv_iload_n hx hb dX0_hash_20 rfl (lv_at hl 2 rfl) ?_
          refine q_vS C0 lX0_36 (c_X0_keyOf l D y L F h w o k g f r hR (by omega)) ⟨rfl, rfl⟩ rfl hP ha hF rfl rfl rfl hl rfl (Nat.le_of_ble_eq_true rfl) dX0_hash_21 ⟨Nat.zero_le _, Nat.zero_le _⟩ (fun r5 e_r5 => ?_)
          subst e_r5
          have b_6 := @keyR_b o r (by omega)
          refine lv_aload_n hx hb dX0_hash_24 rfl (lv_at hl 0 rfl) ?_
          refine lv_iload_n hx hb dX0_hash_25 rfl (lv_at hl 2 rfl) ?_
          refine q_vS C0 lX0_39 (c_X0_worthAt l D y L F h w o k g f r hR (by omega)) ⟨rfl, rfl⟩ rfl hP ha hF rfl rfl rfl hl rfl (Nat.le_of_ble_eq_true rfl) dX0_hash_26 ⟨Nat.zero_le _, Nat.zero_le _⟩ (fun r7 e_r7 => ?_)
          subst e_r7
          have b_8 := @wAt_b f (hR.2.2.2.2.2) r
          refine q_ixor hx hb dX0_hash_29 ?_
          refine q_iadd hx hb dX0_hash_30 ?_
          refine lv_istore_n (lv' := [(1, .int (iI ((a + (xorI (keyR o r) (wAt f r)))))), (0, .ref h), (2, .int (iI r))]) hx hb dX0_hash_31 rfl hl (by decide) rfl (fun ls hl => ?_)
          refine q_iinc (x := r) (n := 1) (lv' := [(2, .int (iI ((r + 1)))), (1, .int (iI ((a + (xorI (keyR o r) (wAt f r)))))), (0, .ref h)]) hx hb dX0_hash_32 hl (k := 2) rfl (by decide) rfl (fun ls hl => ?_)
          refine lv_goto (tgt := 4) hx hb dX0_hash_35 (by decide) ?_
          exact ih_LP4 _ (by omega) (r + 1) (a + (xorI (keyR o r) (wAt f r))) (by omega) (by first | (rw [hI, hashP_s (by omega), if_pos (by omega), Int.add_assoc]; done) | (rw [hI, hashP_s (by omega), if_neg (by omega), Int.zero_add])) rfl ls (lv_sub hl [2, 1, 0] rfl)
  exact LP4 _ 0 0 (by omega) (by rw [Int.zero_add]) rfl ls (lv_sub hl [2, 1, 0] rfl)
set_option maxHeartbeats 800000 in
set_option maxRecDepth 100000 in
theorem c_X0_hasWorth (l : Launch) (D : va_G) (y : Nat → ClassId) (L : List Nat) (F : Nat → va_E) (h : Nat) (w : Nat) (o : Int) (k : Int) (g : Int) (f : Int → Int) (n : Int) (hR : Rw y L F h w o k g f) (hn : -1000 ≤ n ∧ n ≤ 1000) : Met l yX0_hasWorth (.code yX0_hasWorth cX0_hasWorth 3 (some .boolean) :: Tt) ({ frames := 1, cells := 0, slots := 0, locals := 21 }) (PcR D y L F [.ref h, .int (iI n)]) (cS (fun r => r = hasW f n)) 0 0 (fun _ => False) := by
  have hR0 := hR
  obtain ⟨ha, hF, hw, hFw, ho, hfb⟩ := hR0
  refine q_ofR (lv := [(0, .ref h), (1, .int (iI n))]) (by decide) (Nat.le_of_ble_eq_true rfl) rfl (fun p e s m below meth c C0 hret hlk hP ls hl => ?_)
  have hx := C0.1.1
  have hb := C0.1.2.1
  have hts := C0.1.2.2.2.2
  refine q_iconst hx hb dX0_hasWorth_0 ?_
  refine lv_istore_n (lv' := [(2, .int (iI 0)), (0, .ref h), (1, .int (iI n))]) hx hb dX0_hasWorth_1 rfl hl (by decide) rfl (fun ls hl => ?_)
  have LP2 : ∀ (n_LP2 : Nat) (r : Int), (0 ≤ r ∧ r ≤ 100) → (hasW f n = 1 - allP (hwU f n) r) → (100 - r).toNat = n_LP2 → ∀ ls : Array Slot, lv_has ls 3 [(0, .ref h), (1, .int (iI n)), (2, .int (iI r))] → W p l e ({ frames := 1, cells := 0, slots := 0, locals := 21 } : Room) s m [.ref h, .int (iI n)].toArray below meth c s.heap [] 0 0 (MQ below (cS (fun r => r = hasW f n)) [.ref h, .int (iI n)].toArray s 0 0 (fun _ => False)) (F0 m 2 ls []) := by
    intro n_LP2
    induction n_LP2 using Nat.strongRecOn with
    | ind n_LP2 ih_LP2 =>
      intro r hr hI hm_LP2 ls hl
      refine lv_iload_n hx hb dX0_hasWorth_2 rfl (lv_at hl 2 rfl) ?_
      refine q_bipush hx hb dX0_hasWorth_3 (by decide) ?_
      refine q_icmp_ge hx hb dX0_hasWorth_5 (tgt := 25) (by decide) (by omega) (by omega) (fun c1 => ?_) (fun c1 => ?_)
      · refine q_iconst hx hb dX0_hasWorth_25 ?_
        exact q_iretS C0 hret hlk dX0_hasWorth_26 (by decide) (by rw [hI, allP_e (by omega)]; rfl)
      · refine lv_aload_n hx hb dX0_hasWorth_8 rfl (lv_at hl 0 rfl) ?_
        refine lv_iload_n hx hb dX0_hasWorth_9 rfl (lv_at hl 2 rfl) ?_
        refine q_vS C0 lX0_39 (c_X0_worthAt l D y L F h w o k g f r hR (by omega)) ⟨rfl, rfl⟩ rfl hP ha hF rfl rfl rfl hl rfl (Nat.le_of_ble_eq_true rfl) dX0_hasWorth_10 ⟨Nat.zero_le _, Nat.zero_le _⟩ (fun r2 e_r2 => ?_)
        subst e_r2
        have b_3 := @wAt_b f (hR.2.2.2.2.2) r
        refine lv_iload_n hx hb dX0_hasWorth_13 rfl (lv_at hl 1 rfl) ?_
        refine q_icmp_ne hx hb dX0_hasWorth_14 (tgt := 19) (by decide) (by omega) (by omega) (fun c4 => ?_) (fun c4 => ?_)
        · refine q_iinc (x := r) (n := 1) (lv' := [(2, .int (iI ((r + 1)))), (0, .ref h), (1, .int (iI n))]) hx hb dX0_hasWorth_19 hl (k := 2) rfl (by decide) rfl (fun ls hl => ?_)
          refine lv_goto (tgt := 2) hx hb dX0_hasWorth_22 (by decide) ?_
          exact ih_LP2 _ (by omega) (r + 1) (by omega) (by rw [hI, allP_s (by unfold hwU; rw [if_neg (by omega)]; decide) (by omega)]) rfl ls (lv_sub hl [1, 2, 0] rfl)
        · refine q_iconst hx hb dX0_hasWorth_17 ?_
          exact q_iretS C0 hret hlk dX0_hasWorth_18 (by decide) (by rw [hI, allP_n (by unfold hwU; rw [if_pos (by omega)]) (by omega)]; rfl)
  exact LP2 _ 0 (by omega) (rfl) rfl ls (lv_sub hl [1, 2, 0] rfl)
set_option maxHeartbeats 800000 in
set_option maxRecDepth 100000 in
theorem c_X0_hasKeysOf (l : Launch) (D : va_G) (y : Nat → ClassId) (L : List Nat) (F : Nat → va_E) (h : Nat) (w : Nat) (o : Int) (k : Int) (g : Int) (f : Int → Int) (h2 : Nat) (w2 : Nat) (o2 : Int) (k2 : Int) (g2 : Int) (f2 : Int → Int) (hR : Rw y L F h w o k g f) (hR2 : Rw y L F h2 w2 o2 k2 g2 f2) : Met l yX0_hasKeysOf (.code yX0_hasKeysOf cX0_hasKeysOf 3 (some .boolean) :: Tt) ({ frames := 2, cells := 0, slots := 0, locals := 42 }) (PcR D y L F [.ref h, .ref h2]) (cS (fun r => r = hasK o o2 f f2)) 0 0 (fun _ => False) := by
  have hR0 := hR
  obtain ⟨ha, hF, hw, hFw, ho, hfb⟩ := hR0
  have hR02 := hR2
  obtain ⟨ha2, hF2, hw2, hFw2, ho2, hfb2⟩ := hR02
  refine q_ofR (lv := [(0, .ref h), (1, .ref h2)]) (by decide) (Nat.le_of_ble_eq_true rfl) rfl (fun p e s m below meth c C0 hret hlk hP ls hl => ?_)
  have hx := C0.1.1
  have hb := C0.1.2.1
  have hts := C0.1.2.2.2.2
  refine q_iconst hx hb dX0_hasKeysOf_0 ?_
  refine lv_istore_n (lv' := [(2, .int (iI 0)), (0, .ref h), (1, .ref h2)]) hx hb dX0_hasKeysOf_1 rfl hl (by decide) rfl (fun ls hl => ?_)
  have LP2 : ∀ (n_LP2 : Nat) (r : Int), (0 ≤ r ∧ r ≤ 100) → (hasK o o2 f f2 = allP (hkU o o2 f f2) r) → (100 - r).toNat = n_LP2 → ∀ ls : Array Slot, lv_has ls 3 [(0, .ref h), (1, .ref h2), (2, .int (iI r))] → W p l e ({ frames := 2, cells := 0, slots := 0, locals := 42 } : Room) s m [.ref h, .ref h2].toArray below meth c s.heap [] 0 0 (MQ below (cS (fun r => r = hasK o o2 f f2)) [.ref h, .ref h2].toArray s 0 0 (fun _ => False)) (F0 m 2 ls []) := by
    intro n_LP2
    induction n_LP2 using Nat.strongRecOn with
    | ind n_LP2 ih_LP2 =>
      intro r hr hI hm_LP2 ls hl
      refine lv_iload_n hx hb dX0_hasKeysOf_2 rfl (lv_at hl 2 rfl) ?_
      refine q_bipush hx hb dX0_hasKeysOf_3 (by decide) ?_
      refine q_icmp_ge hx hb dX0_hasKeysOf_5 (tgt := 40) (by decide) (by omega) (by omega) (fun c1 => ?_) (fun c1 => ?_)
      · refine q_iconst hx hb dX0_hasKeysOf_40 ?_
        exact q_iretS C0 hret hlk dX0_hasKeysOf_41 (by decide) (by rw [hI, allP_e (by omega)])
      · refine lv_aload_n hx hb dX0_hasKeysOf_8 rfl (lv_at hl 1 rfl) ?_
        refine lv_iload_n hx hb dX0_hasKeysOf_9 rfl (lv_at hl 2 rfl) ?_
        refine q_vS C0 lX0_32 (c_X0_isThere l D y L F h2 w2 o2 k2 g2 f2 r hR2 (by omega)) ⟨rfl, rfl⟩ rfl hP ha2 hF2 rfl rfl rfl hl rfl (Nat.le_of_ble_eq_true rfl) dX0_hasKeysOf_10 ⟨Nat.zero_le _, Nat.zero_le _⟩ (fun r2 e_r2 => ?_)
        subst e_r2
        have b_3 := isT_b f2 r
        refine q_if_eq hx hb dX0_hasKeysOf_13 (tgt := 34) (by decide) (by omega) (fun c4 => ?_) (fun c4 => ?_)
        · refine q_iinc (x := r) (n := 1) (lv' := [(2, .int (iI ((r + 1)))), (0, .ref h), (1, .ref h2)]) hx hb dX0_hasKeysOf_34 hl (k := 2) rfl (by decide) rfl (fun ls hl => ?_)
          refine lv_goto (tgt := 2) hx hb dX0_hasKeysOf_37 (by decide) ?_
          exact ih_LP2 _ (by omega) (r + 1) (by omega) (by rw [hI, allP_s (by unfold hkU; rw [if_neg (by omega)]; decide) (by omega)]) rfl ls (lv_sub hl [1, 2, 0] rfl)
        · refine lv_aload_n hx hb dX0_hasKeysOf_16 rfl (lv_at hl 0 rfl) ?_
          refine lv_aload_n hx hb dX0_hasKeysOf_17 rfl (lv_at hl 0 rfl) ?_
          refine lv_aload_n hx hb dX0_hasKeysOf_18 rfl (lv_at hl 1 rfl) ?_
          refine lv_iload_n hx hb dX0_hasKeysOf_19 rfl (lv_at hl 2 rfl) ?_
          refine q_vS C0 lX0_36 (c_X0_keyOf l D y L F h2 w2 o2 k2 g2 f2 r hR2 (by omega)) ⟨rfl, rfl⟩ rfl hP ha2 hF2 rfl rfl rfl hl rfl (Nat.le_of_ble_eq_true rfl) dX0_hasKeysOf_20 ⟨Nat.zero_le _, Nat.zero_le _⟩ (fun r5 e_r5 => ?_)
          subst e_r5
          have b_6 := @keyR_b o2 r (by omega)
          refine q_vS C0 lX0_29 (c_X0_rankOf l D y L F h w o k g f (keyR o2 r) hR (by omega)) ⟨rfl, rfl⟩ rfl hP ha hF rfl rfl rfl hl rfl (Nat.le_of_ble_eq_true rfl) dX0_hasKeysOf_23 ⟨Nat.zero_le _, Nat.zero_le _⟩ (fun r7 e_r7 => ?_)
          subst e_r7
          have b_8 := @turn_b o (keyR o2 r) (by omega)
          refine q_vS C0 lX0_32 (c_X0_isThere l D y L F h w o k g f (turn o (keyR o2 r)) hR (by omega)) ⟨rfl, rfl⟩ rfl hP ha hF rfl rfl rfl hl rfl (Nat.le_of_ble_eq_true rfl) dX0_hasKeysOf_26 ⟨Nat.zero_le _, Nat.zero_le _⟩ (fun r9 e_r9 => ?_)
          subst e_r9
          have b_10 := isT_b f (turn o (keyR o2 r))
          refine q_if_ne hx hb dX0_hasKeysOf_29 (tgt := 34) (by decide) (by omega) (fun c11 => ?_) (fun c11 => ?_)
          · refine q_iinc (x := r) (n := 1) (lv' := [(2, .int (iI ((r + 1)))), (0, .ref h), (1, .ref h2)]) hx hb dX0_hasKeysOf_34 hl (k := 2) rfl (by decide) rfl (fun ls hl => ?_)
            refine lv_goto (tgt := 2) hx hb dX0_hasKeysOf_37 (by decide) ?_
            exact ih_LP2 _ (by omega) (r + 1) (by omega) (by rw [hI, allP_s (by unfold hkU; rw [if_neg (by omega)]; decide) (by omega)]) rfl ls (lv_sub hl [1, 2, 0] rfl)
          · refine q_iconst hx hb dX0_hasKeysOf_32 ?_
            exact q_iretS C0 hret hlk dX0_hasKeysOf_33 (by decide) (by rw [hI, allP_n (by unfold hkU; rw [if_pos ⟨by omega, by omega⟩]) (by omega)])
  exact LP2 _ 0 (by omega) (rfl) rfl ls (lv_sub hl [1, 2, 0] rfl)
set_option maxHeartbeats 800000 in
set_option maxRecDepth 100000 in
theorem c_X0_isSameAs (l : Launch) (D : va_G) (y : Nat → ClassId) (L : List Nat) (F : Nat → va_E) (h : Nat) (w : Nat) (o : Int) (k : Int) (g : Int) (f : Int → Int) (h2 : Nat) (w2 : Nat) (o2 : Int) (k2 : Int) (g2 : Int) (f2 : Int → Int) (hR : Rw y L F h w o k g f) (hR2 : Rw y L F h2 w2 o2 k2 g2 f2) : Met l yX0_isSameAs (.code yX0_isSameAs cX0_isSameAs 3 (some .boolean) :: Tt) ({ frames := 2, cells := 0, slots := 0, locals := 42 }) (PcR D y L F [.ref h, .ref h2]) (cS (fun r => r = sameR o o2 f f2)) 0 0 (fun _ => False) := by
  have hR0 := hR
  obtain ⟨ha, hF, hw, hFw, ho, hfb⟩ := hR0
  have hR02 := hR2
  obtain ⟨ha2, hF2, hw2, hFw2, ho2, hfb2⟩ := hR02
  refine q_ofR (lv := [(0, .ref h), (1, .ref h2)]) (by decide) (Nat.le_of_ble_eq_true rfl) rfl (fun p e s m below meth c C0 hret hlk hP ls hl => ?_)
  have hx := C0.1.1
  have hb := C0.1.2.1
  have hts := C0.1.2.2.2.2
  refine q_iconst hx hb dX0_isSameAs_0 ?_
  refine lv_istore_n (lv' := [(2, .int (iI 0)), (0, .ref h), (1, .ref h2)]) hx hb dX0_isSameAs_1 rfl hl (by decide) rfl (fun ls hl => ?_)
  have LP2 : ∀ (n_LP2 : Nat) (r : Int), (0 ≤ r ∧ r ≤ 100) → (sameR o o2 f f2 = allP (smU o o2 f f2) r) → (100 - r).toNat = n_LP2 → ∀ ls : Array Slot, lv_has ls 3 [(0, .ref h), (1, .ref h2), (2, .int (iI r))] → W p l e ({ frames := 2, cells := 0, slots := 0, locals := 42 } : Room) s m [.ref h, .ref h2].toArray below meth c s.heap [] 0 0 (MQ below (cS (fun r => r = sameR o o2 f f2)) [.ref h, .ref h2].toArray s 0 0 (fun _ => False)) (F0 m 2 ls []) := by
    intro n_LP2
    induction n_LP2 using Nat.strongRecOn with
    | ind n_LP2 ih_LP2 =>
      intro r hr hI hm_LP2 ls hl
      refine lv_iload_n hx hb dX0_isSameAs_2 rfl (lv_at hl 2 rfl) ?_
      refine q_bipush hx hb dX0_isSameAs_3 (by decide) ?_
      refine q_icmp_ge hx hb dX0_isSameAs_5 (tgt := 37) (by decide) (by omega) (by omega) (fun c1 => ?_) (fun c1 => ?_)
      · refine q_iconst hx hb dX0_isSameAs_37 ?_
        exact q_iretS C0 hret hlk dX0_isSameAs_38 (by decide) (by rw [hI, allP_e (by omega)])
      · refine lv_aload_n hx hb dX0_isSameAs_8 rfl (lv_at hl 0 rfl) ?_
        refine lv_aload_n hx hb dX0_isSameAs_9 rfl (lv_at hl 0 rfl) ?_
        refine lv_iload_n hx hb dX0_isSameAs_10 rfl (lv_at hl 2 rfl) ?_
        refine q_vS C0 lX0_29 (c_X0_rankOf l D y L F h w o k g f r hR (by omega)) ⟨rfl, rfl⟩ rfl hP ha hF rfl rfl rfl hl rfl (Nat.le_of_ble_eq_true rfl) dX0_isSameAs_11 ⟨Nat.zero_le _, Nat.zero_le _⟩ (fun r2 e_r2 => ?_)
        subst e_r2
        have b_3 := @turn_b o r (by omega)
        refine q_vS C0 lX0_39 (c_X0_worthAt l D y L F h w o k g f (turn o r) hR (by omega)) ⟨rfl, rfl⟩ rfl hP ha hF rfl rfl rfl hl rfl (Nat.le_of_ble_eq_true rfl) dX0_isSameAs_14 ⟨Nat.zero_le _, Nat.zero_le _⟩ (fun r4 e_r4 => ?_)
        subst e_r4
        have b_5 := @wAt_b f (hR.2.2.2.2.2) (turn o r)
        refine lv_aload_n hx hb dX0_isSameAs_17 rfl (lv_at hl 1 rfl) ?_
        refine lv_aload_n hx hb dX0_isSameAs_18 rfl (lv_at hl 1 rfl) ?_
        refine lv_iload_n hx hb dX0_isSameAs_19 rfl (lv_at hl 2 rfl) ?_
        refine q_vS C0 lX0_29 (c_X0_rankOf l D y L F h2 w2 o2 k2 g2 f2 r hR2 (by omega)) ⟨rfl, rfl⟩ rfl hP ha2 hF2 rfl rfl rfl hl rfl (Nat.le_of_ble_eq_true rfl) dX0_isSameAs_20 ⟨Nat.zero_le _, Nat.zero_le _⟩ (fun r6 e_r6 => ?_)
        subst e_r6
        have b_7 := @turn_b o2 r (by omega)
        refine q_vS C0 lX0_39 (c_X0_worthAt l D y L F h2 w2 o2 k2 g2 f2 (turn o2 r) hR2 (by omega)) ⟨rfl, rfl⟩ rfl hP ha2 hF2 rfl rfl rfl hl rfl (Nat.le_of_ble_eq_true rfl) dX0_isSameAs_23 ⟨Nat.zero_le _, Nat.zero_le _⟩ (fun r8 e_r8 => ?_)
        subst e_r8
        have b_9 := @wAt_b f2 (hR2.2.2.2.2.2) (turn o2 r)
        refine q_icmp_eq hx hb dX0_isSameAs_26 (tgt := 31) (by decide) (by omega) (by omega) (fun c10 => ?_) (fun c10 => ?_)
        · refine q_iinc (x := r) (n := 1) (lv' := [(2, .int (iI ((r + 1)))), (0, .ref h), (1, .ref h2)]) hx hb dX0_isSameAs_31 hl (k := 2) rfl (by decide) rfl (fun ls hl => ?_)
          refine lv_goto (tgt := 2) hx hb dX0_isSameAs_34 (by decide) ?_
          exact ih_LP2 _ (by omega) (r + 1) (by omega) (by rw [hI, allP_s (by unfold smU; rw [if_pos (by omega)]; decide) (by omega)]) rfl ls (lv_sub hl [1, 2, 0] rfl)
        · refine q_iconst hx hb dX0_isSameAs_29 ?_
          exact q_iretS C0 hret hlk dX0_isSameAs_30 (by decide) (by rw [hI, allP_n (by unfold smU; rw [if_neg (by omega)]) (by omega)])
  exact LP2 _ 0 (by omega) (rfl) rfl ls (lv_sub hl [1, 2, 0] rfl)
