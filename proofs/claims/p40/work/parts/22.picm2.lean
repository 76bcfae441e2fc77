def MW (μ : MS) : Prop := (∀ i, vbk μ i < vn μ) ∧ (∀ i, vsh μ i < vn μ) ∧ (∀ i, vvw μ i < vn μ) ∧ (∀ i, vwk μ = some i → i < vn μ) ∧ (∀ i, 0 ≤ vvl μ i ∧ vvl μ i ≤ 100 ∧ -1 ≤ vvh μ i ∧ vvh μ i ≤ 99) ∧ (0 ≤ vbr μ ∧ vbr μ ≤ 1) ∧ (-1 ≤ vtd μ ∧ vtd μ ≤ 99) ∧ (0 ≤ vbh μ ∧ vbh μ ≤ 100) ∧ (vtd μ ≠ -1 → vwk μ ≠ none) ∧ (∀ i j, 0 ≤ i → i < 4 → 0 ≤ j → j < 4 → vbk μ i = vbk μ j → i = j) ∧ (∀ i j, 0 ≤ i → i < 3 → 0 ≤ j → j < 3 → vsh μ i = vsh μ j → i = j)
def tldR (o : Int) (f : Int → Int) (k z : Int) : Int := if k = -1 then -1 else if z = 0 then k else k * 100 + f (turn o k)
def k100 (n : Int) : Int := if n = -1 then -1 else n / 100
def hmU (o : Int) (f : Int → Int) (k : Int) : Int := if isT f (turn o k) ≠ 0 then xorI k (mwd o f k) else 0
def kmU (o : Int) (f : Int → Int) (k : Int) : Int := if isT f (turn o k) ≠ 0 then k else 0
def sm2U (o o2 : Int) (f f2 : Int → Int) (k : Int) : Int := if mwd o f k = mwd o2 f2 k then 1 else 0
def hashM (o : Int) (f : Int → Int) : Int := sumP (hmU o f) 0 99
def sumM (o : Int) (f : Int → Int) : Int := sumP (kmU o f) 0 99
def sameM (o o2 : Int) (f f2 : Int → Int) : Int := allP (sm2U o o2 f f2) 0
def wmU (f : Int → Int) (r : Int) : Int := max 0 (f r)
def cgS (μ : MS) (i : Nat) (r z w : Int) : MS := tDi (if z = 0 then tWr μ i else tSe (tWr μ i) i r w) 0
set_option maxHeartbeats 800000 in
set_option maxRecDepth 100000 in
theorem c_X6_told (l : Launch) (D : va_G) (y : Nat → ClassId) (L : List Nat) (F : Nat → va_E) (h : Nat) (w : Nat) (o : Int) (f : Int → Int) (k : Int) (z : Int) (hB : MB y L F h w o f) (hk : -1 ≤ k ∧ k ≤ 99) (hz : 0 ≤ z ∧ z ≤ 1) : Met l yX6_told (.code yX6_told cX6_told 3 (some .int) :: Tt) ({ frames := 1, cells := 0, slots := 0, locals := 21 }) (PcR D y L F [.ref h, .int (iI k), .int (iI z)]) (cS (fun r => r = tldR o f k z)) 0 0 (fun _ => False) := by
  have hB0 := hB
  obtain ⟨ha, hF, hw, hFw, ho, hfb⟩ := hB0
  have hfm : ∀ k, -1 ≤ mwd o f k ∧ mwd o f k ≤ 99 := fun k => hfb _
  refine q_ofR (lv := [(0, .ref h), (1, .int (iI k)), (2, .int (iI z))]) (by decide) (Nat.le_of_ble_eq_true rfl) rfl (fun p e s m below meth c C0 hret hlk hP ls hl => ?_)
  have hx := C0.1.1
  have hb := C0.1.2.1
  have hts := C0.1.2.2.2.2
  refine lv_iload_n hx hb dX6_told_0 rfl (lv_at hl 1 rfl) ?_
  refine q_iconst hx hb dX6_told_1 ?_
  refine q_icmp_ne hx hb dX6_told_2 (tgt := 9) (by decide) (by omega) (by omega) (fun c1 => ?_) (fun c1 => ?_)
  · refine lv_iload_n hx hb dX6_told_9 rfl (lv_at hl 2 rfl) ?_
    refine q_if_eq hx hb dX6_told_10 (tgt := 21) (by decide) (by omega) (fun c2 => ?_) (fun c2 => ?_)
    · refine lv_iload_n hx hb dX6_told_21 rfl (lv_at hl 1 rfl) ?_
      exact q_iretS C0 hret hlk dX6_told_22 rfl (by unfold tldR; (repeat' split) <;> first | rfl | omega | (exfalso; omega))
    · refine lv_aload_n hx hb dX6_told_13 rfl (lv_at hl 0 rfl) ?_
      refine lv_iload_n hx hb dX6_told_14 rfl (lv_at hl 1 rfl) ?_
      refine q_vS C0 lX6_117 (c_X5_pair l D y L F h w o f k hB (by omega)) ⟨rfl, rfl⟩ rfl hP ha hF rfl rfl rfl hl rfl (Nat.le_of_ble_eq_true rfl) dX6_told_15 ⟨Nat.zero_le _, Nat.zero_le _⟩ (fun r3 e_r3 => ?_)
      subst e_r3
      refine lv_goto (tgt := 22) hx hb dX6_told_18 (by decide) ?_
      exact q_iretS C0 hret hlk dX6_told_22 rfl (by unfold tldR; (repeat' split) <;> first | rfl | omega | (exfalso; omega))
  · refine q_iconst hx hb dX6_told_5 ?_
    refine lv_goto (tgt := 22) hx hb dX6_told_6 (by decide) ?_
    exact q_iretS C0 hret hlk dX6_told_22 rfl (by unfold tldR; (repeat' split) <;> first | rfl | omega | (exfalso; omega))
set_option maxHeartbeats 800000 in
set_option maxRecDepth 100000 in
theorem c_X6_key (l : Launch) (D : va_G) (y : Nat → ClassId) (L : List Nat) (F : Nat → va_E) (n : Int) (hn : -1 ≤ n ∧ n ≤ 9999) : Met l yX6_key (.code yX6_key cX6_key 1 (some .int) :: Tt) ({ frames := 0, cells := 0, slots := 0, locals := 0 }) (PcR D y L F [.int (iI n)]) (cS (fun r => r = k100 n)) 0 0 (fun _ => False) := by
  refine q_ofR (lv := [(0, .int (iI n))]) (by decide) (Nat.le_of_ble_eq_true rfl) rfl (fun p e s m below meth c C0 hret hlk hP ls hl => ?_)
  have hx := C0.1.1
  have hb := C0.1.2.1
  have hts := C0.1.2.2.2.2
  refine lv_iload_n hx hb dX6_key_0 rfl (lv_at hl 0 rfl) ?_
  refine q_iconst hx hb dX6_key_1 ?_
  refine q_icmp_ne hx hb dX6_key_2 (tgt := 9) (by decide) (by omega) (by omega) (fun c1 => ?_) (fun c1 => ?_)
  · refine lv_iload_n hx hb dX6_key_9 rfl (lv_at hl 0 rfl) ?_
    refine q_bipush hx hb dX6_key_10 (by decide) ?_
    refine q_idiv hx hb dX6_key_12 (by omega) (by omega) ?_
    exact q_iretS C0 hret hlk dX6_key_13 rfl (by unfold k100; (repeat' split) <;> first | rfl | omega | (exfalso; omega))
  · refine q_iconst hx hb dX6_key_5 ?_
    refine lv_goto (tgt := 13) hx hb dX6_key_6 (by decide) ?_
    exact q_iretS C0 hret hlk dX6_key_13 rfl (by unfold k100; (repeat' split) <;> first | rfl | omega | (exfalso; omega))
set_option maxHeartbeats 800000 in
set_option maxRecDepth 100000 in
theorem c_X6_hash (l : Launch) (D : va_G) (y : Nat → ClassId) (L : List Nat) (F : Nat → va_E) (h : Nat) (w : Nat) (o : Int) (f : Int → Int) (hB : MB y L F h w o f) : Met l yX6_hash (.code yX6_hash cX6_hash 3 (some .int) :: Tt) ({ frames := 1, cells := 0, slots := 0, locals := 21 }) (PcR D y L F [.ref h]) (cS (fun r => r = hashM o f)) 0 0 (fun _ => False) := by
  have hB0 := hB
  obtain ⟨ha, hF, hw, hFw, ho, hfb⟩ := hB0
  have hfm : ∀ k, -1 ≤ mwd o f k ∧ mwd o f k ≤ 99 := fun k => hfb _
  have fl_ : hashM o f = sumP (hmU o f) 0 99 := rfl
  refine q_ofR (lv := [(0, .ref h)]) (by decide) (Nat.le_of_ble_eq_true rfl) rfl (fun p e s m below meth c C0 hret hlk hP ls hl => ?_)
  have hx := C0.1.1
  have hb := C0.1.2.1
  have hts := C0.1.2.2.2.2
  refine q_iconst hx hb dX6_hash_0 ?_
  refine lv_istore_n (lv' := [(1, .int (iI 0)), (0, .ref h)]) hx hb dX6_hash_1 rfl hl (by decide) rfl (fun ls hl => ?_)
  refine q_iconst hx hb dX6_hash_2 ?_
  refine lv_istore_n (lv' := [(2, .int (iI 0)), (1, .int (iI 0)), (0, .ref h)]) hx hb dX6_hash_3 rfl hl (by decide) rfl (fun ls hl => ?_)
  have LP4 : ∀ (n_LP4 : Nat) (r : Int) (a : Int), (0 ≤ r ∧ r ≤ 100) → (hashM o f = a + sumP (hmU o f) r 99) → (100 - r).toNat = n_LP4 → ∀ ls : Array Slot, lv_has ls 3 [(0, .ref h), (1, .int (iI a)), (2, .int (iI r))] → W p l e ({ frames := 1, cells := 0, slots := 0, locals := 21 } : Room) s m [.ref h].toArray below meth c s.heap [] 0 0 (MQ below (cS (fun r => r = hashM o f)) [.ref h].toArray s 0 0 (fun _ => False)) (F0 m 4 ls []) := by
    intro n_LP4
    induction n_LP4 using Nat.strongRecOn with
    | ind n_LP4 ih_LP4 =>
      intro r a hr hI hm_LP4 ls hl
      refine lv_iload_n hx hb dX6_hash_4 rfl (lv_at hl 2 rfl) ?_
      refine q_bipush hx hb dX6_hash_5 (by decide) ?_
      refine q_icmp_ge hx hb dX6_hash_7 (tgt := 39) (by decide) (by omega) (by omega) (fun c1 => ?_) (fun c1 => ?_)
      · refine lv_iload_n hx hb dX6_hash_39 rfl (lv_at hl 1 rfl) ?_
        exact q_iretS C0 hret hlk dX6_hash_40 rfl (by rw [hI, sumP_e (by omega), Int.add_zero])
      · refine lv_iload_n hx hb dX6_hash_10 rfl (lv_at hl 1 rfl) ?_
        refine lv_aload_n hx hb dX6_hash_11 rfl (lv_at hl 0 rfl) ?_
        refine lv_iload_n hx hb dX6_hash_12 rfl (lv_at hl 2 rfl) ?_
        refine q_vS C0 lX6_49 (c_X5_has l D y L F h w o f r hB (by omega)) ⟨rfl, rfl⟩ rfl hP ha hF rfl rfl rfl hl rfl (Nat.le_of_ble_eq_true rfl) dX6_hash_13 ⟨Nat.zero_le _, Nat.zero_le _⟩ (fun r2 e_r2 => ?_)
        subst e_r2
        have b_3 := isT_b f (turn o r)
        refine q_if_eq hx hb dX6_hash_16 (tgt := 30) (by decide) (by omega) (fun c4 => ?_) (fun c4 => ?_)
        · refine q_iconst hx hb dX6_hash_30 ?_
          refine q_iadd hx hb dX6_hash_31 ?_
          refine lv_istore_n (lv' := [(1, .int (iI ((a + 0)))), (0, .ref h), (2, .int (iI r))]) hx hb dX6_hash_32 rfl hl (by decide) rfl (fun ls hl => ?_)
          refine q_iinc (x := r) (n := 1) (lv' := [(2, .int (iI ((r + 1)))), (1, .int (iI ((a + 0)))), (0, .ref h)]) hx hb dX6_hash_33 hl (k := 2) rfl (by decide) rfl (fun ls hl => ?_)
          refine lv_goto (tgt := 4) hx hb dX6_hash_36 (by decide) ?_
          exact ih_LP4 _ (by omega) (r + 1) (a + 0) (by omega) (by have q_ := sumP_s (u := hmU o f) (lo := r) (hi := 99) (by omega); first | (have e_ : hmU o f r = xorI r (mwd o f r) := (by unfold hmU; rw [if_pos (by omega)]); omega) | (have e_ : hmU o f r = 0 := (by unfold hmU; rw [if_neg (by omega)]); omega)) rfl ls (lv_sub hl [2, 1, 0] rfl)
        · refine lv_iload_n hx hb dX6_hash_19 rfl (lv_at hl 2 rfl) ?_
          refine lv_aload_n hx hb dX6_hash_20 rfl (lv_at hl 0 rfl) ?_
          refine q_getN C0 iX5 hP ha hF rfl 1 (by decide) C0.2.2.2.2.2.2.1 rfl (v := .ref w) rfl dX6_hash_21 ?_
          refine lv_iload_n hx hb dX6_hash_24 rfl (lv_at hl 2 rfl) ?_
          refine q_iald C0 hP (f := (mwd o f)) hw hFw (by omega) (by decide) dX6_hash_25 ?_
          have b_5 := hfm r
          refine q_ixor hx hb dX6_hash_26 ?_
          refine lv_goto (tgt := 31) hx hb dX6_hash_27 (by decide) ?_
          refine q_iadd hx hb dX6_hash_31 ?_
          refine lv_istore_n (lv' := [(1, .int (iI ((a + (xorI r ((mwd o f) r)))))), (0, .ref h), (2, .int (iI r))]) hx hb dX6_hash_32 rfl hl (by decide) rfl (fun ls hl => ?_)
          refine q_iinc (x := r) (n := 1) (lv' := [(2, .int (iI ((r + 1)))), (1, .int (iI ((a + (xorI r ((mwd o f) r)))))), (0, .ref h)]) hx hb dX6_hash_33 hl (k := 2) rfl (by decide) rfl (fun ls hl => ?_)
          refine lv_goto (tgt := 4) hx hb dX6_hash_36 (by decide) ?_
          exact ih_LP4 _ (by omega) (r + 1) (a + (xorI r ((mwd o f) r))) (by omega) (by have q_ := sumP_s (u := hmU o f) (lo := r) (hi := 99) (by omega); first | (have e_ : hmU o f r = xorI r (mwd o f r) := (by unfold hmU; rw [if_pos (by omega)]); omega) | (have e_ : hmU o f r = 0 := (by unfold hmU; rw [if_neg (by omega)]); omega)) rfl ls (lv_sub hl [2, 1, 0] rfl)
  exact LP4 _ 0 0 (by omega) (by rw [Int.zero_add]; rfl) rfl ls (lv_sub hl [2, 1, 0] rfl)
set_option maxHeartbeats 800000 in
set_option maxRecDepth 100000 in
theorem c_X6_sum_ (l : Launch) (D : va_G) (y : Nat → ClassId) (L : List Nat) (F : Nat → va_E) (h : Nat) (w : Nat) (o : Int) (f : Int → Int) (hB : MB y L F h w o f) : Met l yX6_sum_ (.code yX6_sum_ cX6_sum_ 3 (some .int) :: Tt) ({ frames := 1, cells := 0, slots := 0, locals := 21 }) (PcR D y L F [.ref h]) (cS (fun r => r = sumM o f)) 0 0 (fun _ => False) := by
  have hB0 := hB
  obtain ⟨ha, hF, hw, hFw, ho, hfb⟩ := hB0
  have hfm : ∀ k, -1 ≤ mwd o f k ∧ mwd o f k ≤ 99 := fun k => hfb _
  have fl_ : sumM o f = sumP (kmU o f) 0 99 := rfl
  refine q_ofR (lv := [(0, .ref h)]) (by decide) (Nat.le_of_ble_eq_true rfl) rfl (fun p e s m below meth c C0 hret hlk hP ls hl => ?_)
  have hx := C0.1.1
  have hb := C0.1.2.1
  have hts := C0.1.2.2.2.2
  refine q_iconst hx hb dX6_sum__0 ?_
  refine lv_istore_n (lv' := [(1, .int (iI 0)), (0, .ref h)]) hx hb dX6_sum__1 rfl hl (by decide) rfl (fun ls hl => ?_)
  refine q_iconst hx hb dX6_sum__2 ?_
  refine lv_istore_n (lv' := [(2, .int (iI 0)), (1, .int (iI 0)), (0, .ref h)]) hx hb dX6_sum__3 rfl hl (by decide) rfl (fun ls hl => ?_)
  have LP4 : ∀ (n_LP4 : Nat) (r : Int) (a : Int), (0 ≤ r ∧ r ≤ 100) → (sumM o f = a + sumP (kmU o f) r 99) → (100 - r).toNat = n_LP4 → ∀ ls : Array Slot, lv_has ls 3 [(0, .ref h), (1, .int (iI a)), (2, .int (iI r))] → W p l e ({ frames := 1, cells := 0, slots := 0, locals := 21 } : Room) s m [.ref h].toArray below meth c s.heap [] 0 0 (MQ below (cS (fun r => r = sumM o f)) [.ref h].toArray s 0 0 (fun _ => False)) (F0 m 4 ls []) := by
    intro n_LP4
    induction n_LP4 using Nat.strongRecOn with
    | ind n_LP4 ih_LP4 =>
      intro r a hr hI hm_LP4 ls hl
      refine lv_iload_n hx hb dX6_sum__4 rfl (lv_at hl 2 rfl) ?_
      refine q_bipush hx hb dX6_sum__5 (by decide) ?_
      refine q_icmp_ge hx hb dX6_sum__7 (tgt := 32) (by decide) (by omega) (by omega) (fun c1 => ?_) (fun c1 => ?_)
      · refine lv_iload_n hx hb dX6_sum__32 rfl (lv_at hl 1 rfl) ?_
        exact q_iretS C0 hret hlk dX6_sum__33 rfl (by rw [hI, sumP_e (by omega), Int.add_zero])
      · refine lv_iload_n hx hb dX6_sum__10 rfl (lv_at hl 1 rfl) ?_
        refine lv_aload_n hx hb dX6_sum__11 rfl (lv_at hl 0 rfl) ?_
        refine lv_iload_n hx hb dX6_sum__12 rfl (lv_at hl 2 rfl) ?_
        refine q_vS C0 lX6_49 (c_X5_has l D y L F h w o f r hB (by omega)) ⟨rfl, rfl⟩ rfl hP ha hF rfl rfl rfl hl rfl (Nat.le_of_ble_eq_true rfl) dX6_sum__13 ⟨Nat.zero_le _, Nat.zero_le _⟩ (fun r2 e_r2 => ?_)
        subst e_r2
        have b_3 := isT_b f (turn o r)
        refine q_if_eq hx hb dX6_sum__16 (tgt := 23) (by decide) (by omega) (fun c4 => ?_) (fun c4 => ?_)
        · refine q_iconst hx hb dX6_sum__23 ?_
          refine q_iadd hx hb dX6_sum__24 ?_
          refine lv_istore_n (lv' := [(1, .int (iI ((a + 0)))), (0, .ref h), (2, .int (iI r))]) hx hb dX6_sum__25 rfl hl (by decide) rfl (fun ls hl => ?_)
          refine q_iinc (x := r) (n := 1) (lv' := [(2, .int (iI ((r + 1)))), (1, .int (iI ((a + 0)))), (0, .ref h)]) hx hb dX6_sum__26 hl (k := 2) rfl (by decide) rfl (fun ls hl => ?_)
          refine lv_goto (tgt := 4) hx hb dX6_sum__29 (by decide) ?_
          exact ih_LP4 _ (by omega) (r + 1) (a + 0) (by omega) (by have q_ := sumP_s (u := kmU o f) (lo := r) (hi := 99) (by omega); first | (have e_ : kmU o f r = r := (by unfold kmU; rw [if_pos (by omega)]); omega) | (have e_ : kmU o f r = 0 := (by unfold kmU; rw [if_neg (by omega)]); omega)) rfl ls (lv_sub hl [2, 1, 0] rfl)
        · refine lv_iload_n hx hb dX6_sum__19 rfl (lv_at hl 2 rfl) ?_
          refine lv_goto (tgt := 24) hx hb dX6_sum__20 (by decide) ?_
          refine q_iadd hx hb dX6_sum__24 ?_
          refine lv_istore_n (lv' := [(1, .int (iI ((a + r)))), (0, .ref h), (2, .int (iI r))]) hx hb dX6_sum__25 rfl hl (by decide) rfl (fun ls hl => ?_)
          refine q_iinc (x := r) (n := 1) (lv' := [(2, .int (iI ((r + 1)))), (1, .int (iI ((a + r)))), (0, .ref h)]) hx hb dX6_sum__26 hl (k := 2) rfl (by decide) rfl (fun ls hl => ?_)
          refine lv_goto (tgt := 4) hx hb dX6_sum__29 (by decide) ?_
          exact ih_LP4 _ (by omega) (r + 1) (a + r) (by omega) (by have q_ := sumP_s (u := kmU o f) (lo := r) (hi := 99) (by omega); first | (have e_ : kmU o f r = r := (by unfold kmU; rw [if_pos (by omega)]); omega) | (have e_ : kmU o f r = 0 := (by unfold kmU; rw [if_neg (by omega)]); omega)) rfl ls (lv_sub hl [2, 1, 0] rfl)
  exact LP4 _ 0 0 (by omega) (by rw [Int.zero_add]; rfl) rfl ls (lv_sub hl [2, 1, 0] rfl)
set_option maxHeartbeats 800000 in
set_option maxRecDepth 100000 in
theorem c_X6_same (l : Launch) (D : va_G) (y : Nat → ClassId) (L : List Nat) (F : Nat → va_E) (h : Nat) (w : Nat) (o : Int) (f : Int → Int) (h2 : Nat) (w2 : Nat) (o2 : Int) (f2 : Int → Int) (hB : MB y L F h w o f) (hB2 : MB y L F h2 w2 o2 f2) : Met l yX6_same (.code yX6_same cX6_same 3 (some .boolean) :: Tt) ({ frames := 0, cells := 0, slots := 0, locals := 0 }) (PcR D y L F [.ref h, .ref h2]) (cS (fun r => r = sameM o o2 f f2)) 0 0 (fun _ => False) := by
  have hB0 := hB
  obtain ⟨ha, hF, hw, hFw, ho, hfb⟩ := hB0
  have hfm : ∀ k, -1 ≤ mwd o f k ∧ mwd o f k ≤ 99 := fun k => hfb _
  have hB02 := hB2
  obtain ⟨ha2, hF2, hw2, hFw2, ho2, hfb2⟩ := hB02
  have hfm2 : ∀ k, -1 ≤ mwd o2 f2 k ∧ mwd o2 f2 k ≤ 99 := fun k => hfb2 _
  refine q_ofR (lv := [(0, .ref h), (1, .ref h2)]) (by decide) (Nat.le_of_ble_eq_true rfl) rfl (fun p e s m below meth c C0 hret hlk hP ls hl => ?_)
  have hx := C0.1.1
  have hb := C0.1.2.1
  have hts := C0.1.2.2.2.2
  refine q_iconst hx hb dX6_same_0 ?_
  refine lv_istore_n (lv' := [(2, .int (iI 0)), (0, .ref h), (1, .ref h2)]) hx hb dX6_same_1 rfl hl (by decide) rfl (fun ls hl => ?_)
  have LP2 : ∀ (n_LP2 : Nat) (r : Int), (0 ≤ r ∧ r ≤ 100) → (sameM o o2 f f2 = allP (sm2U o o2 f f2) r) → (100 - r).toNat = n_LP2 → ∀ ls : Array Slot, lv_has ls 3 [(0, .ref h), (1, .ref h2), (2, .int (iI r))] → W p l e ({ frames := 0, cells := 0, slots := 0, locals := 0 } : Room) s m [.ref h, .ref h2].toArray below meth c s.heap [] 0 0 (MQ below (cS (fun r => r = sameM o o2 f f2)) [.ref h, .ref h2].toArray s 0 0 (fun _ => False)) (F0 m 2 ls []) := by
    intro n_LP2
    induction n_LP2 using Nat.strongRecOn with
    | ind n_LP2 ih_LP2 =>
      intro r hr hI hm_LP2 ls hl
      refine lv_iload_n hx hb dX6_same_2 rfl (lv_at hl 2 rfl) ?_
      refine q_bipush hx hb dX6_same_3 (by decide) ?_
      refine q_icmp_ge hx hb dX6_same_5 (tgt := 31) (by decide) (by omega) (by omega) (fun c1 => ?_) (fun c1 => ?_)
      · refine q_iconst hx hb dX6_same_31 ?_
        exact q_iretS C0 hret hlk dX6_same_32 (by decide) (by rw [hI, allP_e (by omega)])
      · refine lv_aload_n hx hb dX6_same_8 rfl (lv_at hl 0 rfl) ?_
        refine q_getN C0 iX5 hP ha hF rfl 1 (by decide) C0.2.2.2.2.2.2.1 rfl (v := .ref w) rfl dX6_same_9 ?_
        refine lv_iload_n hx hb dX6_same_12 rfl (lv_at hl 2 rfl) ?_
        refine q_iald C0 hP (f := (mwd o f)) hw hFw (by omega) (by decide) dX6_same_13 ?_
        have b_2 := hfm r
        refine lv_aload_n hx hb dX6_same_14 rfl (lv_at hl 1 rfl) ?_
        refine q_getN C0 iX5 hP ha2 hF2 rfl 1 (by decide) C0.2.2.2.2.2.2.1 rfl (v := .ref w2) rfl dX6_same_15 ?_
        refine lv_iload_n hx hb dX6_same_18 rfl (lv_at hl 2 rfl) ?_
        refine q_iald C0 hP (f := (mwd o2 f2)) hw2 hFw2 (by omega) (by decide) dX6_same_19 ?_
        have b_3 := hfm2 r
        refine q_icmp_eq hx hb dX6_same_20 (tgt := 25) (by decide) (by omega) (by omega) (fun c4 => ?_) (fun c4 => ?_)
        · refine q_iinc (x := r) (n := 1) (lv' := [(2, .int (iI ((r + 1)))), (0, .ref h), (1, .ref h2)]) hx hb dX6_same_25 hl (k := 2) rfl (by decide) rfl (fun ls hl => ?_)
          refine lv_goto (tgt := 2) hx hb dX6_same_28 (by decide) ?_
          exact ih_LP2 _ (by omega) (r + 1) (by omega) (by rw [hI, allP_s (by unfold sm2U; rw [if_pos (by omega)]; decide) (by omega)]) rfl ls (lv_sub hl [1, 2, 0] rfl)
        · refine q_iconst hx hb dX6_same_23 ?_
          exact q_iretS C0 hret hlk dX6_same_24 (by decide) (by rw [hI, allP_n (by unfold sm2U; rw [if_neg (by omega)]) (by omega)])
  exact LP2 _ 0 (by omega) (rfl) rfl ls (lv_sub hl [1, 2, 0] rfl)
set_option maxHeartbeats 800000 in
set_option maxRecDepth 100000 in
theorem c_X6_built (l : Launch) (D : va_G) (y : Nat → ClassId) (L : List Nat) (F : Nat → va_E) (sz : Nat) (h : Nat) (w : Nat) (o : Int) (f : Int → Int) (n : Int) (hB : MB y L F h w o f) (hn : 0 ≤ n ∧ n ≤ 6) : Met l yX6_built (.code yX6_built cX6_built 2 (some (.object "BookgrafterModel$Book")) :: Tt) ({ frames := 3, cells := 2, slots := 102, locals := 59 }) (PcM D y L F sz [.ref h, .int (iI n)]) (cMa D (AL L sz) (fun r L1 F1 => ∃ q, L1 = (L ++ [r]) ++ [q] ∧ r ∉ L ∧ q ∉ L ∧ r ≠ q ∧ MB y L1 F1 r q (bo n o) (mlk (bo n o) o f 0 99 emp) ∧ ∀ a ∈ L, F1 a = F a)) 2 102 (AL L sz) := by
  have hB0 := hB
  obtain ⟨ha, hF, hw, hFw, ho, hfb⟩ := hB0
  have hfm : ∀ k, -1 ≤ mwd o f k ∧ mwd o f k ≤ 99 := fun k => hfb _
  refine q_ofM (lv := [(0, .ref h), (1, .int (iI n))]) (by decide) (Nat.le_of_ble_eq_true rfl) rfl (fun p e s m below meth c C0 hret hlk hnm hA hP hD hS ls hl => ?_)
  have hx := C0.1.1
  have hb := C0.1.2.1
  have hts := C0.1.2.2.2.2
  refine lv_aload_n hx hb dX6_built_0 rfl (lv_at hl 0 rfl) ?_
  refine lv_iload_n hx hb dX6_built_1 rfl (lv_at hl 1 rfl) ?_
  refine q_iconst hx hb dX6_built_2 ?_
  refine q_icmp_ge hx hb dX6_built_3 (tgt := 13) (by decide) (by omega) (by omega) (fun c1 => ?_) (fun c1 => ?_)
  · refine lv_iload_n hx hb dX6_built_13 rfl (lv_at hl 1 rfl) ?_
    refine q_iconst hx hb dX6_built_14 ?_
    refine q_isub hx hb dX6_built_15 ?_
    refine q_iconst hx hb dX6_built_16 ?_
    refine q_bipush hx hb dX6_built_17 (by decide) ?_
    refine q_vMa C0 lX6_78 (c_X5_like l D y L F _ h w o f (n - 4) 0 99 hB (by omega) (by omega) (by omega)) ⟨rfl, rfl⟩ rfl hP hD hS hA ha hF rfl rfl rfl hl rfl (Nat.le_of_ble_eq_true rfl) dX6_built_19 ⟨Nat.le_of_ble_eq_true rfl, Nat.le_of_ble_eq_true rfl⟩ (fun r2 H locs L3 F3 hP hD hS hz3 hp3 => ?_)
    refine W.widen (k := 2) (n := 102) (Nat.le_of_ble_eq_true rfl) (Nat.le_of_ble_eq_true rfl) ?_
    exact q_retMa C0 hret (Or.inl ⟨_, rfl⟩) hlk dX6_built_22 hP hD hS (by first | (have e_ : bo n o = o := (by unfold bo; rw [if_pos (by omega)]); rw [e_]; exact hp3) | (have e_ : bo n o = n - 4 := (by unfold bo; rw [if_neg (by omega)]); rw [e_]; exact hp3))
  · refine lv_aload_n hx hb dX6_built_6 rfl (lv_at hl 0 rfl) ?_
    refine q_getN C0 iX5 hP ha hF rfl 0 (by decide) C0.2.2.2.2.2.2.2.1 rfl (v := .int (iI o)) rfl dX6_built_7 ?_
    refine lv_goto (tgt := 16) hx hb dX6_built_10 (by decide) ?_
    refine q_iconst hx hb dX6_built_16 ?_
    refine q_bipush hx hb dX6_built_17 (by decide) ?_
    refine q_vMa C0 lX6_78 (c_X5_like l D y L F _ h w o f o 0 99 hB (by omega) (by omega) (by omega)) ⟨rfl, rfl⟩ rfl hP hD hS hA ha hF rfl rfl rfl hl rfl (Nat.le_of_ble_eq_true rfl) dX6_built_19 ⟨Nat.le_of_ble_eq_true rfl, Nat.le_of_ble_eq_true rfl⟩ (fun r4 H locs L5 F5 hP hD hS hz5 hp5 => ?_)
    refine W.widen (k := 2) (n := 102) (Nat.le_of_ble_eq_true rfl) (Nat.le_of_ble_eq_true rfl) ?_
    exact q_retMa C0 hret (Or.inl ⟨_, rfl⟩) hlk dX6_built_22 hP hD hS (by first | (have e_ : bo n o = o := (by unfold bo; rw [if_pos (by omega)]); rw [e_]; exact hp5) | (have e_ : bo n o = n - 4 := (by unfold bo; rw [if_neg (by omega)]); rw [e_]; exact hp5))
set_option maxHeartbeats 800000 in
set_option maxRecDepth 100000 in
theorem c_X6_change (l : Launch) (D : va_G) (y : Nat → ClassId) (L : List Nat) (F : Nat → va_E) (sz : Nat) (O : Nat → Prop) (G : MG) (μ : MS) (i : Nat) (k : Int) (z : Int) (w : Int) (hC : MP y L F O G μ) (hW : MW μ) (hi : i < vn μ) (hk : 0 ≤ k ∧ k ≤ 99) (hw : -1 ≤ w ∧ w ≤ 99) (hz : 0 ≤ z ∧ z ≤ 1) : Met l yX6_change (.code yX6_change cX6_change 6 (some .int) :: Tt) ({ frames := 2, cells := 0, slots := 0, locals := 45 }) (PcM D y L F sz [.ref ((ubg G)), .ref ((urh G i)), .int (iI k), .int (iI z), .int (iI w)]) (cMi D (AL L sz) (fun r L1 F1 => L = L1 ∧ MP y L1 F1 O G (cgS μ i (turn (vod μ i) k) z w) ∧ r = vst μ i (turn (vod μ i) k) ∧ OE O F F1)) 0 0 (AL L sz) := by
  have hO : OE O F F := fun _ _ => rfl
  refine q_ofM (lv := [(0, .ref ((ubg G))), (1, .ref ((urh G i))), (2, .int (iI k)), (3, .int (iI z)), (4, .int (iI w))]) (by decide) (Nat.le_of_ble_eq_true rfl) rfl (fun p e s m below meth c C0 hret hlk hnm hA hP hD hS ls hl => ?_)
  have hx := C0.1.1
  have hb := C0.1.2.1
  have hts := C0.1.2.2.2.2
  refine lv_aload_n hx hb dX6_change_0 rfl (lv_at hl 0 rfl) ?_
  refine lv_aload_n hx hb dX6_change_1 rfl (lv_at hl 1 rfl) ?_
  refine q_vMv C0 lX6_96 (c_X6_write l D y L F _ O G μ i hC hi hW.2.2.2.1) ⟨rfl, rfl⟩ rfl hP hD hS hA hC.1.1 hC.1.2 rfl rfl rfl hl rfl (Nat.le_of_ble_eq_true rfl) dX6_change_2 ⟨Nat.le_of_ble_eq_true rfl, Nat.le_of_ble_eq_true rfl⟩ (fun _ H locs L2 F2 hP hD hS hz2 hp2 => ?_)
  obtain ⟨eL, hC, er, hO1⟩ := hp2
  subst eL
  have hO := hO.tr hO1
  refine lv_aload_n hx hb dX6_change_5 rfl (lv_at hl 1 rfl) ?_
  refine q_getN C0 iX5 hP (MP_r hC hi).1 (MP_r hC hi).2.1 rfl 1 (by decide) C0.2.2.2.2.2.2.1 rfl (v := .ref ((urw G i))) rfl dX6_change_6 ?_
  refine lv_iload_n hx hb dX6_change_9 rfl (lv_at hl 2 rfl) ?_
  refine q_iald C0 hP (f := (mwd (vod μ i) (vst μ i))) (MP_r hC hi).2.2.1 (MP_r hC hi).2.2.2.1 (by omega) (by decide) dX6_change_10 ?_
  have b_3 := (fun k => show -1 ≤ mwd (vod μ i) (vst μ i) k ∧ mwd (vod μ i) (vst μ i) k ≤ 99 from (MP_r hC hi).2.2.2.2.2 (turn (vod μ i) k)) k
  refine lv_istore (lv' := [(5, .int (iI (((mwd (vod μ i) (vst μ i)) k)))), (0, .ref ((ubg G))), (1, .ref ((urh G i))), (2, .int (iI k)), (3, .int (iI z)), (4, .int (iI w))]) hx hb dX6_change_11 hl (by decide) rfl (fun ls hl => ?_)
  refine lv_iload_n hx hb dX6_change_13 rfl (lv_at hl 4 rfl) ?_
  refine q_if_eq hx hb dX6_change_14 (tgt := 26) (by decide) (by omega) (fun c4 => ?_) (fun c4 => ?_)
  · refine lv_aload_n hx hb dX6_change_26 rfl (lv_at hl 1 rfl) ?_
    refine lv_iload hx hb dX6_change_27 (lv_at hl 0 rfl) ?_
    refine q_vMi C0 lX6_71 (c_X6_did l D y L F2 _ O G (tWr μ i) ((mwd (vod μ i) (vst μ i)) k) hC) ⟨rfl, rfl⟩ rfl hP hD hS hA hC.1.1 hC.1.2 rfl rfl rfl hl rfl (Nat.le_of_ble_eq_true rfl) dX6_change_29 ⟨Nat.le_of_ble_eq_true rfl, Nat.le_of_ble_eq_true rfl⟩ (fun r5 H locs L6 F6 hP hD hS hz6 hp6 => ?_)
    obtain ⟨eL, hC, er, hO1⟩ := hp6
    subst eL
    replace er : ((mwd (vod μ i) (vst μ i)) k) = r5 := er.symm
    subst er
    have hO := hO.tr hO1
    exact q_retMi C0 hret rfl hlk dX6_change_32 hP hD hS (⟨rfl, MP_eq hC (by unfold cgS; first | (rw [if_pos (by omega)]; done) | (rw [if_neg (by omega)]; done) | (rw [if_pos (by omega)]; rfl) | (rw [if_neg (by omega)]; rfl)), rfl, hO⟩)
  · refine lv_aload_n hx hb dX6_change_17 rfl (lv_at hl 1 rfl) ?_
    refine lv_aload_n hx hb dX6_change_18 rfl (lv_at hl 2 rfl) ?_
    refine lv_iload_n hx hb dX6_change_19 rfl (lv_at hl 3 rfl) ?_
    refine lv_iload hx hb dX6_change_20 (lv_at hl 5 rfl) ?_
    refine q_vMi C0 lX6_103 (c_X6_set l D y L F2 _ O G (tWr μ i) i k w hC hi hW.2.2.2.1 (by omega) (by omega)) ⟨rfl, rfl⟩ rfl hP hD hS hA hC.1.1 hC.1.2 rfl rfl rfl hl rfl (Nat.le_of_ble_eq_true rfl) dX6_change_22 ⟨Nat.le_of_ble_eq_true rfl, Nat.le_of_ble_eq_true rfl⟩ (fun r7 H locs L8 F8 hP hD hS hz8 hp8 => ?_)
    obtain ⟨eL, hC, er, hO1⟩ := hp8
    subst eL
    replace er : (seC (vst μ i) (turn (vod μ i) k) w) = r7 := er.symm
    subst er
    have hO := hO.tr hO1
    refine lv_pop hx hb dX6_change_25 rfl ?_
    refine lv_aload_n hx hb dX6_change_26 rfl (lv_at hl 1 rfl) ?_
    refine lv_iload hx hb dX6_change_27 (lv_at hl 0 rfl) ?_
    refine q_vMi C0 lX6_71 (c_X6_did l D y L F8 _ O G (tSe (tWr μ i) i (turn (vod μ i) k) w) ((mwd (vod μ i) (vst μ i)) k) hC) ⟨rfl, rfl⟩ rfl hP hD hS hA hC.1.1 hC.1.2 rfl rfl rfl hl rfl (Nat.le_of_ble_eq_true rfl) dX6_change_29 ⟨Nat.le_of_ble_eq_true rfl, Nat.le_of_ble_eq_true rfl⟩ (fun r9 H locs L10 F10 hP hD hS hz10 hp10 => ?_)
    obtain ⟨eL, hC, er, hO1⟩ := hp10
    subst eL
    replace er : ((mwd (vod μ i) (vst μ i)) k) = r9 := er.symm
    subst er
    have hO := hO.tr hO1
    exact q_retMi C0 hret rfl hlk dX6_change_32 hP hD hS (⟨rfl, MP_eq hC (by unfold cgS; first | (rw [if_pos (by omega)]; done) | (rw [if_neg (by omega)]; done) | (rw [if_pos (by omega)]; rfl) | (rw [if_neg (by omega)]; rfl)), rfl, hO⟩)
set_option maxHeartbeats 800000 in
set_option maxRecDepth 100000 in
theorem c_X6_sum (l : Launch) (D : va_G) (y : Nat → ClassId) (L : List Nat) (F : Nat → va_E) (O : Nat → Prop) (G : MG) (μ : MS) (v : Int) (hC : MP y L F O G μ) (hv : 0 ≤ v ∧ v ≤ 1) (hi : vvw μ v < vn μ) (hl : 0 ≤ vvl μ v ∧ vvl μ v ≤ 100) (hh : -1 ≤ vvh μ v ∧ vvh μ v ≤ 99) : Met l yX6_sum (.code yX6_sum cX6_sum 4 (some .int) :: Tt) ({ frames := 1, cells := 0, slots := 0, locals := 21 }) (PcR D y L F [.ref ((ubg G)), .int (iI v)]) (cS (fun r => r = sumP (wmU (vst μ (vvw μ v))) (vvl μ v) (vvh μ v))) 0 0 (fun _ => False) := by
  have hfm := fun k => (MP_r hC hi).2.2.2.2.2 (turn (vod μ (vvw μ v)) k)
  refine q_ofR (lv := [(0, .ref ((ubg G))), (1, .int (iI v))]) (by decide) (Nat.le_of_ble_eq_true rfl) rfl (fun p e s m below meth c C0 hret hlk hP ls hl => ?_)
  have hx := C0.1.1
  have hb := C0.1.2.1
  have hts := C0.1.2.2.2.2
  refine q_iconst hx hb dX6_sum_0 ?_
  refine lv_istore_n (lv' := [(2, .int (iI 0)), (0, .ref ((ubg G))), (1, .int (iI v))]) hx hb dX6_sum_1 rfl hl (by decide) rfl (fun ls hl => ?_)
  refine lv_aload_n hx hb dX6_sum_2 rfl (lv_at hl 1 rfl) ?_
  refine q_get C0 iX6 hP hC.1.1 hC.1.2 rfl 3 (by decide) flX6_21 rfl (v := .ref ((uaf G))) rfl dX6_sum_3 ?_
  refine lv_iload_n hx hb dX6_sum_6 rfl (lv_at hl 2 rfl) ?_
  refine q_iald C0 hP (f := (vvl μ)) hC.2.2.2.2.1.1 hC.2.2.2.2.1.2 (by omega) (by decide) dX6_sum_7 ?_
  refine lv_istore_n (lv' := [(3, .int (iI (((vvl μ) v)))), (2, .int (iI 0)), (0, .ref ((ubg G))), (1, .int (iI v))]) hx hb dX6_sum_8 rfl hl (by decide) rfl (fun ls hl => ?_)
  have LP9 : ∀ (n_LP9 : Nat) (r : Int) (a : Int), (vvl μ v ≤ r ∧ r ≤ 1001) → (sumP (wmU (vst μ (vvw μ v))) (vvl μ v) (vvh μ v) = a + sumP (wmU (vst μ (vvw μ v))) r (vvh μ v)) → (vvh μ v + 1 - r).toNat = n_LP9 → ∀ ls : Array Slot, lv_has ls 4 [(0, .ref ((ubg G))), (1, .int (iI v)), (2, .int (iI a)), (3, .int (iI r))] → W p l e ({ frames := 1, cells := 0, slots := 0, locals := 21 } : Room) s m [.ref ((ubg G)), .int (iI v)].toArray below meth c s.heap [] 0 0 (MQ below (cS (fun r => r = sumP (wmU (vst μ (vvw μ v))) (vvl μ v) (vvh μ v))) [.ref ((ubg G)), .int (iI v)].toArray s 0 0 (fun _ => False)) (F0 m 9 ls []) := by
    intro n_LP9
    induction n_LP9 using Nat.strongRecOn with
    | ind n_LP9 ih_LP9 =>
      intro r a hr hI hm_LP9 ls hl
      refine lv_iload_n hx hb dX6_sum_9 rfl (lv_at hl 3 rfl) ?_
      refine lv_aload_n hx hb dX6_sum_10 rfl (lv_at hl 0 rfl) ?_
      refine q_get C0 iX6 hP hC.1.1 hC.1.2 rfl 4 (by decide) flX6_25 rfl (v := .ref ((uat G))) rfl dX6_sum_11 ?_
      refine lv_iload_n hx hb dX6_sum_14 rfl (lv_at hl 1 rfl) ?_
      refine q_iald C0 hP (f := (vvh μ)) hC.2.2.2.2.2.1.1 hC.2.2.2.2.2.1.2 (by omega) (by decide) dX6_sum_15 ?_
      refine q_icmp_gt hx hb dX6_sum_16 (tgt := 52) (by decide) (by omega) (by omega) (fun c1 => ?_) (fun c1 => ?_)
      · refine lv_iload_n hx hb dX6_sum_52 rfl (lv_at hl 2 rfl) ?_
        exact q_iretS C0 hret hlk dX6_sum_53 rfl (by rw [hI, sumP_e (by omega), Int.add_zero])
      · refine lv_iload_n hx hb dX6_sum_19 rfl (lv_at hl 2 rfl) ?_
        refine q_iconst hx hb dX6_sum_20 ?_
        refine lv_aload_n hx hb dX6_sum_21 rfl (lv_at hl 0 rfl) ?_
        refine q_get C0 iX6 hP hC.1.1 hC.1.2 rfl 2 (by decide) flX6_18 rfl (v := .ref ((uav G))) rfl dX6_sum_22 ?_
        refine lv_iload_n hx hb dX6_sum_25 rfl (lv_at hl 1 rfl) ?_
        refine q_aald C0 hP hC.2.2.2.1.1 hC.2.2.2.1.2 (t := 3) rfl (by omega) (by decide) (v := .ref ((urh G (vvw μ v)))) rfl dX6_sum_26 ?_
        refine q_getN C0 iX5 hP (MP_r hC hi).1 (MP_r hC hi).2.1 rfl 1 (by decide) C0.2.2.2.2.2.2.1 rfl (v := .ref ((urw G (vvw μ v)))) rfl dX6_sum_27 ?_
        refine lv_aload_n hx hb dX6_sum_30 rfl (lv_at hl 0 rfl) ?_
        refine q_get C0 iX6 hP hC.1.1 hC.1.2 rfl 2 (by decide) flX6_18 rfl (v := .ref ((uav G))) rfl dX6_sum_31 ?_
        refine lv_iload_n hx hb dX6_sum_34 rfl (lv_at hl 1 rfl) ?_
        refine q_aald C0 hP hC.2.2.2.1.1 hC.2.2.2.1.2 (t := 3) rfl (by omega) (by decide) (v := .ref ((urh G (vvw μ v)))) rfl dX6_sum_35 ?_
        refine lv_iload_n hx hb dX6_sum_36 rfl (lv_at hl 3 rfl) ?_
        refine q_vS C0 lX6_100 (c_X5_key l D y L F (urh G (vvw μ v)) (urw G (vvw μ v)) (vod μ (vvw μ v)) (vst μ (vvw μ v)) r (MP_r hC hi) (by omega)) ⟨rfl, rfl⟩ rfl hP (MP_r hC hi).1 (MP_r hC hi).2.1 rfl rfl rfl hl rfl (Nat.le_of_ble_eq_true rfl) dX6_sum_37 ⟨Nat.zero_le _, Nat.zero_le _⟩ (fun r2 e_r2 => ?_)
        subst e_r2
        have b_3 := @turn_b (vod μ (vvw μ v)) r (by omega)
        refine q_iald C0 hP (f := (mwd (vod μ (vvw μ v)) (vst μ (vvw μ v)))) (MP_r hC hi).2.2.1 (MP_r hC hi).2.2.2.1 (by omega) (by decide) dX6_sum_40 ?_
        have b_4 := (fun k => show -1 ≤ mwd (vod μ (vvw μ v)) (vst μ (vvw μ v)) k ∧ mwd (vod μ (vvw μ v)) (vst μ (vvw μ v)) k ≤ 99 from (MP_r hC hi).2.2.2.2.2 (turn (vod μ (vvw μ v)) k)) (turn (vod μ (vvw μ v)) r)
        refine q_max hx hb (by rw [hl.1]; exact C0.1.2.2.1) C0.1.2.2.2.1 hts mlX6_178 stMax iniMath cdMax (Nat.le_of_ble_eq_true rfl) (Nat.le_of_ble_eq_true rfl) (Nat.zero_le _) (Nat.zero_le _) dX6_sum_41 (by omega) (by omega) ?_
        refine q_iadd hx hb dX6_sum_44 ?_
        refine lv_istore_n (lv' := [(2, .int (iI ((a + (max 0 ((mwd (vod μ (vvw μ v)) (vst μ (vvw μ v))) (turn (vod μ (vvw μ v)) r))))))), (0, .ref ((ubg G))), (1, .int (iI v)), (3, .int (iI r))]) hx hb dX6_sum_45 rfl hl (by decide) rfl (fun ls hl => ?_)
        refine q_iinc (x := r) (n := 1) (lv' := [(3, .int (iI ((r + 1)))), (2, .int (iI ((a + (max 0 ((mwd (vod μ (vvw μ v)) (vst μ (vvw μ v))) (turn (vod μ (vvw μ v)) r))))))), (0, .ref ((ubg G))), (1, .int (iI v))]) hx hb dX6_sum_46 hl (k := 3) rfl (by decide) rfl (fun ls hl => ?_)
        refine lv_goto (tgt := 9) hx hb dX6_sum_49 (by decide) ?_
        exact ih_LP9 _ (by omega) (r + 1) (a + (max 0 ((mwd (vod μ (vvw μ v)) (vst μ (vvw μ v))) (turn (vod μ (vvw μ v)) r)))) (by omega) (by have q_ := sumP_s (u := wmU (vst μ (vvw μ v))) (lo := r) (hi := vvh μ v) (by omega); have e_ : wmU (vst μ (vvw μ v)) r = max 0 (mwd (vod μ (vvw μ v)) (vst μ (vvw μ v)) (turn (vod μ (vvw μ v)) r)) := (by unfold wmU; rw [f_turn _ _ (by omega)]); omega) rfl ls (lv_sub hl [2, 3, 1, 0] rfl)
  exact LP9 _ (vvl μ v) 0 (by omega) (by rw [Int.zero_add]) rfl ls (lv_sub hl [2, 3, 1, 0] rfl)
set_option maxHeartbeats 800000 in
set_option maxRecDepth 100000 in
theorem c_X6_add (l : Launch) (D : va_G) (y : Nat → ClassId) (L : List Nat) (F : Nat → va_E) (s0 : Int64) (n : Int64)  : Met l yX6_add (.code yX6_add cX6_add 4 (some .long) :: Tt) ({ frames := 0, cells := 0, slots := 0, locals := 0 }) (PcR D y L F [.long (s0), .long (n)]) (cSl (fun r => r = s0 * 31 + n)) 0 0 (fun _ => False) := by
  refine q_ofR (lv := [(0, .long (s0)), (2, .long (n))]) (by decide) (Nat.le_of_ble_eq_true rfl) rfl (fun p e s m below meth c C0 hret hlk hP ls hl => ?_)
  have hx := C0.1.1
  have hb := C0.1.2.1
  have hts := C0.1.2.2.2.2
  refine lv_lload_n hx hb dX6_add_0 rfl (lv_at hl 0 rfl) ?_
  refine lv_ldc2 (v := 31) hx hb C0.1.2.2.2.1 (hts _ (List.mem_cons_of_mem _ cLX6_202)) dX6_add_1 ?_
  refine lv_lmul hx hb dX6_add_4 ?_
  refine lv_lload_n hx hb dX6_add_5 rfl (lv_at hl 1 rfl) ?_
  refine lv_ladd hx hb dX6_add_6 ?_
  exact q_lretS C0 hret hlk dX6_add_7 (rfl)
