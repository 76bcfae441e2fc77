-- the reference's pure words; its rows lie by key, they are told by rank as the class's
def mwd (o : Int) (f : Int → Int) (k : Int) : Int := f (turn o k)
/-- a Book of the reference at h: order o, worths by key in w; f by rank -/
def MB (y : Nat → ClassId) (L : List Nat) (F : Nat → va_E) (h w : Nat) (o : Int) (f : Int → Int) : Prop := h ∈ L ∧ F h = .inr (7, [.int (iI o), .ref w]) ∧ w ∈ L ∧ F w = arrI (y 0) 100 (mwd o f) ∧ (0 ≤ o ∧ o ≤ 2) ∧ ∀ r, -1 ≤ f r ∧ f r ≤ 99
theorem MB_mono {y : Nat → ClassId} {L L1 : List Nat} {F F1 : Nat → va_E} {h w : Nat} {o : Int} {f : Int → Int} (a : MB y L F h w o f) (hL : ∀ q ∈ L, q ∈ L1) (hf : ∀ q ∈ L, F1 q = F q) : MB y L1 F1 h w o f := ⟨hL _ a.1, (hf _ a.1).trans a.2.1, hL _ a.2.2.1, (hf _ a.2.2.1).trans a.2.2.2.1, a.2.2.2.2⟩
theorem isT_turn (f : Int → Int) (o : Int) {r : Int} (h : 0 ≤ r ∧ r ≤ 99) : isT f (turn o (turn o r)) = isT f r := by rw [turn_t h]
theorem f_turn (f : Int → Int) (o : Int) {r : Int} (h : 0 ≤ r ∧ r ≤ 99) : mwd o f (turn o r) = f r := by
  unfold mwd
  rw [turn_t h]
theorem nearP_it (o : Int) (f : Int → Int) (lo hi key what : Int) (h : what ≠ 0 ∧ what ≠ 1 ∧ what ≠ 2 ∧ what ≠ 3) : nearP o f lo hi key what = if lo ≤ turn o key ∧ turn o key ≤ hi ∧ isT f (turn o key) ≠ 0 then turn o key else -1 := by
  unfold nearP
  rw [if_neg h.1, if_neg h.2.1, if_neg h.2.2.1, if_neg h.2.2.2]
  by_cases a : lo ≤ turn o key ∧ turn o key ≤ hi
  · rw [show max (turn o key) lo = turn o key by omega, show min (turn o key) hi = turn o key by omega, firP_s (Int.le_refl _), firP_e (by omega)]
    by_cases b : isT f (turn o key) ≠ 0
    · rw [if_pos b, if_pos ⟨a.1, a.2, b⟩]
    · rw [if_neg b, if_neg (fun z => b z.2.2)]
  · rw [if_neg (fun z => a ⟨z.1, z.2.1⟩)]
    rcases firP_b f (max (turn o key) lo) (min (turn o key) hi) with z | z
    · exact z
    · exact absurd (by omega) a
theorem at_arrI {D : va_G} {a n : Nat} {cA : ClassId} {g g2 : Int → Int} (h : ∀ i : Int, 0 ≤ i → i < n → g i = g2 i) (X : Heap) (h1 : va_at D vwCl (a, arrI cA n g) X) : va_at D vwCl (a, arrI cA n g2) X := by
  have e : vp_cell cA (n, .inl (fun k => iI (g (k : Int)))) = vp_cell cA (n, .inl (fun k => iI (g2 (k : Int)))) := by
    dsimp only [vp_cell]
    unfold arrV
    congr 2
    funext j
    show Value.int (iI (g (j.val : Int))) = Value.int (iI (g2 (j.val : Int)))
    rw [h _ (by omega) (by have := j.isLt; omega)]
  exact (show X[a]? = some _ from h1).trans (congrArg some e)
theorem mwd_iu {o v k0 : Int} {g : Int → Int} (h0 : 0 ≤ k0 ∧ k0 ≤ 99) (i : Int) (h1 : 0 ≤ i) (h2 : i < (100 : Nat)) : iu (mwd o g) k0 v i = mwd o (iu g (turn o k0) v) i := by
  unfold mwd iu
  by_cases e : i = k0
  · rw [if_pos e, if_pos (by rw [e])]
  · rw [if_neg e, if_neg (fun z => e (by rw [← turn_t (o := o) (n := i) (by omega), z, turn_t h0]))]
theorem mwd_emp {o : Int} (i : Int) (h1 : 0 ≤ i) (h2 : i < (100 : Nat)) : filF (fun _ => 0) (-1) 100 i = mwd o emp i := by
  have := turn_b (o := o) (n := i) (by omega)
  unfold mwd filF emp
  rw [if_pos (by omega), if_pos (by omega)]
/-- like: the worths of the ranks r .. hi go over -/
def mlkF (no o : Int) (f : Int → Int) : Nat → Int → (Int → Int) → Int → Int
  | 0, _, g => g
  | n + 1, r, g => mlkF no o f n (r + 1) (iu g (turn no (turn o r)) (f r))
def mlk (no o : Int) (f : Int → Int) (lo hi : Int) (g : Int → Int) : Int → Int := mlkF no o f (hi + 1 - lo).toNat lo g
theorem mlk_s {no o : Int} {f g : Int → Int} {lo hi : Int} (h : lo ≤ hi) : mlk no o f lo hi g = mlk no o f (lo + 1) hi (iu g (turn no (turn o lo)) (f lo)) := by
  unfold mlk
  rw [show (hi + 1 - lo).toNat = (hi + 1 - (lo + 1)).toNat + 1 by omega, mlkF]
theorem mlk_e {no o : Int} {f g : Int → Int} {lo hi : Int} (h : hi < lo) : mlk no o f lo hi g = g := by
  unfold mlk
  rw [show (hi + 1 - lo).toNat = 0 by omega, mlkF]
set_option maxHeartbeats 800000 in
set_option maxRecDepth 100000 in
theorem c_X5_rank (l : Launch) (D : va_G) (y : Nat → ClassId) (L : List Nat) (F : Nat → va_E) (h : Nat) (w : Nat) (o : Int) (f : Int → Int) (n : Int) (hB : MB y L F h w o f) (hn : 0 ≤ n ∧ n ≤ 99) : Met l yX5_rank (.code yX5_rank cX5_rank 2 (some .int) :: Tt) ({ frames := 0, cells := 0, slots := 0, locals := 0 }) (PcR D y L F [.ref h, .int (iI n)]) (cS (fun r => r = turn o n)) 0 0 (fun _ => False) := by
  have hB0 := hB
  obtain ⟨ha, hF, hw, hFw, ho, hfb⟩ := hB0
  have hfm : ∀ k, -1 ≤ mwd o f k ∧ mwd o f k ≤ 99 := fun k => hfb _
  refine q_ofR (lv := [(0, .ref h), (1, .int (iI n))]) (by decide) (Nat.le_of_ble_eq_true rfl) rfl (fun p e s m below meth c C0 hret hlk hP ls hl => ?_)
  have hx := C0.1.1
  have hb := C0.1.2.1
  have hts := C0.1.2.2.2.2
  refine lv_aload_n hx hb dX5_rank_0 rfl (lv_at hl 0 rfl) ?_
  refine q_get C0 iX5 hP ha hF rfl 0 (by decide) flX5_15 rfl rfl dX5_rank_1 ?_
  refine q_if_ne hx hb dX5_rank_4 (tgt := 11) (by decide) (by omega) (fun c1 => ?_) (fun c1 => ?_)
  · refine lv_aload_n hx hb dX5_rank_11 rfl (lv_at hl 0 rfl) ?_
    refine q_get C0 iX5 hP ha hF rfl 0 (by decide) flX5_15 rfl rfl dX5_rank_12 ?_
    refine q_iconst hx hb dX5_rank_15 ?_
    refine q_icmp_ne hx hb dX5_rank_16 (tgt := 26) (by decide) (by omega) (by omega) (fun c2 => ?_) (fun c2 => ?_)
    · refine lv_iload_n hx hb dX5_rank_26 rfl (lv_at hl 1 rfl) ?_
      refine q_bipush hx hb dX5_rank_27 (by decide) ?_
      refine q_irem hx hb dX5_rank_29 (by omega) (by omega) ?_
      refine q_bipush hx hb dX5_rank_30 (by decide) ?_
      refine q_imul hx hb dX5_rank_32 ?_
      refine lv_iload_n hx hb dX5_rank_33 rfl (lv_at hl 1 rfl) ?_
      refine q_bipush hx hb dX5_rank_34 (by decide) ?_
      refine q_idiv hx hb dX5_rank_36 (by omega) (by omega) ?_
      refine q_iadd hx hb dX5_rank_37 ?_
      exact q_iretS C0 hret hlk dX5_rank_38 rfl (by unfold turn; (repeat' split) <;> omega)
    · refine q_bipush hx hb dX5_rank_19 (by decide) ?_
      refine lv_iload_n hx hb dX5_rank_21 rfl (lv_at hl 1 rfl) ?_
      refine q_isub hx hb dX5_rank_22 ?_
      refine lv_goto (tgt := 38) hx hb dX5_rank_23 (by decide) ?_
      exact q_iretS C0 hret hlk dX5_rank_38 rfl (by unfold turn; (repeat' split) <;> omega)
  · refine lv_iload_n hx hb dX5_rank_7 rfl (lv_at hl 1 rfl) ?_
    refine lv_goto (tgt := 38) hx hb dX5_rank_8 (by decide) ?_
    exact q_iretS C0 hret hlk dX5_rank_38 rfl (by unfold turn; (repeat' split) <;> omega)
set_option maxHeartbeats 800000 in
set_option maxRecDepth 100000 in
theorem c_X5_key (l : Launch) (D : va_G) (y : Nat → ClassId) (L : List Nat) (F : Nat → va_E) (h : Nat) (w : Nat) (o : Int) (f : Int → Int) (n : Int) (hB : MB y L F h w o f) (hn : 0 ≤ n ∧ n ≤ 99) : Met l yX5_key (.code yX5_key cX5_key 2 (some .int) :: Tt) ({ frames := 0, cells := 0, slots := 0, locals := 0 }) (PcR D y L F [.ref h, .int (iI n)]) (cS (fun r => r = turn o n)) 0 0 (fun _ => False) := by
  have hB0 := hB
  obtain ⟨ha, hF, hw, hFw, ho, hfb⟩ := hB0
  have hfm : ∀ k, -1 ≤ mwd o f k ∧ mwd o f k ≤ 99 := fun k => hfb _
  refine q_ofR (lv := [(0, .ref h), (1, .int (iI n))]) (by decide) (Nat.le_of_ble_eq_true rfl) rfl (fun p e s m below meth c C0 hret hlk hP ls hl => ?_)
  have hx := C0.1.1
  have hb := C0.1.2.1
  have hts := C0.1.2.2.2.2
  refine lv_aload_n hx hb dX5_key_0 rfl (lv_at hl 0 rfl) ?_
  refine q_get C0 iX5 hP ha hF rfl 0 (by decide) flX5_15 rfl rfl dX5_key_1 ?_
  refine q_if_ne hx hb dX5_key_4 (tgt := 11) (by decide) (by omega) (fun c1 => ?_) (fun c1 => ?_)
  · refine lv_aload_n hx hb dX5_key_11 rfl (lv_at hl 0 rfl) ?_
    refine q_get C0 iX5 hP ha hF rfl 0 (by decide) flX5_15 rfl rfl dX5_key_12 ?_
    refine q_iconst hx hb dX5_key_15 ?_
    refine q_icmp_ne hx hb dX5_key_16 (tgt := 26) (by decide) (by omega) (by omega) (fun c2 => ?_) (fun c2 => ?_)
    · refine lv_iload_n hx hb dX5_key_26 rfl (lv_at hl 1 rfl) ?_
      refine q_bipush hx hb dX5_key_27 (by decide) ?_
      refine q_irem hx hb dX5_key_29 (by omega) (by omega) ?_
      refine q_bipush hx hb dX5_key_30 (by decide) ?_
      refine q_imul hx hb dX5_key_32 ?_
      refine lv_iload_n hx hb dX5_key_33 rfl (lv_at hl 1 rfl) ?_
      refine q_bipush hx hb dX5_key_34 (by decide) ?_
      refine q_idiv hx hb dX5_key_36 (by omega) (by omega) ?_
      refine q_iadd hx hb dX5_key_37 ?_
      exact q_iretS C0 hret hlk dX5_key_38 rfl (by unfold turn; (repeat' split) <;> omega)
    · refine q_bipush hx hb dX5_key_19 (by decide) ?_
      refine lv_iload_n hx hb dX5_key_21 rfl (lv_at hl 1 rfl) ?_
      refine q_isub hx hb dX5_key_22 ?_
      refine lv_goto (tgt := 38) hx hb dX5_key_23 (by decide) ?_
      exact q_iretS C0 hret hlk dX5_key_38 rfl (by unfold turn; (repeat' split) <;> omega)
  · refine lv_iload_n hx hb dX5_key_7 rfl (lv_at hl 1 rfl) ?_
    refine lv_goto (tgt := 38) hx hb dX5_key_8 (by decide) ?_
    exact q_iretS C0 hret hlk dX5_key_38 rfl (by unfold turn; (repeat' split) <;> omega)
set_option maxHeartbeats 800000 in
set_option maxRecDepth 100000 in
theorem c_X5_has (l : Launch) (D : va_G) (y : Nat → ClassId) (L : List Nat) (F : Nat → va_E) (h : Nat) (w : Nat) (o : Int) (f : Int → Int) (n : Int) (hB : MB y L F h w o f) (hn : 0 ≤ n ∧ n ≤ 99) : Met l yX5_has (.code yX5_has cX5_has 2 (some .boolean) :: Tt) ({ frames := 0, cells := 0, slots := 0, locals := 0 }) (PcR D y L F [.ref h, .int (iI n)]) (cS (fun r => r = isT f (turn o n))) 0 0 (fun _ => False) := by
  have hB0 := hB
  obtain ⟨ha, hF, hw, hFw, ho, hfb⟩ := hB0
  have hfm : ∀ k, -1 ≤ mwd o f k ∧ mwd o f k ≤ 99 := fun k => hfb _
  have tb_ := turn_b (o := o) (n := n) hn
  have em_ : mwd o f n = f (turn o n) := rfl
  refine q_ofR (lv := [(0, .ref h), (1, .int (iI n))]) (by decide) (Nat.le_of_ble_eq_true rfl) rfl (fun p e s m below meth c C0 hret hlk hP ls hl => ?_)
  have hx := C0.1.1
  have hb := C0.1.2.1
  have hts := C0.1.2.2.2.2
  refine lv_aload_n hx hb dX5_has_0 rfl (lv_at hl 0 rfl) ?_
  refine q_get C0 iX5 hP ha hF rfl 1 (by decide) flX5_9 rfl rfl dX5_has_1 ?_
  refine lv_iload_n hx hb dX5_has_4 rfl (lv_at hl 1 rfl) ?_
  refine q_iald C0 hP hw hFw (by omega) (by decide) dX5_has_5 ?_
  have b_1 := hfm n
  refine q_iconst hx hb dX5_has_6 ?_
  refine q_icmp_eq hx hb dX5_has_7 (tgt := 14) (by decide) (by omega) (by omega) (fun c2 => ?_) (fun c2 => ?_)
  · refine q_iconst hx hb dX5_has_14 ?_
    exact q_iretS C0 hret hlk dX5_has_15 (by decide) (by unfold isT; split <;> omega)
  · refine q_iconst hx hb dX5_has_10 ?_
    refine lv_goto (tgt := 15) hx hb dX5_has_11 (by decide) ?_
    exact q_iretS C0 hret hlk dX5_has_15 (by decide) (by unfold isT; split <;> omega)
set_option maxHeartbeats 800000 in
set_option maxRecDepth 100000 in
theorem c_X5_pair (l : Launch) (D : va_G) (y : Nat → ClassId) (L : List Nat) (F : Nat → va_E) (h : Nat) (w : Nat) (o : Int) (f : Int → Int) (n : Int) (hB : MB y L F h w o f) (hn : 0 ≤ n ∧ n ≤ 99) : Met l yX5_pair (.code yX5_pair cX5_pair 2 (some .int) :: Tt) ({ frames := 0, cells := 0, slots := 0, locals := 0 }) (PcR D y L F [.ref h, .int (iI n)]) (cS (fun r => r = n * 100 + f (turn o n))) 0 0 (fun _ => False) := by
  have hB0 := hB
  obtain ⟨ha, hF, hw, hFw, ho, hfb⟩ := hB0
  have hfm : ∀ k, -1 ≤ mwd o f k ∧ mwd o f k ≤ 99 := fun k => hfb _
  refine q_ofR (lv := [(0, .ref h), (1, .int (iI n))]) (by decide) (Nat.le_of_ble_eq_true rfl) rfl (fun p e s m below meth c C0 hret hlk hP ls hl => ?_)
  have hx := C0.1.1
  have hb := C0.1.2.1
  have hts := C0.1.2.2.2.2
  refine lv_iload_n hx hb dX5_pair_0 rfl (lv_at hl 1 rfl) ?_
  refine q_bipush hx hb dX5_pair_1 (by decide) ?_
  refine q_imul hx hb dX5_pair_3 ?_
  refine lv_aload_n hx hb dX5_pair_4 rfl (lv_at hl 0 rfl) ?_
  refine q_get C0 iX5 hP ha hF rfl 1 (by decide) flX5_9 rfl rfl dX5_pair_5 ?_
  refine lv_iload_n hx hb dX5_pair_8 rfl (lv_at hl 1 rfl) ?_
  refine q_iald C0 hP hw hFw (by omega) (by decide) dX5_pair_9 ?_
  have b_1 := hfm n
  refine q_iadd hx hb dX5_pair_10 ?_
  exact q_iretS C0 hret hlk dX5_pair_11 rfl (rfl)
set_option maxHeartbeats 800000 in
set_option maxRecDepth 100000 in
theorem c_X5_many (l : Launch) (D : va_G) (y : Nat → ClassId) (L : List Nat) (F : Nat → va_E) (h : Nat) (w : Nat) (o : Int) (f : Int → Int) (lo : Int) (hi : Int) (hB : MB y L F h w o f) (hlo : 0 ≤ lo ∧ lo ≤ 900) (hhi : -900 ≤ hi ∧ hi ≤ 99) : Met l yX5_many (.code yX5_many cX5_many 5 (some .int) :: Tt) ({ frames := 1, cells := 0, slots := 0, locals := 21 }) (PcR D y L F [.ref h, .int (iI lo), .int (iI hi)]) (cS (fun r => r = cntP f lo hi)) 0 0 (fun _ => False) := by
  have hB0 := hB
  obtain ⟨ha, hF, hw, hFw, ho, hfb⟩ := hB0
  have hfm : ∀ k, -1 ≤ mwd o f k ∧ mwd o f k ≤ 99 := fun k => hfb _
  refine q_ofR (lv := [(0, .ref h), (1, .int (iI lo)), (2, .int (iI hi))]) (by decide) (Nat.le_of_ble_eq_true rfl) rfl (fun p e s m below meth c C0 hret hlk hP ls hl => ?_)
  have hx := C0.1.1
  have hb := C0.1.2.1
  have hts := C0.1.2.2.2.2
  refine q_iconst hx hb dX5_many_0 ?_
  refine lv_istore_n (lv' := [(3, .int (iI 0)), (0, .ref h), (1, .int (iI lo)), (2, .int (iI hi))]) hx hb dX5_many_1 rfl hl (by decide) rfl (fun ls hl => ?_)
  refine lv_iload_n hx hb dX5_many_2 rfl (lv_at hl 2 rfl) ?_
  refine lv_istore (lv' := [(4, .int (iI lo)), (3, .int (iI 0)), (0, .ref h), (1, .int (iI lo)), (2, .int (iI hi))]) hx hb dX5_many_3 hl (by decide) rfl (fun ls hl => ?_)
  have LP5 : ∀ (n_LP5 : Nat) (r : Int) (a : Int), (lo ≤ r ∧ r ≤ 1001) → (cntP f lo hi = a + cntP f r hi) → (hi + 1 - r).toNat = n_LP5 → ∀ ls : Array Slot, lv_has ls 5 [(0, .ref h), (1, .int (iI lo)), (2, .int (iI hi)), (3, .int (iI a)), (4, .int (iI r))] → W p l e ({ frames := 1, cells := 0, slots := 0, locals := 21 } : Room) s m [.ref h, .int (iI lo), .int (iI hi)].toArray below meth c s.heap [] 0 0 (MQ below (cS (fun r => r = cntP f lo hi)) [.ref h, .int (iI lo), .int (iI hi)].toArray s 0 0 (fun _ => False)) (F0 m 5 ls []) := by
    intro n_LP5
    induction n_LP5 using Nat.strongRecOn with
    | ind n_LP5 ih_LP5 =>
      intro r a hr hI hm_LP5 ls hl
      refine lv_iload hx hb dX5_many_5 (lv_at hl 4 rfl) ?_
      refine lv_iload_n hx hb dX5_many_7 rfl (lv_at hl 2 rfl) ?_
      refine q_icmp_gt hx hb dX5_many_8 (tgt := 38) (by decide) (by omega) (by omega) (fun c1 => ?_) (fun c1 => ?_)
      · refine lv_iload_n hx hb dX5_many_38 rfl (lv_at hl 3 rfl) ?_
        exact q_iretS C0 hret hlk dX5_many_39 rfl (by rw [hI, cntP_e (by omega), Int.add_zero])
      · refine lv_iload_n hx hb dX5_many_11 rfl (lv_at hl 3 rfl) ?_
        refine lv_aload_n hx hb dX5_many_12 rfl (lv_at hl 0 rfl) ?_
        refine lv_aload_n hx hb dX5_many_13 rfl (lv_at hl 0 rfl) ?_
        refine lv_iload hx hb dX5_many_14 (lv_at hl 4 rfl) ?_
        refine q_vS C0 lX5_19 (c_X5_key l D y L F h w o f r hB (by omega)) ⟨rfl, rfl⟩ rfl hP ha hF rfl rfl rfl hl rfl (Nat.le_of_ble_eq_true rfl) dX5_many_16 ⟨Nat.zero_le _, Nat.zero_le _⟩ (fun r2 e_r2 => ?_)
        subst e_r2
        have b_3 := @turn_b o r (by omega)
        refine q_vS C0 lX5_23 (c_X5_has l D y L F h w o f (turn o r) hB (by omega)) ⟨rfl, rfl⟩ rfl hP ha hF rfl rfl rfl hl rfl (Nat.le_of_ble_eq_true rfl) dX5_many_19 ⟨Nat.zero_le _, Nat.zero_le _⟩ (fun r4 e_r4 => ?_)
        subst e_r4
        have b_5 := isT_b f (turn o (turn o r))
        refine q_if_eq hx hb dX5_many_22 (tgt := 29) (by decide) (by omega) (fun c6 => ?_) (fun c6 => ?_)
        · have t_ := isT_turn f o (r := r) (by omega)
          refine q_iconst hx hb dX5_many_29 ?_
          refine q_iadd hx hb dX5_many_30 ?_
          refine lv_istore_n (lv' := [(3, .int (iI ((a + 0)))), (0, .ref h), (1, .int (iI lo)), (2, .int (iI hi)), (4, .int (iI r))]) hx hb dX5_many_31 rfl hl (by decide) rfl (fun ls hl => ?_)
          refine q_iinc (x := r) (n := 1) (lv' := [(4, .int (iI ((r + 1)))), (3, .int (iI ((a + 0)))), (0, .ref h), (1, .int (iI lo)), (2, .int (iI hi))]) hx hb dX5_many_32 hl (k := 4) rfl (by decide) rfl (fun ls hl => ?_)
          refine lv_goto (tgt := 5) hx hb dX5_many_35 (by decide) ?_
          exact ih_LP5 _ (by omega) (r + 1) (a + 0) (by omega) (by have q_ := cntP_s (f := f) (lo := r) (hi := hi) (by omega); omega) rfl ls (lv_sub hl [2, 3, 4, 1, 0] rfl)
        · have t_ := isT_turn f o (r := r) (by omega)
          refine q_iconst hx hb dX5_many_25 ?_
          refine lv_goto (tgt := 30) hx hb dX5_many_26 (by decide) ?_
          refine q_iadd hx hb dX5_many_30 ?_
          refine lv_istore_n (lv' := [(3, .int (iI ((a + 1)))), (0, .ref h), (1, .int (iI lo)), (2, .int (iI hi)), (4, .int (iI r))]) hx hb dX5_many_31 rfl hl (by decide) rfl (fun ls hl => ?_)
          refine q_iinc (x := r) (n := 1) (lv' := [(4, .int (iI ((r + 1)))), (3, .int (iI ((a + 1)))), (0, .ref h), (1, .int (iI lo)), (2, .int (iI hi))]) hx hb dX5_many_32 hl (k := 4) rfl (by decide) rfl (fun ls hl => ?_)
          refine lv_goto (tgt := 5) hx hb dX5_many_35 (by decide) ?_
          exact ih_LP5 _ (by omega) (r + 1) (a + 1) (by omega) (by have q_ := cntP_s (f := f) (lo := r) (hi := hi) (by omega); omega) rfl ls (lv_sub hl [2, 3, 4, 1, 0] rfl)
  exact LP5 _ lo 0 (by omega) (by rw [Int.zero_add]) rfl ls (lv_sub hl [2, 3, 4, 1, 0] rfl)
set_option maxHeartbeats 800000 in
set_option maxRecDepth 100000 in
theorem c_X5_first (l : Launch) (D : va_G) (y : Nat → ClassId) (L : List Nat) (F : Nat → va_E) (h : Nat) (w : Nat) (o : Int) (f : Int → Int) (lo : Int) (hi : Int) (hB : MB y L F h w o f) (hlo : 0 ≤ lo ∧ lo ≤ 900) (hhi : -900 ≤ hi ∧ hi ≤ 99) : Met l yX5_first (.code yX5_first cX5_first 4 (some .int) :: Tt) ({ frames := 1, cells := 0, slots := 0, locals := 21 }) (PcR D y L F [.ref h, .int (iI lo), .int (iI hi)]) (cS (fun r => r = keyR o (firP f lo hi))) 0 0 (fun _ => False) := by
  have hB0 := hB
  obtain ⟨ha, hF, hw, hFw, ho, hfb⟩ := hB0
  have hfm : ∀ k, -1 ≤ mwd o f k ∧ mwd o f k ≤ 99 := fun k => hfb _
  have fr_ := firP_r f lo hi
  refine q_ofR (lv := [(0, .ref h), (1, .int (iI lo)), (2, .int (iI hi))]) (by decide) (Nat.le_of_ble_eq_true rfl) rfl (fun p e s m below meth c C0 hret hlk hP ls hl => ?_)
  have hx := C0.1.1
  have hb := C0.1.2.1
  have hts := C0.1.2.2.2.2
  refine lv_iload_n hx hb dX5_first_0 rfl (lv_at hl 1 rfl) ?_
  refine lv_istore_n (lv' := [(3, .int (iI lo)), (0, .ref h), (1, .int (iI lo)), (2, .int (iI hi))]) hx hb dX5_first_1 rfl hl (by decide) rfl (fun ls hl => ?_)
  have LP2 : ∀ (n_LP2 : Nat) (r : Int), (lo ≤ r ∧ r ≤ 1001) → (firP f lo hi = firP f r hi) → (hi + 1 - r).toNat = n_LP2 → ∀ ls : Array Slot, lv_has ls 4 [(0, .ref h), (1, .int (iI lo)), (2, .int (iI hi)), (3, .int (iI r))] → W p l e ({ frames := 1, cells := 0, slots := 0, locals := 21 } : Room) s m [.ref h, .int (iI lo), .int (iI hi)].toArray below meth c s.heap [] 0 0 (MQ below (cS (fun r => r = keyR o (firP f lo hi))) [.ref h, .int (iI lo), .int (iI hi)].toArray s 0 0 (fun _ => False)) (F0 m 2 ls []) := by
    intro n_LP2
    induction n_LP2 using Nat.strongRecOn with
    | ind n_LP2 ih_LP2 =>
      intro r hr hI hm_LP2 ls hl
      refine lv_iload_n hx hb dX5_first_2 rfl (lv_at hl 3 rfl) ?_
      refine lv_iload_n hx hb dX5_first_3 rfl (lv_at hl 2 rfl) ?_
      refine q_icmp_gt hx hb dX5_first_4 (tgt := 31) (by decide) (by omega) (by omega) (fun c1 => ?_) (fun c1 => ?_)
      · refine q_iconst hx hb dX5_first_31 ?_
        exact q_iretS C0 hret hlk dX5_first_32 rfl (by rw [hI, firP_e (by omega)]; rfl)
      · refine lv_aload_n hx hb dX5_first_7 rfl (lv_at hl 0 rfl) ?_
        refine lv_aload_n hx hb dX5_first_8 rfl (lv_at hl 0 rfl) ?_
        refine lv_iload_n hx hb dX5_first_9 rfl (lv_at hl 3 rfl) ?_
        refine q_vS C0 lX5_19 (c_X5_key l D y L F h w o f r hB (by omega)) ⟨rfl, rfl⟩ rfl hP ha hF rfl rfl rfl hl rfl (Nat.le_of_ble_eq_true rfl) dX5_first_10 ⟨Nat.zero_le _, Nat.zero_le _⟩ (fun r2 e_r2 => ?_)
        subst e_r2
        have b_3 := @turn_b o r (by omega)
        refine q_vS C0 lX5_23 (c_X5_has l D y L F h w o f (turn o r) hB (by omega)) ⟨rfl, rfl⟩ rfl hP ha hF rfl rfl rfl hl rfl (Nat.le_of_ble_eq_true rfl) dX5_first_13 ⟨Nat.zero_le _, Nat.zero_le _⟩ (fun r4 e_r4 => ?_)
        subst e_r4
        have b_5 := isT_b f (turn o (turn o r))
        refine q_if_eq hx hb dX5_first_16 (tgt := 25) (by decide) (by omega) (fun c6 => ?_) (fun c6 => ?_)
        · have t_ := isT_turn f o (r := r) (by omega)
          refine q_iinc (x := r) (n := 1) (lv' := [(3, .int (iI ((r + 1)))), (0, .ref h), (1, .int (iI lo)), (2, .int (iI hi))]) hx hb dX5_first_25 hl (k := 3) rfl (by decide) rfl (fun ls hl => ?_)
          refine lv_goto (tgt := 2) hx hb dX5_first_28 (by decide) ?_
          exact ih_LP2 _ (by omega) (r + 1) (by omega) (by rw [hI, firP_s (by omega), if_neg (by omega)]) rfl ls (lv_sub hl [1, 2, 3, 0] rfl)
        · have t_ := isT_turn f o (r := r) (by omega)
          refine lv_aload_n hx hb dX5_first_19 rfl (lv_at hl 0 rfl) ?_
          refine lv_iload_n hx hb dX5_first_20 rfl (lv_at hl 3 rfl) ?_
          refine q_vS C0 lX5_19 (c_X5_key l D y L F h w o f r hB (by omega)) ⟨rfl, rfl⟩ rfl hP ha hF rfl rfl rfl hl rfl (Nat.le_of_ble_eq_true rfl) dX5_first_21 ⟨Nat.zero_le _, Nat.zero_le _⟩ (fun r7 e_r7 => ?_)
          subst e_r7
          have b_8 := @turn_b o r (by omega)
          exact q_iretS C0 hret hlk dX5_first_24 rfl (by rw [hI, firP_s (by omega), if_pos (by omega)]; unfold keyR; rw [if_neg (by omega)])
  exact LP2 _ lo (by omega) (rfl) rfl ls (lv_sub hl [1, 2, 3, 0] rfl)
set_option maxHeartbeats 800000 in
set_option maxRecDepth 100000 in
theorem c_X5_last (l : Launch) (D : va_G) (y : Nat → ClassId) (L : List Nat) (F : Nat → va_E) (h : Nat) (w : Nat) (o : Int) (f : Int → Int) (lo : Int) (hi : Int) (hB : MB y L F h w o f) (hlo : 0 ≤ lo ∧ lo ≤ 900) (hhi : -900 ≤ hi ∧ hi ≤ 99) : Met l yX5_last (.code yX5_last cX5_last 4 (some .int) :: Tt) ({ frames := 1, cells := 0, slots := 0, locals := 21 }) (PcR D y L F [.ref h, .int (iI lo), .int (iI hi)]) (cS (fun r => r = keyR o (lasP f lo hi))) 0 0 (fun _ => False) := by
  have hB0 := hB
  obtain ⟨ha, hF, hw, hFw, ho, hfb⟩ := hB0
  have hfm : ∀ k, -1 ≤ mwd o f k ∧ mwd o f k ≤ 99 := fun k => hfb _
  refine q_ofR (lv := [(0, .ref h), (1, .int (iI lo)), (2, .int (iI hi))]) (by decide) (Nat.le_of_ble_eq_true rfl) rfl (fun p e s m below meth c C0 hret hlk hP ls hl => ?_)
  have hx := C0.1.1
  have hb := C0.1.2.1
  have hts := C0.1.2.2.2.2
  refine lv_iload_n hx hb dX5_last_0 rfl (lv_at hl 2 rfl) ?_
  refine lv_istore_n (lv' := [(3, .int (iI hi)), (0, .ref h), (1, .int (iI lo)), (2, .int (iI hi))]) hx hb dX5_last_1 rfl hl (by decide) rfl (fun ls hl => ?_)
  have LP2 : ∀ (n_LP2 : Nat) (r : Int), (-1001 ≤ r ∧ r ≤ hi) → (lasP f lo hi = lasP f lo r) → (r + 1 - lo).toNat = n_LP2 → ∀ ls : Array Slot, lv_has ls 4 [(0, .ref h), (1, .int (iI lo)), (2, .int (iI hi)), (3, .int (iI r))] → W p l e ({ frames := 1, cells := 0, slots := 0, locals := 21 } : Room) s m [.ref h, .int (iI lo), .int (iI hi)].toArray below meth c s.heap [] 0 0 (MQ below (cS (fun r => r = keyR o (lasP f lo hi))) [.ref h, .int (iI lo), .int (iI hi)].toArray s 0 0 (fun _ => False)) (F0 m 2 ls []) := by
    intro n_LP2
    induction n_LP2 using Nat.strongRecOn with
    | ind n_LP2 ih_LP2 =>
      intro r hr hI hm_LP2 ls hl
      refine lv_iload_n hx hb dX5_last_2 rfl (lv_at hl 3 rfl) ?_
      refine lv_iload_n hx hb dX5_last_3 rfl (lv_at hl 1 rfl) ?_
      refine q_icmp_lt hx hb dX5_last_4 (tgt := 31) (by decide) (by omega) (by omega) (fun c1 => ?_) (fun c1 => ?_)
      · refine q_iconst hx hb dX5_last_31 ?_
        exact q_iretS C0 hret hlk dX5_last_32 rfl (by rw [hI, lasP_e (by omega)]; rfl)
      · refine lv_aload_n hx hb dX5_last_7 rfl (lv_at hl 0 rfl) ?_
        refine lv_aload_n hx hb dX5_last_8 rfl (lv_at hl 0 rfl) ?_
        refine lv_iload_n hx hb dX5_last_9 rfl (lv_at hl 3 rfl) ?_
        refine q_vS C0 lX5_19 (c_X5_key l D y L F h w o f r hB (by omega)) ⟨rfl, rfl⟩ rfl hP ha hF rfl rfl rfl hl rfl (Nat.le_of_ble_eq_true rfl) dX5_last_10 ⟨Nat.zero_le _, Nat.zero_le _⟩ (fun r2 e_r2 => ?_)
        subst e_r2
        have b_3 := @turn_b o r (by omega)
        refine q_vS C0 lX5_23 (c_X5_has l D y L F h w o f (turn o r) hB (by omega)) ⟨rfl, rfl⟩ rfl hP ha hF rfl rfl rfl hl rfl (Nat.le_of_ble_eq_true rfl) dX5_last_13 ⟨Nat.zero_le _, Nat.zero_le _⟩ (fun r4 e_r4 => ?_)
        subst e_r4
        have b_5 := isT_b f (turn o (turn o r))
        refine q_if_eq hx hb dX5_last_16 (tgt := 25) (by decide) (by omega) (fun c6 => ?_) (fun c6 => ?_)
        · have t_ := isT_turn f o (r := r) (by omega)
          refine q_iinc (x := r) (n := -1) (lv' := [(3, .int (iI ((r + (-1))))), (0, .ref h), (1, .int (iI lo)), (2, .int (iI hi))]) hx hb dX5_last_25 hl (k := 3) rfl (by decide) rfl (fun ls hl => ?_)
          refine lv_goto (tgt := 2) hx hb dX5_last_28 (by decide) ?_
          exact ih_LP2 _ (by omega) (r + (-1)) (by omega) (by rw [hI, lasP_s (by omega), if_neg (by omega)]; rfl) rfl ls (lv_sub hl [1, 2, 3, 0] rfl)
        · have t_ := isT_turn f o (r := r) (by omega)
          refine lv_aload_n hx hb dX5_last_19 rfl (lv_at hl 0 rfl) ?_
          refine lv_iload_n hx hb dX5_last_20 rfl (lv_at hl 3 rfl) ?_
          refine q_vS C0 lX5_19 (c_X5_key l D y L F h w o f r hB (by omega)) ⟨rfl, rfl⟩ rfl hP ha hF rfl rfl rfl hl rfl (Nat.le_of_ble_eq_true rfl) dX5_last_21 ⟨Nat.zero_le _, Nat.zero_le _⟩ (fun r7 e_r7 => ?_)
          subst e_r7
          have b_8 := @turn_b o r (by omega)
          exact q_iretS C0 hret hlk dX5_last_24 rfl (by rw [hI, lasP_s (by omega), if_pos (by omega)]; unfold keyR; rw [if_neg (by omega)])
  exact LP2 _ hi (by omega) (rfl) rfl ls (lv_sub hl [1, 2, 3, 0] rfl)
set_option maxHeartbeats 800000 in
set_option maxRecDepth 100000 in
theorem c_X5_near (l : Launch) (D : va_G) (y : Nat → ClassId) (L : List Nat) (F : Nat → va_E) (h : Nat) (w : Nat) (o : Int) (f : Int → Int) (k : Int) (what : Int) (lo : Int) (hi : Int) (hB : MB y L F h w o f) (hk : 0 ≤ k ∧ k ≤ 99) (hwh : 0 ≤ what ∧ what ≤ 4) (hlo : 0 ≤ lo ∧ lo ≤ 900) (hhi : -900 ≤ hi ∧ hi ≤ 99) : Met l yX5_near (.code yX5_near cX5_near 6 (some .int) :: Tt) ({ frames := 2, cells := 0, slots := 0, locals := 44 }) (PcR D y L F [.ref h, .int (iI k), .int (iI what), .int (iI lo), .int (iI hi)]) (cS (fun r => r = keyR o (nearP o f lo hi k what))) 0 0 (fun _ => False) := by
  have hB0 := hB
  obtain ⟨ha, hF, hw, hFw, ho, hfb⟩ := hB0
  have hfm : ∀ k, -1 ≤ mwd o f k ∧ mwd o f k ≤ 99 := fun k => hfb _
  have tb_ := turn_b (o := o) (n := k) hk
  refine q_ofR (lv := [(0, .ref h), (1, .int (iI k)), (2, .int (iI what)), (3, .int (iI lo)), (4, .int (iI hi))]) (by decide) (Nat.le_of_ble_eq_true rfl) rfl (fun p e s m below meth c C0 hret hlk hP ls hl => ?_)
  have hx := C0.1.1
  have hb := C0.1.2.1
  have hts := C0.1.2.2.2.2
  refine lv_aload_n hx hb dX5_near_0 rfl (lv_at hl 0 rfl) ?_
  refine lv_iload_n hx hb dX5_near_1 rfl (lv_at hl 1 rfl) ?_
  refine q_vS C0 lX5_27 (c_X5_rank l D y L F h w o f k hB (by omega)) ⟨rfl, rfl⟩ rfl hP ha hF rfl rfl rfl hl rfl (Nat.le_of_ble_eq_true rfl) dX5_near_2 ⟨Nat.zero_le _, Nat.zero_le _⟩ (fun r1 e_r1 => ?_)
  subst e_r1
  have b_2 := @turn_b o k (by omega)
  refine lv_istore (lv' := [(5, .int (iI ((turn o k)))), (0, .ref h), (1, .int (iI k)), (2, .int (iI what)), (3, .int (iI lo)), (4, .int (iI hi))]) hx hb dX5_near_5 hl (by decide) rfl (fun ls hl => ?_)
  refine lv_iload_n hx hb dX5_near_7 rfl (lv_at hl 3 rfl) ?_
  rcases (show what = 0 ∨ what = 1 ∨ what = 2 ∨ what = 3 ∨ (what < 0 ∨ 3 < what) by omega) with sw3 | sw3 | sw3 | sw3 | sw3
  · refine lv_tableIn (tgt := 40) (off := 32) hx hb dX5_near_8 (by rw [iI_toInt (by omega)]; omega) (by rw [iI_toInt (by omega)]; omega) (by rw [iI_toInt (by omega), sw3]; rfl) (by decide) ?_
    refine lv_aload_n hx hb dX5_near_40 rfl (lv_at hl 1 rfl) ?_
    refine lv_iload_n hx hb dX5_near_41 rfl (lv_at hl 4 rfl) ?_
    refine lv_iload hx hb dX5_near_42 (lv_at hl 5 rfl) ?_
    refine lv_iload hx hb dX5_near_44 (lv_at hl 0 rfl) ?_
    refine q_min hx hb (by rw [hl.1]; exact C0.1.2.2.1) C0.1.2.2.2.1 hts mlX5_30 stMin iniMath cdMin (Nat.le_of_ble_eq_true rfl) (Nat.le_of_ble_eq_true rfl) (Nat.zero_le _) (Nat.zero_le _) dX5_near_46 (by omega) (by omega) ?_
    refine q_vS C0 lX5_36 (c_X5_last l D y L F h w o f lo (min hi (turn o k)) hB (by omega) (by omega)) ⟨rfl, rfl⟩ rfl hP ha hF rfl rfl rfl hl rfl (Nat.le_of_ble_eq_true rfl) dX5_near_49 ⟨Nat.zero_le _, Nat.zero_le _⟩ (fun r4 e_r4 => ?_)
    subst e_r4
    have b_5 := @keyR_b o (lasP f lo (min hi (turn o k))) (lasP_r f lo (min hi (turn o k)))
    exact q_iretS C0 hret hlk dX5_near_52 rfl (by first | (unfold nearP; (repeat' split) <;> first | rfl | (exfalso; omega) | (rw [Int.min_comm]; done) | (rw [Int.max_comm]; done)) | (rw [nearP_it _ _ _ _ _ _ (by omega)]; first | (rw [if_pos (by omega)]; unfold keyR; rw [if_neg (by omega), turn_t (by omega)]) | (rw [if_neg (by omega)]; rfl)))
  · refine lv_tableIn (tgt := 53) (off := 45) hx hb dX5_near_8 (by rw [iI_toInt (by omega)]; omega) (by rw [iI_toInt (by omega)]; omega) (by rw [iI_toInt (by omega), sw3]; rfl) (by decide) ?_
    refine lv_aload_n hx hb dX5_near_53 rfl (lv_at hl 1 rfl) ?_
    refine lv_iload_n hx hb dX5_near_54 rfl (lv_at hl 4 rfl) ?_
    refine lv_iload hx hb dX5_near_55 (lv_at hl 0 rfl) ?_
    refine q_max hx hb (by rw [hl.1]; exact C0.1.2.2.1) C0.1.2.2.2.1 hts mlX5_39 stMax iniMath cdMax (Nat.le_of_ble_eq_true rfl) (Nat.le_of_ble_eq_true rfl) (Nat.zero_le _) (Nat.zero_le _) dX5_near_57 (by omega) (by omega) ?_
    refine lv_iload hx hb dX5_near_60 (lv_at hl 5 rfl) ?_
    refine q_vS C0 lX5_42 (c_X5_first l D y L F h w o f (max lo (turn o k)) hi hB (by omega) (by omega)) ⟨rfl, rfl⟩ rfl hP ha hF rfl rfl rfl hl rfl (Nat.le_of_ble_eq_true rfl) dX5_near_62 ⟨Nat.zero_le _, Nat.zero_le _⟩ (fun r6 e_r6 => ?_)
    subst e_r6
    have b_7 := @keyR_b o (firP f (max lo (turn o k)) hi) (firP_r f (max lo (turn o k)) hi)
    exact q_iretS C0 hret hlk dX5_near_65 rfl (by first | (unfold nearP; (repeat' split) <;> first | rfl | (exfalso; omega) | (rw [Int.min_comm]; done) | (rw [Int.max_comm]; done)) | (rw [nearP_it _ _ _ _ _ _ (by omega)]; first | (rw [if_pos (by omega)]; unfold keyR; rw [if_neg (by omega), turn_t (by omega)]) | (rw [if_neg (by omega)]; rfl)))
  · refine lv_tableIn (tgt := 66) (off := 58) hx hb dX5_near_8 (by rw [iI_toInt (by omega)]; omega) (by rw [iI_toInt (by omega)]; omega) (by rw [iI_toInt (by omega), sw3]; rfl) (by decide) ?_
    refine lv_aload_n hx hb dX5_near_66 rfl (lv_at hl 1 rfl) ?_
    refine lv_iload_n hx hb dX5_near_67 rfl (lv_at hl 4 rfl) ?_
    refine lv_iload hx hb dX5_near_68 (lv_at hl 5 rfl) ?_
    refine lv_iload hx hb dX5_near_70 (lv_at hl 0 rfl) ?_
    refine q_iconst hx hb dX5_near_72 ?_
    refine q_isub hx hb dX5_near_73 ?_
    refine q_min hx hb (by rw [hl.1]; exact C0.1.2.2.1) C0.1.2.2.2.1 hts mlX5_30 stMin iniMath cdMin (Nat.le_of_ble_eq_true rfl) (Nat.le_of_ble_eq_true rfl) (Nat.zero_le _) (Nat.zero_le _) dX5_near_74 (by omega) (by omega) ?_
    refine q_vS C0 lX5_36 (c_X5_last l D y L F h w o f lo (min hi ((turn o k) - 1)) hB (by omega) (by omega)) ⟨rfl, rfl⟩ rfl hP ha hF rfl rfl rfl hl rfl (Nat.le_of_ble_eq_true rfl) dX5_near_77 ⟨Nat.zero_le _, Nat.zero_le _⟩ (fun r8 e_r8 => ?_)
    subst e_r8
    have b_9 := @keyR_b o (lasP f lo (min hi ((turn o k) - 1))) (lasP_r f lo (min hi ((turn o k) - 1)))
    exact q_iretS C0 hret hlk dX5_near_80 rfl (by first | (unfold nearP; (repeat' split) <;> first | rfl | (exfalso; omega) | (rw [Int.min_comm]; done) | (rw [Int.max_comm]; done)) | (rw [nearP_it _ _ _ _ _ _ (by omega)]; first | (rw [if_pos (by omega)]; unfold keyR; rw [if_neg (by omega), turn_t (by omega)]) | (rw [if_neg (by omega)]; rfl)))
  · refine lv_tableIn (tgt := 81) (off := 73) hx hb dX5_near_8 (by rw [iI_toInt (by omega)]; omega) (by rw [iI_toInt (by omega)]; omega) (by rw [iI_toInt (by omega), sw3]; rfl) (by decide) ?_
    refine lv_aload_n hx hb dX5_near_81 rfl (lv_at hl 1 rfl) ?_
    refine lv_iload_n hx hb dX5_near_82 rfl (lv_at hl 4 rfl) ?_
    refine lv_iload hx hb dX5_near_83 (lv_at hl 0 rfl) ?_
    refine q_iconst hx hb dX5_near_85 ?_
    refine q_iadd hx hb dX5_near_86 ?_
    refine q_max hx hb (by rw [hl.1]; exact C0.1.2.2.1) C0.1.2.2.2.1 hts mlX5_39 stMax iniMath cdMax (Nat.le_of_ble_eq_true rfl) (Nat.le_of_ble_eq_true rfl) (Nat.zero_le _) (Nat.zero_le _) dX5_near_87 (by omega) (by omega) ?_
    refine lv_iload hx hb dX5_near_90 (lv_at hl 5 rfl) ?_
    refine q_vS C0 lX5_42 (c_X5_first l D y L F h w o f (max lo ((turn o k) + 1)) hi hB (by omega) (by omega)) ⟨rfl, rfl⟩ rfl hP ha hF rfl rfl rfl hl rfl (Nat.le_of_ble_eq_true rfl) dX5_near_92 ⟨Nat.zero_le _, Nat.zero_le _⟩ (fun r10 e_r10 => ?_)
    subst e_r10
    have b_11 := @keyR_b o (firP f (max lo ((turn o k) + 1)) hi) (firP_r f (max lo ((turn o k) + 1)) hi)
    exact q_iretS C0 hret hlk dX5_near_95 rfl (by first | (unfold nearP; (repeat' split) <;> first | rfl | (exfalso; omega) | (rw [Int.min_comm]; done) | (rw [Int.max_comm]; done)) | (rw [nearP_it _ _ _ _ _ _ (by omega)]; first | (rw [if_pos (by omega)]; unfold keyR; rw [if_neg (by omega), turn_t (by omega)]) | (rw [if_neg (by omega)]; rfl)))
  · refine lv_tableOut (tgt := 96) hx hb dX5_near_8 (by rw [iI_toInt (by omega)]; omega) (by decide) ?_
    refine lv_iload hx hb dX5_near_96 (lv_at hl 0 rfl) ?_
    refine lv_iload_n hx hb dX5_near_98 rfl (lv_at hl 4 rfl) ?_
    refine q_icmp_lt hx hb dX5_near_99 (tgt := 121) (by decide) (by omega) (by omega) (fun c12 => ?_) (fun c12 => ?_)
    · refine q_iconst hx hb dX5_near_121 ?_
      exact q_iretS C0 hret hlk dX5_near_122 rfl (by first | (unfold nearP; (repeat' split) <;> first | rfl | (exfalso; omega) | (rw [Int.min_comm]; done) | (rw [Int.max_comm]; done)) | (rw [nearP_it _ _ _ _ _ _ (by omega)]; first | (rw [if_pos (by omega)]; unfold keyR; rw [if_neg (by omega), turn_t (by omega)]) | (rw [if_neg (by omega)]; rfl)))
    · refine lv_iload hx hb dX5_near_102 (lv_at hl 0 rfl) ?_
      refine lv_iload hx hb dX5_near_104 (lv_at hl 5 rfl) ?_
      refine q_icmp_gt hx hb dX5_near_106 (tgt := 121) (by decide) (by omega) (by omega) (fun c13 => ?_) (fun c13 => ?_)
      · refine q_iconst hx hb dX5_near_121 ?_
        exact q_iretS C0 hret hlk dX5_near_122 rfl (by first | (unfold nearP; (repeat' split) <;> first | rfl | (exfalso; omega) | (rw [Int.min_comm]; done) | (rw [Int.max_comm]; done)) | (rw [nearP_it _ _ _ _ _ _ (by omega)]; first | (rw [if_pos (by omega)]; unfold keyR; rw [if_neg (by omega), turn_t (by omega)]) | (rw [if_neg (by omega)]; rfl)))
      · refine lv_aload_n hx hb dX5_near_109 rfl (lv_at hl 1 rfl) ?_
        refine lv_iload_n hx hb dX5_near_110 rfl (lv_at hl 2 rfl) ?_
        refine q_vS C0 lX5_23 (c_X5_has l D y L F h w o f k hB (by omega)) ⟨rfl, rfl⟩ rfl hP ha hF rfl rfl rfl hl rfl (Nat.le_of_ble_eq_true rfl) dX5_near_111 ⟨Nat.zero_le _, Nat.zero_le _⟩ (fun r14 e_r14 => ?_)
        subst e_r14
        have b_15 := isT_b f (turn o k)
        refine q_if_eq hx hb dX5_near_114 (tgt := 121) (by decide) (by omega) (fun c16 => ?_) (fun c16 => ?_)
        · refine q_iconst hx hb dX5_near_121 ?_
          exact q_iretS C0 hret hlk dX5_near_122 rfl (by first | (unfold nearP; (repeat' split) <;> first | rfl | (exfalso; omega) | (rw [Int.min_comm]; done) | (rw [Int.max_comm]; done)) | (rw [nearP_it _ _ _ _ _ _ (by omega)]; first | (rw [if_pos (by omega)]; unfold keyR; rw [if_neg (by omega), turn_t (by omega)]) | (rw [if_neg (by omega)]; rfl)))
        · refine lv_iload_n hx hb dX5_near_117 rfl (lv_at hl 2 rfl) ?_
          refine lv_goto (tgt := 122) hx hb dX5_near_118 (by decide) ?_
          exact q_iretS C0 hret hlk dX5_near_122 rfl (by first | (unfold nearP; (repeat' split) <;> first | rfl | (exfalso; omega) | (rw [Int.min_comm]; done) | (rw [Int.max_comm]; done)) | (rw [nearP_it _ _ _ _ _ _ (by omega)]; first | (rw [if_pos (by omega)]; unfold keyR; rw [if_neg (by omega), turn_t (by omega)]) | (rw [if_neg (by omega)]; rfl)))
