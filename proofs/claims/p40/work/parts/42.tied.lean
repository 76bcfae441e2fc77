-- isSound answers 1
theorem firP_c {f : Int → Int} {hi : Int} : ∀ (k : Nat) (lo : Int), (hi + 1 - lo).toNat = k → 0 ≤ lo → hi ≤ 99 → (firP f lo hi = -1 ∧ cntP f lo hi = 0) ∨ ((lo ≤ firP f lo hi ∧ firP f lo hi ≤ hi) ∧ isT f (firP f lo hi) ≠ 0 ∧ cntP f lo (firP f lo hi - 1) = 0) := by
  intro k
  induction k with
  | zero =>
    intro lo hk h0 h9
    exact Or.inl ⟨firP_e (by omega), cntP_e (by omega)⟩
  | succ k ih =>
    intro lo hk h0 h9
    rw [firP_s (by omega), cntP_s (f := f) (lo := lo) (hi := hi) (by omega)]
    by_cases q : isT f lo ≠ 0
    · rw [if_pos q]
      exact Or.inr ⟨⟨Int.le_refl _, by omega⟩, q, cntP_e (by omega)⟩
    · rw [if_neg q]
      rcases ih (lo + 1) (by omega) (by omega) h9 with h | h
      · exact Or.inl ⟨h.1, by omega⟩
      · refine Or.inr ⟨⟨by omega, h.1.2⟩, h.2.1, ?_⟩
        rw [cntP_s (by omega)]
        have := h.2.2
        omega
theorem firP_at {f : Int → Int} {hi r : Int} (hr : r ≤ hi) (hi9 : isT f r ≠ 0) : ∀ (k : Nat) (lo : Int), (r - lo).toNat = k → lo ≤ r → cntP f lo (r - 1) = 0 → firP f lo hi = r := by
  intro k
  induction k with
  | zero =>
    intro lo hk h0 hc
    rw [firP_s (by omega), show lo = r by omega, if_pos hi9]
  | succ k ih =>
    intro lo hk h0 hc
    rw [cntP_s (by omega)] at hc
    have b := isT_b f lo
    have c := cnt_bd f _ (lo + 1) (r - 1) rfl
    rw [firP_s (by omega), if_neg (by omega)]
    exact ih (lo + 1) (by omega) (by omega) (by omega)
theorem cntP_r {f : Int → Int} {lo hi : Int} (h : lo ≤ hi) : cntP f lo hi = cntP f lo (hi - 1) + isT f hi := sumP_r h
theorem lasP_c {f : Int → Int} {lo : Int} : ∀ (k : Nat) (hi : Int), (hi + 1 - lo).toNat = k → (lasP f lo hi = -1 ∧ cntP f lo hi = 0) ∨ ((lo ≤ lasP f lo hi ∧ lasP f lo hi ≤ hi) ∧ isT f (lasP f lo hi) ≠ 0 ∧ cntP f (lasP f lo hi + 1) hi = 0) := by
  intro k
  induction k with
  | zero =>
    intro hi hk
    exact Or.inl ⟨lasP_e (by omega), cntP_e (by omega)⟩
  | succ k ih =>
    intro hi hk
    rw [lasP_s (by omega), cntP_r (f := f) (lo := lo) (hi := hi) (by omega)]
    by_cases q : isT f hi ≠ 0
    · rw [if_pos q]
      exact Or.inr ⟨⟨by omega, Int.le_refl _⟩, q, cntP_e (by omega)⟩
    · rw [if_neg q]
      rcases ih (hi - 1) (by omega) with h | h
      · exact Or.inl ⟨h.1, by omega⟩
      · refine Or.inr ⟨⟨h.1.1, by omega⟩, h.2.1, ?_⟩
        rw [cntP_r (by omega)]
        have := h.2.2
        omega
theorem near3 {o : Int} {f : Int → Int} {lo hi r : Int} (h : 0 ≤ r ∧ r ≤ 99) (hl : lo ≤ r + 1) : nearP o f lo hi (keyR o r) 3 = firP f (r + 1) hi := by
  unfold nearP
  rw [if_neg (by decide), if_neg (by decide), if_neg (by decide), if_pos rfl, kyI h.1, turn_t h, show max (r + 1) lo = r + 1 by omega]
theorem near2 {o : Int} {f : Int → Int} {lo hi r : Int} (h : 0 ≤ r ∧ r ≤ 99) (hl : r - 1 ≤ hi) : nearP o f lo hi (keyR o r) 2 = lasP f lo (r - 1) := by
  unfold nearP
  rw [if_neg (by decide), if_neg (by decide), if_pos rfl, kyI h.1, turn_t h, show min (r - 1) hi = r - 1 by omega]
theorem ahd_1 {o a b : Int} (ha : 0 ≤ a ∧ a ≤ 99) (hb : 0 ≤ b ∧ b ≤ 99) (h : a < b) : ahd o (keyR o a) (keyR o b) = 1 := by
  unfold ahd
  rw [kyI ha.1, kyI hb.1, turn_t ha, turn_t hb, if_pos h]
/-- told in order, a part of a row tells all that it holds -/
theorem inOrd_1 {o : Int} {f : Int → Int} {lo hi : Int} (h1 : 0 ≤ lo) (h2 : hi ≤ 99) : inOrd o f lo hi (cntP f lo hi) = 1 := by
  unfold inOrd
  have key : ∀ (n : Nat) (r t : Int), (hi + 1 - r).toNat = n → (lo ≤ r ∧ r ≤ hi) → isT f r ≠ 0 → t = cntP f lo (r - 1) → tioP (ioNx o f lo hi) (ioBad o f lo hi) (cntP f lo hi) r t = 1 := by
    intro n
    induction n using Nat.strongRecOn with
    | ind n ih =>
      intro r t hn hr hi9 ht
      have c := cnt_bd f _ lo (r - 1) rfl
      have e1 : ioNx o f lo hi r = firP f (r + 1) hi := near3 (by omega) (by omega)
      have s1 : cntP f lo hi = cntP f lo r + cntP f (r + 1) hi := sumP_sp _ lo r hi rfl (by omega) hr.2
      have s2 : cntP f lo r = cntP f lo (r - 1) + isT f r := cntP_r hr.1
      have b := isT_b f r
      have bad : ioBad o f lo hi r = 0 := by
        unfold ioBad
        rw [if_neg hi9, e1]
        rcases firP_c (f := f) _ (r + 1) rfl (by omega) h2 with h | h
        · rw [if_pos h.1]
        · rw [if_neg (by omega), ahd_1 (by omega) (by omega) (by omega), if_neg (by decide)]
      rw [tioP_s (by omega), if_neg (by omega), if_neg (by omega), e1]
      rcases firP_c (f := f) _ (r + 1) rfl (by omega) h2 with h | h
      · rw [h.1, tioP_1, if_pos (by omega)]
      · refine ih (hi + 1 - firP f (r + 1) hi).toNat (by omega) _ _ rfl ⟨by omega, h.1.2⟩ h.2.1 ?_
        have s3 : cntP f lo (firP f (r + 1) hi - 1) = cntP f lo r + cntP f (r + 1) (firP f (r + 1) hi - 1) := sumP_sp _ lo r _ rfl (by omega) (by omega)
        have := h.2.2
        omega
  show tioP (ioNx o f lo hi) (ioBad o f lo hi) (cntP f lo hi) (firP f lo hi) 0 = 1
  rcases firP_c (f := f) _ lo rfl h1 h2 with h | h
  · rw [h.1, tioP_1, if_pos h.2.symm]
  · exact key _ _ _ rfl h.1 h.2.1 h.2.2.symm
theorem bwOrd_1 {o : Int} {f : Int → Int} : bwOrd o f (cntP f 0 99) = 1 := by
  unfold bwOrd
  have key : ∀ (n : Nat) (r t : Int), (r + 1).toNat = n → (0 ≤ r ∧ r ≤ 99) → isT f r ≠ 0 → t = cntP f (r + 1) 99 → tioP (bwNx o f) (bwBad o f) (cntP f 0 99) r t = 1 := by
    intro n
    induction n using Nat.strongRecOn with
    | ind n ih =>
      intro r t hn hr hi9 ht
      have c := cnt_bd f _ (r + 1) 99 rfl
      have e1 : bwNx o f r = lasP f 0 (r - 1) := near2 hr (by omega)
      have s1 : cntP f 0 99 = cntP f 0 r + cntP f (r + 1) 99 := sumP_sp _ 0 r 99 rfl (by omega) hr.2
      have s2 : cntP f 0 r = cntP f 0 (r - 1) + isT f r := cntP_r hr.1
      have b := isT_b f r
      have bad : bwBad o f r = 0 := by
        unfold bwBad
        rw [e1]
        rcases lasP_c (f := f) (lo := 0) _ (r - 1) rfl with h | h
        · rw [if_pos h.1]
        · rw [if_neg (by omega), ahd_1 (by omega) hr (by omega), if_neg (by decide)]
      rw [tioP_s (by omega), if_neg (by omega), if_neg (by omega), e1]
      rcases lasP_c (f := f) (lo := 0) _ (r - 1) rfl with h | h
      · rw [h.1, tioP_1, if_pos (by omega)]
      · refine ih (lasP f 0 (r - 1) + 1).toNat (by omega) _ _ rfl ⟨h.1.1, by omega⟩ h.2.1 ?_
        have s3 : cntP f (lasP f 0 (r - 1) + 1) 99 = cntP f (lasP f 0 (r - 1) + 1) (r - 1) + cntP f (r - 1 + 1) 99 := sumP_sp _ _ (r - 1) 99 rfl (by omega) (by omega)
        have s4 : cntP f (r - 1 + 1) 99 = isT f r + cntP f (r + 1) 99 := by
          rw [show r - 1 + 1 = r by omega]
          exact cntP_s hr.2
        have := h.2.2
        omega
  show tioP (bwNx o f) (bwBad o f) (cntP f 0 99) (lasP f 0 99) 0 = 1
  rcases lasP_c (f := f) (lo := 0) _ 99 rfl with h | h
  · rw [h.1, tioP_1, if_pos h.2.symm]
  · exact key _ _ _ rfl h.1 h.2.1 h.2.2.symm
theorem lasP_at {f : Int → Int} {lo r : Int} (h : lo ≤ r) (hi : isT f r ≠ 0) : lasP f lo r = r := by rw [lasP_s h, if_pos hi]
theorem nbOk_1 {o : Int} {f : Int → Int} {r : Int} (h : 0 ≤ r ∧ r ≤ 99) (hi : isT f r ≠ 0) : nbOk o f r (lasP f 0 (r - 1)) = 1 := by
  have t1 : nearP o f 0 99 (keyR o r) 0 = r := by
    unfold nearP
    rw [if_pos rfl, kyI h.1, turn_t h, show min r 99 = r by omega, lasP_at h.1 hi]
  have t2 : nearP o f 0 99 (keyR o r) 1 = r := by
    unfold nearP
    rw [if_neg (by decide), if_pos rfl, kyI h.1, turn_t h, show max r 0 = r by omega, firP_s h.2, if_pos hi]
  have t3 : nearP o f 0 99 (keyR o r) 4 = r := by
    unfold nearP
    rw [if_neg (by decide), if_neg (by decide), if_neg (by decide), if_neg (by decide), kyI h.1, turn_t h, show max r 0 = r by omega, show min r 99 = r by omega, firP_s (Int.le_refl _), if_pos hi]
  have t4 : nearP o f 0 99 (keyR o r) 2 = lasP f 0 (r - 1) := near2 h (by omega)
  unfold nbOk
  rw [t1, t2, t3, t4, if_neg (fun z => z rfl), if_neg (fun z => z rfl), if_neg (fun z => z rfl), if_neg (fun z => z rfl)]
  rcases lasP_c (f := f) (lo := 0) _ (r - 1) rfl with w | w
  · rw [if_pos w.1]
  · have t5 : nearP o f 0 99 (keyR o (lasP f 0 (r - 1))) 3 = r := by
      rw [near3 (by omega) (by omega)]
      exact firP_at h.2 hi _ _ rfl (by omega) w.2.2
    rw [if_neg (by omega), t5, if_neg (fun z => z rfl)]
theorem nbP_1 {o : Int} {f : Int → Int} : ∀ (n : Nat) (r : Int), (100 - r).toNat = n → 0 ≤ r → nbP o f r (lasP f 0 (r - 1)) = 1 := by
  intro n
  induction n with
  | zero =>
    intro r hn h0
    exact nbP_e (by omega)
  | succ n ih =>
    intro r hn h0
    have i1 := ih (r + 1) (by omega) (by omega)
    rw [show r + 1 - 1 = r by omega] at i1
    rw [nbP_s (by omega)]
    by_cases q : isT f r = 0
    · rw [if_pos q]
      rw [lasP_s h0, if_neg (fun z => z q)] at i1
      exact i1
    · rw [if_neg q, nbOk_1 ⟨h0, by omega⟩ q, if_neg (by decide)]
      rw [lasP_at h0 q] at i1
      exact i1
theorem same_1 {o : Int} {f : Int → Int} : sameR o o f (addS o o f 0 99 (0, 0, emp)).2.2 = 1 := by
  refine (allP_if _ 0 rfl).2 (fun r a b => ?_)
  have tb := turn_b (o := o) (n := r) ⟨a, b⟩
  unfold smU
  have e := addS_f (o := o) (o2 := o) (f2 := f) (S := (0, 0, emp)) (lo := 0) (hi := 99) (by omega) (by omega) (turn o r)
  rw [turn_t tb] at e
  by_cases q : isT f (turn o r) ≠ 0
  · rw [if_pos ⟨tb, tb.1, tb.2, q⟩] at e
    rw [wAt_in tb, wAt_in tb, e, if_pos rfl]
    decide
  · rw [if_neg (fun z => q z.2.2.2)] at e
    have e1 : f (turn o r) = -1 := (isT_0 tb).1 (by omega)
    have e2 : emp (turn o r) = -1 := by
      unfold emp
      rw [if_pos (by omega)]
    rw [wAt_in tb, wAt_in tb, e, e1, show ((0, 0, emp) : RS).2.2 (turn o r) = -1 from e2, if_pos rfl]
    decide
theorem rsnd_1 {o : Int} {f : Int → Int} : rsnd o (cntP f 0 99) f = 1 := by
  unfold rsnd
  have e := nbP_1 (o := o) (f := f) _ 0 rfl (by omega)
  rw [lasP_e (by omega)] at e
  rw [inOrd_1 (by omega) (by omega), bwOrd_1, e, if_neg (by decide), if_neg (by decide), if_neg (by decide), same_1]
theorem rS_1 {B : Int} {σ : CS} {i : Nat} (h : RI B (zst σ i)) : rS σ i = 1 := by
  unfold rS
  rw [h.1]
  exact rsnd_1
theorem vS_1 {B : Int} {σ : CS} {v : Int} (h : RI B (zst σ (zvw σ v))) (hv : 0 ≤ zvl σ v ∧ zvh σ v ≤ 99) : vS σ v = 1 := by
  unfold vS
  have c := cnt_clr (f := (zst σ (zvw σ v)).2.2) (g := fun t => if zvl σ v ≤ t ∧ t ≤ zvh σ v then -1 else (zst σ (zvw σ v)).2.2 t) hv.1 hv.2 (fun t => rfl)
  have d := cnt_bd (fun t => if zvl σ v ≤ t ∧ t ≤ zvh σ v then -1 else (zst σ (zvw σ v)).2.2 t) _ 0 99 rfl
  rw [if_pos (by rw [h.1]; omega)]
  exact inOrd_1 hv.1 hv.2
theorem sound_1 {B : Int} {σ : CS} (hc : CI B σ) : kR_isSound σ = 1 := by
  have hr := hc.2.2.2.2.2.2.2.2.2.2.1
  have hb : ∀ i, rS σ (zbk σ i) = 1 := fun i => rS_1 (hr _ (hc.2.1 i))
  have hs : ∀ i, rS σ (zsh σ i) = 1 := fun i => rS_1 (hr _ (hc.2.2.1 i))
  have hv : ∀ i, vS σ i = 1 := fun i => vS_1 (hr _ (hc.2.2.2.1 i)) ⟨(hc.2.2.2.2.2.1 i).1, (hc.2.2.2.2.2.1 i).2.2.2⟩
  unfold kR_isSound
  rw [hb, hb, hb, hb, hs, hs, hs, hv, hv]
  rfl
