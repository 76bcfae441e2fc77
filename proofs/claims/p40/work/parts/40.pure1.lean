-- what every call keeps: rows
theorem sumP_one {u u' : Int → Int} {n : Int} (h : ∀ r, r ≠ n → u' r = u r) : ∀ (k : Nat) (lo hi : Int), (hi + 1 - lo).toNat = k → sumP u' lo hi = sumP u lo hi + (if lo ≤ n ∧ n ≤ hi then u' n - u n else 0) := by
  intro k
  induction k with
  | zero =>
    intro lo hi hk
    rw [sumP_e (by omega), sumP_e (by omega), if_neg (by omega)]
    rfl
  | succ k ih =>
    intro lo hi hk
    rw [sumP_s (u := u') (by omega), sumP_s (u := u) (by omega), ih (lo + 1) hi (by omega)]
    by_cases hn : lo = n
    · subst hn
      rw [if_neg (by omega), if_pos (by omega)]
      omega
    · rw [h lo hn]
      by_cases h2 : lo + 1 ≤ n ∧ n ≤ hi
      · rw [if_pos h2, if_pos (by omega)]
        omega
      · rw [if_neg h2, if_neg (by omega)]
        omega
theorem isT_iu_ne {f : Int → Int} {n v r : Int} (h : r ≠ n) : isT (iu f n v) r = isT f r := by
  unfold isT
  rw [iu_n h]
theorem cntP_iu {f : Int → Int} {n v : Int} (h : 0 ≤ n ∧ n < 100) : cntP (iu f n v) 0 99 = cntP f 0 99 + (isT (iu f n v) n - isT f n) := by
  unfold cntP
  rw [sumP_one (u := isT f) (u' := isT (iu f n v)) (n := n) (fun r hr => isT_iu_ne hr) _ 0 99 rfl, if_pos (by omega)]
theorem cnt_bd (f : Int → Int) : ∀ (k : Nat) (lo hi : Int), (hi + 1 - lo).toNat = k → 0 ≤ cntP f lo hi ∧ cntP f lo hi ≤ k := by
  intro k
  induction k with
  | zero =>
    intro lo hi hk
    rw [cntP_e (by omega)]
    omega
  | succ k ih =>
    intro lo hi hk
    have := ih (lo + 1) hi (by omega)
    have := isT_b f lo
    rw [cntP_s (by omega)]
    omega
/-- a row as it may be after some calls: the count counts, the changes are at most B -/
def RI (B : Int) (S : RS) : Prop := S.1 = cntP S.2.2 0 99 ∧ 0 ≤ S.2.1 ∧ S.2.1 ≤ B
theorem RI.up {B B' : Int} {S : RS} (h : RI B S) (hB : B ≤ B') : RI B' S := ⟨h.1, h.2.1, by have := h.2.2; omega⟩
theorem RI_come {B n v : Int} {S : RS} (h : RI B S) (hv : v ≠ -1) : RI (B + 1) (comeS S n v) := by
  obtain ⟨h1, h2, h3⟩ := h
  by_cases hn : n < 0 ∨ 100 ≤ n
  · rw [comeS_out hn]
    exact ⟨h1, h2, by omega⟩
  · have hn2 : 0 ≤ n ∧ n < 100 := by omega
    have e1 : isT (iu S.2.2 n v) n = 1 := by
      unfold isT
      rw [iu_s, if_pos ⟨hn2.1, hn2.2, hv⟩]
    have e3 := cntP_iu (f := S.2.2) (v := v) hn2
    by_cases q : S.2.2 n = -1
    · have e2 : isT S.2.2 n = 0 := by
        unfold isT
        rw [if_neg (fun z => z.2.2 q)]
      rw [comeS_new hn2 q]
      refine ⟨?_, by show 0 ≤ S.2.1 + 1; omega, by show S.2.1 + 1 ≤ B + 1; omega⟩
      show S.1 + 1 = cntP (iu S.2.2 n v) 0 99
      omega
    · have e2 : isT S.2.2 n = 1 := by
        unfold isT
        rw [if_pos ⟨hn2.1, hn2.2, q⟩]
      rw [comeS_old hn2 q]
      refine ⟨?_, h2, by show S.2.1 ≤ B + 1; omega⟩
      show S.1 = cntP (iu S.2.2 n v) 0 99
      omega
theorem RI_go {B n : Int} {S : RS} (h : RI B S) : RI (B + 1) (goS S n) := by
  obtain ⟨h1, h2, h3⟩ := h
  by_cases hn : n < 0 ∨ 100 ≤ n
  · rw [goS_out hn]
    exact ⟨h1, h2, by omega⟩
  · have hn2 : 0 ≤ n ∧ n < 100 := by omega
    have e1 : isT (iu S.2.2 n (-1)) n = 0 := by
      unfold isT
      rw [iu_s, if_neg (fun z => z.2.2 rfl)]
    have e3 := cntP_iu (f := S.2.2) (v := -1) hn2
    by_cases q : S.2.2 n = -1
    · have e2 : isT S.2.2 n = 0 := by
        unfold isT
        rw [if_neg (fun z => z.2.2 q)]
      rw [goS_new hn2 q]
      refine ⟨?_, h2, by show S.2.1 ≤ B + 1; omega⟩
      show S.1 = cntP (iu S.2.2 n (-1)) 0 99
      omega
    · have e2 : isT S.2.2 n = 1 := by
        unfold isT
        rw [if_pos ⟨hn2.1, hn2.2, q⟩]
      rw [goS_old hn2 q]
      refine ⟨?_, by show 0 ≤ S.2.1 + 1; omega, by show S.2.1 + 1 ≤ B + 1; omega⟩
      show S.1 - 1 = cntP (iu S.2.2 n (-1)) 0 99
      omega
theorem RI_it {u : Int → RS → RS} (hu : ∀ (r B : Int) (S : RS), RI B S → RI (B + 1) (u r S)) : ∀ (k : Nat) (lo hi B : Int) (S : RS), (hi + 1 - lo).toNat = k → RI B S → RI (B + k) (itrP u lo hi S) := by
  intro k
  induction k with
  | zero =>
    intro lo hi B S hk h
    rw [itrP_e (by omega)]
    exact h.up (by omega)
  | succ k ih =>
    intro lo hi B S hk h
    rw [itrP_s (by omega)]
    exact (ih (lo + 1) hi (B + 1) _ (by omega) (hu lo B S h)).up (by omega)
theorem RI_it100 {u : Int → RS → RS} {lo hi B : Int} {S : RS} (hu : ∀ (r B : Int) (S : RS), RI B S → RI (B + 1) (u r S)) (hl : hi + 1 - lo ≤ 100) (h : RI B S) : RI (B + 100) (itrP u lo hi S) := (RI_it hu _ lo hi B S rfl h).up (by omega)
theorem RI_R0 : RI 0 R0 := by
  refine ⟨?_, by decide, by decide⟩
  show (0 : Int) = cntP emp 0 99
  decide +kernel
theorem RI_add {o o2 lo hi B : Int} {f2 : Int → Int} {S : RS} (hl : hi + 1 - lo ≤ 100) (h : RI B S) : RI (B + 100) (addS o o2 f2 lo hi S) := RI_it100 (fun r B S h => by
  unfold addU
  split
  · rename_i q
    have w := isT_w q
    exact RI_come h (by rw [w.2.2.2]; exact w.2.2.1)
  · exact h.up (by omega)) hl h
theorem RI_stp {o a b n w B : Int} {S : RS} (hn : n ≤ 100) (h : RI B S) : RI (B + 100) (stpS o a b n w S) := RI_it100 (fun r B S h => RI_come h (by omega)) (by omega) h
theorem RI_kst {o a b n B : Int} {S : RS} (hn : n ≤ 100) (h : RI B S) : RI (B + 100) (kstS o a b n S) := RI_it100 (fun r B S h => RI_come h (by omega)) (by omega) h
theorem RI_rst {o a b n B : Int} {S : RS} (hn : n ≤ 100) (h : RI B S) : RI (B + 100) (rstS o a b n S) := RI_it100 (fun r B S h => RI_go h) (by omega) h
theorem RI_ret {o o2 b B : Int} {f2 : Int → Int} {S : RS} (h : RI B S) : RI (B + 100) (retS o o2 b f2 S) := RI_it100 (fun r B S h => by
  unfold retU
  split
  · exact RI_go h
  · exact h.up (by omega)) (by omega) h
theorem RI_clr {lo hi B : Int} {S : RS} (hl : hi + 1 - lo ≤ 100) (h : RI B S) : RI (B + 100) (clrS lo hi S) := RI_it100 (fun r B S h => RI_go h) hl h
theorem RI_drp {lo hi t B : Int} {S : RS} (hl : hi + 1 - lo ≤ 100) (h : RI B S) : RI (B + 100) (drpS lo hi t S) := by
  unfold drpS
  split
  · exact RI_clr hl h
  · exact (RI_go h).up (by omega)
theorem RI_ck {o : Int} {f : Int → Int} : RI 100 (ckS o f) := (RI_it100 (B := 0) (fun r B S h => by
  unfold ckU
  split
  · exact RI_come h (by omega)
  · exact h.up (by omega)) (by omega) RI_R0).up (by omega)
/-- the class's state as it may be after some calls -/
def CI (B : Int) (σ : CS) : Prop := 0 ≤ B ∧ (∀ i, zbk σ i < zn σ) ∧ (∀ i, zsh σ i < zn σ) ∧ (∀ i, zvw σ i < zn σ) ∧ (∀ i, zwk σ = some i → i < zn σ) ∧ (∀ i, 0 ≤ zvl σ i ∧ zvl σ i ≤ 100 ∧ -1 ≤ zvh σ i ∧ zvh σ i ≤ 99) ∧ (-1 ≤ zwl σ ∧ zwl σ ≤ 99) ∧ (0 ≤ zwt σ ∧ zwt σ ≤ 1) ∧ (∀ i j, 0 ≤ i → i < 4 → 0 ≤ j → j < 4 → zbk σ i = zbk σ j → i = j) ∧ (∀ i j, 0 ≤ i → i < 3 → 0 ≤ j → j < 3 → zsh σ i = zsh σ j → i = j) ∧ (∀ i, i < zn σ → RI B (zst σ i)) ∧ (-1 ≤ zwc σ ∧ zwc σ ≤ B)
theorem CI.cw {B : Int} {σ : CS} (h : CI B σ) (hB : B ≤ 100000) : CW σ := by
  obtain ⟨h0, h1, h2, h3, h4, h5, h6, h7, h8, h9, h10, h11⟩ := h
  refine ⟨h1, h2, h3, h4, h5, h6, h7, h8, h9, fun i hi => ?_, h11.1, by omega⟩
  obtain ⟨a, b, c⟩ := h10 i hi
  have := cnt_bd (zst σ i).2.2 100 0 99 (by decide)
  exact ⟨⟨by omega, by omega⟩, b, by omega⟩
theorem CI.up {B B' : Int} {σ : CS} (h : CI B σ) (hB : B ≤ B') : CI B' σ := by
  obtain ⟨h0, h1, h2, h3, h4, h5, h6, h7, h8, h9, h10, h11⟩ := h
  exact ⟨by omega, h1, h2, h3, h4, h5, h6, h7, h8, h9, fun i hi => (h10 i hi).up hB, h11.1, by omega⟩
theorem CI_sSt {B : Int} {σ : CS} {i : Nat} {S : RS} (h : CI B σ) (hS : RI B S) : CI B (sSt σ i S) := by
  obtain ⟨h0, h1, h2, h3, h4, h5, h6, h7, h8, h9, h10, h11⟩ := h
  refine ⟨h0, h1, h2, h3, h4, h5, h6, h7, h8, h9, fun j hj => ?_, h11⟩
  show RI B (va_up (zst σ) i S j)
  by_cases e : j = i
  · rw [e, va_up_self]
    exact hS
  · rw [va_up_ne _ _ e]
    exact h10 j hj
theorem CI_nw {B : Int} {σ : CS} {o : Int} {S : RS} (h : CI B σ) (hS : RI B S) : CI B (sNw σ o S) := by
  obtain ⟨h0, h1, h2, h3, h4, h5, h6, h7, h8, h9, h10, h11⟩ := h
  have up : ∀ {i : Nat}, i < zn σ → i < zn σ + 1 := fun h => Nat.lt_succ_of_lt h
  refine ⟨h0, fun i => up (h1 i), fun i => up (h2 i), fun i => up (h3 i), fun i e => up (h4 i e), h5, h6, h7, h8, h9, fun j hj => ?_, h11⟩
  show RI B (va_up (zst σ) (zn σ) S j)
  by_cases e : j = zn σ
  · rw [e, va_up_self]
    exact hS
  · rw [va_up_ne _ _ e]
    exact h10 j (by have : j < zn σ + 1 := hj; omega)
theorem iu_inj {g : Int → Nat} {b : Int} {n : Nat} {N : Int} (hi : ∀ i j : Int, 0 ≤ i → i < N → 0 ≤ j → j < N → g i = g j → i = j) (hn : ∀ i, g i ≠ n) : ∀ i j : Int, 0 ≤ i → i < N → 0 ≤ j → j < N → iu g b n i = iu g b n j → i = j := by
  intro i j a1 a2 a3 a4 e
  unfold iu at e
  split at e <;> split at e
  · omega
  · exact absurd e.symm (hn j)
  · exact absurd e (hn i)
  · exact hi i j a1 a2 a3 a4 e
theorem iu_lt {g : Int → Nat} {b : Int} {n N : Nat} (h : ∀ i, g i < N) (hn : n < N) : ∀ i, iu g b n i < N := by
  intro i
  unfold iu
  split
  · exact hn
  · exact h i
/-- a new row takes a place of the books -/
theorem CI_nb {B : Int} {σ : CS} {o b : Int} {S : RS} (h : CI B σ) (hS : RI B S) : CI B (sBk (sNw σ o S) b (zn σ)) := by
  have hb : ∀ i, zbk σ i ≠ zn σ := fun i => Nat.ne_of_lt (h.2.1 i)
  have hj := h.2.2.2.2.2.2.2.2.1
  obtain ⟨h0, h1, h2, h3, h4, h5, h6, h7, h8, h9, h10, h11⟩ := CI_nw (o := o) h hS
  exact ⟨h0, iu_lt h1 (Nat.lt_succ_self _), h2, h3, h4, h5, h6, h7, iu_inj hj hb, h9, h10, h11⟩
theorem CI_ns {B : Int} {σ : CS} {o b : Int} {S : RS} (h : CI B σ) (hS : RI B S) : CI B (sSh (sNw σ o S) b (zn σ)) := by
  have hb : ∀ i, zsh σ i ≠ zn σ := fun i => Nat.ne_of_lt (h.2.2.1 i)
  have hj := h.2.2.2.2.2.2.2.2.2.1
  obtain ⟨h0, h1, h2, h3, h4, h5, h6, h7, h8, h9, h10, h11⟩ := CI_nw (o := o) h hS
  exact ⟨h0, h1, iu_lt h2 (Nat.lt_succ_self _), h3, h4, h5, h6, h7, h8, iu_inj hj hb, h10, h11⟩
theorem CI_vw {B : Int} {σ : CS} {v lo hi : Int} {i : Nat} (h : CI B σ) (hi9 : i < zn σ) (hl : 0 ≤ lo ∧ lo ≤ 100) (hh : -1 ≤ hi ∧ hi ≤ 99) : CI B (sVw σ v i lo hi) := by
  obtain ⟨h0, h1, h2, h3, h4, h5, h6, h7, h8, h9, h10, h11⟩ := h
  refine ⟨h0, h1, h2, iu_lt h3 hi9, h4, fun j => ?_, h6, h7, h8, h9, h10, h11⟩
  show 0 ≤ iu (zvl σ) v lo j ∧ iu (zvl σ) v lo j ≤ 100 ∧ -1 ≤ iu (zvh σ) v hi j ∧ iu (zvh σ) v hi j ≤ 99
  unfold iu
  split
  · omega
  · exact h5 j
theorem CI_wk {B : Int} {σ : CS} {w : Option Nat} {c l t : Int} (h : CI B σ) (hw : ∀ i, w = some i → i < zn σ) (hc : -1 ≤ c ∧ c ≤ B) (hl : -1 ≤ l ∧ l ≤ 99) (ht : 0 ≤ t ∧ t ≤ 1) : CI B (sWk σ w c l t) := by
  obtain ⟨h0, h1, h2, h3, h4, h5, h6, h7, h8, h9, h10, h11⟩ := h
  exact ⟨h0, h1, h2, h3, hw, h5, hl, ht, h8, h9, h10, hc⟩
theorem CI_wrt {B : Int} {σ : CS} {i : Nat} (h : CI B σ) : CI B (wrt σ i) := by
  obtain ⟨h0, h1, h2, h3, h4, h5, h6, h7, h8, h9, h10, h11⟩ := h
  refine ⟨h0, h1, h2, h3, h4, h5, h6, ?_, h8, h9, h10, h11⟩
  show 0 ≤ (if zwk σ = some i then 0 else zwt σ) ∧ (if zwk σ = some i then 0 else zwt σ) ≤ 1
  split
  · omega
  · exact h7
theorem CI_i0 {B : Int} {σ : CS} (h : CI B σ) : CI B (inc0 σ) := h
theorem CI_i1 {B : Int} {σ : CS} (h : CI B σ) : CI B (inc1 σ) := h
theorem CI_i2 {B : Int} {σ : CS} (h : CI B σ) : CI B (inc2 σ) := h
theorem CI_i3 {B : Int} {σ : CS} (h : CI B σ) : CI B (inc3 σ) := h
theorem CI_kor {B : Int} {σ : CS} {n : Int} (h : CI B σ) : CI B (kor σ n) := by
  unfold kor
  split
  · exact h
  · exact h
