-- what every call keeps of the reference's state
section MWS
variable {μ : MS}
theorem MW_ob {w : Option Nat} {b t h k : Int} (hm : MW μ) (hw : ∀ i, w = some i → i < vn μ) (hb : 0 ≤ b ∧ b ≤ 1) (ht : -1 ≤ t ∧ t ≤ 99) (hh : 0 ≤ h ∧ h ≤ 100) (h2 : t ≠ -1 → w ≠ none) : MW (tOb μ w b t h k) := by
  obtain ⟨h1, h3, h4, h5, h6, h7, h8, h9, h10, h11, h12⟩ := hm
  exact ⟨h1, h3, h4, hw, h6, hb, ht, hh, h2, h11, h12⟩
theorem MW_th {k : Int} (hm : MW μ) : MW (tTh μ k) := hm
theorem MW_ob0 {k : Int} (hm : MW μ) : MW (tOb μ (vwk μ) (vbr μ) (vtd μ) (vbh μ) k) := hm
theorem MW_di {k : Int} (hm : MW μ) : MW (tDi μ k) := hm
theorem MW_rw {i : Nat} {g : Int → Int} (hm : MW μ) : MW (tRw μ i g) := hm
theorem MW_wr {i : Nat} (hm : MW μ) : MW (tWr μ i) := by
  have hm2 := hm
  obtain ⟨h1, h3, h4, h5, h6, h7, h8, h9, h10, h11, h12⟩ := hm
  unfold tWr
  refine MW_ob hm2 h5 h7 ?_ h9 ?_
  · split
    · omega
    · exact h8
  · split
    · intro z
      exact absurd rfl z
    · exact h10
theorem MW_se {i : Nat} {r w : Int} (hm : MW μ) : MW (tSe μ i r w) := by
  have hm2 := hm
  obtain ⟨h1, h3, h4, h5, h6, h7, h8, h9, h10, h11, h12⟩ := hm
  unfold tSe
  refine MW_ob (μ := tRw μ i (iu (vst μ i) r w)) hm2 h5 ?_ h8 h9 h10
  split
  · omega
  · exact h7
def BX (x : SX) : Prop := 0 ≤ x.2.1 ∧ x.2.1 ≤ 1
theorem BX_s {k : Option Nat} {i : Nat} {r w : Int} {x : SX} (h : BX x) : BX (sX k i r w x) := by
  show 0 ≤ seB k i x.1 r w x.2.1 ∧ seB k i x.1 r w x.2.1 ≤ 1
  unfold seB
  split
  · omega
  · exact h
theorem BX_it {u : Int → SX → SX} (hu : ∀ (r : Int) (x : SX), BX x → BX (u r x)) : ∀ (k : Nat) (lo hi : Int) (x : SX), (hi + 1 - lo).toNat = k → BX x → BX (itrP u lo hi x) := by
  intro k
  induction k with
  | zero =>
    intro lo hi x hk h
    rw [itrP_e (by omega)]
    exact h
  | succ k ih =>
    intro lo hi x hk h
    rw [itrP_s (by omega)]
    exact ih (lo + 1) hi _ (by omega) (hu lo x h)
theorem MW_tX {i : Nat} {x : SX} (hm : MW μ) (hx : BX x) : MW (tX μ i x) := by
  have hm2 := hm
  obtain ⟨h1, h3, h4, h5, h6, h7, h8, h9, h10, h11, h12⟩ := hm
  exact MW_ob (μ := tRw μ i x.1) hm2 h5 hx h8 h9 h10
theorem MW_b (hm : MW μ) : 0 ≤ vbr μ ∧ vbr μ ≤ 1 := hm.2.2.2.2.2.1
theorem BX_cl {i : Nat} {lo hi : Int} (hm : MW μ) : BX (clX μ i lo hi) := BX_it (fun r x h => BX_s h) _ _ _ _ rfl (MW_b hm)
theorem BX_fi {i : Nat} {f s n w : Int} (hm : MW μ) : BX (fiX μ i f s n w) := BX_it (fun r x h => by
  unfold fiU
  split <;> exact BX_s h) _ _ _ _ rfl (MW_b hm)
theorem BX_la {i : Nat} {f s n z : Int} (hm : MW μ) : BX (laX μ i f s n z) := BX_it (fun r x h => by
  unfold laU
  split <;> exact BX_s h) _ _ _ _ rfl (MW_b hm)
theorem BX_pa {i j : Nat} (hm : MW μ) : BX (paX μ i j) := BX_it (fun r x h => by
  unfold paU
  split
  · exact BX_s h
  · exact h) _ _ _ _ rfl (MW_b hm)
theorem BX_ke {i j : Nat} {z : Int} (hm : MW μ) : BX (keX μ i j z) := BX_it (fun r x h => by
  unfold keU
  split
  · exact BX_s h
  · exact h) _ _ _ _ rfl (MW_b hm)
theorem BX_sb {i j : Nat} {t : Int} (hm : MW μ) : BX (sbX μ i j t) := BX_it (fun r x h => by
  unfold sbU
  (repeat' split) <;> first | exact BX_s h | exact h) _ _ _ _ rfl (MW_b hm)
theorem BX_ko {a : Int} (hm : MW μ) : BX (koX μ a) := BX_it (fun r x h => by
  unfold koU
  split <;> exact BX_s h) _ _ _ _ rfl (MW_b hm)
theorem MW_cg {i : Nat} {r z w : Int} (hm : MW μ) : MW (cgS μ i r z w) := by
  unfold cgS
  refine MW_di ?_
  split
  · exact MW_wr hm
  · exact MW_se (MW_wr hm)
theorem MW_dp {i : Nat} {t lo hi : Int} (hm : MW μ) : MW (dpS μ i t lo hi) := by
  unfold dpS
  split
  · exact MW_tX (MW_wr hm) (BX_cl hm)
  · split
    · exact MW_wr hm
    · exact MW_se (MW_wr hm)
theorem MW_nw {o : Int} {g : Int → Int} (hm : MW μ) : MW (tNw μ o g) := by
  obtain ⟨h1, h3, h4, h5, h6, h7, h8, h9, h10, h11, h12⟩ := hm
  have up : ∀ {i : Nat}, i < vn μ → i < vn μ + 1 := fun h => Nat.lt_succ_of_lt h
  exact ⟨fun i => up (h1 i), fun i => up (h3 i), fun i => up (h4 i), fun i e => up (h5 i e), h6, h7, h8, h9, h10, h11, h12⟩
theorem MW_nb {o b : Int} {g : Int → Int} (hm : MW μ) : MW (tBk (tNw μ o g) b (vn μ)) := by
  have hb : ∀ i, vbk μ i ≠ vn μ := fun i => Nat.ne_of_lt (hm.1 i)
  have hj := hm.2.2.2.2.2.2.2.2.2.1
  obtain ⟨h1, h3, h4, h5, h6, h7, h8, h9, h10, h11, h12⟩ := MW_nw (o := o) (g := g) hm
  exact ⟨iu_lt h1 (Nat.lt_succ_self _), h3, h4, h5, h6, h7, h8, h9, h10, iu_inj hj hb, h12⟩
theorem MW_ns {o b : Int} {g : Int → Int} (hm : MW μ) : MW (tSh (tNw μ o g) b (vn μ)) := by
  have hb : ∀ i, vsh μ i ≠ vn μ := fun i => Nat.ne_of_lt (hm.2.1 i)
  have hj := hm.2.2.2.2.2.2.2.2.2.2
  obtain ⟨h1, h3, h4, h5, h6, h7, h8, h9, h10, h11, h12⟩ := MW_nw (o := o) (g := g) hm
  exact ⟨h1, iu_lt h3 (Nat.lt_succ_self _), h4, h5, h6, h7, h8, h9, h10, h11, iu_inj hj hb⟩
theorem MW_vw {v : Int} {i : Nat} (hm : MW μ) (hi : i < vn μ) : MW (tVw μ v i) := by
  obtain ⟨h1, h3, h4, h5, h6, h7, h8, h9, h10, h11, h12⟩ := hm
  exact ⟨h1, h3, iu_lt h4 hi, h5, h6, h7, h8, h9, h10, h11, h12⟩
theorem MW_vl {v x : Int} (hm : MW μ) (hx : 0 ≤ x ∧ x ≤ 100) : MW (tVl μ v x) := by
  obtain ⟨h1, h3, h4, h5, h6, h7, h8, h9, h10, h11, h12⟩ := hm
  refine ⟨h1, h3, h4, h5, fun i => ?_, h7, h8, h9, h10, h11, h12⟩
  show 0 ≤ iu (vvl μ) v x i ∧ iu (vvl μ) v x i ≤ 100 ∧ -1 ≤ vvh μ i ∧ vvh μ i ≤ 99
  have := h6 i
  unfold iu
  split <;> omega
theorem MW_vh {v x : Int} (hm : MW μ) (hx : -1 ≤ x ∧ x ≤ 99) : MW (tVh μ v x) := by
  obtain ⟨h1, h3, h4, h5, h6, h7, h8, h9, h10, h11, h12⟩ := hm
  refine ⟨h1, h3, h4, h5, fun i => ?_, h7, h8, h9, h10, h11, h12⟩
  show 0 ≤ vvl μ i ∧ vvl μ i ≤ 100 ∧ -1 ≤ iu (vvh μ) v x i ∧ iu (vvh μ) v x i ≤ 99
  have := h6 i
  unfold iu
  split <;> omega
theorem v3_dp {i : Nat} {t lo hi : Int} : vct (dpS μ i t lo hi) 3 = vct μ 3 := by
  unfold dpS
  split
  · rfl
  · split <;> rfl
theorem v3_dd {i : Nat} {t lo hi k : Int} (h : (3 : Int) ≠ k) : vct (tDi (dpS μ i t lo hi) k) 3 = vct μ 3 := (iu_n (f := vct (dpS μ i t lo hi)) h).trans v3_dp
theorem v3_di {ν : MS} {k : Int} (h : (3 : Int) ≠ k) (e : vct ν = vct μ) : vct (tDi ν k) 3 = vct μ 3 := by
  show iu (vct ν) k (vct ν k + 1) 3 = vct μ 3
  rw [iu_n h, e]
theorem MW_ite {c : Prop} [Decidable c] {a b : MS} (ha : MW a) (hb : MW b) : MW (if c then a else b) := by
  by_cases h : c
  · rw [if_pos h]; exact ha
  · rw [if_neg h]; exact hb
theorem v3_ite {c : Prop} [Decidable c] {a b : MS} {v : Int} (ha : vct a 3 = v) (hb : vct b 3 = v) : vct (if c then a else b) 3 = v := by
  by_cases h : c
  · rw [if_pos h]; exact ha
  · rw [if_neg h]; exact hb
theorem v3_cg {i : Nat} {r z w : Int} : vct (cgS (tTh μ 0) i r z w) 3 = vct μ 3 := by
  unfold cgS
  by_cases hz : z = 0
  · rw [if_pos hz]
    exact v3_di (by decide) rfl
  · rw [if_neg hz]
    exact v3_di (by decide) rfl
end MWS
set_option maxHeartbeats 40000 in
theorem MW_freshBook {μ : MS} {xb xo : Int} (hm : MW μ) : MW (jS_freshBook μ xb xo) := by
  unfold jS_freshBook
  split
  · split
    · exact MW_di (MW_nb (μ := tTh μ 0) hm)
    · exact MW_th hm
  · exact MW_th hm
set_option maxHeartbeats 40000 in
theorem v3_freshBook {μ : MS} {xb xo : Int} : vct (jS_freshBook μ xb xo) 3 = vct μ 3 := by
  unfold jS_freshBook
  split
  · split
    · exact v3_di (by decide) rfl
    · rfl
  · rfl
set_option maxHeartbeats 40000 in
theorem MW_buildBook {μ : MS} {xb xa xw : Int} (hm : MW μ) : MW (jS_buildBook μ xb xa xw) := by
  unfold jS_buildBook
  split
  · split
    · exact MW_di (MW_nb (μ := tTh μ 0) hm)
    · exact MW_th hm
  · exact MW_th hm
set_option maxHeartbeats 40000 in
theorem v3_buildBook {μ : MS} {xb xa xw : Int} : vct (jS_buildBook μ xb xa xw) 3 = vct μ 3 := by
  unfold jS_buildBook
  split
  · split
    · exact v3_di (by decide) rfl
    · rfl
  · rfl
set_option maxHeartbeats 40000 in
theorem MW_splitBook {μ : MS} {xb xk xc : Int} (hm : MW μ) : MW (jS_splitBook μ xb xk xc) := by
  unfold jS_splitBook
  split
  · split
    · split
      · exact MW_di (MW_th hm)
      · exact MW_di (MW_tX (μ := tWr (tBk (tNw (tTh μ 0) _ _) _ (vn μ)) _) (MW_wr (MW_nb (μ := tTh μ 0) hm)) (BX_cl hm))
    · exact MW_th hm
  · exact MW_th hm
set_option maxHeartbeats 40000 in
theorem v3_splitBook {μ : MS} {xb xk xc : Int} : vct (jS_splitBook μ xb xk xc) 3 = vct μ 3 := by
  unfold jS_splitBook
  split
  · split
    · split
      · exact v3_di (by decide) rfl
      · exact v3_di (by decide) rfl
    · rfl
  · rfl
set_option maxHeartbeats 40000 in
theorem MW_fill {μ : MS} {xb xf xs xn xw : Int} (hm : MW μ) : MW (jS_fill μ xb xf xs xn xw) := by
  unfold jS_fill
  split
  · split
    · exact MW_di (MW_tX (μ := tWr (tTh μ 0) _) (MW_wr hm) (BX_fi hm))
    · exact MW_th hm
  · exact MW_th hm
set_option maxHeartbeats 40000 in
theorem v3_fill {μ : MS} {xb xf xs xn xw : Int} : vct (jS_fill μ xb xf xs xn xw) 3 = vct μ 3 := by
  unfold jS_fill
  split
  · split
    · exact v3_di (by decide) rfl
    · rfl
  · rfl
set_option maxHeartbeats 40000 in
theorem MW_pour {μ : MS} {xb xc : Int} (hm : MW μ) : MW (jS_pour μ xb xc) := by
  unfold jS_pour
  split
  · split
    · exact MW_di (MW_th hm)
    · exact MW_di (MW_tX (μ := tWr (tTh μ 0) _) (MW_wr hm) (BX_pa hm))
  · exact MW_th hm
set_option maxHeartbeats 40000 in
theorem v3_pour {μ : MS} {xb xc : Int} : vct (jS_pour μ xb xc) 3 = vct μ 3 := by
  unfold jS_pour
  split
  · split
    · exact v3_di (by decide) rfl
    · exact v3_di (by decide) rfl
  · rfl
set_option maxHeartbeats 40000 in
theorem MW_keep {μ : MS} {xb xc xw : Int} (hm : MW μ) : MW (jS_keep μ xb xc xw) := by
  unfold jS_keep
  split
  · split
    · exact MW_di (MW_th hm)
    · exact MW_di (MW_tX (μ := tWr (tTh μ 0) _) (MW_wr hm) (BX_ke hm))
  · exact MW_th hm
set_option maxHeartbeats 40000 in
theorem v3_keep {μ : MS} {xb xc xw : Int} : vct (jS_keep μ xb xc xw) 3 = vct μ 3 := by
  unfold jS_keep
  split
  · split
    · exact v3_di (by decide) rfl
    · exact v3_di (by decide) rfl
  · rfl
set_option maxHeartbeats 40000 in
theorem MW_put {μ : MS} {xb xk xw xt : Int} (hm : MW μ) : MW (jS_put μ xb xk xw xt) := by
  unfold jS_put
  split
  · split
    · exact MW_cg (MW_th hm)
    · exact MW_th hm
  · exact MW_th hm
set_option maxHeartbeats 40000 in
theorem v3_put {μ : MS} {xb xk xw xt : Int} : vct (jS_put μ xb xk xw xt) 3 = vct μ 3 := by
  unfold jS_put
  split
  · split
    · exact v3_cg
    · rfl
  · rfl
set_option maxHeartbeats 40000 in
theorem MW_exchange {μ : MS} {xb xk xo xw : Int} (hm : MW μ) : MW (jS_exchange μ xb xk xo xw) := by
  unfold jS_exchange
  split
  · split
    · exact MW_cg (MW_th hm)
    · exact MW_th hm
  · exact MW_th hm
set_option maxHeartbeats 40000 in
theorem v3_exchange {μ : MS} {xb xk xo xw : Int} : vct (jS_exchange μ xb xk xo xw) 3 = vct μ 3 := by
  unfold jS_exchange
  split
  · split
    · exact v3_cg
    · rfl
  · rfl
set_option maxHeartbeats 40000 in
theorem MW_take {μ : MS} {xb xk : Int} (hm : MW μ) : MW (jS_take μ xb xk) := by
  unfold jS_take
  split
  · split
    · exact MW_cg (MW_th hm)
    · exact MW_th hm
  · exact MW_th hm
set_option maxHeartbeats 40000 in
theorem v3_take {μ : MS} {xb xk : Int} : vct (jS_take μ xb xk) 3 = vct μ 3 := by
  unfold jS_take
  split
  · split
    · exact v3_cg
    · rfl
  · rfl
set_option maxHeartbeats 40000 in
theorem MW_drop {μ : MS} {xb xt : Int} (hm : MW μ) : MW (jS_drop μ xb xt) := by
  unfold jS_drop
  split
  · split
    · exact MW_di (MW_dp (μ := tTh μ 0) hm)
    · exact MW_th hm
  · exact MW_th hm
set_option maxHeartbeats 40000 in
theorem v3_drop {μ : MS} {xb xt : Int} : vct (jS_drop μ xb xt) 3 = vct μ 3 := by
  unfold jS_drop
  split
  · split
    · exact v3_dd (μ := tTh μ 0) (by decide)
    · rfl
  · rfl
set_option maxHeartbeats 40000 in
theorem MW_has {μ : MS} {xb xw xn : Int} (hm : MW μ) : MW (jS_has μ xb xw xn) := by
  unfold jS_has
  split
  · split
    · exact MW_th hm
    · exact MW_th hm
  · exact MW_th hm
set_option maxHeartbeats 40000 in
theorem v3_has {μ : MS} {xb xw xn : Int} : vct (jS_has μ xb xw xn) 3 = vct μ 3 := by
  unfold jS_has
  split
  · split
    · rfl
    · rfl
  · rfl
set_option maxHeartbeats 40000 in
theorem MW_near {μ : MS} {xb xk xt xw : Int} (hm : MW μ) : MW (jS_near μ xb xk xt xw) := by
  unfold jS_near
  split
  · split
    · exact MW_th hm
    · exact MW_th hm
  · exact MW_th hm
set_option maxHeartbeats 40000 in
theorem v3_near {μ : MS} {xb xk xt xw : Int} : vct (jS_near μ xb xk xt xw) 3 = vct μ 3 := by
  unfold jS_near
  split
  · split
    · rfl
    · rfl
  · rfl
set_option maxHeartbeats 40000 in
theorem MW_end {μ : MS} {xb xw xv : Int} (hm : MW μ) : MW (jS_end μ xb xw xv) := by
  unfold jS_end
  split
  · split
    · exact MW_di (MW_th hm)
    · exact MW_th hm
  · exact MW_th hm
set_option maxHeartbeats 40000 in
theorem v3_end {μ : MS} {xb xw xv : Int} : vct (jS_end μ xb xw xv) 3 = vct μ 3 := by
  unfold jS_end
  split
  · split
    · exact v3_di (by decide) rfl
    · rfl
  · rfl
set_option maxHeartbeats 40000 in
theorem MW_keyAt {μ : MS} {xb xn xw : Int} (hm : MW μ) : MW (jS_keyAt μ xb xn xw) := by
  unfold jS_keyAt
  split
  · split
    · exact MW_th hm
    · exact MW_th hm
  · exact MW_th hm
set_option maxHeartbeats 40000 in
theorem v3_keyAt {μ : MS} {xb xn xw : Int} : vct (jS_keyAt μ xb xn xw) 3 = vct μ 3 := by
  unfold jS_keyAt
  split
  · split
    · rfl
    · rfl
  · rfl
set_option maxHeartbeats 40000 in
theorem MW_tellBook {μ : MS} {xb xt : Int} (hm : MW μ) : MW (jS_tellBook μ xb xt) := by
  unfold jS_tellBook
  split
  · split
    · exact MW_th hm
    · exact MW_th hm
  · exact MW_th hm
set_option maxHeartbeats 40000 in
theorem v3_tellBook {μ : MS} {xb xt : Int} : vct (jS_tellBook μ xb xt) 3 = vct μ 3 := by
  unfold jS_tellBook
  split
  · split
    · rfl
    · rfl
  · rfl
set_option maxHeartbeats 40000 in
theorem MW_sameBooks {μ : MS} {xb xc : Int} (hm : MW μ) : MW (jS_sameBooks μ xb xc) := by
  unfold jS_sameBooks
  split
  · exact MW_th hm
  · exact MW_th hm
set_option maxHeartbeats 40000 in
theorem v3_sameBooks {μ : MS} {xb xc : Int} : vct (jS_sameBooks μ xb xc) 3 = vct μ 3 := by
  unfold jS_sameBooks
  split
  · rfl
  · rfl
set_option maxHeartbeats 40000 in
theorem MW_openView {μ : MS} {xv xb xkind xlow xhigh xends : Int} (hm : MW μ) : MW (jS_openView μ xv xb xkind xlow xhigh xends) := by
  unfold jS_openView
  split
  · split
    · split
      · exact MW_di (MW_th hm)
      · (have t1 := turn_b (o := vod μ (vbk μ xb)) (n := xlow) (by omega); have t2 := turn_b (o := vod μ (vbk μ xb)) (n := xhigh) (by omega); exact MW_vh (MW_vl (MW_vw (μ := tTh μ 0) hm (hm.1 _)) (by unfold moLo; (repeat' split) <;> omega)) (by unfold moHi; (repeat' split) <;> omega))
    · exact MW_th hm
  · exact MW_th hm
set_option maxHeartbeats 40000 in
theorem v3_openView {μ : MS} {xv xb xkind xlow xhigh xends : Int} : vct (jS_openView μ xv xb xkind xlow xhigh xends) 3 = vct μ 3 := by
  unfold jS_openView
  split
  · split
    · split
      · exact v3_di (by decide) rfl
      · rfl
    · rfl
  · rfl
set_option maxHeartbeats 40000 in
theorem MW_narrowView {μ : MS} {xv xkind xlow xhigh : Int} (hm : MW μ) : MW (jS_narrowView μ xv xkind xlow xhigh) := by
  unfold jS_narrowView
  split
  · split
    · split
      · exact MW_di (MW_th hm)
      · split
        · (have t1 := turn_b (o := vod μ (vvw μ xv)) (n := xlow) (by omega); have t2 := turn_b (o := vod μ (vvw μ xv)) (n := xhigh) (by omega); have t3 := hm.2.2.2.2.1 xv; exact MW_vh (μ := tTh μ 0) hm (by unfold mnHi; (repeat' split) <;> omega))
        · split
          · (have t1 := turn_b (o := vod μ (vvw μ xv)) (n := xlow) (by omega); have t2 := turn_b (o := vod μ (vvw μ xv)) (n := xhigh) (by omega); have t3 := hm.2.2.2.2.1 xv; exact MW_vl (μ := tTh μ 0) hm (by unfold mnLo; (repeat' split) <;> omega))
          · (have t1 := turn_b (o := vod μ (vvw μ xv)) (n := xlow) (by omega); have t2 := turn_b (o := vod μ (vvw μ xv)) (n := xhigh) (by omega); have t3 := hm.2.2.2.2.1 xv; exact MW_vh (MW_vl (μ := tTh μ 0) hm (by unfold mnLo; (repeat' split) <;> omega)) (by unfold mnHi; (repeat' split) <;> omega))
    · exact MW_th hm
  · exact MW_th hm
set_option maxHeartbeats 40000 in
theorem v3_narrowView {μ : MS} {xv xkind xlow xhigh : Int} : vct (jS_narrowView μ xv xkind xlow xhigh) 3 = vct μ 3 := by
  unfold jS_narrowView
  split
  · split
    · split
      · exact v3_di (by decide) rfl
      · split
        · rfl
        · split
          · rfl
          · rfl
    · rfl
  · rfl
set_option maxHeartbeats 40000 in
theorem MW_buildFromView {μ : MS} {xb xv xw : Int} (hm : MW μ) : MW (jS_buildFromView μ xb xv xw) := by
  unfold jS_buildFromView
  split
  · split
    · exact MW_di (MW_nb (μ := tTh μ 0) hm)
    · exact MW_th hm
  · exact MW_th hm
set_option maxHeartbeats 40000 in
theorem v3_buildFromView {μ : MS} {xb xv xw : Int} : vct (jS_buildFromView μ xb xv xw) 3 = vct μ 3 := by
  unfold jS_buildFromView
  split
  · split
    · exact v3_di (by decide) rfl
    · rfl
  · rfl
set_option maxHeartbeats 40000 in
theorem MW_viewPut {μ : MS} {xv xk xw : Int} (hm : MW μ) : MW (jS_viewPut μ xv xk xw) := by
  unfold jS_viewPut
  split
  · split
    · split
      · exact MW_cg (MW_th hm)
      · exact MW_di (MW_th hm)
    · exact MW_th hm
  · exact MW_th hm
set_option maxHeartbeats 40000 in
theorem v3_viewPut {μ : MS} {xv xk xw : Int} : vct (jS_viewPut μ xv xk xw) 3 = vct μ 3 := by
  unfold jS_viewPut
  split
  · split
    · split
      · exact v3_cg
      · exact v3_di (by decide) rfl
    · rfl
  · rfl
set_option maxHeartbeats 40000 in
theorem MW_viewTake {μ : MS} {xv xk : Int} (hm : MW μ) : MW (jS_viewTake μ xv xk) := by
  unfold jS_viewTake
  split
  · split
    · exact MW_cg (MW_th hm)
    · exact MW_th hm
  · exact MW_th hm
set_option maxHeartbeats 40000 in
theorem v3_viewTake {μ : MS} {xv xk : Int} : vct (jS_viewTake μ xv xk) 3 = vct μ 3 := by
  unfold jS_viewTake
  split
  · split
    · exact v3_cg
    · rfl
  · rfl
set_option maxHeartbeats 40000 in
theorem MW_viewDrop {μ : MS} {xv xt : Int} (hm : MW μ) : MW (jS_viewDrop μ xv xt) := by
  unfold jS_viewDrop
  split
  · split
    · exact MW_di (MW_dp (μ := tTh μ 0) hm)
    · exact MW_th hm
  · exact MW_th hm
set_option maxHeartbeats 40000 in
theorem v3_viewDrop {μ : MS} {xv xt : Int} : vct (jS_viewDrop μ xv xt) 3 = vct μ 3 := by
  unfold jS_viewDrop
  split
  · split
    · exact v3_dd (μ := tTh μ 0) (by decide)
    · rfl
  · rfl
set_option maxHeartbeats 40000 in
theorem MW_viewNear {μ : MS} {xv xk xt : Int} (hm : MW μ) : MW (jS_viewNear μ xv xk xt) := by
  unfold jS_viewNear
  split
  · split
    · exact MW_th hm
    · exact MW_th hm
  · exact MW_th hm
set_option maxHeartbeats 40000 in
theorem v3_viewNear {μ : MS} {xv xk xt : Int} : vct (jS_viewNear μ xv xk xt) 3 = vct μ 3 := by
  unfold jS_viewNear
  split
  · split
    · rfl
    · rfl
  · rfl
set_option maxHeartbeats 40000 in
theorem MW_viewTell {μ : MS} {xv xt : Int} (hm : MW μ) : MW (jS_viewTell μ xv xt) := by
  unfold jS_viewTell
  split
  · split
    · exact MW_ite (MW_di (MW_th hm)) (MW_th hm)
    · exact MW_th hm
  · exact MW_th hm
set_option maxHeartbeats 40000 in
theorem v3_viewTell {μ : MS} {xv xt : Int} : vct (jS_viewTell μ xv xt) 3 = vct μ 3 := by
  unfold jS_viewTell
  split
  · split
    · exact v3_ite (v3_di (by decide) rfl) rfl
    · rfl
  · rfl
set_option maxHeartbeats 40000 in
theorem MW_startWalk {μ : MS} {xb : Int} (hm : MW μ) : MW (jS_startWalk μ xb) := by
  unfold jS_startWalk
  split
  · exact MW_ob hm (fun i e => by cases e; exact hm.1 _) (by omega) (by omega) (by omega) (fun z => absurd rfl z)
  · exact MW_th hm
set_option maxHeartbeats 40000 in
theorem v3_startWalk {μ : MS} {xb : Int} : vct (jS_startWalk μ xb) 3 = vct μ 3 := by
  unfold jS_startWalk
  split
  · rfl
  · rfl
set_option maxHeartbeats 40000 in
theorem MW_freshShelf {μ : MS} {xb xo : Int} (hm : MW μ) : MW (jS_freshShelf μ xb xo) := by
  unfold jS_freshShelf
  split
  · split
    · exact MW_di (MW_ns (μ := tTh μ 0) hm)
    · exact MW_th hm
  · exact MW_th hm
set_option maxHeartbeats 40000 in
theorem v3_freshShelf {μ : MS} {xb xo : Int} : vct (jS_freshShelf μ xb xo) 3 = vct μ 3 := by
  unfold jS_freshShelf
  split
  · split
    · exact v3_di (by decide) rfl
    · rfl
  · rfl
set_option maxHeartbeats 40000 in
theorem MW_buildShelf {μ : MS} {xb xa xw : Int} (hm : MW μ) : MW (jS_buildShelf μ xb xa xw) := by
  unfold jS_buildShelf
  split
  · split
    · exact MW_di (MW_ns (μ := tTh μ 0) hm)
    · exact MW_th hm
  · exact MW_th hm
set_option maxHeartbeats 40000 in
theorem v3_buildShelf {μ : MS} {xb xa xw : Int} : vct (jS_buildShelf μ xb xa xw) 3 = vct μ 3 := by
  unfold jS_buildShelf
  split
  · split
    · exact v3_di (by decide) rfl
    · rfl
  · rfl
set_option maxHeartbeats 40000 in
theorem MW_keysOf {μ : MS} {xb xa : Int} (hm : MW μ) : MW (jS_keysOf μ xb xa) := by
  unfold jS_keysOf
  split
  · exact MW_di (MW_tX (μ := tSh (tNw (tTh μ 0) 0 emp) _ (vn μ)) (MW_ns (μ := tTh μ 0) hm) (BX_ko hm))
  · exact MW_th hm
set_option maxHeartbeats 40000 in
theorem v3_keysOf {μ : MS} {xb xa : Int} : vct (jS_keysOf μ xb xa) 3 = vct μ 3 := by
  unfold jS_keysOf
  split
  · exact v3_di (by decide) rfl
  · rfl
set_option maxHeartbeats 40000 in
theorem MW_lay {μ : MS} {xb xf xs xn xw : Int} (hm : MW μ) : MW (jS_lay μ xb xf xs xn xw) := by
  unfold jS_lay
  split
  · split
    · exact MW_di (MW_tX (μ := tTh μ 0) hm (BX_la hm))
    · exact MW_th hm
  · exact MW_th hm
set_option maxHeartbeats 40000 in
theorem v3_lay {μ : MS} {xb xf xs xn xw : Int} : vct (jS_lay μ xb xf xs xn xw) 3 = vct μ 3 := by
  unfold jS_lay
  split
  · split
    · exact v3_di (by decide) rfl
    · rfl
  · rfl
set_option maxHeartbeats 40000 in
theorem MW_shelfBoth {μ : MS} {xb xc xt : Int} (hm : MW μ) : MW (jS_shelfBoth μ xb xc xt) := by
  unfold jS_shelfBoth
  split
  · split
    · split
      · exact MW_di (MW_th hm)
      · exact MW_di (MW_tX (μ := tTh μ 0) hm (BX_sb hm))
    · exact MW_th hm
  · exact MW_th hm
set_option maxHeartbeats 40000 in
theorem v3_shelfBoth {μ : MS} {xb xc xt : Int} : vct (jS_shelfBoth μ xb xc xt) 3 = vct μ 3 := by
  unfold jS_shelfBoth
  split
  · split
    · split
      · exact v3_di (by decide) rfl
      · exact v3_di (by decide) rfl
    · rfl
  · rfl
set_option maxHeartbeats 40000 in
theorem MW_shelfDrop {μ : MS} {xb xt : Int} (hm : MW μ) : MW (jS_shelfDrop μ xb xt) := by
  unfold jS_shelfDrop
  split
  · split
    · exact MW_di (MW_dp (μ := tTh μ 0) hm)
    · exact MW_th hm
  · exact MW_th hm
set_option maxHeartbeats 40000 in
theorem v3_shelfDrop {μ : MS} {xb xt : Int} : vct (jS_shelfDrop μ xb xt) 3 = vct μ 3 := by
  unfold jS_shelfDrop
  split
  · split
    · exact v3_dd (μ := tTh μ 0) (by decide)
    · rfl
  · rfl
set_option maxHeartbeats 40000 in
theorem MW_shelfCut {μ : MS} {xb xlow xhigh xt xc : Int} (hm : MW μ) : MW (jS_shelfCut μ xb xlow xhigh xt xc) := by
  unfold jS_shelfCut
  split
  · split
    · split
      · exact MW_di (MW_th hm)
      · split
        · exact MW_th hm
        · split
          · exact MW_di (MW_ns (μ := tTh μ 0) hm)
          · exact MW_di (MW_dp (μ := tTh μ 0) hm)
    · exact MW_th hm
  · exact MW_th hm
set_option maxHeartbeats 40000 in
theorem v3_shelfCut {μ : MS} {xb xlow xhigh xt xc : Int} : vct (jS_shelfCut μ xb xlow xhigh xt xc) 3 = vct μ 3 := by
  unfold jS_shelfCut
  split
  · split
    · split
      · exact v3_di (by decide) rfl
      · split
        · rfl
        · split
          · exact v3_di (by decide) rfl
          · exact v3_dd (μ := tTh μ 0) (by decide)
    · rfl
  · rfl
set_option maxHeartbeats 40000 in
theorem MW_shelfNear {μ : MS} {xb xk xt : Int} (hm : MW μ) : MW (jS_shelfNear μ xb xk xt) := by
  unfold jS_shelfNear
  split
  · split
    · exact MW_th hm
    · exact MW_th hm
  · exact MW_th hm
set_option maxHeartbeats 40000 in
theorem v3_shelfNear {μ : MS} {xb xk xt : Int} : vct (jS_shelfNear μ xb xk xt) 3 = vct μ 3 := by
  unfold jS_shelfNear
  split
  · split
    · rfl
    · rfl
  · rfl
set_option maxHeartbeats 40000 in
theorem MW_shelfTell {μ : MS} {xb xt : Int} (hm : MW μ) : MW (jS_shelfTell μ xb xt) := by
  unfold jS_shelfTell
  split
  · split
    · exact MW_ite (MW_di (MW_th hm)) (MW_th hm)
    · exact MW_th hm
  · exact MW_th hm
set_option maxHeartbeats 40000 in
theorem v3_shelfTell {μ : MS} {xb xt : Int} : vct (jS_shelfTell μ xb xt) 3 = vct μ 3 := by
  unfold jS_shelfTell
  split
  · split
    · exact v3_ite (v3_di (by decide) rfl) rfl
    · rfl
  · rfl
set_option maxHeartbeats 40000 in
theorem MW_sameShelves {μ : MS} {xb xc xt : Int} (hm : MW μ) : MW (jS_sameShelves μ xb xc xt) := by
  unfold jS_sameShelves
  split
  · split
    · exact MW_th hm
    · exact MW_th hm
  · exact MW_th hm
set_option maxHeartbeats 40000 in
theorem v3_sameShelves {μ : MS} {xb xc xt : Int} : vct (jS_sameShelves μ xb xc xt) 3 = vct μ 3 := by
  unfold jS_sameShelves
  split
  · split
    · rfl
    · rfl
  · rfl
set_option maxHeartbeats 40000 in
theorem MW_house {μ : MS} {xt : Int} (hm : MW μ) : MW (jS_house μ xt) := by
  unfold jS_house
  split
  · exact MW_th hm
  · exact MW_th hm
set_option maxHeartbeats 40000 in
theorem v3_house {μ : MS} {xt : Int} : vct (jS_house μ xt) 3 = vct μ 3 := by
  unfold jS_house
  split
  · rfl
  · rfl
set_option maxHeartbeats 40000 in
theorem MW_walkSet {μ : MS} {xw : Int} (hm : MW μ) : MW (cJ_walkSet μ xw) := by
  have hw0 : ∀ {k : Int}, vwk μ = none → MW (tOb μ none (vbr μ) (vtd μ) (vbh μ) k) := fun e => by rw [← e]; exact MW_ob0 hm
  have hw1 : ∀ {k : Int} {j : Nat}, vwk μ = some j → MW (tOb μ (some j) (vbr μ) (vtd μ) (vbh μ) k) := fun e => by rw [← e]; exact MW_ob0 hm
  unfold cJ_walkSet
  cases hw : vwk μ with
  | none =>
    show MW (jS_walkSet0 μ xw)
    unfold jS_walkSet0
    split
    · exact MW_di (hw0 hw)
    · exact hw0 hw
  | some j =>
    show MW (jS_walkSet1 μ j xw)
    unfold jS_walkSet1
    split
    · split
      · exact MW_di (hw1 hw)
      · exact MW_di (MW_rw (hw1 hw))
    · exact hw1 hw
set_option maxHeartbeats 40000 in
theorem v3_walkSet {μ : MS} {xw : Int} : vct (cJ_walkSet μ xw) 3 = vct μ 3 := by
  unfold cJ_walkSet
  split
  · unfold jS_walkSet0
    (repeat' split) <;> first | exact v3_di (by decide) rfl | rfl
  · unfold jS_walkSet1
    (repeat' split) <;> first | exact v3_di (by decide) rfl | rfl
set_option maxHeartbeats 40000 in
theorem MW_bookText {μ : MS} {xb : Int} (hm : MW μ) : MW (jS_bookText μ xb) := by
  unfold jS_bookText
  split
  · exact MW_th hm
  · exact MW_th hm
set_option maxHeartbeats 40000 in
theorem v3_bookText {μ : MS} {xb : Int} : vct (jS_bookText μ xb) 3 = vct μ 3 := by
  unfold jS_bookText
  split
  · rfl
  · rfl
set_option maxHeartbeats 40000 in
theorem MW_walkNext {μ : MS} (hm : MW μ) : MW (cJ_walkNext μ) := by
  have hw0 : ∀ {k : Int}, vwk μ = none → MW (tOb μ none (vbr μ) (vtd μ) (vbh μ) k) := fun e => by rw [← e]; exact MW_ob0 hm
  have hw1 : ∀ {k : Int} {j : Nat}, vwk μ = some j → MW (tOb μ (some j) (vbr μ) (vtd μ) (vbh μ) k) := fun e => by rw [← e]; exact MW_ob0 hm
  unfold cJ_walkNext
  cases hw : vwk μ with
  | none => exact MW_di (hw0 hw)
  | some j =>
    show MW (jS_walkNext1 μ j)
    unfold jS_walkNext1
    have f1 := firP_r (vst μ j) (vbh μ) 99
    split
    · split
      · exact hw1 hw
      · rename_i q
        have f0 : 0 ≤ firP (vst μ j) (vbh μ) 99 := by omega
        have e1 : keyR (vod μ j) (firP (vst μ j) (vbh μ) 99) = turn (vod μ j) (firP (vst μ j) (vbh μ) 99) := by unfold keyR; rw [if_neg q]
        have t1 := turn_b (o := vod μ j) (n := firP (vst μ j) (vbh μ) 99) (by omega)
        rw [e1]
        have t2 := turn_b (o := vod μ j) (n := turn (vod μ j) (firP (vst μ j) (vbh μ) 99)) (by omega)
        exact MW_ob hm (fun i e => by cases e; exact hm.2.2.2.1 j hw) (MW_b hm) (by omega) (by omega) (fun _ z => nomatch z)
    · exact MW_di (hw1 hw)
set_option maxHeartbeats 40000 in
theorem v3_walkNext {μ : MS} : vct (cJ_walkNext μ) 3 = vct μ 3 := by
  unfold cJ_walkNext
  split
  · unfold jS_walkNext0
    (repeat' split) <;> first | exact v3_di (by decide) rfl | rfl
  · unfold jS_walkNext1
    (repeat' split) <;> first | exact v3_di (by decide) rfl | rfl
set_option maxHeartbeats 40000 in
theorem MW_walkTake {μ : MS} (hm : MW μ) : MW (cJ_walkTake μ) := by
  have hw0 : ∀ {k : Int}, vwk μ = none → MW (tOb μ none (vbr μ) (vtd μ) (vbh μ) k) := fun e => by rw [← e]; exact MW_ob0 hm
  have hw1 : ∀ {k : Int} {j : Nat}, vwk μ = some j → MW (tOb μ (some j) (vbr μ) (vtd μ) (vbh μ) k) := fun e => by rw [← e]; exact MW_ob0 hm
  unfold cJ_walkTake
  cases hw : vwk μ with
  | none => exact MW_di (hw0 hw)
  | some j =>
    show MW (jS_walkTake1 μ j)
    unfold jS_walkTake1
    split
    · exact MW_di (hw1 hw)
    · exact MW_di (MW_ob (μ := tRw (tOb μ (some j) (vbr μ) (vtd μ) (vbh μ) 0) j (iu (vst μ j) (turn (vod μ j) (vtd μ)) (-1))) (hw1 hw) (fun i e => by cases e; exact hm.2.2.2.1 j hw) (MW_b hm) (by omega) hm.2.2.2.2.2.2.2.1 (fun z => absurd rfl z))
set_option maxHeartbeats 40000 in
theorem v3_walkTake {μ : MS} : vct (cJ_walkTake μ) 3 = vct μ 3 := by
  unfold cJ_walkTake
  split
  · unfold jS_walkTake0
    (repeat' split) <;> first | exact v3_di (by decide) rfl | rfl
  · unfold jS_walkTake1
    (repeat' split) <;> first | exact v3_di (by decide) rfl | rfl
set_option maxHeartbeats 40000 in
theorem MW_knock {μ : MS} (hm : MW μ) : MW (jS_knock μ) := by
  exact hm
set_option maxHeartbeats 40000 in
theorem v3_knock {μ : MS} : vct (jS_knock μ) 3 = vct μ 3 + 1 := by
  show iu (vct μ) 3 (vct μ 3 + 1) 3 = vct μ 3 + 1
  exact iu_s _ _ _
set_option maxHeartbeats 40000 in
theorem MW_isSound {μ : MS} (hm : MW μ) : MW (jS_isSound μ) := by
  exact hm
set_option maxHeartbeats 40000 in
theorem v3_isSound {μ : MS} : vct (jS_isSound μ) 3 = vct μ 3 := by
  rfl
theorem MW_digest {μ : MS} (hm : MW μ) : MW (cJ_digest μ) := by
  have hw0 : ∀ {k : Int}, vwk μ = none → MW (tOb μ none (vbr μ) (vtd μ) (vbh μ) k) := fun e => by rw [← e]; exact MW_ob0 hm
  have hw1 : ∀ {k : Int} {j : Nat}, vwk μ = some j → MW (tOb μ (some j) (vbr μ) (vtd μ) (vbh μ) k) := fun e => by rw [← e]; exact MW_ob0 hm
  unfold cJ_digest
  cases hw : vwk μ with
  | none => exact hw0 hw
  | some j => exact hw1 hw
theorem v3_digest {μ : MS} : vct (cJ_digest μ) 3 = vct μ 3 := by
  unfold cJ_digest
  split
  · unfold jS_digest0
    (repeat' split) <;> first | exact v3_di (by decide) rfl | rfl
  · unfold jS_digest1
    (repeat' split) <;> first | exact v3_di (by decide) rfl | rfl
set_option maxHeartbeats 40000 in
theorem MW_init : MW jS_init := by
  refine ⟨fun i => ?_, fun i => ?_, fun i => ?_, fun i e => (nomatch e), fun i => ?_, by decide, by decide, by decide, fun z => absurd rfl z, fun i j a1 a2 a3 a4 e => ?_, fun i j a1 a2 a3 a4 e => ?_⟩
  · show (if i = 1 then 1 else if i = 2 then 2 else if i = 3 then 3 else 0) < 7
    (repeat' split) <;> omega
  · show (if i = 1 then 5 else if i = 2 then 6 else 4) < 7
    (repeat' split) <;> omega
  · show (if i = 1 then 1 else 0) < 7
    split <;> omega
  · show (0 : Int) ≤ 0 ∧ (0 : Int) ≤ 100 ∧ (-1 : Int) ≤ 99 ∧ (99 : Int) ≤ 99
    omega
  · have e2 : (if i = 1 then 1 else if i = 2 then 2 else if i = 3 then 3 else 0 : Nat) = (if j = 1 then 1 else if j = 2 then 2 else if j = 3 then 3 else 0 : Nat) := e
    (repeat' split at e2) <;> omega
  · have e2 : (if i = 1 then 5 else if i = 2 then 6 else 4 : Nat) = (if j = 1 then 5 else if j = 2 then 6 else 4 : Nat) := e
    (repeat' split at e2) <;> omega
