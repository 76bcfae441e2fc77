section TIE
variable {σ : CS} {t : Int}
theorem m_tXw {i : Nat} {S : RS} {x : SX} (h : TR (zwk σ) i (mbr σ) (zst σ i) S x) (hc : zwk σ = some i → zwc σ ≤ (zst σ i).2.1) : tDi (tX (tWr (tTh (mof σ t) 0) i) i x) 0 = mof (sSt (wrt σ i) i S) 0 := by
  rw [m_th, m_wr, m_tX (σ := fgt σ i) h hc, m_i0, w1]
theorem m_tXs {i : Nat} {S : RS} {x : SX} (h : TR (zwk σ) i (mbr σ) (zst σ i) S x) (hc : zwk σ = some i → zwc σ ≤ (zst σ i).2.1) : tDi (tX (tTh (mof σ t) 0) i x) 1 = mof (sSt (inc1 σ) i S) 0 := by
  rw [m_th, m_tX h hc, m_i1, w5]
theorem fgt_ne {i : Nat} (h : zwk σ ≠ some i) : fgt σ i = σ := by
  unfold fgt
  rw [if_neg h]
  rfl
theorem sSt_sf {i : Nat} : sSt σ i (zst σ i) = σ := by
  have e : va_up (zst σ) i (zst σ i) = zst σ := by
    funext k
    by_cases h : k = i
    · rw [h, va_up_self]
    · rw [va_up_ne _ _ h]
  unfold sSt
  rw [e]
  rfl
theorem drN_e {f : Int → Int} {z lo hi : Int} (h : 0 ≤ z ∧ z ≤ 1) : drN f z lo hi = endP f lo hi (if z = 1 then 1 else 0) := by
  unfold drN
  rcases (show z = 0 ∨ z = 1 by omega) with rfl | rfl <;> rfl
theorem endP_b (f : Int → Int) (lo hi b : Int) : endP f lo hi b = -1 ∨ (0 ≤ endP f lo hi b ∧ endP f lo hi b ≤ 99 ∧ isT f (endP f lo hi b) ≠ 0) := by
  unfold endP
  split
  · rcases lasP_b f lo hi with h | h
    · exact Or.inl h
    · have := isT_in h.2.2
      exact Or.inr ⟨this.1, by omega, h.2.2⟩
  · rcases firP_b f lo hi with h | h
    · exact Or.inl h
    · have := isT_in h.2.2
      exact Or.inr ⟨this.1, by omega, h.2.2⟩
theorem m_dp {i : Nat} {z lo hi B : Int} (hz : 0 ≤ z ∧ z ≤ 2) (h1 : 0 ≤ lo) (h2 : hi ≤ 99) (ri : RI B (zst σ i)) (hc : zwk σ = some i → zwc σ ≤ (zst σ i).2.1) : dpS (mof σ t) i z lo hi = mof (sSt (fgt σ i) i (drpS lo hi z (zst σ i))) t := by
  unfold dpS drpS
  by_cases h : z = 2
  · rw [if_pos h, if_pos h, m_wr]
    exact m_tX (σ := fgt σ i) (TR_g (B := B) (B' := B + 100) ri (RI_clr (by omega) ri) DG_clr (XG_cl (o := zod σ i) h1 h2) (clX_clr h1 h2)).1 hc
  · rw [if_neg h, if_neg h, drN_e (by omega)]
    show (if endP (zst σ i).2.2 lo hi (if z = 1 then 1 else 0) = -1 then tWr (mof σ t) i else tSe (tWr (mof σ t) i) i (turn (zod σ i) (keyR (zod σ i) (endP (zst σ i).2.2 lo hi (if z = 1 then 1 else 0)))) (-1)) = _
    rcases endP_b (zst σ i).2.2 lo hi (if z = 1 then 1 else 0) with e | e
    · rw [if_pos e, e, goS_out (by omega), m_wr]
      rw [show sSt (fgt σ i) i (zst σ i) = fgt σ i from sSt_sf (σ := fgt σ i)]
    · rw [if_neg (by omega), kyI e.1, turn_t ⟨e.1, e.2.1⟩, m_wr]
      exact m_go (σ := fgt σ i) (B := B) ⟨e.1, e.2.1⟩ ri hc
theorem m_dpR {i : Nat} {z lo hi B : Int} (hz : 0 ≤ z ∧ z ≤ 2) (h1 : 0 ≤ lo) (h2 : hi ≤ 99) (ri : RI B (zst σ i)) : dpR (mof σ t) i z lo hi = drpR (zod σ i) lo hi z (zst σ i) := by
  unfold dpR drpR
  by_cases h : z = 2
  · rw [if_pos h, if_pos h]
    exact (TR_g (k := zwk σ) (i := i) (b0 := mbr σ) (B := B) (B' := B + 100) ri (RI_clr (by omega) ri) DG_clr (XG_cl (o := zod σ i) h1 h2) (clX_clr h1 h2)).2
  · rw [if_neg h, if_neg h, drN_e (by omega)]
    show (if endP (zst σ i).2.2 lo hi (if z = 1 then 1 else 0) = -1 then -1 else keyR (zod σ i) (endP (zst σ i).2.2 lo hi (if z = 1 then 1 else 0)) * 100 + (zst σ i).2.2 (turn (zod σ i) (keyR (zod σ i) (endP (zst σ i).2.2 lo hi (if z = 1 then 1 else 0))))) = _
    unfold pairR
    rcases endP_b (zst σ i).2.2 lo hi (if z = 1 then 1 else 0) with e | e
    · rw [if_pos e, e, if_neg (fun w => w (by unfold isT; rw [if_neg (by omega)]))]
    · rw [if_neg (by omega), if_pos e.2.2, kyI e.1, turn_t ⟨e.1, e.2.1⟩, wAt_in ⟨e.1, e.2.1⟩]
end TIE
-- what stands of the class's state besides
def FB (m : Int) (S : RS) : Prop := ∀ r, -1 ≤ S.2.2 r ∧ S.2.2 r ≤ m
theorem FB.up {m m2 : Int} {S : RS} (h : FB m S) (hm : m ≤ m2) : FB m2 S := fun r => ⟨(h r).1, by have := (h r).2; omega⟩
theorem FB_come {m n v : Int} {S : RS} (h : FB m S) (hv : -1 ≤ v ∧ v ≤ m) : FB m (comeS S n v) := by
  intro r
  unfold comeS
  split
  · exact h r
  · show -1 ≤ iu S.2.2 n v r ∧ iu S.2.2 n v r ≤ m
    unfold iu
    split
    · exact hv
    · exact h r
