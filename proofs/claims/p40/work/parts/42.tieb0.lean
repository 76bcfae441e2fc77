-- every call keeps the tie, and answers alike
def TE (σ1 : CS) (μ1 : MS) (okA okB : Prop) (e2 a b : Int) : Prop := FI σ1 ∧ ∃ t1, μ1 = mof σ1 t1 ∧ ((okA ∧ okB ∧ t1 = 0 ∧ a = b) ∨ (¬ okA ∧ t1 = 1) ∨ (okA ∧ ¬ okB ∧ t1 = e2))
theorem and1 {e : Int} (h : 0 ≤ e ∧ e ≤ 3) : (andI e 1 ≠ 0 ↔ e % 2 = 1) ∧ (andI e 2 ≠ 0 ↔ e / 2 = 1) := by
  rcases (show e = 0 ∨ e = 1 ∨ e = 2 ∨ e = 3 by omega) with rfl | rfl | rfl | rfl <;> decide
theorem oLo_e {o k low e : Int} (h : 0 ≤ e ∧ e ≤ 3) : moLo o k low e = oLo o k low e := by
  unfold moLo oLo
  have a := (and1 h).1
  by_cases q : andI e 1 ≠ 0
  · rw [if_pos q, a.1 q]
    split <;> omega
  · rw [if_neg q]
    have : e % 2 ≠ 1 := fun z => q (a.2 z)
    split <;> omega
theorem oHi_e {o k high e : Int} (h : 0 ≤ e ∧ e ≤ 3) : moHi o k high e = oHi o k high e := by
  unfold moHi oHi
  have a := (and1 h).2
  by_cases q : andI e 2 ≠ 0
  · rw [if_pos q, a.1 q]
    split <;> omega
  · rw [if_neg q]
    have : e / 2 ≠ 1 := fun z => q (a.2 z)
    split <;> omega
section TEB
variable {σ : CS} {t : Int}
theorem m_vh {v hi : Int} : tVh (mof σ t) v hi = mof (sVw σ v (zvw σ v) (zvl σ v) hi) t := m_of (σ := σ) rfl rfl (fun i => rfl) rfl rfl (iu_sf _ _).symm (iu_sf _ _).symm rfl rfl rfl rfl rfl (fun i => rfl) rfl
theorem m_vl {v lo : Int} : tVl (mof σ t) v lo = mof (sVw σ v (zvw σ v) lo (zvh σ v)) t := m_of (σ := σ) rfl rfl (fun i => rfl) rfl rfl (iu_sf _ _).symm rfl (iu_sf _ _).symm rfl rfl rfl rfl (fun i => rfl) rfl
theorem m_vlh {v lo hi : Int} : tVh (tVl (mof σ t) v lo) v hi = mof (sVw σ v (zvw σ v) lo hi) t := m_of (σ := σ) rfl rfl (fun i => rfl) rfl rfl (iu_sf _ _).symm rfl rfl rfl rfl rfl rfl (fun i => rfl) rfl
theorem mbr_nw {o : Int} {S : RS} (hw : ∀ j, zwk σ = some j → j < zn σ) : mbr (sNw σ o S) = mbr σ := by
  cases h : zwk σ with
  | none => rw [mbr_n h, mbr_n (σ := sNw σ o S) h]
  | some j =>
    rw [mbr_s h, mbr_s (σ := sNw σ o S) h]
    have e : zst (sNw σ o S) j = zst σ j := va_up_ne _ _ (Nat.ne_of_lt (hw j h))
    rw [e]; rfl
theorem m_tXn {i : Nat} {S : RS} {x : SX} (h1 : x.1 = S.2.2) (h2 : x.2.1 = mbr σ) (hw : zwk σ ≠ some i) : tX (mof σ t) i x = mof (sSt σ i S) t := by
  refine m_of (σ := σ) rfl rfl (fun k => ?_) rfl rfl rfl rfl rfl rfl ?_ rfl rfl (fun i => rfl) rfl
  · show va_up (fun i => (zst σ i).2.2) i x.1 k = _
    rw [h1]; exact up_f k
  · show x.2.1 = mbr (sSt σ i S)
    rw [h2]
    cases h : zwk σ with
    | none => rw [mbr_n h, mbr_n (σ := sSt σ i S) h]
    | some j =>
      rw [mbr_s h, mbr_s (σ := sSt σ i S) h]
      have e1 : zst (sSt σ i S) j = zst σ j := va_up_ne _ _ (fun e => hw (by rw [h, e]))
      rw [e1]; rfl
theorem koX_b {k : Option Nat} {i : Nat} {o b0 : Int} {f : Int → Int} (hk : k ≠ some i) : (itrP (koU o f k i) 0 99 (emp, b0, 0)).2.1 = b0 := by
  refine itrP_inv (Pr := fun x : SX => x.2.1 = b0) (a := 0) (b := 99) (fun r x _ _ h => ?_) _ 0 99 (emp, b0, 0) rfl (by omega) (by omega) rfl
  have key : ∀ w, (sX k i (turn 0 r) w x).2.1 = b0 := fun w => by
    show seB k i x.1 (turn 0 r) w x.2.1 = b0
    unfold seB
    rw [if_neg (fun z => hk z.2)]
    exact h
  unfold koU
  split
  · exact key _
  · exact key _
theorem m_ob {j : Nat} {k : Int} (hw : zwk σ = some j) : tOb (mof σ t) (some j) (vbr (mof σ t)) (vtd (mof σ t)) (vbh (mof σ t)) k = mof σ k := by
  rw [← hw]
  rfl
theorem m_on {k : Int} (hw : zwk σ = none) : tOb (mof σ t) none (vbr (mof σ t)) (vtd (mof σ t)) (vbh (mof σ t)) k = mof σ k := by
  rw [← hw]
  rfl
theorem mtd_at {j : Nat} (hf : FI σ) (hw : zwk σ = some j) (hz : zwt σ ≠ 0) : (0 ≤ zwl σ ∧ zwl σ ≤ 99) ∧ mtd σ = turn (zod σ j) (zwl σ) ∧ mtd σ ≠ -1 ∧ turn (zod σ j) (mtd σ) = zwl σ := by
  have h := isT_in ((hf.2.2.2.2.2.2 j hw).2 hz).2
  have e : mtd σ = turn (zod σ j) (zwl σ) := by
    rw [mtd_s hw, if_neg hz, kyI h.1]
  have tb := turn_b (o := zod σ j) (n := zwl σ) (by omega)
  exact ⟨by omega, e, by omega, by rw [e, turn_t (by omega)]⟩
theorem m_spl {i : Nat} {o c : Int} {S S2 : RS} {x : SX} {g : Int → Int} (hg : g = S2.2.2) (hi : i < zn σ) (hw : ∀ j, zwk σ = some j → j < zn σ) (h : TR (zwk σ) i (mbr σ) (zst σ i) S x) (hc : zwk σ = some i → zwc σ ≤ (zst σ i).2.1) : tDi (tX (tWr (tBk (tNw (tTh (mof σ t) 0) o g) c (zn σ)) i) i x) 0 = mof (sSt (sBk (sNw (wrt σ i) o S2) c (zn σ)) i S) 0 := by
  have e3 : zst (fgt (sBk (sNw σ o S2) c (zn σ)) i) i = zst σ i := va_up_ne _ _ (Nat.ne_of_lt hi)
  have e4 : mbr (fgt (sBk (sNw σ o S2) c (zn σ)) i) = mbr σ := (show mbr (fgt (sBk (sNw σ o S2) c (zn σ)) i) = mbr (sNw σ o S2) from rfl).trans (mbr_nw hw)
  rw [m_th, m_nw (S := S2) hg hw, m_bk, m_wr, m_tX (σ := fgt (sBk (sNw σ o S2) c (zn σ)) i) (S := S) (by rw [e3, e4]; exact h) (by rw [e3]; exact hc), m_i0, w6]
end TEB
