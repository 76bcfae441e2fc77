section TIE
variable {σ : CS} {t : Int}
theorem up_f {i : Nat} {S : RS} (k : Nat) : va_up (fun i => (zst σ i).2.2) i S.2.2 k = (va_up (zst σ) i S k).2.2 := by
  by_cases h : k = i
  · rw [h, va_up_self, va_up_self]
  · rw [va_up_ne _ _ h, va_up_ne _ _ h]
theorem m_nw {o : Int} {S : RS} {g : Int → Int} (hg : g = S.2.2) (hw : ∀ j, zwk σ = some j → j < zn σ) : tNw (mof σ t) o g = mof (sNw σ o S) t := by
  refine m_of (σ := σ) rfl rfl (fun k => ?_) rfl rfl rfl rfl rfl rfl ?_ ?_ rfl (fun i => rfl) rfl
  · rw [hg]; exact up_f k
  · show mbr σ = mbr (sNw σ o S)
    cases h : zwk σ with
    | none => rw [mbr_n h, mbr_n (σ := sNw σ o S) h]
    | some j =>
      rw [mbr_s h, mbr_s (σ := sNw σ o S) h]
      have e : zst (sNw σ o S) j = zst σ j := va_up_ne _ _ (Nat.ne_of_lt (hw j h))
      rw [e]; rfl
  · show mtd σ = mtd (sNw σ o S)
    cases h : zwk σ with
    | none => rw [mtd_n h, mtd_n (σ := sNw σ o S) h]
    | some j =>
      rw [mtd_s h, mtd_s (σ := sNw σ o S) h]
      have e : zod (sNw σ o S) j = zod σ j := va_up_ne _ _ (Nat.ne_of_lt (hw j h))
      rw [e]; rfl
theorem m_tX {i : Nat} {S : RS} {x : SX} (h : TR (zwk σ) i (mbr σ) (zst σ i) S x) (hw : zwk σ = some i → zwc σ ≤ (zst σ i).2.1) : tX (mof σ t) i x = mof (sSt σ i S) t := by
  obtain ⟨h1, h2, h3, h4⟩ := h
  refine m_of (σ := σ) rfl rfl (fun k => ?_) rfl rfl rfl rfl rfl rfl ?_ rfl rfl (fun i => rfl) rfl
  · show va_up (fun i => (zst σ i).2.2) i x.1 k = _
    rw [h1]; exact up_f k
  · show x.2.1 = mbr (sSt σ i S)
    rw [h4]
    cases h : zwk σ with
    | none => rw [if_neg (fun z => nomatch z.2), mbr_n h, mbr_n (σ := sSt σ i S) h]
    | some j =>
      rw [mbr_s h, mbr_s (σ := sSt σ i S) h]
      by_cases e : j = i
      · subst e
        have e1 : zst (sSt σ j S) j = S := va_up_self _ _ _
        have w := hw h
        rw [e1]
        show (if x.2.2 ≠ 0 ∧ some j = some j then (1 : Int) else if (zst σ j).2.1 = zwc σ then 0 else 1) = if S.2.1 = zwc σ then 0 else 1
        by_cases q : x.2.2 = 0
        · rw [if_neg (fun z => z.1 q), show S.2.1 = (zst σ j).2.1 by omega]
        · rw [if_pos ⟨q, rfl⟩, if_neg (by omega)]
      · have e1 : zst (sSt σ i S) j = zst σ j := va_up_ne _ _ e
        rw [e1, if_neg (fun z => e (by injection z.2))]
        rfl
theorem m_se {i : Nat} {r w : Int} : tSe (mof σ t) i r w = tX (mof σ t) i (sX (zwk σ) i r w ((zst σ i).2.2, mbr σ, 0)) := rfl
theorem m_come {i : Nat} {r w B : Int} (hr : 0 ≤ r ∧ r ≤ 99) (hw : w ≠ -1) (ri : RI B (zst σ i)) (hc : zwk σ = some i → zwc σ ≤ (zst σ i).2.1) : tSe (mof σ t) i r w = mof (sSt σ i (comeS (zst σ i) r w)) t := by
  rw [m_se]
  exact m_tX (TR_c (B := B) (B' := B + 1) ri (RI_come ri hw) (DC_come (DC_rf _)) (XC_s (XC_rf _) hr hw) (comeS_f hr).symm).1 hc
theorem m_go {i : Nat} {r B : Int} (hr : 0 ≤ r ∧ r ≤ 99) (ri : RI B (zst σ i)) (hc : zwk σ = some i → zwc σ ≤ (zst σ i).2.1) : tSe (mof σ t) i r (-1) = mof (sSt σ i (goS (zst σ i) r)) t := by
  rw [m_se]
  exact m_tX (TR_g (B := B) (B' := B + 1) ri (RI_go ri) (DG_go (DG_rf _)) (XG_s (XG_rf _) hr) (goS_f hr).symm).1 hc
theorem m_cg0 {i : Nat} {r z w : Int} (hz : z = 0) : cgS (tTh (mof σ t) 0) i r z w = mof (wrt σ i) 0 := by
  unfold cgS
  rw [if_pos hz, m_th, m_wr, m_i0, w2]
theorem m_cg1 {i : Nat} {r z w B : Int} (hz : z ≠ 0) (hr : 0 ≤ r ∧ r ≤ 99) (hw : w ≠ -1) (ri : RI B (zst σ i)) (hc : zwk σ = some i → zwc σ ≤ (zst σ i).2.1) : cgS (tTh (mof σ t) 0) i r z w = mof (sSt (wrt σ i) i (comeS (zst σ i) r w)) 0 := by
  unfold cgS
  rw [if_neg hz, m_th, m_wr, m_come (σ := fgt σ i) (B := B) hr hw ri hc, m_i0, w1, fgt_z]
theorem m_cg2 {i : Nat} {r z B : Int} (hz : z ≠ 0) (hr : 0 ≤ r ∧ r ≤ 99) (ri : RI B (zst σ i)) (hc : zwk σ = some i → zwc σ ≤ (zst σ i).2.1) : cgS (tTh (mof σ t) 0) i r z (-1) = mof (sSt (wrt σ i) i (goS (zst σ i) r)) 0 := by
  unfold cgS
  rw [if_neg hz, m_th, m_wr, m_go (σ := fgt σ i) (B := B) hr ri hc, m_i0, w1, fgt_z]
end TIE
