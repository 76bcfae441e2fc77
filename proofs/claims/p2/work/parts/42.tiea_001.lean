section TIE
variable {σ : CS} {t : Int}
theorem mct_1 : iu (mct σ) 1 (mct σ 1 + 1) = mct (inc1 σ) := by
  funext i
  unfold iu
  by_cases h : i = 1
  · rw [if_pos h, h]; rfl
  · rw [if_neg h]
    show mct σ i = if i = 0 then z0 σ else if i = 1 then z1 σ + 1 else if i = 2 then z2 σ else if i = 3 then z3 σ else 0
    unfold mct
    rw [if_neg h, if_neg h]
theorem mct_2 : iu (mct σ) 2 (mct σ 2 + 1) = mct (inc2 σ) := by
  funext i
  unfold iu
  by_cases h : i = 2
  · rw [if_pos h, h]; rfl
  · rw [if_neg h]
    show mct σ i = if i = 0 then z0 σ else if i = 1 then z1 σ else if i = 2 then z2 σ + 1 else if i = 3 then z3 σ else 0
    unfold mct
    rw [if_neg h, if_neg h]
theorem mct_3 : iu (mct σ) 3 (mct σ 3 + 1) = mct (inc3 σ) := by
  funext i
  unfold iu
  by_cases h : i = 3
  · rw [if_pos h, h]; rfl
  · rw [if_neg h]
    show mct σ i = if i = 0 then z0 σ else if i = 1 then z1 σ else if i = 2 then z2 σ else if i = 3 then z3 σ + 1 else 0
    unfold mct
    rw [if_neg h, if_neg h]
theorem m_i0 : tDi (mof σ t) 0 = mof (inc0 σ) t := by
  show (zn σ, zod σ, (fun i => (zst σ i).2.2), zbk σ, zsh σ, zvw σ, zvl σ, zvh σ, zwk σ, mbr σ, mtd σ, mbh σ, iu (mct σ) 0 (mct σ 0 + 1), t) = mof (inc0 σ) t
  rw [mct_0]; rfl
theorem m_i1 : tDi (mof σ t) 1 = mof (inc1 σ) t := by
  show (zn σ, zod σ, (fun i => (zst σ i).2.2), zbk σ, zsh σ, zvw σ, zvl σ, zvh σ, zwk σ, mbr σ, mtd σ, mbh σ, iu (mct σ) 1 (mct σ 1 + 1), t) = mof (inc1 σ) t
  rw [mct_1]; rfl
theorem m_i2 : tDi (mof σ t) 2 = mof (inc2 σ) t := by
  show (zn σ, zod σ, (fun i => (zst σ i).2.2), zbk σ, zsh σ, zvw σ, zvl σ, zvh σ, zwk σ, mbr σ, mtd σ, mbh σ, iu (mct σ) 2 (mct σ 2 + 1), t) = mof (inc2 σ) t
  rw [mct_2]; rfl
theorem m_i3 : tDi (mof σ t) 3 = mof (inc3 σ) t := by
  show (zn σ, zod σ, (fun i => (zst σ i).2.2), zbk σ, zsh σ, zvw σ, zvl σ, zvh σ, zwk σ, mbr σ, mtd σ, mbh σ, iu (mct σ) 3 (mct σ 3 + 1), t) = mof (inc3 σ) t
  rw [mct_3]; rfl
theorem mtd_fgt {i : Nat} : (if zwk σ = some i then -1 else mtd σ) = mtd (fgt σ i) := by
  by_cases h : zwk σ = some i
  · rw [if_pos h, mtd_s (σ := fgt σ i) (show zwk (fgt σ i) = some i from h)]
    rw [if_pos (show zwt (fgt σ i) = 0 from if_pos h)]
  · rw [if_neg h]
    have e : zwt (fgt σ i) = zwt σ := if_neg h
    cases hw : zwk σ with
    | none => rw [mtd_n hw, mtd_n (σ := fgt σ i) hw]
    | some j => rw [mtd_s hw, mtd_s (σ := fgt σ i) hw, e]; rfl
theorem m_wr {i : Nat} : tWr (mof σ t) i = mof (fgt σ i) t := by
  show (zn σ, zod σ, (fun i => (zst σ i).2.2), zbk σ, zsh σ, zvw σ, zvl σ, zvh σ, zwk σ, mbr σ, (if zwk σ = some i then -1 else mtd σ), mbh σ, mct σ, t) = mof (fgt σ i) t
  rw [mtd_fgt]; rfl
theorem m_bk {b : Int} {i : Nat} : tBk (mof σ t) b i = mof (sBk σ b i) t := rfl
theorem m_sh {b : Int} {i : Nat} : tSh (mof σ t) b i = mof (sSh σ b i) t := rfl
theorem m_vw {v lo hi : Int} {i : Nat} : tVh (tVl (tVw (mof σ t) v i) v lo) v hi = mof (sVw σ v i lo hi) t := rfl
theorem iu_sf {α : Type} (f : Int → α) (v : Int) : iu f v (f v) = f := by
  funext j
  unfold iu
  split
  · rename_i h; rw [h]
  · rfl
end TIE
