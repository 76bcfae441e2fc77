-- the tie: the reference's state, told by the class's
def mbr (σ : CS) : Int := match zwk σ with | none => 0 | some j => if (zst σ j).2.1 = zwc σ then 0 else 1
def mtd (σ : CS) : Int := match zwk σ with | none => -1 | some j => if zwt σ = 0 then -1 else keyR (zod σ j) (zwl σ)
def mbh (σ : CS) : Int := match zwk σ with | none => 0 | some _ => zwl σ + 1
def mct (σ : CS) : Int → Int := fun i => if i = 0 then z0 σ else if i = 1 then z1 σ else if i = 2 then z2 σ else if i = 3 then z3 σ else 0
def mof (σ : CS) (t : Int) : MS := (zn σ, zod σ, fun i => (zst σ i).2.2, zbk σ, zsh σ, zvw σ, zvl σ, zvh σ, zwk σ, mbr σ, mtd σ, mbh σ, mct σ, t)
theorem mbr_n {σ : CS} (h : zwk σ = none) : mbr σ = 0 := by unfold mbr; rw [h]
theorem mbr_s {σ : CS} {j : Nat} (h : zwk σ = some j) : mbr σ = if (zst σ j).2.1 = zwc σ then 0 else 1 := by unfold mbr; rw [h]
theorem mtd_n {σ : CS} (h : zwk σ = none) : mtd σ = -1 := by unfold mtd; rw [h]
theorem mtd_s {σ : CS} {j : Nat} (h : zwk σ = some j) : mtd σ = if zwt σ = 0 then -1 else keyR (zod σ j) (zwl σ) := by unfold mtd; rw [h]
theorem mbh_n {σ : CS} (h : zwk σ = none) : mbh σ = 0 := by unfold mbh; rw [h]
theorem mbh_s {σ : CS} {j : Nat} (h : zwk σ = some j) : mbh σ = zwl σ + 1 := by unfold mbh; rw [h]
theorem CS_ext {a b : CS} (h0 : zn a = zn b) (h1 : zod a = zod b) (h2 : zst a = zst b) (h3 : zbk a = zbk b) (h4 : zsh a = zsh b) (h5 : zvw a = zvw b) (h6 : zvl a = zvl b) (h7 : zvh a = zvh b) (h8 : zwk a = zwk b) (h9 : zwc a = zwc b) (h10 : zwl a = zwl b) (h11 : zwt a = zwt b) (h12 : z0 a = z0 b) (h13 : z1 a = z1 b) (h14 : z2 a = z2 b) (h15 : z3 a = z3 b) : a = b := by
  show (zn a, zod a, zst a, zbk a, zsh a, zvw a, zvl a, zvh a, zwk a, zwc a, zwl a, zwt a, z0 a, z1 a, z2 a, z3 a) = b
  rw [h0, h1, h2, h3, h4, h5, h6, h7, h8, h9, h10, h11, h12, h13, h14, h15]
  rfl
section WLE
variable {σ : CS}
theorem w1 {i : Nat} {S : RS} : inc0 (sSt (fgt σ i) i S) = sSt (wrt σ i) i S := CS_ext (Eq.trans (b := zn σ) rfl rfl) (Eq.trans (b := zod σ) rfl rfl) (Eq.trans (b := va_up (zst σ) i S) rfl rfl) (Eq.trans (b := zbk σ) rfl rfl) (Eq.trans (b := zsh σ) rfl rfl) (Eq.trans (b := zvw σ) rfl rfl) (Eq.trans (b := zvl σ) rfl rfl) (Eq.trans (b := zvh σ) rfl rfl) (Eq.trans (b := zwk σ) rfl rfl) (Eq.trans (b := zwc σ) rfl rfl) (Eq.trans (b := zwl σ) rfl rfl) (Eq.trans (b := if zwk σ = some i then 0 else zwt σ) rfl rfl) (Eq.trans (b := z0 σ + 1) rfl rfl) (Eq.trans (b := z1 σ) rfl rfl) (Eq.trans (b := z2 σ) rfl rfl) (Eq.trans (b := z3 σ) rfl rfl)
theorem w2 {i : Nat} : inc0 (fgt σ i) = wrt σ i := CS_ext (Eq.trans (b := zn σ) rfl rfl) (Eq.trans (b := zod σ) rfl rfl) (Eq.trans (b := zst σ) rfl rfl) (Eq.trans (b := zbk σ) rfl rfl) (Eq.trans (b := zsh σ) rfl rfl) (Eq.trans (b := zvw σ) rfl rfl) (Eq.trans (b := zvl σ) rfl rfl) (Eq.trans (b := zvh σ) rfl rfl) (Eq.trans (b := zwk σ) rfl rfl) (Eq.trans (b := zwc σ) rfl rfl) (Eq.trans (b := zwl σ) rfl rfl) (Eq.trans (b := if zwk σ = some i then 0 else zwt σ) rfl rfl) (Eq.trans (b := z0 σ + 1) rfl rfl) (Eq.trans (b := z1 σ) rfl rfl) (Eq.trans (b := z2 σ) rfl rfl) (Eq.trans (b := z3 σ) rfl rfl)
theorem w3 {o b : Int} {i : Nat} {S : RS} : inc0 (sBk (sNw σ o S) b i) = sBk (sNw (inc0 σ) o S) b i := CS_ext (Eq.trans (b := zn σ + 1) rfl rfl) (Eq.trans (b := va_up (zod σ) (zn σ) o) rfl rfl) (Eq.trans (b := va_up (zst σ) (zn σ) S) rfl rfl) (Eq.trans (b := iu (zbk σ) b i) rfl rfl) (Eq.trans (b := zsh σ) rfl rfl) (Eq.trans (b := zvw σ) rfl rfl) (Eq.trans (b := zvl σ) rfl rfl) (Eq.trans (b := zvh σ) rfl rfl) (Eq.trans (b := zwk σ) rfl rfl) (Eq.trans (b := zwc σ) rfl rfl) (Eq.trans (b := zwl σ) rfl rfl) (Eq.trans (b := zwt σ) rfl rfl) (Eq.trans (b := z0 σ + 1) rfl rfl) (Eq.trans (b := z1 σ) rfl rfl) (Eq.trans (b := z2 σ) rfl rfl) (Eq.trans (b := z3 σ) rfl rfl)
theorem w4 {o b : Int} {i : Nat} {S : RS} : inc1 (sSh (sNw σ o S) b i) = sSh (sNw (inc1 σ) o S) b i := CS_ext (Eq.trans (b := zn σ + 1) rfl rfl) (Eq.trans (b := va_up (zod σ) (zn σ) o) rfl rfl) (Eq.trans (b := va_up (zst σ) (zn σ) S) rfl rfl) (Eq.trans (b := zbk σ) rfl rfl) (Eq.trans (b := iu (zsh σ) b i) rfl rfl) (Eq.trans (b := zvw σ) rfl rfl) (Eq.trans (b := zvl σ) rfl rfl) (Eq.trans (b := zvh σ) rfl rfl) (Eq.trans (b := zwk σ) rfl rfl) (Eq.trans (b := zwc σ) rfl rfl) (Eq.trans (b := zwl σ) rfl rfl) (Eq.trans (b := zwt σ) rfl rfl) (Eq.trans (b := z0 σ) rfl rfl) (Eq.trans (b := z1 σ + 1) rfl rfl) (Eq.trans (b := z2 σ) rfl rfl) (Eq.trans (b := z3 σ) rfl rfl)
theorem w5 {i : Nat} {S : RS} : inc1 (sSt σ i S) = sSt (inc1 σ) i S := CS_ext (Eq.trans (b := zn σ) rfl rfl) (Eq.trans (b := zod σ) rfl rfl) (Eq.trans (b := va_up (zst σ) i S) rfl rfl) (Eq.trans (b := zbk σ) rfl rfl) (Eq.trans (b := zsh σ) rfl rfl) (Eq.trans (b := zvw σ) rfl rfl) (Eq.trans (b := zvl σ) rfl rfl) (Eq.trans (b := zvh σ) rfl rfl) (Eq.trans (b := zwk σ) rfl rfl) (Eq.trans (b := zwc σ) rfl rfl) (Eq.trans (b := zwl σ) rfl rfl) (Eq.trans (b := zwt σ) rfl rfl) (Eq.trans (b := z0 σ) rfl rfl) (Eq.trans (b := z1 σ + 1) rfl rfl) (Eq.trans (b := z2 σ) rfl rfl) (Eq.trans (b := z3 σ) rfl rfl)
theorem w6 {o b : Int} {i n : Nat} {S S2 : RS} : inc0 (sSt (fgt (sBk (sNw σ o S2) b n) i) i S) = sSt (sBk (sNw (wrt σ i) o S2) b n) i S := CS_ext (Eq.trans (b := zn σ + 1) rfl rfl) (Eq.trans (b := va_up (zod σ) (zn σ) o) rfl rfl) (Eq.trans (b := va_up (va_up (zst σ) (zn σ) S2) i S) rfl rfl) (Eq.trans (b := iu (zbk σ) b n) rfl rfl) (Eq.trans (b := zsh σ) rfl rfl) (Eq.trans (b := zvw σ) rfl rfl) (Eq.trans (b := zvl σ) rfl rfl) (Eq.trans (b := zvh σ) rfl rfl) (Eq.trans (b := zwk σ) rfl rfl) (Eq.trans (b := zwc σ) rfl rfl) (Eq.trans (b := zwl σ) rfl rfl) (Eq.trans (b := if zwk σ = some i then 0 else zwt σ) rfl rfl) (Eq.trans (b := z0 σ + 1) rfl rfl) (Eq.trans (b := z1 σ) rfl rfl) (Eq.trans (b := z2 σ) rfl rfl) (Eq.trans (b := z3 σ) rfl rfl)
theorem w7 {i : Nat} {S : RS} : inc0 (sSt σ i S) = sSt (inc0 σ) i S := CS_ext (Eq.trans (b := zn σ) rfl rfl) (Eq.trans (b := zod σ) rfl rfl) (Eq.trans (b := va_up (zst σ) i S) rfl rfl) (Eq.trans (b := zbk σ) rfl rfl) (Eq.trans (b := zsh σ) rfl rfl) (Eq.trans (b := zvw σ) rfl rfl) (Eq.trans (b := zvl σ) rfl rfl) (Eq.trans (b := zvh σ) rfl rfl) (Eq.trans (b := zwk σ) rfl rfl) (Eq.trans (b := zwc σ) rfl rfl) (Eq.trans (b := zwl σ) rfl rfl) (Eq.trans (b := zwt σ) rfl rfl) (Eq.trans (b := z0 σ + 1) rfl rfl) (Eq.trans (b := z1 σ) rfl rfl) (Eq.trans (b := z2 σ) rfl rfl) (Eq.trans (b := z3 σ) rfl rfl)
theorem w8 {j : Nat} {S : RS} {w : Option Nat} {c l z : Int} : inc0 (sWk (sSt σ j S) w c l z) = sWk (sSt (inc0 σ) j S) w c l z := CS_ext (Eq.trans (b := zn σ) rfl rfl) (Eq.trans (b := zod σ) rfl rfl) (Eq.trans (b := va_up (zst σ) j S) rfl rfl) (Eq.trans (b := zbk σ) rfl rfl) (Eq.trans (b := zsh σ) rfl rfl) (Eq.trans (b := zvw σ) rfl rfl) (Eq.trans (b := zvl σ) rfl rfl) (Eq.trans (b := zvh σ) rfl rfl) (Eq.trans (b := w) rfl rfl) (Eq.trans (b := c) rfl rfl) (Eq.trans (b := l) rfl rfl) (Eq.trans (b := z) rfl rfl) (Eq.trans (b := z0 σ + 1) rfl rfl) (Eq.trans (b := z1 σ) rfl rfl) (Eq.trans (b := z2 σ) rfl rfl) (Eq.trans (b := z3 σ) rfl rfl)
theorem up_up {f : Nat → RS} {i : Nat} {a b : RS} : va_up (va_up f i a) i b = va_up f i b := by
  funext k
  by_cases h : k = i
  · rw [h, va_up_self, va_up_self]
  · rw [va_up_ne _ _ h, va_up_ne _ _ h, va_up_ne _ _ h]
theorem sSt_nw {o b : Int} {S S0 : RS} : sSt (sSh (sNw σ o S0) b (zn σ)) (zn σ) S = sSh (sNw σ o S) b (zn σ) := CS_ext (Eq.trans (b := zn σ + 1) rfl rfl) (Eq.trans (b := va_up (zod σ) (zn σ) o) rfl rfl) ((show zst (sSt (sSh (sNw σ o S0) b (zn σ)) (zn σ) S) = va_up (va_up (zst σ) (zn σ) S0) (zn σ) S from rfl).trans (up_up.trans (show va_up (zst σ) (zn σ) S = zst (sSh (sNw σ o S) b (zn σ)) from rfl))) (Eq.trans (b := zbk σ) rfl rfl) (Eq.trans (b := iu (zsh σ) b (zn σ)) rfl rfl) (Eq.trans (b := zvw σ) rfl rfl) (Eq.trans (b := zvl σ) rfl rfl) (Eq.trans (b := zvh σ) rfl rfl) (Eq.trans (b := zwk σ) rfl rfl) (Eq.trans (b := zwc σ) rfl rfl) (Eq.trans (b := zwl σ) rfl rfl) (Eq.trans (b := zwt σ) rfl rfl) (Eq.trans (b := z0 σ) rfl rfl) (Eq.trans (b := z1 σ) rfl rfl) (Eq.trans (b := z2 σ) rfl rfl) (Eq.trans (b := z3 σ) rfl rfl)
end WLE
section TIE
variable {σ : CS} {t : Int}
theorem m_vn : vn (mof σ t) = zn σ := rfl
theorem m_vod : vod (mof σ t) = zod σ := rfl
theorem m_vst (i : Nat) : vst (mof σ t) i = (zst σ i).2.2 := rfl
theorem m_vbk : vbk (mof σ t) = zbk σ := rfl
theorem m_vsh : vsh (mof σ t) = zsh σ := rfl
theorem m_vvw : vvw (mof σ t) = zvw σ := rfl
theorem m_vvl : vvl (mof σ t) = zvl σ := rfl
theorem m_vvh : vvh (mof σ t) = zvh σ := rfl
theorem m_vwk : vwk (mof σ t) = zwk σ := rfl
theorem m_vbr : vbr (mof σ t) = mbr σ := rfl
theorem m_vtd : vtd (mof σ t) = mtd σ := rfl
theorem m_vbh : vbh (mof σ t) = mbh σ := rfl
theorem m_vct : vct (mof σ t) = mct σ := rfl
theorem m_vth : vth (mof σ t) = t := rfl
theorem m_of {σ σ1 : CS} {t : Int} {a : MS} (h1 : vn a = zn σ1) (h2 : vod a = zod σ1) (h3 : ∀ i, vst a i = (zst σ1 i).2.2) (h4 : vbk a = zbk σ1) (h5 : vsh a = zsh σ1) (h6 : vvw a = zvw σ1) (h7 : vvl a = zvl σ1) (h8 : vvh a = zvh σ1) (h9 : vwk a = zwk σ1) (h10 : vbr a = mbr σ1) (h11 : vtd a = mtd σ1) (h12 : vbh a = mbh σ1) (h13 : ∀ i, vct a i = mct σ1 i) (h14 : vth a = t) : a = mof σ1 t := by
  have e3 : vst a = fun i => (zst σ1 i).2.2 := funext h3
  have e13 : vct a = mct σ1 := funext h13
  show (vn a, vod a, vst a, vbk a, vsh a, vvw a, vvl a, vvh a, vwk a, vbr a, vtd a, vbh a, vct a, vth a) = mof σ1 t
  rw [h1, h2, e3, h4, h5, h6, h7, h8, h9, h10, h11, h12, e13, h14]
  rfl
theorem fgt_z {i : Nat} : zst (fgt σ i) = zst σ := rfl
theorem m_th {k : Int} : tTh (mof σ t) k = mof σ k := rfl
theorem mct_0 : iu (mct σ) 0 (mct σ 0 + 1) = mct (inc0 σ) := by
  funext i
  unfold iu
  by_cases h : i = 0
  · rw [if_pos h, h]; rfl
  · rw [if_neg h]
    show mct σ i = if i = 0 then z0 σ + 1 else if i = 1 then z1 σ else if i = 2 then z2 σ else if i = 3 then z3 σ else 0
    unfold mct
    rw [if_neg h, if_neg h]
theorem mct_1 : iu (mct σ) 1 (mct σ 1 + 1) = mct (inc1 σ) := by
  funext i
  unfold iu
  by_cases h : i = 1
  · rw [if_pos h, h]; rfl
  · rw [if_neg h]
    show mct σ i = if i = 0 then z0 σ else if i = 1 then z1 σ + 1 else if i = 2 then z2 σ else if i = 3 then z3 σ else 0
    unfold mct
    rw [if_neg h, if_neg h]
theorem mct_2 : iu (mct σ) 2 (mct σ 2 + 1) = mct (inc2 σ) := by
  funext i
  unfold iu
  by_cases h : i = 2
  · rw [if_pos h, h]; rfl
  · rw [if_neg h]
    show mct σ i = if i = 0 then z0 σ else if i = 1 then z1 σ else if i = 2 then z2 σ + 1 else if i = 3 then z3 σ else 0
    unfold mct
    rw [if_neg h, if_neg h]
theorem mct_3 : iu (mct σ) 3 (mct σ 3 + 1) = mct (inc3 σ) := by
  funext i
  unfold iu
  by_cases h : i = 3
  · rw [if_pos h, h]; rfl
  · rw [if_neg h]
    show mct σ i = if i = 0 then z0 σ else if i = 1 then z1 σ else if i = 2 then z2 σ else if i = 3 then z3 σ + 1 else 0
    unfold mct
    rw [if_neg h, if_neg h]
theorem m_i0 : tDi (mof σ t) 0 = mof (inc0 σ) t := by
  show (zn σ, zod σ, (fun i => (zst σ i).2.2), zbk σ, zsh σ, zvw σ, zvl σ, zvh σ, zwk σ, mbr σ, mtd σ, mbh σ, iu (mct σ) 0 (mct σ 0 + 1), t) = mof (inc0 σ) t
  rw [mct_0]; rfl
theorem m_i1 : tDi (mof σ t) 1 = mof (inc1 σ) t := by
  show (zn σ, zod σ, (fun i => (zst σ i).2.2), zbk σ, zsh σ, zvw σ, zvl σ, zvh σ, zwk σ, mbr σ, mtd σ, mbh σ, iu (mct σ) 1 (mct σ 1 + 1), t) = mof (inc1 σ) t
  rw [mct_1]; rfl
theorem m_i2 : tDi (mof σ t) 2 = mof (inc2 σ) t := by
  show (zn σ, zod σ, (fun i => (zst σ i).2.2), zbk σ, zsh σ, zvw σ, zvl σ, zvh σ, zwk σ, mbr σ, mtd σ, mbh σ, iu (mct σ) 2 (mct σ 2 + 1), t) = mof (inc2 σ) t
  rw [mct_2]; rfl
theorem m_i3 : tDi (mof σ t) 3 = mof (inc3 σ) t := by
  show (zn σ, zod σ, (fun i => (zst σ i).2.2), zbk σ, zsh σ, zvw σ, zvl σ, zvh σ, zwk σ, mbr σ, mtd σ, mbh σ, iu (mct σ) 3 (mct σ 3 + 1), t) = mof (inc3 σ) t
  rw [mct_3]; rfl
theorem mtd_fgt {i : Nat} : (if zwk σ = some i then -1 else mtd σ) = mtd (fgt σ i) := by
  by_cases h : zwk σ = some i
  · rw [if_pos h, mtd_s (σ := fgt σ i) (show zwk (fgt σ i) = some i from h)]
    rw [if_pos (show zwt (fgt σ i) = 0 from if_pos h)]
  · rw [if_neg h]
    have e : zwt (fgt σ i) = zwt σ := if_neg h
    cases hw : zwk σ with
    | none => rw [mtd_n hw, mtd_n (σ := fgt σ i) hw]
    | some j => rw [mtd_s hw, mtd_s (σ := fgt σ i) hw, e]; rfl
theorem m_wr {i : Nat} : tWr (mof σ t) i = mof (fgt σ i) t := by
  show (zn σ, zod σ, (fun i => (zst σ i).2.2), zbk σ, zsh σ, zvw σ, zvl σ, zvh σ, zwk σ, mbr σ, (if zwk σ = some i then -1 else mtd σ), mbh σ, mct σ, t) = mof (fgt σ i) t
  rw [mtd_fgt]; rfl
theorem m_bk {b : Int} {i : Nat} : tBk (mof σ t) b i = mof (sBk σ b i) t := rfl
theorem m_sh {b : Int} {i : Nat} : tSh (mof σ t) b i = mof (sSh σ b i) t := rfl
theorem m_vw {v lo hi : Int} {i : Nat} : tVh (tVl (tVw (mof σ t) v i) v lo) v hi = mof (sVw σ v i lo hi) t := rfl
theorem iu_sf {α : Type} (f : Int → α) (v : Int) : iu f v (f v) = f := by
  funext j
  unfold iu
  split
  · rename_i h; rw [h]
  · rfl
theorem up_f {i : Nat} {S : RS} (k : Nat) : va_up (fun i => (zst σ i).2.2) i S.2.2 k = (va_up (zst σ) i S k).2.2 := by
  by_cases h : k = i
  · rw [h, va_up_self, va_up_self]
  · rw [va_up_ne _ _ h, va_up_ne _ _ h]
theorem m_nw {o : Int} {S : RS} {g : Int → Int} (hg : g = S.2.2) (hw : ∀ j, zwk σ = some j → j < zn σ) : tNw (mof σ t) o g = mof (sNw σ o S) t := by
  refine m_of (σ := σ) rfl rfl (fun k => ?_) rfl rfl rfl rfl rfl rfl ?_ ?_ rfl (fun i => rfl) rfl
  · rw [hg]; exact up_f k
  · show mbr σ = mbr (sNw σ o S)
    cases h : zwk σ with
    | none => rw [mbr_n h, mbr_n (σ := sNw σ o S) h]
    | some j =>
      rw [mbr_s h, mbr_s (σ := sNw σ o S) h]
      have e : zst (sNw σ o S) j = zst σ j := va_up_ne _ _ (Nat.ne_of_lt (hw j h))
      rw [e]; rfl
  · show mtd σ = mtd (sNw σ o S)
    cases h : zwk σ with
    | none => rw [mtd_n h, mtd_n (σ := sNw σ o S) h]
    | some j =>
      rw [mtd_s h, mtd_s (σ := sNw σ o S) h]
      have e : zod (sNw σ o S) j = zod σ j := va_up_ne _ _ (Nat.ne_of_lt (hw j h))
      rw [e]; rfl
theorem m_tX {i : Nat} {S : RS} {x : SX} (h : TR (zwk σ) i (mbr σ) (zst σ i) S x) (hw : zwk σ = some i → zwc σ ≤ (zst σ i).2.1) : tX (mof σ t) i x = mof (sSt σ i S) t := by
  obtain ⟨h1, h2, h3, h4⟩ := h
  refine m_of (σ := σ) rfl rfl (fun k => ?_) rfl rfl rfl rfl rfl rfl ?_ rfl rfl (fun i => rfl) rfl
  · show va_up (fun i => (zst σ i).2.2) i x.1 k = _
    rw [h1]; exact up_f k
  · show x.2.1 = mbr (sSt σ i S)
    rw [h4]
    cases h : zwk σ with
    | none => rw [if_neg (fun z => nomatch z.2), mbr_n h, mbr_n (σ := sSt σ i S) h]
    | some j =>
      rw [mbr_s h, mbr_s (σ := sSt σ i S) h]
      by_cases e : j = i
      · subst e
        have e1 : zst (sSt σ j S) j = S := va_up_self _ _ _
        have w := hw h
        rw [e1]
        show (if x.2.2 ≠ 0 ∧ some j = some j then (1 : Int) else if (zst σ j).2.1 = zwc σ then 0 else 1) = if S.2.1 = zwc σ then 0 else 1
        by_cases q : x.2.2 = 0
        · rw [if_neg (fun z => z.1 q), show S.2.1 = (zst σ j).2.1 by omega]
        · rw [if_pos ⟨q, rfl⟩, if_neg (by omega)]
      · have e1 : zst (sSt σ i S) j = zst σ j := va_up_ne _ _ e
        rw [e1, if_neg (fun z => e (by injection z.2))]
        rfl
theorem m_se {i : Nat} {r w : Int} : tSe (mof σ t) i r w = tX (mof σ t) i (sX (zwk σ) i r w ((zst σ i).2.2, mbr σ, 0)) := rfl
theorem m_come {i : Nat} {r w B : Int} (hr : 0 ≤ r ∧ r ≤ 99) (hw : w ≠ -1) (ri : RI B (zst σ i)) (hc : zwk σ = some i → zwc σ ≤ (zst σ i).2.1) : tSe (mof σ t) i r w = mof (sSt σ i (comeS (zst σ i) r w)) t := by
  rw [m_se]
  exact m_tX (TR_c (B := B) (B' := B + 1) ri (RI_come ri hw) (DC_come (DC_rf _)) (XC_s (XC_rf _) hr hw) (comeS_f hr).symm).1 hc
theorem m_go {i : Nat} {r B : Int} (hr : 0 ≤ r ∧ r ≤ 99) (ri : RI B (zst σ i)) (hc : zwk σ = some i → zwc σ ≤ (zst σ i).2.1) : tSe (mof σ t) i r (-1) = mof (sSt σ i (goS (zst σ i) r)) t := by
  rw [m_se]
  exact m_tX (TR_g (B := B) (B' := B + 1) ri (RI_go ri) (DG_go (DG_rf _)) (XG_s (XG_rf _) hr) (goS_f hr).symm).1 hc
theorem m_cg0 {i : Nat} {r z w : Int} (hz : z = 0) : cgS (tTh (mof σ t) 0) i r z w = mof (wrt σ i) 0 := by
  unfold cgS
  rw [if_pos hz, m_th, m_wr, m_i0, w2]
theorem m_cg1 {i : Nat} {r z w B : Int} (hz : z ≠ 0) (hr : 0 ≤ r ∧ r ≤ 99) (hw : w ≠ -1) (ri : RI B (zst σ i)) (hc : zwk σ = some i → zwc σ ≤ (zst σ i).2.1) : cgS (tTh (mof σ t) 0) i r z w = mof (sSt (wrt σ i) i (comeS (zst σ i) r w)) 0 := by
  unfold cgS
  rw [if_neg hz, m_th, m_wr, m_come (σ := fgt σ i) (B := B) hr hw ri hc, m_i0, w1, fgt_z]
theorem m_cg2 {i : Nat} {r z B : Int} (hz : z ≠ 0) (hr : 0 ≤ r ∧ r ≤ 99) (ri : RI B (zst σ i)) (hc : zwk σ = some i → zwc σ ≤ (zst σ i).2.1) : cgS (tTh (mof σ t) 0) i r z (-1) = mof (sSt (wrt σ i) i (goS (zst σ i) r)) 0 := by
  unfold cgS
  rw [if_neg hz, m_th, m_wr, m_go (σ := fgt σ i) (B := B) hr ri hc, m_i0, w1, fgt_z]
theorem m_tXw {i : Nat} {S : RS} {x : SX} (h : TR (zwk σ) i (mbr σ) (zst σ i) S x) (hc : zwk σ = some i → zwc σ ≤ (zst σ i).2.1) : tDi (tX (tWr (tTh (mof σ t) 0) i) i x) 0 = mof (sSt (wrt σ i) i S) 0 := by
  rw [m_th, m_wr, m_tX (σ := fgt σ i) h hc, m_i0, w1]
theorem m_tXs {i : Nat} {S : RS} {x : SX} (h : TR (zwk σ) i (mbr σ) (zst σ i) S x) (hc : zwk σ = some i → zwc σ ≤ (zst σ i).2.1) : tDi (tX (tTh (mof σ t) 0) i x) 1 = mof (sSt (inc1 σ) i S) 0 := by
  rw [m_th, m_tX h hc, m_i1, w5]
theorem fgt_ne {i : Nat} (h : zwk σ ≠ some i) : fgt σ i = σ := by
  unfold fgt
  rw [if_neg h]
  rfl
theorem sSt_sf {i : Nat} : sSt σ i (zst σ i) = σ := by
  have e : va_up (zst σ) i (zst σ i) = zst σ := by
    funext k
    by_cases h : k = i
    · rw [h, va_up_self]
    · rw [va_up_ne _ _ h]
  unfold sSt
  rw [e]
  rfl
theorem drN_e {f : Int → Int} {z lo hi : Int} (h : 0 ≤ z ∧ z ≤ 1) : drN f z lo hi = endP f lo hi (if z = 1 then 1 else 0) := by
  unfold drN
  rcases (show z = 0 ∨ z = 1 by omega) with rfl | rfl <;> rfl
theorem endP_b (f : Int → Int) (lo hi b : Int) : endP f lo hi b = -1 ∨ (0 ≤ endP f lo hi b ∧ endP f lo hi b ≤ 99 ∧ isT f (endP f lo hi b) ≠ 0) := by
  unfold endP
  split
  · rcases lasP_b f lo hi with h | h
    · exact Or.inl h
    · have := isT_in h.2.2
      exact Or.inr ⟨this.1, by omega, h.2.2⟩
  · rcases firP_b f lo hi with h | h
    · exact Or.inl h
    · have := isT_in h.2.2
      exact Or.inr ⟨this.1, by omega, h.2.2⟩
theorem m_dp {i : Nat} {z lo hi B : Int} (hz : 0 ≤ z ∧ z ≤ 2) (h1 : 0 ≤ lo) (h2 : hi ≤ 99) (ri : RI B (zst σ i)) (hc : zwk σ = some i → zwc σ ≤ (zst σ i).2.1) : dpS (mof σ t) i z lo hi = mof (sSt (fgt σ i) i (drpS lo hi z (zst σ i))) t := by
  unfold dpS drpS
  by_cases h : z = 2
  · rw [if_pos h, if_pos h, m_wr]
    exact m_tX (σ := fgt σ i) (TR_g (B := B) (B' := B + 100) ri (RI_clr (by omega) ri) DG_clr (XG_cl (o := zod σ i) h1 h2) (clX_clr h1 h2)).1 hc
  · rw [if_neg h, if_neg h, drN_e (by omega)]
    show (if endP (zst σ i).2.2 lo hi (if z = 1 then 1 else 0) = -1 then tWr (mof σ t) i else tSe (tWr (mof σ t) i) i (turn (zod σ i) (keyR (zod σ i) (endP (zst σ i).2.2 lo hi (if z = 1 then 1 else 0)))) (-1)) = _
    rcases endP_b (zst σ i).2.2 lo hi (if z = 1 then 1 else 0) with e | e
    · rw [if_pos e, e, goS_out (by omega), m_wr]
      rw [show sSt (fgt σ i) i (zst σ i) = fgt σ i from sSt_sf (σ := fgt σ i)]
    · rw [if_neg (by omega), kyI e.1, turn_t ⟨e.1, e.2.1⟩, m_wr]
      exact m_go (σ := fgt σ i) (B := B) ⟨e.1, e.2.1⟩ ri hc
theorem m_dpR {i : Nat} {z lo hi B : Int} (hz : 0 ≤ z ∧ z ≤ 2) (h1 : 0 ≤ lo) (h2 : hi ≤ 99) (ri : RI B (zst σ i)) : dpR (mof σ t) i z lo hi = drpR (zod σ i) lo hi z (zst σ i) := by
  unfold dpR drpR
  by_cases h : z = 2
  · rw [if_pos h, if_pos h]
    exact (TR_g (k := zwk σ) (i := i) (b0 := mbr σ) (B := B) (B' := B + 100) ri (RI_clr (by omega) ri) DG_clr (XG_cl (o := zod σ i) h1 h2) (clX_clr h1 h2)).2
  · rw [if_neg h, if_neg h, drN_e (by omega)]
    show (if endP (zst σ i).2.2 lo hi (if z = 1 then 1 else 0) = -1 then -1 else keyR (zod σ i) (endP (zst σ i).2.2 lo hi (if z = 1 then 1 else 0)) * 100 + (zst σ i).2.2 (turn (zod σ i) (keyR (zod σ i) (endP (zst σ i).2.2 lo hi (if z = 1 then 1 else 0))))) = _
    unfold pairR
    rcases endP_b (zst σ i).2.2 lo hi (if z = 1 then 1 else 0) with e | e
    · rw [if_pos e, e, if_neg (fun w => w (by unfold isT; rw [if_neg (by omega)]))]
    · rw [if_neg (by omega), if_pos e.2.2, kyI e.1, turn_t ⟨e.1, e.2.1⟩, wAt_in ⟨e.1, e.2.1⟩]
end TIE
-- what stands of the class's state besides
def FB (m : Int) (S : RS) : Prop := ∀ r, -1 ≤ S.2.2 r ∧ S.2.2 r ≤ m
theorem FB.up {m m2 : Int} {S : RS} (h : FB m S) (hm : m ≤ m2) : FB m2 S := fun r => ⟨(h r).1, by have := (h r).2; omega⟩
theorem FB_come {m n v : Int} {S : RS} (h : FB m S) (hv : -1 ≤ v ∧ v ≤ m) : FB m (comeS S n v) := by
  intro r
  unfold comeS
  split
  · exact h r
  · show -1 ≤ iu S.2.2 n v r ∧ iu S.2.2 n v r ≤ m
    unfold iu
    split
    · exact hv
    · exact h r
theorem FB_go {m n : Int} {S : RS} (h : FB m S) (hm : 0 ≤ m) : FB m (goS S n) := by
  intro r
  unfold goS
  split
  · exact h r
  · show -1 ≤ iu S.2.2 n (-1) r ∧ iu S.2.2 n (-1) r ≤ m
    unfold iu
    split
    · omega
    · exact h r
theorem FB_it {m : Int} {u : Int → RS → RS} {lo hi : Int} {S0 : RS} (hu : ∀ r S, FB m S → FB m (u r S)) (h : FB m S0) : FB m (itrP u lo hi S0) := itrP_inv (a := lo) (b := hi) (fun r x _ _ h => hu r x h) _ lo hi S0 rfl (Int.le_refl _) (Int.le_refl _) h
theorem FB_R0 {m : Int} (hm : 0 ≤ m) : FB m R0 := fun r => by
  show -1 ≤ emp r ∧ emp r ≤ m
  unfold emp
  split <;> omega
theorem FB_add {m o o2 lo hi : Int} {f2 : Int → Int} {S : RS} (hf : ∀ r, -1 ≤ f2 r ∧ f2 r ≤ m) (h : FB m S) : FB m (addS o o2 f2 lo hi S) := FB_it (fun r S h => by
  unfold addU
  split
  · rename_i q
    have w := isT_w q
    exact FB_come h (by rw [w.2.2.2]; exact hf r)
  · exact h) h
theorem FB_stp {o a b n w : Int} {S : RS} (h : FB 99 S) : FB 99 (stpS o a b n w S) := FB_it (fun r S h => FB_come h (by omega)) h
theorem FB_kst {m o a b n : Int} {S : RS} (hm : 0 ≤ m) (h : FB m S) : FB m (kstS o a b n S) := FB_it (fun r S h => FB_come h (by omega)) h
theorem FB_rst {m o a b n : Int} {S : RS} (hm : 0 ≤ m) (h : FB m S) : FB m (rstS o a b n S) := FB_it (fun r S h => FB_go h hm) h
theorem FB_ret {m o o2 b : Int} {f2 : Int → Int} {S : RS} (hm : 0 ≤ m) (h : FB m S) : FB m (retS o o2 b f2 S) := FB_it (fun r S h => by
  unfold retU
  split
  · exact FB_go h hm
  · exact h) h
theorem FB_clr {m lo hi : Int} {S : RS} (hm : 0 ≤ m) (h : FB m S) : FB m (clrS lo hi S) := FB_it (fun r S h => FB_go h hm) h
theorem FB_drp {m lo hi z : Int} {S : RS} (hm : 0 ≤ m) (h : FB m S) : FB m (drpS lo hi z S) := by
  unfold drpS
  split
  · exact FB_clr hm h
  · exact FB_go h hm
theorem FB_ck {o : Int} {f : Int → Int} : FB 0 (ckS o f) := FB_it (fun r S h => by
  unfold ckU
  split
  · exact FB_come h (by omega)
  · exact h) (FB_R0 (Int.le_refl _))
theorem DC_le {S0 S : RS} (h : DC S0 S) : S0.2.1 ≤ S.2.1 := by
  have := h.1
  have := h.2
  omega
theorem DG_le {S0 S : RS} (h : DG S0 S) : S0.2.1 ≤ S.2.1 := by
  have := h.1
  have := h.2
  omega
theorem DG_drp {lo hi z : Int} {S : RS} : DG S (drpS lo hi z S) := by
  unfold drpS
  split
  · exact DG_clr
  · exact DG_go (DG_rf _)
def FI (σ : CS) : Prop := (∀ i, FB 99 (zst σ i)) ∧ (∀ i, 0 ≤ zod σ i ∧ zod σ i ≤ 2) ∧ (∀ b, FB 0 (zst σ (zsh σ b))) ∧ (∀ b c, zbk σ b ≠ zsh σ c) ∧ (∀ v c, zvw σ v ≠ zsh σ c) ∧ (∀ j c, zwk σ = some j → j ≠ zsh σ c) ∧ (∀ j, zwk σ = some j → zwc σ ≤ (zst σ j).2.1 ∧ (zwt σ ≠ 0 → (zst σ j).2.1 = zwc σ ∧ isT (zst σ j).2.2 (zwl σ) ≠ 0))
section FIS
variable {σ : CS}
theorem FI_sSt {i : Nat} {S : RS} (h : FI σ) (hS : FB 99 S) (hs : (∀ c, i ≠ zsh σ c) ∨ FB 0 S) (hk : zwk σ = some i → zwc σ ≤ S.2.1 ∧ (zwt σ ≠ 0 → S.2.1 = zwc σ ∧ isT S.2.2 (zwl σ) ≠ 0)) : FI (sSt σ i S) := by
  obtain ⟨h1, h2, h3, h4, h5, h6, h7⟩ := h
  refine ⟨fun k => ?_, h2, fun b => ?_, h4, h5, h6, fun j hj => ?_⟩
  · show FB 99 (va_up (zst σ) i S k)
    by_cases e : k = i
    · rw [e, va_up_self]; exact hS
    · rw [va_up_ne _ _ e]; exact h1 k
  · show FB 0 (va_up (zst σ) i S (zsh σ b))
    by_cases e : zsh σ b = i
    · rw [e, va_up_self]
      exact hs.elim (fun z => absurd e.symm (z b)) (fun z => z)
    · rw [va_up_ne _ _ e]; exact h3 b
  · show zwc σ ≤ (va_up (zst σ) i S j).2.1 ∧ (zwt σ ≠ 0 → (va_up (zst σ) i S j).2.1 = zwc σ ∧ isT (va_up (zst σ) i S j).2.2 (zwl σ) ≠ 0)
    by_cases e : j = i
    · rw [e, va_up_self]; exact hk (by rw [← e]; exact hj)
    · rw [va_up_ne _ _ e]; exact h7 j hj
theorem FI_wrt {i : Nat} (h : FI σ) : FI (wrt σ i) := by
  obtain ⟨h1, h2, h3, h4, h5, h6, h7⟩ := h
  refine ⟨h1, h2, h3, h4, h5, h6, fun j hj => ⟨(h7 j hj).1, fun z => (h7 j hj).2 (fun e => z ?_)⟩⟩
  show (if zwk σ = some i then 0 else zwt σ) = 0
  split
  · rfl
  · exact e
/-- a book is written -/
theorem FI_bw {i : Nat} {S : RS} (h : FI σ) (hi : ∀ c, i ≠ zsh σ c) (hS : FB 99 S) (hm : (zst σ i).2.1 ≤ S.2.1) : FI (sSt (wrt σ i) i S) :=
  FI_sSt (σ := wrt σ i) (FI_wrt h) hS (Or.inl hi) (fun e => ⟨by
    have := (h.2.2.2.2.2.2 i e).1
    show zwc σ ≤ S.2.1
    omega, fun z => absurd (show zwt (wrt σ i) = 0 from if_pos e) z⟩)
/-- a shelf is written -/
theorem FI_sw {b : Int} {S : RS} (h : FI σ) (hS : FB 0 S) : FI (sSt (inc1 σ) (zsh σ b) S) :=
  FI_sSt (σ := inc1 σ) h (hS.up (by omega)) (Or.inr hS) (fun e => absurd rfl (h.2.2.2.2.2.1 (zsh σ b) b e))
theorem FI_nw {o B : Int} {S : RS} (h : FI σ) (hc : CI B σ) (ho : 0 ≤ o ∧ o ≤ 2) (hS : FB 99 S) : FI (sNw σ o S) := by
  obtain ⟨h1, h2, h3, h4, h5, h6, h7⟩ := h
  refine ⟨fun k => ?_, fun k => ?_, fun b => ?_, h4, h5, h6, fun j hj => ?_⟩
  · show FB 99 (va_up (zst σ) (zn σ) S k)
    by_cases e : k = zn σ
    · rw [e, va_up_self]; exact hS
    · rw [va_up_ne _ _ e]; exact h1 k
  · show 0 ≤ va_up (zod σ) (zn σ) o k ∧ va_up (zod σ) (zn σ) o k ≤ 2
    by_cases e : k = zn σ
    · rw [e, va_up_self]; exact ho
    · rw [va_up_ne _ _ e]; exact h2 k
  · show FB 0 (va_up (zst σ) (zn σ) S (zsh σ b))
    rw [va_up_ne _ _ (Nat.ne_of_lt (hc.2.2.1 b))]
    exact h3 b
  · show zwc σ ≤ (va_up (zst σ) (zn σ) S j).2.1 ∧ (zwt σ ≠ 0 → (va_up (zst σ) (zn σ) S j).2.1 = zwc σ ∧ isT (va_up (zst σ) (zn σ) S j).2.2 (zwl σ) ≠ 0)
    rw [va_up_ne _ _ (Nat.ne_of_lt (hc.2.2.2.2.1 j hj))]
    exact h7 j hj
theorem FI_nb {o b B : Int} {S : RS} (h : FI σ) (hc : CI B σ) (ho : 0 ≤ o ∧ o ≤ 2) (hS : FB 99 S) : FI (sBk (sNw σ o S) b (zn σ)) := by
  obtain ⟨h1, h2, h3, h4, h5, h6, h7⟩ := FI_nw h hc ho hS
  refine ⟨h1, h2, h3, fun i c => ?_, h5, h6, h7⟩
  show iu (zbk σ) b (zn σ) i ≠ zsh σ c
  unfold iu
  split
  · exact (Nat.ne_of_lt (hc.2.2.1 c)).symm
  · exact h4 i c
theorem FI_ns {o b B : Int} {S : RS} (h : FI σ) (hc : CI B σ) (ho : 0 ≤ o ∧ o ≤ 2) (hS : FB 0 S) : FI (sSh (sNw σ o S) b (zn σ)) := by
  obtain ⟨h1, h2, h3, h4, h5, h6, h7⟩ := FI_nw h hc ho (hS.up (by omega))
  have e0 : zst (sNw σ o S) (zn σ) = S := va_up_self _ _ _
  refine ⟨h1, h2, fun i => ?_, fun i c => ?_, fun i c => ?_, fun j c hj => ?_, h7⟩
  · show FB 0 (zst (sNw σ o S) (iu (zsh σ) b (zn σ) i))
    unfold iu
    split
    · rw [e0]; exact hS
    · exact h3 i
  · show zbk σ i ≠ iu (zsh σ) b (zn σ) c
    unfold iu
    split
    · exact Nat.ne_of_lt (hc.2.1 i)
    · exact h4 i c
  · show zvw σ i ≠ iu (zsh σ) b (zn σ) c
    unfold iu
    split
    · exact Nat.ne_of_lt (hc.2.2.2.1 i)
    · exact h5 i c
  · show j ≠ iu (zsh σ) b (zn σ) c
    unfold iu
    split
    · exact Nat.ne_of_lt (hc.2.2.2.2.1 j hj)
    · exact h6 j c hj
theorem FI_vw {v lo hi : Int} {i : Nat} (h : FI σ) (hi9 : ∀ c, i ≠ zsh σ c) : FI (sVw σ v i lo hi) := by
  obtain ⟨h1, h2, h3, h4, h5, h6, h7⟩ := h
  refine ⟨h1, h2, h3, h4, fun k c => ?_, h6, h7⟩
  show iu (zvw σ) v i k ≠ zsh σ c
  unfold iu
  split
  · exact hi9 c
  · exact h5 k c
theorem FI_wk {j : Nat} {c l z : Int} (h : FI σ) (hs : ∀ c, j ≠ zsh σ c) (hc : c ≤ (zst σ j).2.1) (ht : z ≠ 0 → (zst σ j).2.1 = c ∧ isT (zst σ j).2.2 l ≠ 0) : FI (sWk σ (some j) c l z) := by
  obtain ⟨h1, h2, h3, h4, h5, h6, h7⟩ := h
  refine ⟨h1, h2, h3, h4, h5, fun k q e => ?_, fun k e => ?_⟩
  · cases e; exact hs q
  · cases e; exact ⟨hc, ht⟩
theorem FI_rt {j : Nat} {S : RS} {l : Int} (h : FI σ) (hw : zwk σ = some j) (hS : FB 99 S) : FI (sWk (sSt (inc0 σ) j S) (some j) S.2.1 l 0) := by
  obtain ⟨h1, h2, h3, h4, h5, h6, h7⟩ := h
  have hs := fun c => h6 j c hw
  refine ⟨fun k => ?_, h2, fun b => ?_, h4, h5, fun k c e => ?_, fun k e => ?_⟩
  · show FB 99 (va_up (zst σ) j S k)
    by_cases e : k = j
    · rw [e, va_up_self]; exact hS
    · rw [va_up_ne _ _ e]; exact h1 k
  · show FB 0 (va_up (zst σ) j S (zsh σ b))
    rw [va_up_ne _ _ (fun e => hs b e.symm)]
    exact h3 b
  · cases e; exact hs c
  · cases e
    refine ⟨?_, fun z => absurd rfl z⟩
    show S.2.1 ≤ (va_up (zst σ) j S j).2.1
    rw [va_up_self]
    exact Int.le_refl _
theorem rt_eq {j : Nat} : rtS (inc0 σ) j = sWk (sSt (inc0 σ) j (goS (zst σ j) (zwl σ))) (some j) (goS (zst σ j) (zwl σ)).2.1 (zwl σ) 0 := rfl
theorem FI_kor {n : Int} (h : FI σ) : FI (kor σ n) := by
  unfold kor
  split
  · exact h
  · exact h
theorem FI_init : FI kS_init := by
  refine ⟨fun i => FB_R0 (by omega), fun i => ?_, fun b => FB_R0 (by omega), fun b c => ?_, fun b c => ?_, fun j c e => (nomatch e), fun j e => (nomatch e)⟩
  · show (0 : Int) ≤ 0 ∧ (0 : Int) ≤ 2
    omega
  · show (if b = 1 then 1 else if b = 2 then 2 else if b = 3 then 3 else 0) ≠ (if c = 1 then 5 else if c = 2 then 6 else 4)
    (repeat' split) <;> omega
  · show (if b = 1 then 1 else 0) ≠ (if c = 1 then 5 else if c = 2 then 6 else 4)
    (repeat' split) <;> omega
end FIS
theorem m_init : jS_init = mof kS_init 0 := by
  refine m_of (σ := kS_init) rfl rfl (fun i => rfl) rfl rfl rfl rfl rfl rfl rfl rfl rfl (fun i => ?_) rfl
  show 0 = if i = 0 then 0 else if i = 1 then 0 else if i = 2 then 0 else if i = 3 then (0 : Int) else 0
  (repeat' split) <;> rfl
