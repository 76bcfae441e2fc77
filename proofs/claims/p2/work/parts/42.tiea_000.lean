-- the tie: the reference's state, told by the class's
def mbr (σ : CS) : Int := match zwk σ with | none => 0 | some j => if (zst σ j).2.1 = zwc σ then 0 else 1
def mtd (σ : CS) : Int := match zwk σ with | none => -1 | some j => if zwt σ = 0 then -1 else keyR (zod σ j) (zwl σ)
def mbh (σ : CS) : Int := match zwk σ with | none => 0 | some _ => zwl σ + 1
def mct (σ : CS) : Int → Int := fun i => if i = 0 then z0 σ else if i = 1 then z1 σ else if i = 2 then z2 σ else if i = 3 then z3 σ else 0
def mof (σ : CS) (t : Int) : MS := (zn σ, zod σ, fun i => (zst σ i).2.2, zbk σ, zsh σ, zvw σ, zvl σ, zvh σ, zwk σ, mbr σ, mtd σ, mbh σ, mct σ, t)
theorem mbr_n {σ : CS} (h : zwk σ = none) : mbr σ = 0 := by unfold mbr; rw [h]
theorem mbr_s {σ : CS} {j : Nat} (h : zwk σ = some j) : mbr σ = if (zst σ j).2.1 = zwc σ then 0 else 1 := by unfold mbr; rw [h]
theorem mtd_n {σ : CS} (h : zwk σ = none) : mtd σ = -1 := by unfold mtd; rw [h]
theorem mtd_s {σ : CS} {j : Nat} (h : zwk σ = some j) : mtd σ = if zwt σ = 0 then -1 else keyR (zod σ j) (zwl σ) := by unfold mtd; rw [h]
theorem mbh_n {σ : CS} (h : zwk σ = none) : mbh σ = 0 := by unfold mbh; rw [h]
theorem mbh_s {σ : CS} {j : Nat} (h : zwk σ = some j) : mbh σ = zwl σ + 1 := by unfold mbh; rw [h]
theorem CS_ext {a b : CS} (h0 : zn a = zn b) (h1 : zod a = zod b) (h2 : zst a = zst b) (h3 : zbk a = zbk b) (h4 : zsh a = zsh b) (h5 : zvw a = zvw b) (h6 : zvl a = zvl b) (h7 : zvh a = zvh b) (h8 : zwk a = zwk b) (h9 : zwc a = zwc b) (h10 : zwl a = zwl b) (h11 : zwt a = zwt b) (h12 : z0 a = z0 b) (h13 : z1 a = z1 b) (h14 : z2 a = z2 b) (h15 : z3 a = z3 b) : a = b := by
  show (zn a, zod a, zst a, zbk a, zsh a, zvw a, zvl a, zvh a, zwk a, zwc a, zwl a, zwt a, z0 a, z1 a, z2 a, z3 a) = b
  rw [h0, h1, h2, h3, h4, h5, h6, h7, h8, h9, h10, h11, h12, h13, h14, h15]
  rfl
section WLE
variable {σ : CS}
theorem w1 {i : Nat} {S : RS} : inc0 (sSt (fgt σ i) i S) = sSt (wrt σ i) i S := CS_ext (Eq.trans (b := zn σ) rfl rfl) (Eq.trans (b := zod σ) rfl rfl) (Eq.trans (b := va_up (zst σ) i S) rfl rfl) (Eq.trans (b := zbk σ) rfl rfl) (Eq.trans (b := zsh σ) rfl rfl) (Eq.trans (b := zvw σ) rfl rfl) (Eq.trans (b := zvl σ) rfl rfl) (Eq.trans (b := zvh σ) rfl rfl) (Eq.trans (b := zwk σ) rfl rfl) (Eq.trans (b := zwc σ) rfl rfl) (Eq.trans (b := zwl σ) rfl rfl) (Eq.trans (b := if zwk σ = some i then 0 else zwt σ) rfl rfl) (Eq.trans (b := z0 σ + 1) rfl rfl) (Eq.trans (b := z1 σ) rfl rfl) (Eq.trans (b := z2 σ) rfl rfl) (Eq.trans (b := z3 σ) rfl rfl)
theorem w2 {i : Nat} : inc0 (fgt σ i) = wrt σ i := CS_ext (Eq.trans (b := zn σ) rfl rfl) (Eq.trans (b := zod σ) rfl rfl) (Eq.trans (b := zst σ) rfl rfl) (Eq.trans (b := zbk σ) rfl rfl) (Eq.trans (b := zsh σ) rfl rfl) (Eq.trans (b := zvw σ) rfl rfl) (Eq.trans (b := zvl σ) rfl rfl) (Eq.trans (b := zvh σ) rfl rfl) (Eq.trans (b := zwk σ) rfl rfl) (Eq.trans (b := zwc σ) rfl rfl) (Eq.trans (b := zwl σ) rfl rfl) (Eq.trans (b := if zwk σ = some i then 0 else zwt σ) rfl rfl) (Eq.trans (b := z0 σ + 1) rfl rfl) (Eq.trans (b := z1 σ) rfl rfl) (Eq.trans (b := z2 σ) rfl rfl) (Eq.trans (b := z3 σ) rfl rfl)
theorem w3 {o b : Int} {i : Nat} {S : RS} : inc0 (sBk (sNw σ o S) b i) = sBk (sNw (inc0 σ) o S) b i := CS_ext (Eq.trans (b := zn σ + 1) rfl rfl) (Eq.trans (b := va_up (zod σ) (zn σ) o) rfl rfl) (Eq.trans (b := va_up (zst σ) (zn σ) S) rfl rfl) (Eq.trans (b := iu (zbk σ) b i) rfl rfl) (Eq.trans (b := zsh σ) rfl rfl) (Eq.trans (b := zvw σ) rfl rfl) (Eq.trans (b := zvl σ) rfl rfl) (Eq.trans (b := zvh σ) rfl rfl) (Eq.trans (b := zwk σ) rfl rfl) (Eq.trans (b := zwc σ) rfl rfl) (Eq.trans (b := zwl σ) rfl rfl) (Eq.trans (b := zwt σ) rfl rfl) (Eq.trans (b := z0 σ + 1) rfl rfl) (Eq.trans (b := z1 σ) rfl rfl) (Eq.trans (b := z2 σ) rfl rfl) (Eq.trans (b := z3 σ) rfl rfl)
theorem w4 {o b : Int} {i : Nat} {S : RS} : inc1 (sSh (sNw σ o S) b i) = sSh (sNw (inc1 σ) o S) b i := CS_ext (Eq.trans (b := zn σ + 1) rfl rfl) (Eq.trans (b := va_up (zod σ) (zn σ) o) rfl rfl) (Eq.trans (b := va_up (zst σ) (zn σ) S) rfl rfl) (Eq.trans (b := zbk σ) rfl rfl) (Eq.trans (b := iu (zsh σ) b i) rfl rfl) (Eq.trans (b := zvw σ) rfl rfl) (Eq.trans (b := zvl σ) rfl rfl) (Eq.trans (b := zvh σ) rfl rfl) (Eq.trans (b := zwk σ) rfl rfl) (Eq.trans (b := zwc σ) rfl rfl) (Eq.trans (b := zwl σ) rfl rfl) (Eq.trans (b := zwt σ) rfl rfl) (Eq.trans (b := z0 σ) rfl rfl) (Eq.trans (b := z1 σ + 1) rfl rfl) (Eq.trans (b := z2 σ) rfl rfl) (Eq.trans (b := z3 σ) rfl rfl)
theorem w5 {i : Nat} {S : RS} : inc1 (sSt σ i S) = sSt (inc1 σ) i S := CS_ext (Eq.trans (b := zn σ) rfl rfl) (Eq.trans (b := zod σ) rfl rfl) (Eq.trans (b := va_up (zst σ) i S) rfl rfl) (Eq.trans (b := zbk σ) rfl rfl) (Eq.trans (b := zsh σ) rfl rfl) (Eq.trans (b := zvw σ) rfl rfl) (Eq.trans (b := zvl σ) rfl rfl) (Eq.trans (b := zvh σ) rfl rfl) (Eq.trans (b := zwk σ) rfl rfl) (Eq.trans (b := zwc σ) rfl rfl) (Eq.trans (b := zwl σ) rfl rfl) (Eq.trans (b := zwt σ) rfl rfl) (Eq.trans (b := z0 σ) rfl rfl) (Eq.trans (b := z1 σ + 1) rfl rfl) (Eq.trans (b := z2 σ) rfl rfl) (Eq.trans (b := z3 σ) rfl rfl)
theorem w6 {o b : Int} {i n : Nat} {S S2 : RS} : inc0 (sSt (fgt (sBk (sNw σ o S2) b n) i) i S) = sSt (sBk (sNw (wrt σ i) o S2) b n) i S := CS_ext (Eq.trans (b := zn σ + 1) rfl rfl) (Eq.trans (b := va_up (zod σ) (zn σ) o) rfl rfl) (Eq.trans (b := va_up (va_up (zst σ) (zn σ) S2) i S) rfl rfl) (Eq.trans (b := iu (zbk σ) b n) rfl rfl) (Eq.trans (b := zsh σ) rfl rfl) (Eq.trans (b := zvw σ) rfl rfl) (Eq.trans (b := zvl σ) rfl rfl) (Eq.trans (b := zvh σ) rfl rfl) (Eq.trans (b := zwk σ) rfl rfl) (Eq.trans (b := zwc σ) rfl rfl) (Eq.trans (b := zwl σ) rfl rfl) (Eq.trans (b := if zwk σ = some i then 0 else zwt σ) rfl rfl) (Eq.trans (b := z0 σ + 1) rfl rfl) (Eq.trans (b := z1 σ) rfl rfl) (Eq.trans (b := z2 σ) rfl rfl) (Eq.trans (b := z3 σ) rfl rfl)
theorem w7 {i : Nat} {S : RS} : inc0 (sSt σ i S) = sSt (inc0 σ) i S := CS_ext (Eq.trans (b := zn σ) rfl rfl) (Eq.trans (b := zod σ) rfl rfl) (Eq.trans (b := va_up (zst σ) i S) rfl rfl) (Eq.trans (b := zbk σ) rfl rfl) (Eq.trans (b := zsh σ) rfl rfl) (Eq.trans (b := zvw σ) rfl rfl) (Eq.trans (b := zvl σ) rfl rfl) (Eq.trans (b := zvh σ) rfl rfl) (Eq.trans (b := zwk σ) rfl rfl) (Eq.trans (b := zwc σ) rfl rfl) (Eq.trans (b := zwl σ) rfl rfl) (Eq.trans (b := zwt σ) rfl rfl) (Eq.trans (b := z0 σ + 1) rfl rfl) (Eq.trans (b := z1 σ) rfl rfl) (Eq.trans (b := z2 σ) rfl rfl) (Eq.trans (b := z3 σ) rfl rfl)
theorem w8 {j : Nat} {S : RS} {w : Option Nat} {c l z : Int} : inc0 (sWk (sSt σ j S) w c l z) = sWk (sSt (inc0 σ) j S) w c l z := CS_ext (Eq.trans (b := zn σ) rfl rfl) (Eq.trans (b := zod σ) rfl rfl) (Eq.trans (b := va_up (zst σ) j S) rfl rfl) (Eq.trans (b := zbk σ) rfl rfl) (Eq.trans (b := zsh σ) rfl rfl) (Eq.trans (b := zvw σ) rfl rfl) (Eq.trans (b := zvl σ) rfl rfl) (Eq.trans (b := zvh σ) rfl rfl) (Eq.trans (b := w) rfl rfl) (Eq.trans (b := c) rfl rfl) (Eq.trans (b := l) rfl rfl) (Eq.trans (b := z) rfl rfl) (Eq.trans (b := z0 σ + 1) rfl rfl) (Eq.trans (b := z1 σ) rfl rfl) (Eq.trans (b := z2 σ) rfl rfl) (Eq.trans (b := z3 σ) rfl rfl)
theorem up_up {f : Nat → RS} {i : Nat} {a b : RS} : va_up (va_up f i a) i b = va_up f i b := by
  funext k
  by_cases h : k = i
  · rw [h, va_up_self, va_up_self]
  · rw [va_up_ne _ _ h, va_up_ne _ _ h, va_up_ne _ _ h]
theorem sSt_nw {o b : Int} {S S0 : RS} : sSt (sSh (sNw σ o S0) b (zn σ)) (zn σ) S = sSh (sNw σ o S) b (zn σ) := CS_ext (Eq.trans (b := zn σ + 1) rfl rfl) (Eq.trans (b := va_up (zod σ) (zn σ) o) rfl rfl) ((show zst (sSt (sSh (sNw σ o S0) b (zn σ)) (zn σ) S) = va_up (va_up (zst σ) (zn σ) S0) (zn σ) S from rfl).trans (up_up.trans (show va_up (zst σ) (zn σ) S = zst (sSh (sNw σ o S) b (zn σ)) from rfl))) (Eq.trans (b := zbk σ) rfl rfl) (Eq.trans (b := iu (zsh σ) b (zn σ)) rfl rfl) (Eq.trans (b := zvw σ) rfl rfl) (Eq.trans (b := zvl σ) rfl rfl) (Eq.trans (b := zvh σ) rfl rfl) (Eq.trans (b := zwk σ) rfl rfl) (Eq.trans (b := zwc σ) rfl rfl) (Eq.trans (b := zwl σ) rfl rfl) (Eq.trans (b := zwt σ) rfl rfl) (Eq.trans (b := z0 σ) rfl rfl) (Eq.trans (b := z1 σ) rfl rfl) (Eq.trans (b := z2 σ) rfl rfl) (Eq.trans (b := z3 σ) rfl rfl)
end WLE
section TIE
variable {σ : CS} {t : Int}
theorem m_vn : vn (mof σ t) = zn σ := rfl
theorem m_vod : vod (mof σ t) = zod σ := rfl
theorem m_vst (i : Nat) : vst (mof σ t) i = (zst σ i).2.2 := rfl
theorem m_vbk : vbk (mof σ t) = zbk σ := rfl
theorem m_vsh : vsh (mof σ t) = zsh σ := rfl
theorem m_vvw : vvw (mof σ t) = zvw σ := rfl
theorem m_vvl : vvl (mof σ t) = zvl σ := rfl
theorem m_vvh : vvh (mof σ t) = zvh σ := rfl
theorem m_vwk : vwk (mof σ t) = zwk σ := rfl
theorem m_vbr : vbr (mof σ t) = mbr σ := rfl
theorem m_vtd : vtd (mof σ t) = mtd σ := rfl
theorem m_vbh : vbh (mof σ t) = mbh σ := rfl
theorem m_vct : vct (mof σ t) = mct σ := rfl
theorem m_vth : vth (mof σ t) = t := rfl
theorem m_of {σ σ1 : CS} {t : Int} {a : MS} (h1 : vn a = zn σ1) (h2 : vod a = zod σ1) (h3 : ∀ i, vst a i = (zst σ1 i).2.2) (h4 : vbk a = zbk σ1) (h5 : vsh a = zsh σ1) (h6 : vvw a = zvw σ1) (h7 : vvl a = zvl σ1) (h8 : vvh a = zvh σ1) (h9 : vwk a = zwk σ1) (h10 : vbr a = mbr σ1) (h11 : vtd a = mtd σ1) (h12 : vbh a = mbh σ1) (h13 : ∀ i, vct a i = mct σ1 i) (h14 : vth a = t) : a = mof σ1 t := by
  have e3 : vst a = fun i => (zst σ1 i).2.2 := funext h3
  have e13 : vct a = mct σ1 := funext h13
  show (vn a, vod a, vst a, vbk a, vsh a, vvw a, vvl a, vvh a, vwk a, vbr a, vtd a, vbh a, vct a, vth a) = mof σ1 t
  rw [h1, h2, e3, h4, h5, h6, h7, h8, h9, h10, h11, h12, e13, h14]
  rfl
theorem fgt_z {i : Nat} : zst (fgt σ i) = zst σ := rfl
theorem m_th {k : Int} : tTh (mof σ t) k = mof σ k := rfl
theorem mct_0 : iu (mct σ) 0 (mct σ 0 + 1) = mct (inc0 σ) := by
  funext i
  unfold iu
  by_cases h : i = 0
  · rw [if_pos h, h]; rfl
  · rw [if_neg h]
    show mct σ i = if i = 0 then z0 σ + 1 else if i = 1 then z1 σ else if i = 2 then z2 σ else if i = 3 then z3 σ else 0
    unfold mct
    rw [if_neg h, if_neg h]
end TIE
