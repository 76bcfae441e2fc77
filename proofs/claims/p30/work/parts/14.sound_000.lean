theorem sumF_01 (u : Int → Int) (hu : ∀ r, 0 ≤ u r ∧ u r ≤ 1) : ∀ (n : Nat) (a : Int), 0 ≤ sumF u a n ∧ sumF u a n ≤ n := by
  intro n
  induction n with
  | zero => intro a; unfold sumF; omega
  | succ n ih =>
    intro a
    unfold sumF
    have := ih (a + 1)
    have := hu a
    omega
theorem cntP_b (f : Int → Int) {lo hi : Int} (h1 : -900 ≤ lo) (h2 : hi ≤ 900) : 0 ≤ cntP f lo hi ∧ cntP f lo hi ≤ 1801 := by
  have := sumF_01 (isT f) (fun r => isT_b f r) (hi + 1 - lo).toNat lo
  unfold cntP sumP
  omega
/-- isRowSound -/
def rsnd (o k : Int) (f : Int → Int) : Int := if inOrd o f 0 99 k = 0 then 0 else if bwOrd o f k = 0 then 0 else if nbP o f 0 (-1) = 0 then 0 else sameR o o f (addS o o f 0 99 (0, 0, emp)).2.2
theorem rsnd_b (o k : Int) (f : Int → Int) : 0 ≤ rsnd o k f ∧ rsnd o k f ≤ 1 := by
  have := sameR_b o o f (addS o o f 0 99 (0, 0, emp)).2.2
  unfold rsnd
  (repeat' split) <;> omega
/-- isRowSound of the row i -/
def rS (σ : CS) (i : Nat) : Int := rsnd (zod σ i) (zst σ i).1 (zst σ i).2.2
theorem rS_b (σ : CS) (i : Nat) : 0 ≤ rS σ i ∧ rS σ i ≤ 1 := rsnd_b _ _ _
/-- isViewSound -/
def vS (σ : CS) (v : Int) : Int := if cntP (zst σ (zvw σ v)).2.2 (zvl σ v) (zvh σ v) ≤ (zst σ (zvw σ v)).1 then inOrd (zod σ (zvw σ v)) (zst σ (zvw σ v)).2.2 (zvl σ v) (zvh σ v) (cntP (zst σ (zvw σ v)).2.2 (zvl σ v) (zvh σ v)) else 0
theorem vS_b (σ : CS) (v : Int) : 0 ≤ vS σ v ∧ vS σ v ≤ 1 := by
  have := inOrd_b (zod σ (zvw σ v)) (zst σ (zvw σ v)).2.2 (zvl σ v) (zvh σ v) (cntP (zst σ (zvw σ v)).2.2 (zvl σ v) (zvh σ v))
  unfold vS
  split <;> omega
def kR_isSound (σ : CS) : Int := if rS σ (zbk σ 0) = 0 then 0 else if rS σ (zbk σ 1) = 0 then 0 else if rS σ (zbk σ 2) = 0 then 0 else if rS σ (zbk σ 3) = 0 then 0 else if rS σ (zsh σ 0) = 0 then 0 else if rS σ (zsh σ 1) = 0 then 0 else if rS σ (zsh σ 2) = 0 then 0 else if vS σ 0 = 0 then 0 else if vS σ 1 = 0 then 0 else 1
theorem kR_isSound_b (σ : CS) : 0 ≤ kR_isSound σ ∧ kR_isSound σ ≤ 1 := by
  unfold kR_isSound
  (repeat' split) <;> omega
def mxd (s : Int64) (n : Int) : Int64 := s * 31 + (iI n).toInt64
/-- u r of every rank r that is there -/
def mxF (u f : Int → Int) : Nat → Int → Int64 → Int64
  | 0, _, s => s
  | n + 1, r, s => if isT f r ≠ 0 then mxF u f n (r + 1) (mxd s (u r)) else mxF u f n (r + 1) s
def mxP (u f : Int → Int) (r : Int) (s : Int64) : Int64 := mxF u f (100 - r).toNat r s
theorem mxP_u {u f : Int → Int} {r : Int} {s : Int64} (h : r < 100) : mxP u f r s = if isT f r ≠ 0 then mxP u f (r + 1) (mxd s (u r)) else mxP u f (r + 1) s := by
  unfold mxP
  rw [show (100 - r).toNat = (100 - (r + 1)).toNat + 1 by omega, mxF]
theorem mxP_e {u f : Int → Int} {r : Int} {s : Int64} (h : 100 ≤ r) : mxP u f r s = s := by
  unfold mxP
  rw [show (100 - r).toNat = 0 by omega, mxF]
def dgB (o k : Int) (f : Int → Int) (s : Int64) : Int64 := mxP (pairR o f) f 0 (mxd (mxd (mxd s (bfact o k f 0)) (bfact o k f 1)) (bfact o k f 2))
def dgS (o k : Int) (f : Int → Int) (s : Int64) : Int64 := mxP (keyR o) f 0 (mxd (mxd (mxd s (sfact o k f 0)) (sfact o k f 1)) (sfact o k f 2))
def dgV (σ : CS) (v : Int) (s : Int64) : Int64 := mxd (mxd (mxd (mxd s (cntP (zst σ (zvw σ v)).2.2 (zvl σ v) (zvh σ v))) (keyR (zod σ (zvw σ v)) (endP (zst σ (zvw σ v)).2.2 (zvl σ v) (zvh σ v) 0))) (keyR (zod σ (zvw σ v)) (endP (zst σ (zvw σ v)).2.2 (zvl σ v) (zvh σ v) 1))) (worP (zst σ (zvw σ v)).2.2 (zvl σ v) (zvh σ v))
def dgBk (σ : CS) (i : Nat) (s : Int64) : Int64 := dgB (zod σ i) (zst σ i).1 (zst σ i).2.2 s
def dgSh (σ : CS) (i : Nat) (s : Int64) : Int64 := dgS (zod σ i) (zst σ i).1 (zst σ i).2.2 s
def dgA (σ : CS) (a b : Int) : Int64 := mxd (mxd (mxd (mxd (dgSh σ (zsh σ 2) (dgSh σ (zsh σ 1) (dgSh σ (zsh σ 0) (mxd (mxd (dgV σ 1 (dgV σ 0 (dgBk σ (zbk σ 3) (dgBk σ (zbk σ 2) (dgBk σ (zbk σ 1) (dgBk σ (zbk σ 0) 17706)))))) a) b)))) (hfact σ 0)) (hfact σ 1)) (hfact σ 2)) (hfact σ 3)
def kR_digest0 (σ : CS) : Int64 := mxd (dgA σ 0 (-1)) (kR_isSound σ)
def kR_digest1 (σ : CS) (j : Nat) : Int64 := mxd (dgA σ (goI σ j) (if zwt σ = 0 then -1 else keyR (zod σ j) (zwl σ))) (kR_isSound σ)
/-- a picture stays where cells are made -/
theorem CP_mono {y : Nat → ClassId} {L L1 : List Nat} {F F1 : Nat → va_E} {O : Nat → Prop} {G : CG} {σ : CS} (h : CP y L F O G σ) (hL : ∀ a ∈ L, a ∈ L1) (hf : ∀ a ∈ L, F1 a = F a) : CP y L1 F1 O G σ := by
  obtain ⟨h1, h2, h3, h4, h5, h6, h7, h8⟩ := h
  exact ⟨⟨hL _ h1.1, (hf _ h1.1).trans h1.2⟩, ⟨hL _ h2.1, (hf _ h2.1).trans h2.2⟩, ⟨hL _ h3.1, (hf _ h3.1).trans h3.2⟩, ⟨hL _ h4.1, (hf _ h4.1).trans h4.2⟩, fun i a b => ⟨hL _ (h5 i a b).1, (hf _ (h5 i a b).1).trans (h5 i a b).2⟩, ⟨hL _ h6.1, (hf _ h6.1).trans h6.2⟩, fun i hi => Rw_mono (h7 i hi) hL hf, h8⟩
