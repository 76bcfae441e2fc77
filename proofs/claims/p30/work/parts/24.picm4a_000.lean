abbrev shF (μ : MS) (b : Int) : Int → Int := vst μ (vsh μ b)
abbrev shO (μ : MS) (b : Int) : Int := vod μ (vsh μ b)
theorem va_up_id {α : Type} (f : Nat → α) (k : Nat) : va_up f k (f k) = f := by
  funext j
  by_cases h : j = k
  · subst h
    rw [va_up_self]
  · rw [va_up_ne _ _ h]
theorem MP_rx {y : Nat → ClassId} {L : List Nat} {F : Nat → va_E} {O : Nat → Prop} {G : MG} {μ : MS} (h : MP y L F O G μ) {i : Nat} {o : Int} {f : Int → Int} (hi : i < vn μ) (ho : vod μ i = o) (hf : vst μ i = f) : MB y L F (urh G i) (urw G i) o f := by
  have r := MP_r h hi
  rw [ho, hf] at r
  exact r
/-- a row's words and the walk's break, changed -/
def tM (μ : MS) (i : Nat) (g : Int → Int) (b : Int) : MS := tOb (tRw μ i g) (vwk μ) b (vtd μ) (vbh μ) (vth μ)
theorem tM_0 (μ : MS) (i : Nat) : μ = tM μ i (vst μ i) (vbr μ) := by
  show μ = (vn μ, vod μ, va_up (vst μ) i (vst μ i), vbk μ, vsh μ, vvw μ, vvl μ, vvh μ, vwk μ, vbr μ, vtd μ, vbh μ, vct μ, vth μ)
  rw [va_up_id]
  rfl
theorem tM_st (μ : MS) (i : Nat) (g : Int → Int) (b : Int) : vst (tM μ i g b) i = g := va_up_self _ _ _
def seB (k : Option Nat) (i : Nat) (g : Int → Int) (r w b : Int) : Int := if seC g r w = 1 ∧ k = some i then 1 else b
theorem tSe_tM (μ : MS) (i : Nat) (g : Int → Int) (b r w : Int) : tSe (tM μ i g b) i r w = tM μ i (iu g r w) (seB (vwk μ) i g r w b) := by
  unfold tSe
  rw [tM_st]
  have e : va_up (vst (tM μ i g b)) i (iu g r w) = va_up (vst μ) i (iu g r w) := va_up_up _ _ _ _
  show (vn μ, vod μ, va_up (vst (tM μ i g b)) i (iu g r w), vbk μ, vsh μ, vvw μ, vvl μ, vvh μ, vwk μ, (if seC g r w = 1 ∧ vwk μ = some i then 1 else b), vtd μ, vbh μ, vct μ, vth μ) = _
  rw [e]
  rfl
abbrev SX : Type := (Int → Int) × Int × Int
/-- one set of a loop: the words, the break, how many came or went -/
def sX (k : Option Nat) (i : Nat) (r w : Int) (x : SX) : SX := (iu x.1 r w, seB k i x.1 r w x.2.1, x.2.2 + seC x.1 r w)
def tX (μ : MS) (i : Nat) (x : SX) : MS := tM μ i x.1 x.2.1
def jS_put (μ : MS) (b k w t : Int) : MS := if (0 ≤ b ∧ b ≤ 3) then (if (0 ≤ k ∧ k ≤ 99) ∧ (0 ≤ w ∧ w ≤ 99) ∧ (0 ≤ t ∧ t ≤ 2) then cgS (tTh μ 0) (vbk μ b) (turn (vod μ (vbk μ b)) k) (if t = 0 ∨ (t = 2 ∧ isT (vst μ (vbk μ b)) (turn (vod μ (vbk μ b)) k) ≠ 0) ∨ (t = 1 ∧ isT (vst μ (vbk μ b)) (turn (vod μ (vbk μ b)) k) = 0) then 1 else 0) w else tTh μ 2) else tTh μ 1
def jR_put (μ : MS) (b k w t : Int) : Int := if ((0 ≤ b ∧ b ≤ 3)) ∧ (0 ≤ k ∧ k ≤ 99) ∧ (0 ≤ w ∧ w ≤ 99) ∧ (0 ≤ t ∧ t ≤ 2) then (vst μ (vbk μ b)) (turn (vod μ (vbk μ b)) k) else 0
def jS_viewPut (μ : MS) (v k w : Int) : MS := if (0 ≤ v ∧ v ≤ 1) then (if (0 ≤ k ∧ k ≤ 99) ∧ (0 ≤ w ∧ w ≤ 99) then (if (vvl μ v ≤ turn (vod μ (vvw μ v)) k ∧ turn (vod μ (vvw μ v)) k ≤ vvh μ v) then cgS (tTh μ 0) (vvw μ v) (turn (vod μ (vvw μ v)) k) 1 w else tDi (tTh μ 0) 2) else tTh μ 2) else tTh μ 1
def jR_viewPut (μ : MS) (v k w : Int) : Int := if ((0 ≤ v ∧ v ≤ 1)) ∧ (0 ≤ k ∧ k ≤ 99) ∧ (0 ≤ w ∧ w ≤ 99) then (if (vvl μ v ≤ turn (vod μ (vvw μ v)) k ∧ turn (vod μ (vvw μ v)) k ≤ vvh μ v) then (vst μ (vvw μ v)) (turn (vod μ (vvw μ v)) k) else -9) else 0
def jS_viewTake (μ : MS) (v k : Int) : MS := if (0 ≤ v ∧ v ≤ 1) then (if (0 ≤ k ∧ k ≤ 99) then cgS (tTh μ 0) (vvw μ v) (turn (vod μ (vvw μ v)) k) (inR (turn (vod μ (vvw μ v)) k) (vvl μ v) (vvh μ v)) (-1) else tTh μ 2) else tTh μ 1
def jR_viewTake (μ : MS) (v k : Int) : Int := if ((0 ≤ v ∧ v ≤ 1)) ∧ (0 ≤ k ∧ k ≤ 99) then (if inR (turn (vod μ (vvw μ v)) k) (vvl μ v) (vvh μ v) ≠ 0 then (vst μ (vvw μ v)) (turn (vod μ (vvw μ v)) k) else -1) else 0
def jS_shelfNear (μ : MS) (b k t : Int) : MS := if (0 ≤ b ∧ b ≤ 2) then (if (0 ≤ k ∧ k ≤ 99) ∧ (0 ≤ t ∧ t ≤ 4) then (tTh μ 0) else tTh μ 2) else tTh μ 1
def jR_shelfNear (μ : MS) (b k t : Int) : Int := if ((0 ≤ b ∧ b ≤ 2)) ∧ (0 ≤ k ∧ k ≤ 99) ∧ (0 ≤ t ∧ t ≤ 4) then keyR (vod μ (vsh μ b)) (nearP (vod μ (vsh μ b)) (vst μ (vsh μ b)) 0 99 k t) else 0
def jS_shelfTell (μ : MS) (b t : Int) : MS := if (0 ≤ b ∧ b ≤ 2) then (if (0 ≤ t ∧ t ≤ 4) then (if 3 ≤ t ∧ endP (vst μ (vsh μ b)) 0 99 (if t = 3 then 0 else 1) = -1 then tDi (tTh μ 0) 2 else (tTh μ 0)) else tTh μ 2) else tTh μ 1
def jR_shelfTell (μ : MS) (b t : Int) : Int := if ((0 ≤ b ∧ b ≤ 2)) ∧ (0 ≤ t ∧ t ≤ 4) then (if t = 0 then cntP (vst μ (vsh μ b)) 0 99 else if t = 1 then (vod μ (vsh μ b)) else if t = 2 then sumM (vod μ (vsh μ b)) (vst μ (vsh μ b)) else if endP (vst μ (vsh μ b)) 0 99 (if t = 3 then 0 else 1) = -1 then -9 else keyR (vod μ (vsh μ b)) (endP (vst μ (vsh μ b)) 0 99 (if t = 3 then 0 else 1))) else 0
def jS_viewTell (μ : MS) (v t : Int) : MS := if (0 ≤ v ∧ v ≤ 1) then (if (0 ≤ t ∧ t ≤ 3) then (if (t = 1 ∨ t = 2) ∧ endP (vst μ (vvw μ v)) (vvl μ v) (vvh μ v) (if t = 1 then 0 else 1) = -1 then tDi (tTh μ 0) 2 else (tTh μ 0)) else tTh μ 2) else tTh μ 1
def jR_viewTell (μ : MS) (v t : Int) : Int := if ((0 ≤ v ∧ v ≤ 1)) ∧ (0 ≤ t ∧ t ≤ 3) then (if t = 0 then cntP (vst μ (vvw μ v)) (vvl μ v) (vvh μ v) else if t = 3 then sumP (wmU (vst μ (vvw μ v))) (vvl μ v) (vvh μ v) else if endP (vst μ (vvw μ v)) (vvl μ v) (vvh μ v) (if t = 1 then 0 else 1) = -1 then -9 else keyR (vod μ (vvw μ v)) (endP (vst μ (vvw μ v)) (vvl μ v) (vvh μ v) (if t = 1 then 0 else 1))) else 0
theorem ltR_d (p g : Int) : (ltR p g = 1 ∧ p = 0) ∨ (ltR p g = 2 ∧ p ≠ 0 ∧ g = 0) ∨ (ltR p g = 0 ∧ p ≠ 0 ∧ g ≠ 0) := by
  unfold ltR
  by_cases hp : p = 0
  · rw [if_pos hp]
    omega
  · rw [if_neg hp]
    by_cases hg : g = 0
    · rw [if_pos hg]
      omega
    · rw [if_neg hg]
      omega
def moLo (o kind low ends : Int) : Int := if kind = 0 then 0 else turn o low + 1 - ends % 2
def moHi (o kind high ends : Int) : Int := if kind = 1 then 99 else turn o high - 1 + ends / 2
def jS_openView (μ : MS) (v b kind low high ends : Int) : MS := if (0 ≤ v ∧ v ≤ 1) ∧ (0 ≤ b ∧ b ≤ 3) then (if (0 ≤ kind ∧ kind ≤ 2) ∧ (0 ≤ low ∧ low ≤ 99) ∧ (0 ≤ high ∧ high ≤ 99) ∧ (0 ≤ ends ∧ ends ≤ 3) then (if kind = 2 ∧ turn (vod μ (vbk μ b)) high < turn (vod μ (vbk μ b)) low then tDi (tTh μ 0) 2 else tVh (tVl (tVw (tTh μ 0) v (vbk μ b)) v (moLo (vod μ (vbk μ b)) kind low ends)) v (moHi (vod μ (vbk μ b)) kind high ends)) else tTh μ 2) else tTh μ 1
def jR_openView (μ : MS) (v b kind low high ends : Int) : Int := if ((0 ≤ v ∧ v ≤ 1) ∧ (0 ≤ b ∧ b ≤ 3)) ∧ (0 ≤ kind ∧ kind ≤ 2) ∧ (0 ≤ low ∧ low ≤ 99) ∧ (0 ≤ high ∧ high ≤ 99) ∧ (0 ≤ ends ∧ ends ≤ 3) then (if kind = 2 ∧ turn (vod μ (vbk μ b)) high < turn (vod μ (vbk μ b)) low then -9 else cntP (vst μ (vbk μ b)) (moLo (vod μ (vbk μ b)) kind low ends) (moHi (vod μ (vbk μ b)) kind high ends)) else 0
def mnLo (μ : MS) (v kind low : Int) : Int := if kind = 0 then vvl μ v else turn (vod μ (vvw μ v)) low
def mnHi (μ : MS) (v kind high : Int) : Int := if kind = 1 then vvh μ v else turn (vod μ (vvw μ v)) high
