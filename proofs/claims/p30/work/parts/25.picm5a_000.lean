theorem okR_z0 (q : Int) : okR 0 q = 0 := by
  rcases okR_d 0 q with h | h
  · exact absurd rfl h.2.1
  · exact h.1
def clU (k : Option Nat) (i : Nat) (o : Int) (r : Int) (x : SX) : SX := sX k i (turn o (turn o r)) (-1) x
def clX (μ : MS) (i : Nat) (lo hi : Int) : SX := itrP (clU (vwk μ) i (vod μ i)) lo hi (vst μ i, vbr μ, 0)
def drN (f : Int → Int) (t lo hi : Int) : Int := endP f lo hi (if t = 0 then 0 else 1)
theorem drN_r (f : Int → Int) (t lo hi : Int) : -1 ≤ drN f t lo hi ∧ drN f t lo hi ≤ 99 := endP_r _ _ _ _
def dpS (μ : MS) (i : Nat) (t lo hi : Int) : MS := if t = 2 then tX (tWr μ i) i (clX μ i lo hi) else if drN (vst μ i) t lo hi = -1 then tWr μ i else tSe (tWr μ i) i (turn (vod μ i) (keyR (vod μ i) (drN (vst μ i) t lo hi))) (-1)
def dpR (μ : MS) (i : Nat) (t lo hi : Int) : Int := if t = 2 then (clX μ i lo hi).2.2 else if drN (vst μ i) t lo hi = -1 then -1 else keyR (vod μ i) (drN (vst μ i) t lo hi) * 100 + vst μ i (turn (vod μ i) (keyR (vod μ i) (drN (vst μ i) t lo hi)))
theorem dpR_b {y : Nat → ClassId} {L : List Nat} {F : Nat → va_E} {O : Nat → Prop} {G : MG} {μ : MS} (h : MP y L F O G μ) {i : Nat} (hi : i < vn μ) (t lo hi2 : Int) : t = 2 ∨ (-1 ≤ dpR μ i t lo hi2 ∧ dpR μ i t lo hi2 ≤ 9999) := by
  by_cases ht : t = 2
  · exact Or.inl ht
  · refine Or.inr ?_
    have r := drN_r (vst μ i) t lo hi2
    have k := keyR_b (o := vod μ i) r
    have b := (MP_r h hi).2.2.2.2.2 (turn (vod μ i) (keyR (vod μ i) (drN (vst μ i) t lo hi2)))
    unfold dpR
    rw [if_neg ht]
    split <;> omega
def jS_drop (μ : MS) (b t : Int) : MS := if (0 ≤ b ∧ b ≤ 3) then (if (0 ≤ t ∧ t ≤ 2) then tDi (dpS (tTh μ 0) (vbk μ b) t 0 99) 0 else tTh μ 2) else tTh μ 1
def jR_drop (μ : MS) (b t : Int) : Int := if ((0 ≤ b ∧ b ≤ 3)) ∧ (0 ≤ t ∧ t ≤ 2) then dpR (tTh μ 0) (vbk μ b) t 0 99 else 0
def jS_viewDrop (μ : MS) (v t : Int) : MS := if (0 ≤ v ∧ v ≤ 1) then (if (0 ≤ t ∧ t ≤ 2) then tDi (dpS (tTh μ 0) (vvw μ v) t (vvl μ v) (vvh μ v)) 0 else tTh μ 2) else tTh μ 1
def jR_viewDrop (μ : MS) (v t : Int) : Int := if ((0 ≤ v ∧ v ≤ 1)) ∧ (0 ≤ t ∧ t ≤ 2) then dpR (tTh μ 0) (vvw μ v) t (vvl μ v) (vvh μ v) else 0
def jS_shelfDrop (μ : MS) (b t : Int) : MS := if (0 ≤ b ∧ b ≤ 2) then (if (0 ≤ t ∧ t ≤ 2) then tDi (dpS (tTh μ 0) (vsh μ b) t 0 99) 1 else tTh μ 2) else tTh μ 1
def jR_shelfDrop (μ : MS) (b t : Int) : Int := if ((0 ≤ b ∧ b ≤ 2)) ∧ (0 ≤ t ∧ t ≤ 2) then (if t = 2 then dpR (tTh μ 0) (vsh μ b) t 0 99 else k100 (dpR (tTh μ 0) (vsh μ b) t 0 99)) else 0
def fiU (k : Option Nat) (i : Nat) (o f s w : Int) (j : Int) (x : SX) : SX := if w = -1 then sX k i (turn o ((f + j * s) % 100)) (-1) x else sX k i (turn o ((f + j * s) % 100)) ((w + j) % 100) x
def fiX (μ : MS) (i : Nat) (f s n w : Int) : SX := itrP (fiU (vwk μ) i (vod μ i) f s w) 0 (n - 1) (vst μ i, vbr μ, 0)
def laU (k : Option Nat) (i : Nat) (o f s z : Int) (j : Int) (x : SX) : SX := if z ≠ 0 then sX k i (turn o ((f + j * s) % 100)) 0 x else sX k i (turn o ((f + j * s) % 100)) (-1) x
def laX (μ : MS) (i : Nat) (f s n z : Int) : SX := itrP (laU (vwk μ) i (vod μ i) f s z) 0 (n - 1) (vst μ i, vbr μ, 0)
def paU (k : Option Nat) (i : Nat) (o o2 : Int) (f2 : Int → Int) (q : Int) (x : SX) : SX := if isT f2 (turn o2 q) ≠ 0 then sX k i (turn o q) (mwd o2 f2 q) x else x
def paX (μ : MS) (i j : Nat) : SX := itrP (paU (vwk μ) i (vod μ i) (vod μ j) (vst μ j)) 0 99 (vst μ i, vbr μ, 0)
def keU (k : Option Nat) (i : Nat) (o o2 : Int) (f2 : Int → Int) (z : Int) (q : Int) (x : SX) : SX := if isT f2 (turn o2 q) ≠ z then sX k i (turn o q) (-1) x else x
def keX (μ : MS) (i j : Nat) (z : Int) : SX := itrP (keU (vwk μ) i (vod μ i) (vod μ j) (vst μ j) z) 0 99 (vst μ i, vbr μ, 0)
def sbU (k : Option Nat) (i : Nat) (o o2 : Int) (f2 : Int → Int) (t : Int) (q : Int) (x : SX) : SX := if t = 0 then (if isT f2 (turn o2 q) = 1 then sX k i (turn o q) 0 x else x) else if isT f2 (turn o2 q) = (if t = 1 then 0 else 1) then sX k i (turn o q) (-1) x else x
def sbX (μ : MS) (i j : Nat) (t : Int) : SX := itrP (sbU (vwk μ) i (vod μ i) (vod μ j) (vst μ j) t) 0 99 (vst μ i, vbr μ, 0)
def jS_fill (μ : MS) (b f s n w : Int) : MS := if (0 ≤ b ∧ b ≤ 3) then (if (0 ≤ f ∧ f ≤ 99) ∧ (0 ≤ s ∧ s ≤ 99) ∧ (0 ≤ n ∧ n ≤ 100) ∧ (-1 ≤ w ∧ w ≤ 99) then tDi (tX (tWr (tTh μ 0) (vbk μ b)) (vbk μ b) (fiX μ (vbk μ b) f s n w)) 0 else tTh μ 2) else tTh μ 1
def jR_fill (μ : MS) (b f s n w : Int) : Int := if ((0 ≤ b ∧ b ≤ 3)) ∧ (0 ≤ f ∧ f ≤ 99) ∧ (0 ≤ s ∧ s ≤ 99) ∧ (0 ≤ n ∧ n ≤ 100) ∧ (-1 ≤ w ∧ w ≤ 99) then (fiX μ (vbk μ b) f s n w).2.2 else 0
def jS_lay (μ : MS) (b f s n z : Int) : MS := if (0 ≤ b ∧ b ≤ 2) then (if (0 ≤ f ∧ f ≤ 99) ∧ (0 ≤ s ∧ s ≤ 99) ∧ (0 ≤ n ∧ n ≤ 100) then tDi (tX (tTh μ 0) (vsh μ b) (laX μ (vsh μ b) f s n z)) 1 else tTh μ 2) else tTh μ 1
def jR_lay (μ : MS) (b f s n z : Int) : Int := if ((0 ≤ b ∧ b ≤ 2)) ∧ (0 ≤ f ∧ f ≤ 99) ∧ (0 ≤ s ∧ s ≤ 99) ∧ (0 ≤ n ∧ n ≤ 100) then (laX μ (vsh μ b) f s n z).2.2 else 0
def jS_pour (μ : MS) (b c : Int) : MS := if (0 ≤ b ∧ b ≤ 3) ∧ (0 ≤ c ∧ c ≤ 3) then (if b = c then tDi (tTh μ 0) 2 else tDi (tX (tWr (tTh μ 0) (vbk μ b)) (vbk μ b) (paX μ (vbk μ b) (vbk μ c))) 0) else tTh μ 1
def jR_pour (μ : MS) (b c : Int) : Int := if (0 ≤ b ∧ b ≤ 3) ∧ (0 ≤ c ∧ c ≤ 3) then (if b = c then -9 else (paX μ (vbk μ b) (vbk μ c)).2.2) else 0
def jS_keep (μ : MS) (b c z : Int) : MS := if (0 ≤ b ∧ b ≤ 3) ∧ (0 ≤ c ∧ c ≤ 3) then (if b = c then tDi (tTh μ 0) 2 else tDi (tX (tWr (tTh μ 0) (vbk μ b)) (vbk μ b) (keX μ (vbk μ b) (vbk μ c) z)) 0) else tTh μ 1
def jR_keep (μ : MS) (b c z : Int) : Int := if (0 ≤ b ∧ b ≤ 3) ∧ (0 ≤ c ∧ c ≤ 3) then (if b = c then -9 else (keX μ (vbk μ b) (vbk μ c) z).2.2) else 0
def jS_shelfBoth (μ : MS) (b c t : Int) : MS := if (0 ≤ b ∧ b ≤ 2) ∧ (0 ≤ c ∧ c ≤ 2) then (if (0 ≤ t ∧ t ≤ 2) then (if b = c then tDi (tTh μ 0) 2 else tDi (tX (tTh μ 0) (vsh μ b) (sbX μ (vsh μ b) (vsh μ c) t)) 1) else tTh μ 2) else tTh μ 1
def jR_shelfBoth (μ : MS) (b c t : Int) : Int := if ((0 ≤ b ∧ b ≤ 2) ∧ (0 ≤ c ∧ c ≤ 2)) ∧ (0 ≤ t ∧ t ≤ 2) then (if b = c then -9 else (sbX μ (vsh μ b) (vsh μ c) t).2.2) else 0
def hmW (o : Int) (f : Int → Int) (n q : Int) : Int := if mwd o f q = n then 0 else 1
def kaR (z k : Int) : Int := if z ≠ 0 then 99 - k else k
def kaF (f : Int → Int) (z : Int) : Nat → Int → Int → Int
  | 0, _, _ => -1
  | m + 1, k, u => if isT f (kaR z k) ≠ 0 then (if u = 0 then kaR z k else kaF f z m (k + 1) (u - 1)) else kaF f z m (k + 1) u
def kaP (f : Int → Int) (z k u : Int) : Int := kaF f z (100 - k).toNat k u
theorem kaP_s {f : Int → Int} {z k u : Int} (h : k < 100) : kaP f z k u = if isT f (kaR z k) ≠ 0 then (if u = 0 then kaR z k else kaP f z (k + 1) (u - 1)) else kaP f z (k + 1) u := by
  unfold kaP
  rw [show (100 - k).toNat = (100 - (k + 1)).toNat + 1 by omega, kaF]
theorem kaP_e {f : Int → Int} {z k u : Int} (h : 100 ≤ k) : kaP f z k u = -1 := by
  unfold kaP
  rw [show (100 - k).toNat = 0 by omega, kaF]
def ssU (o o2 : Int) (f f2 : Int → Int) (t q : Int) : Int := if isT f (turn o q) = isT f2 (turn o2 q) ∨ (t = 1 ∧ isT f (turn o q) ≠ 0) then 1 else 0
def jS_has (μ : MS) (b w n : Int) : MS := if (0 ≤ b ∧ b ≤ 3) then (if (0 ≤ n ∧ n ≤ 99) then (tTh μ 0) else tTh μ 2) else tTh μ 1
