def mnRef (μ : MS) (v kind low high : Int) : Int := if kind ≠ 0 ∧ ¬ (vvl μ v ≤ turn (vod μ (vvw μ v)) low ∧ turn (vod μ (vvw μ v)) low ≤ vvh μ v) then 1 else if kind ≠ 1 ∧ ¬ (vvl μ v ≤ turn (vod μ (vvw μ v)) high ∧ turn (vod μ (vvw μ v)) high ≤ vvh μ v) then 1 else if kind = 2 ∧ turn (vod μ (vvw μ v)) high < turn (vod μ (vvw μ v)) low then 1 else 0
def jS_narrowView (μ : MS) (v kind low high : Int) : MS := if (0 ≤ v ∧ v ≤ 1) then (if (0 ≤ kind ∧ kind ≤ 2) ∧ (0 ≤ low ∧ low ≤ 99) ∧ (0 ≤ high ∧ high ≤ 99) then (if mnRef μ v kind low high = 1 then tDi (tTh μ 0) 2 else if kind = 0 then tVh (tTh μ 0) v (mnHi μ v kind high) else if kind = 1 then tVl (tTh μ 0) v (mnLo μ v kind low) else tVh (tVl (tTh μ 0) v (mnLo μ v kind low)) v (mnHi μ v kind high)) else tTh μ 2) else tTh μ 1
def jR_narrowView (μ : MS) (v kind low high : Int) : Int := if ((0 ≤ v ∧ v ≤ 1)) ∧ (0 ≤ kind ∧ kind ≤ 2) ∧ (0 ≤ low ∧ low ≤ 99) ∧ (0 ≤ high ∧ high ≤ 99) then (if mnRef μ v kind low high = 1 then -9 else cntP (vst μ (vvw μ v)) (mnLo μ v kind low) (mnHi μ v kind high)) else 0
def jS_walkNext0 (μ : MS) : MS := tDi (tOb μ none (vbr μ) (vtd μ) (vbh μ) 0) 2
def jR_walkNext0 (μ : MS) : Int := -9
def jS_walkNext1 (μ : MS) (j : Nat) : MS := if vbr μ = 0 then (if (firP (vst μ j) (vbh μ) 99) = -1 then tOb μ (some j) (vbr μ) (vtd μ) (vbh μ) 0 else tOb μ (some j) (vbr μ) (keyR (vod μ j) (firP (vst μ j) (vbh μ) 99)) (turn (vod μ j) (keyR (vod μ j) (firP (vst μ j) (vbh μ) 99)) + 1) 0) else tDi (tOb μ (some j) (vbr μ) (vtd μ) (vbh μ) 0) 2
def jR_walkNext1 (μ : MS) (j : Nat) : Int := if vbr μ = 0 then (if (firP (vst μ j) (vbh μ) 99) = -1 then -1 else (keyR (vod μ j) (firP (vst μ j) (vbh μ) 99)) * 100 + vst μ j (turn (vod μ j) (keyR (vod μ j) (firP (vst μ j) (vbh μ) 99)))) else -9
def jS_walkSet0 (μ : MS) (w : Int) : MS := if 0 ≤ w ∧ w ≤ 99 then tDi (tOb μ none (vbr μ) (vtd μ) (vbh μ) 0) 2 else tOb μ none (vbr μ) (vtd μ) (vbh μ) 1
def jR_walkSet0 (μ : MS) (w : Int) : Int := if 0 ≤ w ∧ w ≤ 99 then -9 else 0
def jS_walkSet1 (μ : MS) (j : Nat) (w : Int) : MS := if 0 ≤ w ∧ w ≤ 99 then (if vtd μ = -1 then tDi (tOb μ (some j) (vbr μ) (vtd μ) (vbh μ) 0) 2 else tDi (tRw (tOb μ (some j) (vbr μ) (vtd μ) (vbh μ) 0) j (iu (vst μ j) (turn (vod μ j) (vtd μ)) w)) 0) else tOb μ (some j) (vbr μ) (vtd μ) (vbh μ) 1
def jR_walkSet1 (μ : MS) (j : Nat) (w : Int) : Int := if 0 ≤ w ∧ w ≤ 99 then (if vtd μ = -1 then -9 else vst μ j (turn (vod μ j) (vtd μ))) else 0
def jS_walkTake0 (μ : MS) : MS := tDi (tOb μ none (vbr μ) (vtd μ) (vbh μ) 0) 2
def jR_walkTake0 (μ : MS) : Int := -9
def jS_walkTake1 (μ : MS) (j : Nat) : MS := if vtd μ = -1 then tDi (tOb μ (some j) (vbr μ) (vtd μ) (vbh μ) 0) 2 else tDi (tOb (tRw (tOb μ (some j) (vbr μ) (vtd μ) (vbh μ) 0) j (iu (vst μ j) (turn (vod μ j) (vtd μ)) (-1))) (some j) (vbr μ) (-1) (vbh μ) 0) 0
def jR_walkTake1 (μ : MS) (j : Nat) : Int := if vtd μ = -1 then -9 else vtd μ * 100 + vst μ j (turn (vod μ j) (vtd μ))
def jS_isSound (μ : MS) : MS := tTh μ 0
def jR_isSound (μ : MS) : Int := 1
