def jR_has (μ : MS) (b w n : Int) : Int := if ((0 ≤ b ∧ b ≤ 3)) ∧ (0 ≤ n ∧ n ≤ 99) then (if w ≠ 0 then isT (vst μ (vbk μ b)) (turn (vod μ (vbk μ b)) n) else 1 - allP (hmW (vod μ (vbk μ b)) (vst μ (vbk μ b)) n) 0) else 0
def jS_keyAt (μ : MS) (b n z : Int) : MS := if (0 ≤ b ∧ b ≤ 3) then (if (0 ≤ n ∧ n ≤ 99) then (tTh μ 0) else tTh μ 2) else tTh μ 1
def jR_keyAt (μ : MS) (b n z : Int) : Int := if ((0 ≤ b ∧ b ≤ 3)) ∧ (0 ≤ n ∧ n ≤ 99) then keyR (vod μ (vbk μ b)) (kaP (vst μ (vbk μ b)) z 0 n) else 0
def jS_sameShelves (μ : MS) (b c t : Int) : MS := if (0 ≤ b ∧ b ≤ 2) ∧ (0 ≤ c ∧ c ≤ 2) then (if (0 ≤ t ∧ t ≤ 1) then (tTh μ 0) else tTh μ 2) else tTh μ 1
def jR_sameShelves (μ : MS) (b c t : Int) : Int := if ((0 ≤ b ∧ b ≤ 2) ∧ (0 ≤ c ∧ c ≤ 2)) ∧ (0 ≤ t ∧ t ≤ 1) then allP (ssU (vod μ (vsh μ b)) (vod μ (vsh μ c)) (vst μ (vsh μ b)) (vst μ (vsh μ c)) t) 0 else 0
