abbrev bkF (μ : MS) (b : Int) : Int → Int := vst μ (vbk μ b)
abbrev bkO (μ : MS) (b : Int) : Int := vod μ (vbk μ b)
def jS_take (μ : MS) (b k : Int) : MS := if 0 ≤ b ∧ b ≤ 3 then (if 0 ≤ k ∧ k ≤ 99 then cgS (tTh μ 0) (vbk μ b) (turn (bkO μ b) k) 1 (-1) else tTh μ 2) else tTh μ 1
def jR_take (μ : MS) (b k : Int) : Int := if (0 ≤ b ∧ b ≤ 3) ∧ 0 ≤ k ∧ k ≤ 99 then bkF μ b (turn (bkO μ b) k) else 0
def jS_near (μ : MS) (b k t w : Int) : MS := if 0 ≤ b ∧ b ≤ 3 then (if (0 ≤ k ∧ k ≤ 99) ∧ 0 ≤ t ∧ t ≤ 4 then tTh μ 0 else tTh μ 2) else tTh μ 1
def jR_near (μ : MS) (b k t w : Int) : Int := if (0 ≤ b ∧ b ≤ 3) ∧ (0 ≤ k ∧ k ≤ 99) ∧ 0 ≤ t ∧ t ≤ 4 then tldR (bkO μ b) (bkF μ b) (keyR (bkO μ b) (nearP (bkO μ b) (bkF μ b) 0 99 k t)) w else 0
def jS_tellBook (μ : MS) (b t : Int) : MS := if 0 ≤ b ∧ b ≤ 3 then (if 0 ≤ t ∧ t ≤ 3 then tTh μ 0 else tTh μ 2) else tTh μ 1
def jR_tellBook (μ : MS) (b t : Int) : Int := if (0 ≤ b ∧ b ≤ 3) ∧ 0 ≤ t ∧ t ≤ 3 then (if t = 0 then cntP (bkF μ b) 0 99 else if t = 1 then bkO μ b else if t = 2 then hashM (bkO μ b) (bkF μ b) else if cntP (bkF μ b) 0 99 = 0 then 1 else 0) else 0
def jS_sameBooks (μ : MS) (b c : Int) : MS := if (0 ≤ b ∧ b ≤ 3) ∧ 0 ≤ c ∧ c ≤ 3 then tTh μ 0 else tTh μ 1
def jR_sameBooks (μ : MS) (b c : Int) : Int := if (0 ≤ b ∧ b ≤ 3) ∧ 0 ≤ c ∧ c ≤ 3 then sameM (bkO μ b) (bkO μ c) (bkF μ b) (bkF μ c) else 0
def jS_house (μ : MS) (t : Int) : MS := if 0 ≤ t ∧ t ≤ 3 then tTh μ 0 else tTh μ 1
def jR_house (μ : MS) (t : Int) : Int := if 0 ≤ t ∧ t ≤ 3 then vct μ t else 0
def jS_knock (μ : MS) : MS := tDi (tTh μ 0) 3
def jR_knock (μ : MS) : Int := vct μ 3 + 1
def jS_exchange (μ : MS) (b k o w : Int) : MS := if 0 ≤ b ∧ b ≤ 3 then (if (0 ≤ k ∧ k ≤ 99) ∧ (0 ≤ o ∧ o ≤ 99) ∧ -1 ≤ w ∧ w ≤ 99 then cgS (tTh μ 0) (vbk μ b) (turn (bkO μ b) k) (if bkF μ b (turn (bkO μ b) k) = o then 1 else 0) w else tTh μ 2) else tTh μ 1
def jR_exchange (μ : MS) (b k o w : Int) : Int := if (0 ≤ b ∧ b ≤ 3) ∧ (0 ≤ k ∧ k ≤ 99) ∧ (0 ≤ o ∧ o ≤ 99) ∧ -1 ≤ w ∧ w ≤ 99 then (if bkF μ b (turn (bkO μ b) k) = o then 1 else 0) else 0
def jS_end (μ : MS) (b w v : Int) : MS := if 0 ≤ b ∧ b ≤ 3 then (if endP (bkF μ b) 0 99 w = -1 ∧ v = 0 then tDi (tTh μ 0) 2 else tTh μ 0) else tTh μ 1
def jR_end (μ : MS) (b w v : Int) : Int := if 0 ≤ b ∧ b ≤ 3 then (if endP (bkF μ b) 0 99 w = -1 ∧ v = 0 then -9 else tldR (bkO μ b) (bkF μ b) (keyR (bkO μ b) (endP (bkF μ b) 0 99 w)) v) else 0
def jS_startWalk (μ : MS) (b : Int) : MS := if 0 ≤ b ∧ b ≤ 3 then tOb μ (some (vbk μ b)) 0 (-1) 0 0 else tTh μ 1
def jR_startWalk (μ : MS) (b : Int) : Int := if 0 ≤ b ∧ b ≤ 3 then cntP (bkF μ b) 0 99 else 0
def jS_viewNear (μ : MS) (v k t : Int) : MS := if 0 ≤ v ∧ v ≤ 1 then (if (0 ≤ k ∧ k ≤ 99) ∧ 0 ≤ t ∧ t ≤ 4 then tTh μ 0 else tTh μ 2) else tTh μ 1
def jR_viewNear (μ : MS) (v k t : Int) : Int := if (0 ≤ v ∧ v ≤ 1) ∧ (0 ≤ k ∧ k ≤ 99) ∧ 0 ≤ t ∧ t ≤ 4 then tldR (vod μ (vvw μ v)) (vst μ (vvw μ v)) (keyR (vod μ (vvw μ v)) (nearP (vod μ (vvw μ v)) (vst μ (vvw μ v)) (vvl μ v) (vvh μ v) k t)) 1 else 0
theorem keyR_m1 {o r : Int} (h : -1 ≤ r ∧ r ≤ 99) : keyR o r = -1 ↔ r = -1 := by
  have := keyR_b (o := o) h
  constructor
  · intro e
    omega
  · intro e
    rw [e]
    rfl
