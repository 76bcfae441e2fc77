-- the pure words of a row: order o, worths f by rank
abbrev rowE (o : Int) (w : Nat) (k g : Int) : va_E := .inr (2, [.int (iI o), .ref w, .int (iI k), .int (iI g)])
/-- a Row at h: order o, count k, changes g, worths f -/
def Rw (y : Nat → ClassId) (L : List Nat) (F : Nat → va_E) (h w : Nat) (o k g : Int) (f : Int → Int) : Prop := h ∈ L ∧ F h = rowE o w k g ∧ w ∈ L ∧ F w = arrI (y 0) 100 f ∧ (0 ≤ o ∧ o ≤ 2) ∧ ∀ r, -1 ≤ f r ∧ f r ≤ 99
def turn (o n : Int) : Int := if o = 0 then n else if o = 1 then 99 - n else n % 10 * 10 + n / 10
theorem turn_b {o n : Int} (h : 0 ≤ n ∧ n ≤ 99) : 0 ≤ turn o n ∧ turn o n ≤ 99 := by
  unfold turn
  split
  · omega
  · split <;> omega
theorem turn_t {o n : Int} (h : 0 ≤ n ∧ n ≤ 99) : turn o (turn o n) = n := by
  unfold turn
  split
  · rfl
  · split
    · omega
    · omega
def keyR (o r : Int) : Int := if r = -1 then -1 else turn o r
theorem keyR_b {o r : Int} (h : -1 ≤ r ∧ r ≤ 99) : -1 ≤ keyR o r ∧ keyR o r ≤ 99 ∧ (0 ≤ r → 0 ≤ keyR o r) := by
  unfold keyR
  split
  · omega
  · have := turn_b (o := o) (n := r) (by omega)
    omega
def wAt (f : Int → Int) (r : Int) : Int := if r < 0 ∨ 100 ≤ r then -1 else f r
def isT (f : Int → Int) (r : Int) : Int := if 0 ≤ r ∧ r < 100 ∧ f r ≠ -1 then 1 else 0
theorem isT_b (f : Int → Int) (r : Int) : 0 ≤ isT f r ∧ isT f r ≤ 1 := by
  unfold isT
  split <;> omega
theorem isT_in {f : Int → Int} {r : Int} (h : isT f r ≠ 0) : 0 ≤ r ∧ r < 100 ∧ f r ≠ -1 := by
  unfold isT at h
  split at h
  · assumption
  · exact absurd rfl h
theorem isT_w {f : Int → Int} {r : Int} (h : isT f r ≠ 0) : 0 ≤ r ∧ r < 100 ∧ f r ≠ -1 ∧ wAt f r = f r := by
  have q := isT_in h
  refine ⟨q.1, q.2.1, q.2.2, ?_⟩
  unfold wAt
  rw [if_neg (by omega)]
theorem wAt_b {f : Int → Int} (h : ∀ r, -1 ≤ f r ∧ f r ≤ 99) (r : Int) : -1 ≤ wAt f r ∧ wAt f r ≤ 99 := by
  unfold wAt
  split
  · omega
  · exact h r
theorem narB {r : Int} (h : 0 ≤ r ∧ r ≤ 1) : narrow .boolean (.int (iI r)) = .int (iI r) := by
  rcases (show r = 0 ∨ r = 1 by omega) with rfl | rfl <;> decide
def pairR (o : Int) (f : Int → Int) (r : Int) : Int := if isT f r ≠ 0 then keyR o r * 100 + wAt f r else -1
def firF (f : Int → Int) (a : Int) : Nat → Int
  | 0 => -1
  | n + 1 => if isT f a ≠ 0 then a else firF f (a + 1) n
def firP (f : Int → Int) (lo hi : Int) : Int := firF f lo (hi + 1 - lo).toNat
theorem firP_s {f : Int → Int} {lo hi : Int} (h : lo ≤ hi) : firP f lo hi = if isT f lo ≠ 0 then lo else firP f (lo + 1) hi := by
  unfold firP
  rw [show (hi + 1 - lo).toNat = (hi + 1 - (lo + 1)).toNat + 1 by omega, firF]
theorem firP_e {f : Int → Int} {lo hi : Int} (h : hi < lo) : firP f lo hi = -1 := by
  unfold firP
  rw [show (hi + 1 - lo).toNat = 0 by omega, firF]
def lasF (f : Int → Int) (a : Int) : Nat → Int
  | 0 => -1
  | n + 1 => if isT f a ≠ 0 then a else lasF f (a - 1) n
def lasP (f : Int → Int) (lo hi : Int) : Int := lasF f hi (hi + 1 - lo).toNat
theorem lasP_s {f : Int → Int} {lo hi : Int} (h : lo ≤ hi) : lasP f lo hi = if isT f hi ≠ 0 then hi else lasP f lo (hi - 1) := by
  unfold lasP
  rw [show (hi + 1 - lo).toNat = (hi - 1 + 1 - lo).toNat + 1 by omega, lasF]
theorem lasP_e {f : Int → Int} {lo hi : Int} (h : hi < lo) : lasP f lo hi = -1 := by
  unfold lasP
  rw [show (hi + 1 - lo).toNat = 0 by omega, lasF]
theorem firF_b (f : Int → Int) : ∀ (n : Nat) (a : Int), firF f a n = -1 ∨ (a ≤ firF f a n ∧ firF f a n < a + n ∧ isT f (firF f a n) ≠ 0) := by
  intro n
  induction n with
  | zero => intro a; exact Or.inl rfl
  | succ n ih =>
    intro a
    unfold firF
    split
    · exact Or.inr ⟨Int.le_refl _, by omega, by assumption⟩
    · rcases ih (a + 1) with h | h
      · exact Or.inl h
      · exact Or.inr ⟨by omega, by omega, h.2.2⟩
theorem firP_b (f : Int → Int) (lo hi : Int) : firP f lo hi = -1 ∨ (lo ≤ firP f lo hi ∧ firP f lo hi ≤ hi ∧ isT f (firP f lo hi) ≠ 0) := by
  rcases firF_b f (hi + 1 - lo).toNat lo with h | h
  · exact Or.inl h
  · exact Or.inr ⟨h.1, by unfold firP; omega, h.2.2⟩
theorem firP_r (f : Int → Int) (lo hi : Int) : -1 ≤ firP f lo hi ∧ firP f lo hi ≤ 99 := by
  rcases firP_b f lo hi with h | h
  · omega
  · have := isT_in h.2.2
    omega
theorem lasF_b (f : Int → Int) : ∀ (n : Nat) (a : Int), lasF f a n = -1 ∨ (a - n < lasF f a n ∧ lasF f a n ≤ a ∧ isT f (lasF f a n) ≠ 0) := by
  intro n
  induction n with
  | zero => intro a; exact Or.inl rfl
  | succ n ih =>
    intro a
    unfold lasF
    split
    · exact Or.inr ⟨by omega, Int.le_refl _, by assumption⟩
    · rcases ih (a - 1) with h | h
      · exact Or.inl h
      · exact Or.inr ⟨by omega, by omega, h.2.2⟩
theorem lasP_b (f : Int → Int) (lo hi : Int) : lasP f lo hi = -1 ∨ (lo ≤ lasP f lo hi ∧ lasP f lo hi ≤ hi ∧ isT f (lasP f lo hi) ≠ 0) := by
  rcases lasF_b f (hi + 1 - lo).toNat hi with h | h
  · exact Or.inl h
  · exact Or.inr ⟨by unfold lasP; omega, h.2.1, h.2.2⟩
theorem lasP_r (f : Int → Int) (lo hi : Int) : -1 ≤ lasP f lo hi ∧ lasP f lo hi ≤ 99 := by
  rcases lasP_b f lo hi with h | h
  · omega
  · have := isT_in h.2.2
    omega
def endP (f : Int → Int) (lo hi b : Int) : Int := if b ≠ 0 then lasP f lo hi else firP f lo hi
theorem endP_r (f : Int → Int) (lo hi b : Int) : -1 ≤ endP f lo hi b ∧ endP f lo hi b ≤ 99 := by
  unfold endP
  split
  · exact lasP_r f lo hi
  · exact firP_r f lo hi
def nearP (o : Int) (f : Int → Int) (lo hi key what : Int) : Int :=
  if what = 0 then lasP f lo (min (turn o key) hi) else if what = 1 then firP f (max (turn o key) lo) hi else if what = 2 then lasP f lo (min (turn o key - 1) hi) else if what = 3 then firP f (max (turn o key + 1) lo) hi else firP f (max (turn o key) lo) (min (turn o key) hi)
theorem nearP_r (o : Int) (f : Int → Int) (lo hi key what : Int) : -1 ≤ nearP o f lo hi key what ∧ nearP o f lo hi key what ≤ 99 := by
  unfold nearP
  split
  · exact lasP_r _ _ _
  · split
    · exact firP_r _ _ _
    · split
      · exact lasP_r _ _ _
      · split <;> exact firP_r _ _ _
/-- a sum over the ranks a, a + 1 .., n of them -/
def sumF (u : Int → Int) (a : Int) : Nat → Int
  | 0 => 0
  | n + 1 => u a + sumF u (a + 1) n
def sumP (u : Int → Int) (lo hi : Int) : Int := sumF u lo (hi + 1 - lo).toNat
theorem sumP_s {u : Int → Int} {lo hi : Int} (h : lo ≤ hi) : sumP u lo hi = u lo + sumP u (lo + 1) hi := by
  unfold sumP
  rw [show (hi + 1 - lo).toNat = (hi + 1 - (lo + 1)).toNat + 1 by omega, sumF]
theorem sumP_e {u : Int → Int} {lo hi : Int} (h : hi < lo) : sumP u lo hi = 0 := by
  unfold sumP
  rw [show (hi + 1 - lo).toNat = 0 by omega, sumF]
def cntP (f : Int → Int) (lo hi : Int) : Int := sumP (isT f) lo hi
def worP (f : Int → Int) (lo hi : Int) : Int := sumP (fun r => if isT f r ≠ 0 then wAt f r else 0) lo hi
theorem cntP_s {f : Int → Int} {lo hi : Int} (h : lo ≤ hi) : cntP f lo hi = isT f lo + cntP f (lo + 1) hi := sumP_s h
theorem cntP_e {f : Int → Int} {lo hi : Int} (h : hi < lo) : cntP f lo hi = 0 := sumP_e h
theorem worP_s {f : Int → Int} {lo hi : Int} (h : lo ≤ hi) : worP f lo hi = (if isT f lo ≠ 0 then wAt f lo else 0) + worP f (lo + 1) hi := sumP_s h
theorem worP_e {f : Int → Int} {lo hi : Int} (h : hi < lo) : worP f lo hi = 0 := sumP_e h
def keyP (o : Int) (f : Int → Int) (lo : Int) : Int := sumP (fun r => if isT f r ≠ 0 then keyR o r else 0) lo 99
theorem keyP_s {o : Int} {f : Int → Int} {lo : Int} (h : lo ≤ 99) : keyP o f lo = (if isT f lo ≠ 0 then keyR o lo else 0) + keyP o f (lo + 1) := sumP_s h
theorem keyP_e {o : Int} {f : Int → Int} {lo : Int} (h : 99 < lo) : keyP o f lo = 0 := sumP_e h
def xorI (a b : Int) : Int := (iI a ^^^ iI b).toInt
theorem xorI_b (a b : Int) : -2147483648 ≤ xorI a b ∧ xorI a b ≤ 2147483647 := ⟨Int32.le_toInt _, by have := Int32.toInt_lt (iI a ^^^ iI b); unfold xorI; omega⟩
def hashP (o : Int) (f : Int → Int) (lo : Int) : Int := sumP (fun r => if isT f r ≠ 0 then xorI (keyR o r) (wAt f r) else 0) lo 99
theorem hashP_s {o : Int} {f : Int → Int} {lo : Int} (h : lo ≤ 99) : hashP o f lo = (if isT f lo ≠ 0 then xorI (keyR o lo) (wAt f lo) else 0) + hashP o f (lo + 1) := sumP_s h
theorem hashP_e {o : Int} {f : Int → Int} {lo : Int} (h : 99 < lo) : hashP o f lo = 0 := sumP_e h
/-- the rank that has just k of what is there behind it, from a on -/
def rbF (f : Int → Int) (k a : Int) : Nat → Int
  | 0 => -1
  | n + 1 => if isT f a ≠ 0 then (if k = 0 then a else rbF f (k - 1) (a + 1) n) else rbF f k (a + 1) n
def rbP (f : Int → Int) (k lo : Int) : Int := rbF f k lo (100 - lo).toNat
theorem rbP_s {f : Int → Int} {k lo : Int} (h : lo < 100) : rbP f k lo = if isT f lo ≠ 0 then (if k = 0 then lo else rbP f (k - 1) (lo + 1)) else rbP f k (lo + 1) := by
  unfold rbP
  rw [show (100 - lo).toNat = (100 - (lo + 1)).toNat + 1 by omega, rbF]
theorem rbP_e {f : Int → Int} {k lo : Int} (h : 100 ≤ lo) : rbP f k lo = -1 := by
  unfold rbP
  rw [show (100 - lo).toNat = 0 by omega, rbF]
theorem rbF_b (f : Int → Int) : ∀ (n : Nat) (k a : Int), rbF f k a n = -1 ∨ isT f (rbF f k a n) ≠ 0 := by
  intro n
  induction n with
  | zero => intro k a; exact Or.inl rfl
  | succ n ih =>
    intro k a
    unfold rbF
    split
    · split
      · exact Or.inr (by assumption)
      · exact ih _ _
    · exact ih _ _
theorem rbP_r (f : Int → Int) (k lo : Int) : -1 ≤ rbP f k lo ∧ rbP f k lo ≤ 99 := by
  rcases rbF_b f (100 - lo).toNat k lo with h | h
  · unfold rbP; omega
  · have := isT_in h
    unfold rbP; omega
/-- 1, if u is not 0 at a, a + 1 .., n of them -/
def allF (u : Int → Int) (a : Int) : Nat → Int
  | 0 => 1
  | n + 1 => if u a ≠ 0 then allF u (a + 1) n else 0
def allP (u : Int → Int) (lo : Int) : Int := allF u lo (100 - lo).toNat
theorem allP_u {u : Int → Int} {lo : Int} (h : lo < 100) : allP u lo = if u lo ≠ 0 then allP u (lo + 1) else 0 := by
  unfold allP
  rw [show (100 - lo).toNat = (100 - (lo + 1)).toNat + 1 by omega, allF]
theorem allP_s {u : Int → Int} {lo : Int} (h : u lo ≠ 0) (h2 : lo < 100) : allP u lo = allP u (lo + 1) := by rw [allP_u h2, if_pos h]
theorem allP_n {u : Int → Int} {lo : Int} (h : u lo = 0) (h2 : lo < 100) : allP u lo = 0 := by rw [allP_u h2, if_neg (fun q => q h)]
theorem allP_e {u : Int → Int} {lo : Int} (h : 100 ≤ lo) : allP u lo = 1 := by
  unfold allP
  rw [show (100 - lo).toNat = 0 by omega, allF]
theorem allF_b (u : Int → Int) : ∀ (n : Nat) (a : Int), 0 ≤ allF u a n ∧ allF u a n ≤ 1 := by
  intro n
  induction n with
  | zero => intro a; unfold allF; omega
  | succ n ih =>
    intro a
    unfold allF
    split
    · exact ih _
    · omega
theorem allP_b (u : Int → Int) (lo : Int) : 0 ≤ allP u lo ∧ allP u lo ≤ 1 := allF_b u _ _
def hwU (f : Int → Int) (w r : Int) : Int := if wAt f r = w then 0 else 1
def hkU (o o2 : Int) (f f2 : Int → Int) (r : Int) : Int := if isT f2 r ≠ 0 ∧ isT f (turn o (keyR o2 r)) = 0 then 0 else 1
def smU (o o2 : Int) (f f2 : Int → Int) (k : Int) : Int := if wAt f (turn o k) = wAt f2 (turn o2 k) then 1 else 0
def hasW (f : Int → Int) (w : Int) : Int := 1 - allP (hwU f w) 0
def hasK (o o2 : Int) (f f2 : Int → Int) : Int := allP (hkU o o2 f f2) 0
def sameR (o o2 : Int) (f f2 : Int → Int) : Int := allP (smU o o2 f f2) 0
theorem hasW_b (f : Int → Int) (w : Int) : 0 ≤ hasW f w ∧ hasW f w ≤ 1 := by
  have := allP_b (hwU f w) 0
  unfold hasW
  omega
theorem hasK_b (o o2 : Int) (f f2 : Int → Int) : 0 ≤ hasK o o2 f f2 ∧ hasK o o2 f f2 ≤ 1 := allP_b _ _
theorem sameR_b (o o2 : Int) (f f2 : Int → Int) : 0 ≤ sameR o o2 f f2 ∧ sameR o o2 f f2 ≤ 1 := allP_b _ _
section QX
variable {p : Program} {l : Launch} {e : Env} {R : Room} {s : State} {m : MethodId} {args : Array Value} {below : List Frame} {meth : Method} {c : Code} {H : Heap} {locs : List Loc} {cells slots : Nat} {Q : State → Prop} {cc : ByteArray} {pc : Nat} {ls : Array Slot} {rest : List Value}
theorem q_ixor (hx : p.tables.exec = Jvm.exec) (hb : c.code = cc) {a b : Int} (hdg : decode cc pc = .ok (.ixor, 1)) (k : W p l e R s m args below meth c H locs cells slots Q (F0 m (pc + 1) ls (.int (iI (xorI a b)) :: rest))) : W p l e R s m args below meth c H locs cells slots Q (F0 m pc ls (.int (iI b) :: .int (iI a) :: rest)) := lv_ixor hx hb hdg (by rw [show iI a ^^^ iI b = iI (xorI a b) from (Int32.ofInt_toInt _).symm]; exact k)
end QX
def ahd (o a b : Int) : Int := if turn o a < turn o b then 1 else 0
theorem ahd_b (o a b : Int) : 0 ≤ ahd o a b ∧ ahd o a b ≤ 1 := by
  unfold ahd
  split <;> omega
/-- isToldInOrder, isToldBackwards: nx the next rank, bad where it stops -/
def tioF (nx : Int → Int) (bad : Int → Int) (many : Int) : Nat → Int → Int → Int
  | 0, r, t => if r = -1 ∧ t = many then 1 else 0
  | n + 1, r, t => if r = -1 then (if t = many then 1 else 0) else if bad r ≠ 0 then 0 else tioF nx bad many n (nx r) (t + 1)
def tioP (nx bad : Int → Int) (many r t : Int) : Int := tioF nx bad many (100 - t).toNat r t
theorem tioP_s {nx bad : Int → Int} {many r t : Int} (h : t < 100) : tioP nx bad many r t = if r = -1 then (if t = many then 1 else 0) else if bad r ≠ 0 then 0 else tioP nx bad many (nx r) (t + 1) := by
  unfold tioP
  rw [show (100 - t).toNat = (100 - (t + 1)).toNat + 1 by omega, tioF]
theorem tioP_e {nx bad : Int → Int} {many r t : Int} (h : 100 ≤ t) : tioP nx bad many r t = if r = -1 ∧ t = many then 1 else 0 := by
  unfold tioP
  rw [show (100 - t).toNat = 0 by omega, tioF]
theorem tioP_1 {nx bad : Int → Int} {many t : Int} : tioP nx bad many (-1) t = if t = many then 1 else 0 := by
  by_cases h : t < 100
  · rw [tioP_s h, if_pos rfl]
  · rw [tioP_e (by omega)]
    by_cases q : t = many
    · rw [if_pos ⟨rfl, q⟩, if_pos q]
    · rw [if_neg (fun z => q z.2), if_neg q]
theorem tioP_b (nx bad : Int → Int) (many : Int) : ∀ (n : Nat) (r t : Int), (100 - t).toNat = n → 0 ≤ tioP nx bad many r t ∧ tioP nx bad many r t ≤ 1 := by
  intro n
  induction n with
  | zero =>
    intro r t h
    rw [tioP_e (by omega)]
    split <;> omega
  | succ n ih =>
    intro r t h
    rw [tioP_s (by omega)]
    split
    · split <;> omega
    · split
      · omega
      · exact ih _ _ (by omega)
def ioNx (o : Int) (f : Int → Int) (lo hi r : Int) : Int := nearP o f lo hi (keyR o r) 3
def ioBad (o : Int) (f : Int → Int) (lo hi r : Int) : Int := if isT f r = 0 then 1 else if ioNx o f lo hi r = -1 then 0 else if ahd o (keyR o r) (keyR o (ioNx o f lo hi r)) = 0 then 1 else 0
def inOrd (o : Int) (f : Int → Int) (lo hi many : Int) : Int := tioP (ioNx o f lo hi) (ioBad o f lo hi) many (endP f lo hi 0) 0
def bwNx (o : Int) (f : Int → Int) (r : Int) : Int := nearP o f 0 99 (keyR o r) 2
def bwBad (o : Int) (f : Int → Int) (r : Int) : Int := if bwNx o f r = -1 then 0 else if ahd o (keyR o (bwNx o f r)) (keyR o r) = 0 then 1 else 0
def bwOrd (o : Int) (f : Int → Int) (many : Int) : Int := tioP (bwNx o f) (bwBad o f) many (endP f 0 99 1) 0
/-- areNeighboursFound at one rank that is there, the former one w -/
def nbOk (o : Int) (f : Int → Int) (r w : Int) : Int := if nearP o f 0 99 (keyR o r) 0 ≠ r then 0 else if nearP o f 0 99 (keyR o r) 1 ≠ r then 0 else if nearP o f 0 99 (keyR o r) 4 ≠ r then 0 else if nearP o f 0 99 (keyR o r) 2 ≠ w then 0 else if w = -1 then 1 else if nearP o f 0 99 (keyR o w) 3 ≠ r then 0 else 1
def nbF (o : Int) (f : Int → Int) : Nat → Int → Int → Int
  | 0, _, _ => 1
  | n + 1, r, w => if isT f r = 0 then nbF o f n (r + 1) w else if nbOk o f r w = 0 then 0 else nbF o f n (r + 1) r
def nbP (o : Int) (f : Int → Int) (r w : Int) : Int := nbF o f (100 - r).toNat r w
theorem nbP_s {o : Int} {f : Int → Int} {r w : Int} (h : r < 100) : nbP o f r w = if isT f r = 0 then nbP o f (r + 1) w else if nbOk o f r w = 0 then 0 else nbP o f (r + 1) r := by
  unfold nbP
  rw [show (100 - r).toNat = (100 - (r + 1)).toNat + 1 by omega, nbF]
theorem nbP_e {o : Int} {f : Int → Int} {r w : Int} (h : 100 ≤ r) : nbP o f r w = 1 := by
  unfold nbP
  rw [show (100 - r).toNat = 0 by omega, nbF]
theorem nbF_b (o : Int) (f : Int → Int) : ∀ (n : Nat) (r w : Int), 0 ≤ nbF o f n r w ∧ nbF o f n r w ≤ 1 := by
  intro n
  induction n with
  | zero => intro r w; unfold nbF; omega
  | succ n ih =>
    intro r w
    unfold nbF
    split
    · exact ih _ _
    · split
      · omega
      · exact ih _ _
theorem inOrd_b (o : Int) (f : Int → Int) (lo hi k : Int) : 0 ≤ inOrd o f lo hi k ∧ inOrd o f lo hi k ≤ 1 := tioP_b _ _ _ _ _ _ rfl
theorem bwOrd_b (o : Int) (f : Int → Int) (k : Int) : 0 ≤ bwOrd o f k ∧ bwOrd o f k ≤ 1 := tioP_b _ _ _ _ _ _ rfl
theorem nbP_b (o : Int) (f : Int → Int) (r w : Int) : 0 ≤ nbP o f r w ∧ nbP o f r w ≤ 1 := nbF_b _ _ _ _ _
-- the pure words of what changes a row: (count, changes, worths)
abbrev RS : Type := Int × Int × (Int → Int)
def RwS (y : Nat → ClassId) (L : List Nat) (F : Nat → va_E) (h w : Nat) (o : Int) (S : RS) : Prop := Rw y L F h w o S.1 S.2.1 S.2.2
/-- the pool is the same but for h and w -/
def FrE (h w : Nat) (F F1 : Nat → va_E) : Prop := ∀ q, q ≠ h → q ≠ w → F1 q = F q
theorem FrE.rf (h w : Nat) (F : Nat → va_E) : FrE h w F F := fun _ _ _ => rfl
theorem FrE.tr {h w : Nat} {F F1 F2 : Nat → va_E} (a : FrE h w F F1) (b : FrE h w F1 F2) : FrE h w F F2 := fun q h1 h2 => (b q h1 h2).trans (a q h1 h2)
theorem Rw_ne {y : Nat → ClassId} {L : List Nat} {F : Nat → va_E} {h w h2 w2 : Nat} {o k g o2 k2 g2 : Int} {f f2 : Int → Int} (a : Rw y L F h w o k g f) (b : Rw y L F h2 w2 o2 k2 g2 f2) : h ≠ w2 := fun e => by
  have h1 := a.2.1
  rw [e, b.2.2.2.1] at h1
  cases h1
theorem Rw_fr {y : Nat → ClassId} {L : List Nat} {F F1 : Nat → va_E} {h w h2 w2 : Nat} {o k g o2 k2 g2 : Int} {f f2 : Int → Int} (a : Rw y L F h w o k g f) (b : Rw y L F h2 w2 o2 k2 g2 f2) (n1 : h2 ≠ h) (n2 : w2 ≠ w) (fr : FrE h w F F1) : Rw y L F1 h2 w2 o2 k2 g2 f2 :=
  ⟨b.1, (fr h2 n1 (Rw_ne b a)).trans b.2.1, b.2.2.1, (fr w2 (fun e => Rw_ne a b e.symm) n2).trans b.2.2.2.1, b.2.2.2.2⟩
theorem Rw_st {y : Nat → ClassId} {L : List Nat} {F : Nat → va_E} {h w : Nat} {o k g : Int} {f : Int → Int} {i v : Int} (a : Rw y L F h w o k g f) (hv : -1 ≤ v ∧ v ≤ 99) : Rw y L (va_up F w (arrI (y 0) 100 (iu f i v))) h w o k g (iu f i v) := by
  refine ⟨a.1, ?_, a.2.2.1, va_up_self _ _ _, a.2.2.2.2.1, fun r => ?_⟩
  · rw [va_up_ne _ _ (Rw_ne a a)]; exact a.2.1
  · unfold iu
    split
    · exact hv
    · exact a.2.2.2.2.2 r
theorem Rw_ct {y : Nat → ClassId} {L : List Nat} {F : Nat → va_E} {h w : Nat} {o k g k2 g2 : Int} {f : Int → Int} (a : Rw y L F h w o k g f) : Rw y L (va_up F h (rowE o w k2 g2)) h w o k2 g2 f := by
  refine ⟨a.1, va_up_self _ _ _, a.2.2.1, ?_, a.2.2.2.2⟩
  rw [va_up_ne _ _ (fun e => Rw_ne a a e.symm)]
  exact a.2.2.2.1
theorem FrE_h {h w : Nat} {F : Nat → va_E} {e : va_E} : FrE h w F (va_up F h e) := fun q h1 _ => va_up_ne _ _ h1
theorem FrE_w {h w : Nat} {F : Nat → va_E} {e : va_E} : FrE h w F (va_up F w e) := fun q _ h2 => va_up_ne _ _ h2
def comeS (S : RS) (n v : Int) : RS := if n < 0 ∨ 100 ≤ n then S else (if S.2.2 n = -1 then S.1 + 1 else S.1, if S.2.2 n = -1 then S.2.1 + 1 else S.2.1, iu S.2.2 n v)
def goS (S : RS) (n : Int) : RS := if n < 0 ∨ 100 ≤ n then S else (if S.2.2 n = -1 then S.1 else S.1 - 1, if S.2.2 n = -1 then S.2.1 else S.2.1 + 1, iu S.2.2 n (-1))
/-- steps of a loop: u at a, a + 1 .., n of them -/
def itrF {α : Type} (u : Int → α → α) (a : Int) : Nat → α → α
  | 0, x => x
  | n + 1, x => itrF u (a + 1) n (u a x)
def itrP {α : Type} (u : Int → α → α) (lo hi : Int) (x : α) : α := itrF u lo (hi + 1 - lo).toNat x
theorem itrP_s {α : Type} {u : Int → α → α} {lo hi : Int} {x : α} (h : lo ≤ hi) : itrP u lo hi x = itrP u (lo + 1) hi (u lo x) := by
  unfold itrP
  rw [show (hi + 1 - lo).toNat = (hi + 1 - (lo + 1)).toNat + 1 by omega, itrF]
theorem itrP_e {α : Type} {u : Int → α → α} {lo hi : Int} {x : α} (h : hi < lo) : itrP u lo hi x = x := by
  unfold itrP
  rw [show (hi + 1 - lo).toNat = 0 by omega, itrF]
def addU (o o2 : Int) (f2 : Int → Int) (r : Int) (S : RS) : RS := if isT f2 r ≠ 0 then comeS S (turn o (keyR o2 r)) (wAt f2 r) else S
def addS (o o2 : Int) (f2 : Int → Int) (lo hi : Int) (S : RS) : RS := itrP (addU o o2 f2) lo hi S
def stpU (o first step worth : Int) (j : Int) (S : RS) : RS := comeS S (turn o ((first + j * step) % 100)) ((worth + j) % 100)
def stpS (o first step many worth : Int) (S : RS) : RS := itrP (stpU o first step worth) 0 (many - 1) S
def kstU (o first step : Int) (j : Int) (S : RS) : RS := comeS S (turn o ((first + j * step) % 100)) 0
def kstS (o first step many : Int) (S : RS) : RS := itrP (kstU o first step) 0 (many - 1) S
def rstU (o first step : Int) (j : Int) (S : RS) : RS := goS S (turn o ((first + j * step) % 100))
def rstS (o first step many : Int) (S : RS) : RS := itrP (rstU o first step) 0 (many - 1) S
def retU (o o2 b : Int) (f2 : Int → Int) (r : Int) (S : RS) : RS := if isT f2 (turn o2 (keyR o r)) ≠ b then goS S r else S
def retS (o o2 b : Int) (f2 : Int → Int) (S : RS) : RS := itrP (retU o o2 b f2) 0 99 S
def clrS (lo hi : Int) (S : RS) : RS := itrP (fun r S => goS S r) lo hi S
def drpS (lo hi what : Int) (S : RS) : RS := if what = 2 then clrS lo hi S else goS S (endP S.2.2 lo hi (if what = 1 then 1 else 0))
def drpR (o lo hi what : Int) (S : RS) : Int := if what = 2 then S.1 - (clrS lo hi S).1 else pairR o S.2.2 (endP S.2.2 lo hi (if what = 1 then 1 else 0))
theorem mul99 {a b : Int} (ha : 0 ≤ a ∧ a ≤ 100) (hb : 0 ≤ b ∧ b ≤ 99) : 0 ≤ a * b ∧ a * b ≤ 9900 := by
  have h1 := Int.mul_nonneg ha.1 hb.1
  have h2 : a * b ≤ 100 * 99 := Int.mul_le_mul ha.2 hb.2 hb.1 (by omega)
  omega
theorem comeS_out {S : RS} {n v : Int} (h : n < 0 ∨ 100 ≤ n) : comeS S n v = S := if_pos h
theorem comeS_new {S : RS} {n v : Int} (h : 0 ≤ n ∧ n < 100) (q : S.2.2 n = -1) : comeS S n v = (S.1 + 1, S.2.1 + 1, iu S.2.2 n v) := by
  unfold comeS
  rw [if_neg (by omega), if_pos q, if_pos q]
theorem comeS_old {S : RS} {n v : Int} (h : 0 ≤ n ∧ n < 100) (q : S.2.2 n ≠ -1) : comeS S n v = (S.1, S.2.1, iu S.2.2 n v) := by
  unfold comeS
  rw [if_neg (by omega), if_neg q, if_neg q]
theorem goS_out {S : RS} {n : Int} (h : n < 0 ∨ 100 ≤ n) : goS S n = S := if_pos h
theorem goS_old {S : RS} {n : Int} (h : 0 ≤ n ∧ n < 100) (q : S.2.2 n ≠ -1) : goS S n = (S.1 - 1, S.2.1 + 1, iu S.2.2 n (-1)) := by
  unfold goS
  rw [if_neg (by omega), if_neg q, if_neg q]
theorem goS_new {S : RS} {n : Int} (h : 0 ≤ n ∧ n < 100) (q : S.2.2 n = -1) : goS S n = (S.1, S.2.1, iu S.2.2 n (-1)) := by
  unfold goS
  rw [if_neg (by omega), if_pos q, if_pos q]
/-- the worths of a new row -/
def emp (r : Int) : Int := if 0 ≤ r ∧ r < 100 then -1 else 0
def filF (f : Int → Int) (v a : Int) (r : Int) : Int := if 0 ≤ r ∧ r < a then v else f r
theorem filF_0 (f : Int → Int) (v : Int) : filF f v 0 = f := by
  funext r
  unfold filF
  rw [if_neg (by omega)]
theorem filF_s {f : Int → Int} {v a : Int} (h : 0 ≤ a) : iu (filF f v a) a v = filF f v (a + 1) := by
  funext r
  unfold iu filF
  split
  · rw [if_pos (by omega)]
  · by_cases q : 0 ≤ r ∧ r < a
    · rw [if_pos q, if_pos (by omega)]
    · rw [if_neg q, if_neg (by omega)]
theorem filF_e : filF (fun _ => 0) (-1) 100 = emp := rfl
theorem emp_b (r : Int) : -1 ≤ emp r ∧ emp r ≤ 99 := by
  unfold emp
  split <;> omega
theorem Rw_mono {y : Nat → ClassId} {L L1 : List Nat} {F F1 : Nat → va_E} {h w : Nat} {o k g : Int} {f : Int → Int} (a : Rw y L F h w o k g f) (hL : ∀ q ∈ L, q ∈ L1) (hf : ∀ q ∈ L, F1 q = F q) : Rw y L1 F1 h w o k g f := ⟨hL _ a.1, (hf _ a.1).trans a.2.1, hL _ a.2.2.1, (hf _ a.2.2.1).trans a.2.2.2.1, a.2.2.2.2⟩
theorem ne_in {L : List Nat} {a q : Nat} (h : a ∈ L) (hq : q ∉ L) : a ≠ q := fun e => hq (e ▸ h)
def ckU (o : Int) (f : Int → Int) (r : Int) (S : RS) : RS := if isT f r ≠ 0 then comeS S (turn 0 (keyR o r)) 0 else S
def ckS (o : Int) (f : Int → Int) : RS := itrP (ckU o f) 0 99 (0, 0, emp)
/-- a change of an array of references leaves a row -/
theorem Rw_q {y : Nat → ClassId} {L : List Nat} {F : Nat → va_E} {h w x n : Nat} {o k g : Int} {f : Int → Int} {cA : ClassId} {q : Int → Option Nat} {e : va_E} (a : Rw y L F h w o k g f) (hx : F x = arrQ cA n q) : Rw y L (va_up F x e) h w o k g f := by
  refine ⟨a.1, (va_up_ne _ _ (fun z => ?_)).trans a.2.1, a.2.2.1, (va_up_ne _ _ (fun z => ?_)).trans a.2.2.2.1, a.2.2.2.2⟩
  · have h1 := a.2.1
    rw [z, hx] at h1
    cases h1
  · have h1 := a.2.2.2.1
    rw [z, hx] at h1
    cases h1
