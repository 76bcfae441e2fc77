-- what both sides do to a row's worths, and what they tell of it
theorem itrP_inv {α : Type} {u : Int → α → α} {Pr : α → Prop} {a b : Int} (hu : ∀ r x, a ≤ r → r ≤ b → Pr x → Pr (u r x)) : ∀ (k : Nat) (lo hi : Int) (x : α), (hi + 1 - lo).toNat = k → a ≤ lo → hi ≤ b → Pr x → Pr (itrP u lo hi x) := by
  intro k
  induction k with
  | zero =>
    intro lo hi x hk h1 h2 h
    rw [itrP_e (by omega)]
    exact h
  | succ k ih =>
    intro lo hi x hk h1 h2 h
    rw [itrP_s (by omega)]
    exact ih (lo + 1) hi _ (by omega) (by omega) h2 (hu lo x h1 (by omega) h)
theorem itrP_sim {α β : Type} {u : Int → α → α} {u2 : Int → β → β} {Pr : α → β → Prop} {a b : Int} (hu : ∀ r x z, a ≤ r → r ≤ b → Pr x z → Pr (u r x) (u2 r z)) : ∀ (k : Nat) (lo hi : Int) (x : α) (z : β), (hi + 1 - lo).toNat = k → a ≤ lo → hi ≤ b → Pr x z → Pr (itrP u lo hi x) (itrP u2 lo hi z) := by
  intro k
  induction k with
  | zero =>
    intro lo hi x z hk h1 h2 h
    rw [itrP_e (u := u) (by omega), itrP_e (u := u2) (by omega)]
    exact h
  | succ k ih =>
    intro lo hi x z hk h1 h2 h
    rw [itrP_s (u := u) (by omega), itrP_s (u := u2) (by omega)]
    exact ih (lo + 1) hi _ _ (by omega) (by omega) h2 (hu lo x z h1 (by omega) h)
/-- a loop that writes each place at most once, told at a place -/
theorem itr_close {α : Type} (get : α → Int → Int) {u : Int → α → α} {c : Int → Prop} [DecidablePred c] {d inv v : Int → Int} {a b : Int} (hu : ∀ r x, a ≤ r → r ≤ b → get (u r x) = if c r then iu (get x) (d r) (v r) else get x) (hd : ∀ r, a ≤ r → r ≤ b → (0 ≤ d r ∧ d r ≤ 99) ∧ inv (d r) = r) (hi : ∀ t, 0 ≤ t → t ≤ 99 → d (inv t) = t) : ∀ (k : Nat) (lo h9 : Int) (x : α), (h9 + 1 - lo).toNat = k → a ≤ lo → h9 ≤ b → ∀ t, get (itrP u lo h9 x) t = if (0 ≤ t ∧ t ≤ 99) ∧ lo ≤ inv t ∧ inv t ≤ h9 ∧ c (inv t) then v (inv t) else get x t := by
  intro k
  induction k with
  | zero =>
    intro lo h9 x hk h1 h2 t
    rw [itrP_e (by omega), if_neg (by omega)]
  | succ k ih =>
    intro lo h9 x hk h1 h2 t
    rw [itrP_s (by omega), ih (lo + 1) h9 (u lo x) (by omega) (by omega) h2 t, hu lo x h1 (by omega)]
    have dl := hd lo h1 (by omega)
    by_cases e : t = d lo
    · subst e
      rw [dl.2, if_neg (by omega)]
      by_cases q : c lo
      · rw [if_pos q, iu_s, if_pos ⟨dl.1, by omega, by omega, q⟩]
      · rw [if_neg q, if_neg (fun z => q z.2.2.2)]
    · have e2 : (if c lo then iu (get x) (d lo) (v lo) else get x) t = get x t := by
        by_cases q : c lo
        · rw [if_pos q, iu_n e]
        · rw [if_neg q]
      rw [e2]
      by_cases z : (0 ≤ t ∧ t ≤ 99) ∧ lo + 1 ≤ inv t ∧ inv t ≤ h9 ∧ c (inv t)
      · rw [if_pos z, if_pos ⟨z.1, by omega, z.2.2.1, z.2.2.2⟩]
      · rw [if_neg z, if_neg (fun w => z ⟨w.1, by
          have : inv t ≠ lo := fun e9 => e (by rw [← e9, hi t w.1.1 w.1.2])
          omega, w.2.2.1, w.2.2.2⟩)]
theorem comeS_f {S : RS} {n v : Int} (h : 0 ≤ n ∧ n ≤ 99) : (comeS S n v).2.2 = iu S.2.2 n v := by
  unfold comeS
  rw [if_neg (by omega)]
theorem goS_f {S : RS} {n : Int} (h : 0 ≤ n ∧ n ≤ 99) : (goS S n).2.2 = iu S.2.2 n (-1) := by
  unfold goS
  rw [if_neg (by omega)]
theorem wAt_in {f : Int → Int} {r : Int} (h : 0 ≤ r ∧ r ≤ 99) : wAt f r = f r := by
  unfold wAt
  rw [if_neg (by omega)]
theorem kyI {o r : Int} (h : 0 ≤ r) : keyR o r = turn o r := by
  unfold keyR
  rw [if_neg (by omega)]
theorem turn0 (n : Int) : turn 0 n = n := rfl
theorem isT_0 {f : Int → Int} {r : Int} (h : 0 ≤ r ∧ r ≤ 99) : isT f r = 0 ↔ f r = -1 := by
  unfold isT
  by_cases e : f r = -1
  · rw [if_neg (fun z => z.2.2 e)]
    exact ⟨fun _ => e, fun _ => rfl⟩
  · rw [if_pos ⟨h.1, by omega, e⟩]
    exact ⟨fun z => absurd z (by decide), fun z => absurd z e⟩
theorem turn_d {o o2 r : Int} (h : 0 ≤ r ∧ r ≤ 99) : (0 ≤ turn o (turn o2 r) ∧ turn o (turn o2 r) ≤ 99) ∧ turn o2 (turn o (turn o (turn o2 r))) = r := by
  have h1 := turn_b (o := o2) h
  exact ⟨turn_b h1, by rw [turn_t h1, turn_t h]⟩
theorem turn_i {o o2 t : Int} (h : 0 ≤ t ∧ t ≤ 99) : turn o (turn o2 (turn o2 (turn o t))) = t := by
  have h1 := turn_b (o := o) h
  rw [turn_t h1, turn_t h]
-- the class's loops, told at a place
theorem addS_f {o o2 lo hi : Int} {f2 : Int → Int} {S : RS} (h1 : 0 ≤ lo) (h2 : hi ≤ 99) (t : Int) : (addS o o2 f2 lo hi S).2.2 t = if (0 ≤ t ∧ t ≤ 99) ∧ lo ≤ turn o2 (turn o t) ∧ turn o2 (turn o t) ≤ hi ∧ isT f2 (turn o2 (turn o t)) ≠ 0 then f2 (turn o2 (turn o t)) else S.2.2 t := by
  unfold addS
  refine itr_close (a := 0) (b := 99) (fun S : RS => S.2.2) (c := fun r => isT f2 r ≠ 0) (d := fun r => turn o (turn o2 r)) (inv := fun t => turn o2 (turn o t)) (v := f2) (fun r x a b => ?_) (fun r a b => turn_d ⟨a, b⟩) (fun t a b => turn_i ⟨a, b⟩) _ lo hi S rfl h1 h2 t
  have tb := turn_b (o := o2) (n := r) ⟨a, b⟩
  unfold addU
  by_cases q : isT f2 r ≠ 0
  · rw [if_pos q, if_pos q, kyI a, wAt_in ⟨a, b⟩, comeS_f (turn_b tb)]
  · rw [if_neg q, if_neg q]
theorem retS_f {o o2 b : Int} {f2 : Int → Int} {S : RS} (t : Int) : (retS o o2 b f2 S).2.2 t = if (0 ≤ t ∧ t ≤ 99) ∧ isT f2 (turn o2 (turn o t)) ≠ b then -1 else S.2.2 t := by
  unfold retS
  have h := itr_close (a := 0) (b := 99) (fun S : RS => S.2.2) (c := fun r => isT f2 (turn o2 (turn o r)) ≠ b) (d := fun r => r) (inv := fun t => t) (v := fun _ => -1) (u := retU o o2 b f2) (fun r x a b9 => by
    unfold retU
    rw [kyI a]
    by_cases q : isT f2 (turn o2 (turn o r)) ≠ b
    · rw [if_pos q, if_pos q, goS_f ⟨a, b9⟩]
    · rw [if_neg q, if_neg q]) (fun r a b => ⟨⟨a, b⟩, rfl⟩) (fun t a b => rfl) _ 0 99 S rfl (by omega) (by omega) t
  rw [h]
  by_cases q : (0 ≤ t ∧ t ≤ 99) ∧ isT f2 (turn o2 (turn o t)) ≠ b
  · rw [if_pos q, if_pos ⟨q.1, q.1.1, q.1.2, q.2⟩]
  · rw [if_neg q, if_neg (fun z => q ⟨z.1, z.2.2.2⟩)]
theorem ckS_f {o : Int} {f : Int → Int} (t : Int) : (ckS o f).2.2 t = if (0 ≤ t ∧ t ≤ 99) ∧ isT f (turn o t) ≠ 0 then 0 else emp t := by
  unfold ckS
  have h := itr_close (a := 0) (b := 99) (fun S : RS => S.2.2) (c := fun r => isT f r ≠ 0) (d := fun r => turn 0 (turn o r)) (inv := fun t => turn o t) (v := fun _ => 0) (u := ckU o f) (fun r x a b9 => by
    unfold ckU
    have tb := turn_b (o := o) (n := r) ⟨a, b9⟩
    rw [kyI a]
    by_cases q : isT f r ≠ 0
    · rw [if_pos q, if_pos q, comeS_f (turn_b tb)]
    · rw [if_neg q, if_neg q]) (fun r a b => ⟨turn_b (turn_b ⟨a, b⟩), by rw [turn0, turn_t ⟨a, b⟩]⟩) (fun t a b => by rw [turn_t ⟨a, b⟩, turn0]) _ 0 99 (0, 0, emp) rfl (by omega) (by omega) t
  rw [h]
  by_cases q : (0 ≤ t ∧ t ≤ 99) ∧ isT f (turn o t) ≠ 0
  · have tb := turn_b (o := o) q.1
    rw [if_pos q, if_pos ⟨q.1, tb.1, tb.2, q.2⟩]
  · rw [if_neg q, if_neg (fun z => q ⟨z.1, z.2.2.2⟩)]
theorem clrS_f {lo hi : Int} {S : RS} (h1 : 0 ≤ lo) (h2 : hi ≤ 99) (t : Int) : (clrS lo hi S).2.2 t = if lo ≤ t ∧ t ≤ hi then -1 else S.2.2 t := by
  unfold clrS
  have h := itr_close (a := 0) (b := 99) (fun S : RS => S.2.2) (c := fun _ => True) (d := fun r => r) (inv := fun t => t) (v := fun _ => -1) (u := fun r S => goS S r) (fun r x a b9 => by rw [if_pos trivial, goS_f ⟨a, b9⟩]) (fun r a b => ⟨⟨a, b⟩, rfl⟩) (fun t a b => rfl) _ lo hi S rfl h1 h2 t
  rw [h]
  by_cases q : lo ≤ t ∧ t ≤ hi
  · rw [if_pos q, if_pos ⟨by omega, q.1, q.2, trivial⟩]
  · rw [if_neg q, if_neg (fun z => q ⟨z.2.1, z.2.2.1⟩)]
-- the reference's
theorem mlkF_it {no o : Int} {f : Int → Int} : ∀ (n : Nat) (r : Int) (g : Int → Int), mlkF no o f n r g = itrF (fun r g => iu g (turn no (turn o r)) (f r)) r n g := by
  intro n
  induction n with
  | zero => intro r g; rfl
  | succ n ih =>
    intro r g
    unfold mlkF itrF
    exact ih _ _
theorem mlk_f {no o lo hi : Int} {f g : Int → Int} (h1 : 0 ≤ lo) (h2 : hi ≤ 99) (t : Int) : mlk no o f lo hi g t = if (0 ≤ t ∧ t ≤ 99) ∧ lo ≤ turn o (turn no t) ∧ turn o (turn no t) ≤ hi then f (turn o (turn no t)) else g t := by
  have e : mlk no o f lo hi g = itrP (fun r g => iu g (turn no (turn o r)) (f r)) lo hi g := mlkF_it _ _ _
  rw [e]
  have h := itr_close (a := 0) (b := 99) (fun g : Int → Int => g) (c := fun _ => True) (d := fun r => turn no (turn o r)) (inv := fun t => turn o (turn no t)) (v := f) (u := fun r g => iu g (turn no (turn o r)) (f r)) (fun r x a b9 => by rw [if_pos trivial]) (fun r a b => turn_d ⟨a, b⟩) (fun t a b => turn_i ⟨a, b⟩) _ lo hi g rfl h1 h2 t
  refine h.trans ?_
  by_cases q : (0 ≤ t ∧ t ≤ 99) ∧ lo ≤ turn o (turn no t) ∧ turn o (turn no t) ≤ hi
  · rw [if_pos q, if_pos ⟨q.1, q.2.1, q.2.2, trivial⟩]
  · rw [if_neg q, if_neg (fun z => q ⟨z.1, z.2.1, z.2.2.1⟩)]
theorem mlk_add {no o lo hi : Int} {f : Int → Int} (h1 : 0 ≤ lo) (h2 : hi ≤ 99) : mlk no o f lo hi emp = (addS no o f lo hi R0).2.2 := by
  funext t
  rw [mlk_f h1 h2, addS_f h1 h2]
  by_cases q : (0 ≤ t ∧ t ≤ 99) ∧ lo ≤ turn o (turn no t) ∧ turn o (turn no t) ≤ hi
  · rw [if_pos q]
    have tb := turn_b (o := o) (turn_b (o := no) q.1)
    by_cases z : isT f (turn o (turn no t)) ≠ 0
    · rw [if_pos ⟨q.1, q.2.1, q.2.2, z⟩]
    · rw [if_neg (fun w => z w.2.2.2)]
      have e : f (turn o (turn no t)) = -1 := (isT_0 tb).1 (by omega)
      rw [e]
      show -1 = emp t
      unfold emp
      rw [if_pos (by omega)]
  · rw [if_neg q, if_neg (fun w => q ⟨w.1, w.2.1, w.2.2.1⟩)]
theorem paX_f {k : Option Nat} {i : Nat} {o o2 : Int} {f2 : Int → Int} {x : SX} (t : Int) : (itrP (paU k i o o2 f2) 0 99 x).1 t = if (0 ≤ t ∧ t ≤ 99) ∧ isT f2 (turn o2 (turn o t)) ≠ 0 then f2 (turn o2 (turn o t)) else x.1 t := by
  have h := itr_close (a := 0) (b := 99) (fun x : SX => x.1) (c := fun q => isT f2 (turn o2 q) ≠ 0) (d := fun q => turn o q) (inv := fun t => turn o t) (v := fun q => f2 (turn o2 q)) (u := paU k i o o2 f2) (fun r x a b9 => by
    unfold paU
    by_cases q : isT f2 (turn o2 r) ≠ 0
    · rw [if_pos q, if_pos q]; rfl
    · rw [if_neg q, if_neg q]) (fun r a b => ⟨turn_b ⟨a, b⟩, turn_t ⟨a, b⟩⟩) (fun t a b => turn_t ⟨a, b⟩) _ 0 99 x rfl (by omega) (by omega) t
  rw [h]
  by_cases q : (0 ≤ t ∧ t ≤ 99) ∧ isT f2 (turn o2 (turn o t)) ≠ 0
  · have tb := turn_b (o := o) q.1
    rw [if_pos q, if_pos ⟨q.1, tb.1, tb.2, q.2⟩]
  · rw [if_neg q, if_neg (fun z => q ⟨z.1, z.2.2.2⟩)]
theorem keX_f {k : Option Nat} {i : Nat} {o o2 b : Int} {f2 : Int → Int} {x : SX} (t : Int) : (itrP (keU k i o o2 f2 b) 0 99 x).1 t = if (0 ≤ t ∧ t ≤ 99) ∧ isT f2 (turn o2 (turn o t)) ≠ b then -1 else x.1 t := by
  have h := itr_close (a := 0) (b := 99) (fun x : SX => x.1) (c := fun q => isT f2 (turn o2 q) ≠ b) (d := fun q => turn o q) (inv := fun t => turn o t) (v := fun _ => -1) (u := keU k i o o2 f2 b) (fun r x a b9 => by
    unfold keU
    by_cases q : isT f2 (turn o2 r) ≠ b
    · rw [if_pos q, if_pos q]; rfl
    · rw [if_neg q, if_neg q]) (fun r a b => ⟨turn_b ⟨a, b⟩, turn_t ⟨a, b⟩⟩) (fun t a b => turn_t ⟨a, b⟩) _ 0 99 x rfl (by omega) (by omega) t
  rw [h]
  by_cases q : (0 ≤ t ∧ t ≤ 99) ∧ isT f2 (turn o2 (turn o t)) ≠ b
  · have tb := turn_b (o := o) q.1
    rw [if_pos q, if_pos ⟨q.1, tb.1, tb.2, q.2⟩]
  · rw [if_neg q, if_neg (fun z => q ⟨z.1, z.2.2.2⟩)]
theorem koX_f {k : Option Nat} {i : Nat} {o2 : Int} {f2 : Int → Int} {x : SX} (t : Int) : (itrP (koU o2 f2 k i) 0 99 x).1 t = if 0 ≤ t ∧ t ≤ 99 then (if isT f2 (turn o2 t) ≠ 0 then 0 else -1) else x.1 t := by
  have h := itr_close (a := 0) (b := 99) (fun x : SX => x.1) (c := fun _ => True) (d := fun q => turn 0 q) (inv := fun t => t) (v := fun q => if isT f2 (turn o2 q) ≠ 0 then 0 else -1) (u := koU o2 f2 k i) (fun r x a b9 => by
    unfold koU
    rw [if_pos trivial]
    by_cases q : isT f2 (turn o2 r) ≠ 0
    · rw [if_pos q, if_pos q]; rfl
    · rw [if_neg q, if_neg q]; rfl) (fun r a b => ⟨turn_b ⟨a, b⟩, turn0 r⟩) (fun t a b => turn0 t) _ 0 99 x rfl (by omega) (by omega) t
  rw [h]
  by_cases q : 0 ≤ t ∧ t ≤ 99
  · rw [if_pos q, if_pos ⟨q, q.1, q.2, trivial⟩]
  · rw [if_neg q, if_neg (fun z => q z.1)]
theorem koX_ck {k : Option Nat} {i : Nat} {o : Int} {f : Int → Int} {b0 : Int} : (itrP (koU o f k i) 0 99 (emp, b0, 0)).1 = (ckS o f).2.2 := by
  funext t
  rw [koX_f, ckS_f]
  by_cases h : 0 ≤ t ∧ t ≤ 99
  · rw [if_pos h]
    by_cases q : isT f (turn o t) ≠ 0
    · rw [if_pos q, if_pos ⟨h, q⟩]
    · rw [if_neg q, if_neg (fun z => q z.2)]
      unfold emp
      rw [if_pos (by omega)]
  · rw [if_neg h, if_neg (fun z => h z.1)]
theorem paX_add {k : Option Nat} {i : Nat} {o o2 b0 : Int} {f2 : Int → Int} {S : RS} : (itrP (paU k i o o2 f2) 0 99 (S.2.2, b0, 0)).1 = (addS o o2 f2 0 99 S).2.2 := by
  funext t
  rw [paX_f, addS_f (by omega) (by omega)]
  by_cases h : (0 ≤ t ∧ t ≤ 99) ∧ isT f2 (turn o2 (turn o t)) ≠ 0
  · have tb := turn_b (o := o2) (turn_b (o := o) h.1)
    rw [if_pos h, if_pos ⟨h.1, tb.1, tb.2, h.2⟩]
  · rw [if_neg h, if_neg (fun z => h ⟨z.1, z.2.2.2⟩)]
theorem keX_ret {k : Option Nat} {i : Nat} {o o2 b b0 : Int} {f2 : Int → Int} {S : RS} : (itrP (keU k i o o2 f2 b) 0 99 (S.2.2, b0, 0)).1 = (retS o o2 b f2 S).2.2 := by
  funext t
  rw [keX_f, retS_f]
theorem sbX_0 {k : Option Nat} {i : Nat} {o o2 b0 : Int} {f2 : Int → Int} {S : RS} (hz : ∀ r, f2 r ≤ 0) (hz2 : ∀ r, -1 ≤ f2 r) : (itrP (sbU k i o o2 f2 0) 0 99 (S.2.2, b0, 0)).1 = (addS o o2 f2 0 99 S).2.2 := by
  funext t
  rw [← paX_add (k := k) (i := i) (b0 := b0)]
  refine congrFun (itrP_sim (Pr := fun (x z : SX) => x.1 = z.1) (a := 0) (b := 99) (fun r x z h1 h2 h => ?_) _ 0 99 (S.2.2, b0, 0) (S.2.2, b0, 0) rfl (by omega) (by omega) rfl) t
  unfold sbU paU
  rw [if_pos rfl]
  have tb := turn_b (o := o2) (n := r) ⟨h1, h2⟩
  have ib := isT_b f2 (turn o2 r)
  by_cases q : isT f2 (turn o2 r) ≠ 0
  · rw [if_pos (by omega), if_pos q]
    have w := isT_in q
    have e : mwd o2 f2 r = 0 := by
      show f2 (turn o2 r) = 0
      have := hz (turn o2 r)
      have := hz2 (turn o2 r)
      omega
    rw [e]
    show iu x.1 (turn o r) 0 = iu z.1 (turn o r) 0
    rw [h]
  · rw [if_neg (by omega), if_neg q]
    exact h
theorem sbX_1 {k : Option Nat} {i : Nat} {o o2 b0 t9 : Int} {f2 : Int → Int} {S : RS} (h9 : t9 ≠ 0) : (itrP (sbU k i o o2 f2 t9) 0 99 (S.2.2, b0, 0)).1 = (retS o o2 (if t9 = 1 then 1 else 0) f2 S).2.2 := by
  funext t
  rw [← keX_ret (k := k) (i := i) (b0 := b0)]
  refine congrFun (itrP_sim (Pr := fun (x z : SX) => x.1 = z.1) (a := 0) (b := 99) (fun r x z h1 h2 h => ?_) _ 0 99 (S.2.2, b0, 0) (S.2.2, b0, 0) rfl (by omega) (by omega) rfl) t
  unfold sbU keU
  rw [if_neg h9]
  have ib := isT_b f2 (turn o2 r)
  by_cases q : isT f2 (turn o2 r) = (if t9 = 1 then 0 else 1)
  · rw [if_pos q, if_pos (by split at q <;> omega)]
    show iu x.1 (turn o r) (-1) = iu z.1 (turn o r) (-1)
    rw [h]
  · rw [if_neg q, if_neg (by split at q <;> omega)]
    exact h
theorem clX_clr {k : Option Nat} {i : Nat} {o lo hi b0 : Int} {S : RS} (h1 : 0 ≤ lo) (h2 : hi ≤ 99) : (itrP (clU k i o) lo hi (S.2.2, b0, 0)).1 = (clrS lo hi S).2.2 := by
  refine itrP_sim (Pr := fun (x : SX) (S : RS) => x.1 = S.2.2) (a := 0) (b := 99) (fun r x z a b h => ?_) _ lo hi (S.2.2, b0, 0) S rfl h1 h2 rfl
  show iu x.1 (turn o (turn o r)) (-1) = (goS z r).2.2
  rw [turn_t ⟨a, b⟩, goS_f ⟨a, b⟩, h]
theorem fiX_rst {k : Option Nat} {i : Nat} {o f s n b0 : Int} {S : RS} : (itrP (fiU k i o f s (-1)) 0 (n - 1) (S.2.2, b0, 0)).1 = (rstS o f s n S).2.2 := by
  refine itrP_sim (Pr := fun (x : SX) (S : RS) => x.1 = S.2.2) (a := 0) (b := n - 1) (fun r x z a b h => ?_) _ 0 (n - 1) (S.2.2, b0, 0) S rfl (by omega) (by omega) rfl
  unfold fiU rstU
  rw [if_pos rfl, goS_f (turn_b (by omega)), ← h]
  rfl
theorem fiX_stp {k : Option Nat} {i : Nat} {o f s n w b0 : Int} {S : RS} (hw : w ≠ -1) : (itrP (fiU k i o f s w) 0 (n - 1) (S.2.2, b0, 0)).1 = (stpS o f s n w S).2.2 := by
  refine itrP_sim (Pr := fun (x : SX) (S : RS) => x.1 = S.2.2) (a := 0) (b := n - 1) (fun r x z a b h => ?_) _ 0 (n - 1) (S.2.2, b0, 0) S rfl (by omega) (by omega) rfl
  unfold fiU stpU
  rw [if_neg hw, comeS_f (turn_b (by omega)), ← h]
  rfl
theorem laX_kst {k : Option Nat} {i : Nat} {o f s n w b0 : Int} {S : RS} (hw : w ≠ 0) : (itrP (laU k i o f s w) 0 (n - 1) (S.2.2, b0, 0)).1 = (kstS o f s n S).2.2 := by
  refine itrP_sim (Pr := fun (x : SX) (S : RS) => x.1 = S.2.2) (a := 0) (b := n - 1) (fun r x z a b h => ?_) _ 0 (n - 1) (S.2.2, b0, 0) S rfl (by omega) (by omega) rfl
  unfold laU kstU
  rw [if_pos hw, comeS_f (turn_b (by omega)), ← h]
  rfl
theorem laX_rst {k : Option Nat} {i : Nat} {o f s n b0 : Int} {S : RS} : (itrP (laU k i o f s 0) 0 (n - 1) (S.2.2, b0, 0)).1 = (rstS o f s n S).2.2 := by
  refine itrP_sim (Pr := fun (x : SX) (S : RS) => x.1 = S.2.2) (a := 0) (b := n - 1) (fun r x z a b h => ?_) _ 0 (n - 1) (S.2.2, b0, 0) S rfl (by omega) (by omega) rfl
  unfold laU rstU
  rw [if_neg (fun z => z rfl), goS_f (turn_b (by omega)), ← h]
  rfl
-- counts and changes: keys come only, or go only
def DC (S0 S : RS) : Prop := S.2.1 = S0.2.1 + (S.1 - S0.1) ∧ S0.1 ≤ S.1
def DG (S0 S : RS) : Prop := S.2.1 = S0.2.1 + (S0.1 - S.1) ∧ S.1 ≤ S0.1
theorem DC_rf (S : RS) : DC S S := ⟨by omega, by omega⟩
theorem DG_rf (S : RS) : DG S S := ⟨by omega, by omega⟩
theorem DC_come {S0 S : RS} {n v : Int} (h : DC S0 S) : DC S0 (comeS S n v) := by
  obtain ⟨h1, h2⟩ := h
  by_cases hn : n < 0 ∨ 100 ≤ n
  · rw [comeS_out hn]; exact ⟨h1, h2⟩
  · by_cases q : S.2.2 n = -1
    · rw [comeS_new (by omega) q]
      exact ⟨by show S.2.1 + 1 = S0.2.1 + (S.1 + 1 - S0.1); omega, by show S0.1 ≤ S.1 + 1; omega⟩
    · rw [comeS_old (by omega) q]; exact ⟨h1, h2⟩
theorem DG_go {S0 S : RS} {n : Int} (h : DG S0 S) : DG S0 (goS S n) := by
  obtain ⟨h1, h2⟩ := h
  by_cases hn : n < 0 ∨ 100 ≤ n
  · rw [goS_out hn]; exact ⟨h1, h2⟩
  · by_cases q : S.2.2 n = -1
    · rw [goS_new (by omega) q]; exact ⟨h1, h2⟩
    · rw [goS_old (by omega) q]
      exact ⟨by show S.2.1 + 1 = S0.2.1 + (S0.1 - (S.1 - 1)); omega, by show S.1 - 1 ≤ S0.1; omega⟩
theorem DC_it {u : Int → RS → RS} {lo hi : Int} {S0 : RS} (hu : ∀ r S, DC S0 S → DC S0 (u r S)) : DC S0 (itrP u lo hi S0) := itrP_inv (a := lo) (b := hi) (fun r x _ _ h => hu r x h) _ lo hi S0 rfl (Int.le_refl _) (Int.le_refl _) (DC_rf S0)
theorem DG_it {u : Int → RS → RS} {lo hi : Int} {S0 : RS} (hu : ∀ r S, DG S0 S → DG S0 (u r S)) : DG S0 (itrP u lo hi S0) := itrP_inv (a := lo) (b := hi) (fun r x _ _ h => hu r x h) _ lo hi S0 rfl (Int.le_refl _) (Int.le_refl _) (DG_rf S0)
theorem DC_add {o o2 lo hi : Int} {f2 : Int → Int} {S : RS} : DC S (addS o o2 f2 lo hi S) := DC_it (fun r S h => by
  unfold addU
  split
  · exact DC_come h
  · exact h)
theorem DC_stp {o a b n w : Int} {S : RS} : DC S (stpS o a b n w S) := DC_it (fun r S h => DC_come h)
theorem DC_kst {o a b n : Int} {S : RS} : DC S (kstS o a b n S) := DC_it (fun r S h => DC_come h)
theorem DG_rst {o a b n : Int} {S : RS} : DG S (rstS o a b n S) := DG_it (fun r S h => DG_go h)
theorem DG_ret {o o2 b : Int} {f2 : Int → Int} {S : RS} : DG S (retS o o2 b f2 S) := DG_it (fun r S h => by
  unfold retU
  split
  · exact DG_go h
  · exact h)
theorem DG_clr {lo hi : Int} {S : RS} : DG S (clrS lo hi S) := DG_it (fun r S h => DG_go h)
def XCo (k : Option Nat) (i : Nat) (x0 x : SX) : Prop := x.2.2 = x0.2.2 + (cntP x.1 0 99 - cntP x0.1 0 99) ∧ x0.2.2 ≤ x.2.2 ∧ x.2.1 = if x.2.2 ≠ x0.2.2 ∧ k = some i then 1 else x0.2.1
def XGo (k : Option Nat) (i : Nat) (x0 x : SX) : Prop := x.2.2 = x0.2.2 + (cntP x0.1 0 99 - cntP x.1 0 99) ∧ x0.2.2 ≤ x.2.2 ∧ x.2.1 = if x.2.2 ≠ x0.2.2 ∧ k = some i then 1 else x0.2.1
theorem XC_rf {k : Option Nat} {i : Nat} (x : SX) : XCo k i x x := ⟨by omega, by omega, by rw [if_neg (fun z => z.1 rfl)]⟩
theorem XG_rf {k : Option Nat} {i : Nat} (x : SX) : XGo k i x x := ⟨by omega, by omega, by rw [if_neg (fun z => z.1 rfl)]⟩
theorem seC_c {f : Int → Int} {r w : Int} (hr : 0 ≤ r ∧ r ≤ 99) (hw : w ≠ -1) : seC f r w = cntP (iu f r w) 0 99 - cntP f 0 99 := by
  have e := cntP_iu (f := f) (v := w) (n := r) (by omega)
  have e1 : isT (iu f r w) r = 1 := by
    unfold isT
    rw [iu_s, if_pos ⟨hr.1, by omega, hw⟩]
  have b := isT_b f r
  unfold seC
  rw [if_neg hw]
  split <;> omega
theorem seC_g {f : Int → Int} {r : Int} (hr : 0 ≤ r ∧ r ≤ 99) : seC f r (-1) = cntP f 0 99 - cntP (iu f r (-1)) 0 99 := by
  have e := cntP_iu (f := f) (v := -1) (n := r) (by omega)
  have e1 : isT (iu f r (-1)) r = 0 := by
    unfold isT
    rw [iu_s, if_neg (fun z => z.2.2 rfl)]
  have b := isT_b f r
  unfold seC
  rw [if_pos rfl]
  split <;> omega
theorem seB_x {k : Option Nat} {i : Nat} {f : Int → Int} {r w b0 n n0 : Int} (h : n0 ≤ n) : seB k i f r w (if n ≠ n0 ∧ k = some i then 1 else b0) = if n + seC f r w ≠ n0 ∧ k = some i then 1 else b0 := by
  have b := seC_b f r w
  unfold seB
  by_cases hk : k = some i
  · by_cases c : seC f r w = 1
    · rw [if_pos ⟨c, hk⟩, if_pos ⟨by omega, hk⟩]
    · rw [if_neg (fun z => c z.1)]
      by_cases e : n ≠ n0
      · rw [if_pos ⟨e, hk⟩, if_pos ⟨by omega, hk⟩]
      · rw [if_neg (fun z => e z.1), if_neg (fun z => z.1 (by omega))]
  · rw [if_neg (fun z => hk z.2), if_neg (fun z => hk z.2), if_neg (fun z => hk z.2)]
theorem XC_s {k : Option Nat} {i : Nat} {x0 x : SX} {r w : Int} (h : XCo k i x0 x) (hr : 0 ≤ r ∧ r ≤ 99) (hw : w ≠ -1) : XCo k i x0 (sX k i r w x) := by
  obtain ⟨h1, h2, h3⟩ := h
  have e := seC_c (f := x.1) hr hw
  have b := seC_b x.1 r w
  refine ⟨?_, ?_, ?_⟩
  · show x.2.2 + seC x.1 r w = x0.2.2 + (cntP (iu x.1 r w) 0 99 - cntP x0.1 0 99)
    omega
  · show x0.2.2 ≤ x.2.2 + seC x.1 r w
    omega
  · show seB k i x.1 r w x.2.1 = if x.2.2 + seC x.1 r w ≠ x0.2.2 ∧ k = some i then 1 else x0.2.1
    rw [h3, seB_x h2]
theorem XG_s {k : Option Nat} {i : Nat} {x0 x : SX} {r : Int} (h : XGo k i x0 x) (hr : 0 ≤ r ∧ r ≤ 99) : XGo k i x0 (sX k i r (-1) x) := by
  obtain ⟨h1, h2, h3⟩ := h
  have e := seC_g (f := x.1) hr
  have b := seC_b x.1 r (-1)
  refine ⟨?_, ?_, ?_⟩
  · show x.2.2 + seC x.1 r (-1) = x0.2.2 + (cntP x0.1 0 99 - cntP (iu x.1 r (-1)) 0 99)
    omega
  · show x0.2.2 ≤ x.2.2 + seC x.1 r (-1)
    omega
  · show seB k i x.1 r (-1) x.2.1 = if x.2.2 + seC x.1 r (-1) ≠ x0.2.2 ∧ k = some i then 1 else x0.2.1
    rw [h3, seB_x h2]
theorem XC_it {k : Option Nat} {i : Nat} {u : Int → SX → SX} {lo hi : Int} {x0 : SX} (hu : ∀ r x, lo ≤ r → r ≤ hi → XCo k i x0 x → XCo k i x0 (u r x)) : XCo k i x0 (itrP u lo hi x0) := itrP_inv (a := lo) (b := hi) hu _ lo hi x0 rfl (Int.le_refl _) (Int.le_refl _) (XC_rf x0)
theorem XG_it {k : Option Nat} {i : Nat} {u : Int → SX → SX} {lo hi : Int} {x0 : SX} (hu : ∀ r x, lo ≤ r → r ≤ hi → XGo k i x0 x → XGo k i x0 (u r x)) : XGo k i x0 (itrP u lo hi x0) := itrP_inv (a := lo) (b := hi) hu _ lo hi x0 rfl (Int.le_refl _) (Int.le_refl _) (XG_rf x0)
theorem XG_cl {k : Option Nat} {i : Nat} {o lo hi : Int} {x : SX} (h1 : 0 ≤ lo) (h2 : hi ≤ 99) : XGo k i x (itrP (clU k i o) lo hi x) := XG_it (fun r x a b h => XG_s h (turn_b (turn_b (by omega))))
theorem XC_pa {k : Option Nat} {i : Nat} {o o2 : Int} {f2 : Int → Int} {x : SX} : XCo k i x (itrP (paU k i o o2 f2) 0 99 x) := XC_it (fun r x a b h => by
  unfold paU
  split
  · rename_i q
    exact XC_s h (turn_b ⟨a, b⟩) (isT_in q).2.2
  · exact h)
theorem XG_ke {k : Option Nat} {i : Nat} {o o2 z : Int} {f2 : Int → Int} {x : SX} : XGo k i x (itrP (keU k i o o2 f2 z) 0 99 x) := XG_it (fun r x a b h => by
  unfold keU
  split
  · exact XG_s h (turn_b ⟨a, b⟩)
  · exact h)
theorem XC_sb {k : Option Nat} {i : Nat} {o o2 : Int} {f2 : Int → Int} {x : SX} : XCo k i x (itrP (sbU k i o o2 f2 0) 0 99 x) := XC_it (fun r x a b h => by
  unfold sbU
  rw [if_pos rfl]
  split
  · exact XC_s h (turn_b ⟨a, b⟩) (by decide)
  · exact h)
theorem XG_sb {k : Option Nat} {i : Nat} {o o2 t : Int} {f2 : Int → Int} {x : SX} (ht : t ≠ 0) : XGo k i x (itrP (sbU k i o o2 f2 t) 0 99 x) := XG_it (fun r x a b h => by
  unfold sbU
  rw [if_neg ht]
  by_cases q : isT f2 (turn o2 r) = (if t = 1 then 0 else 1)
  · rw [if_pos q]
    exact XG_s h (turn_b ⟨a, b⟩)
  · rw [if_neg q]
    exact h)
theorem XG_fi {k : Option Nat} {i : Nat} {o f s n : Int} {x : SX} : XGo k i x (itrP (fiU k i o f s (-1)) 0 (n - 1) x) := XG_it (fun r x a b h => by
  unfold fiU
  rw [if_pos rfl]
  exact XG_s h (turn_b (by omega)))
theorem XC_fi {k : Option Nat} {i : Nat} {o f s n w : Int} {x : SX} (hw : w ≠ -1) : XCo k i x (itrP (fiU k i o f s w) 0 (n - 1) x) := XC_it (fun r x a b h => by
  unfold fiU
  rw [if_neg hw]
  exact XC_s h (turn_b (by omega)) (by omega))
theorem XC_la {k : Option Nat} {i : Nat} {o f s n w : Int} {x : SX} (hw : w ≠ 0) : XCo k i x (itrP (laU k i o f s w) 0 (n - 1) x) := XC_it (fun r x a b h => by
  unfold laU
  rw [if_pos hw]
  exact XC_s h (turn_b (by omega)) (by decide))
theorem XG_la {k : Option Nat} {i : Nat} {o f s n : Int} {x : SX} : XGo k i x (itrP (laU k i o f s 0) 0 (n - 1) x) := XG_it (fun r x a b h => by
  unfold laU
  rw [if_neg (fun z => z rfl)]
  exact XG_s h (turn_b (by omega)))
/-- a row's change on both sides is one -/
def TR (k : Option Nat) (i : Nat) (b0 : Int) (S0 S : RS) (x : SX) : Prop := x.1 = S.2.2 ∧ S.2.1 = S0.2.1 + x.2.2 ∧ 0 ≤ x.2.2 ∧ x.2.1 = if x.2.2 ≠ 0 ∧ k = some i then 1 else b0
theorem TR_c {k : Option Nat} {i : Nat} {b0 B B' : Int} {S0 S : RS} {x : SX} (r0 : RI B S0) (r1 : RI B' S) (hd : DC S0 S) (hx : XCo k i (S0.2.2, b0, 0) x) (e : x.1 = S.2.2) : TR k i b0 S0 S x ∧ x.2.2 = S.1 - S0.1 := by
  obtain ⟨a, b⟩ := hd
  obtain ⟨c, d, f⟩ := hx
  rw [e] at c
  have e0 := r0.1
  have e1 := r1.1
  dsimp only at c d f
  have e2 : x.2.2 = S.1 - S0.1 := by omega
  exact ⟨⟨e, by omega, d, f⟩, e2⟩
theorem TR_g {k : Option Nat} {i : Nat} {b0 B B' : Int} {S0 S : RS} {x : SX} (r0 : RI B S0) (r1 : RI B' S) (hd : DG S0 S) (hx : XGo k i (S0.2.2, b0, 0) x) (e : x.1 = S.2.2) : TR k i b0 S0 S x ∧ x.2.2 = S0.1 - S.1 := by
  obtain ⟨a, b⟩ := hd
  obtain ⟨c, d, f⟩ := hx
  rw [e] at c
  have e0 := r0.1
  have e1 := r1.1
  dsimp only at c d f
  have e2 : x.2.2 = S0.1 - S.1 := by omega
  exact ⟨⟨e, by omega, d, f⟩, e2⟩
