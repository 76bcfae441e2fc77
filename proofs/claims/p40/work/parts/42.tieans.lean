-- both sides' answers, told of one row
theorem sumP_cg {u u2 : Int → Int} : ∀ (k : Nat) (lo hi : Int), (hi + 1 - lo).toNat = k → (∀ r, lo ≤ r → r ≤ hi → u r = u2 r) → sumP u lo hi = sumP u2 lo hi := by
  intro k
  induction k with
  | zero =>
    intro lo hi hk h
    rw [sumP_e (by omega), sumP_e (by omega)]
  | succ k ih =>
    intro lo hi hk h
    rw [sumP_s (u := u) (by omega), sumP_s (u := u2) (by omega), h lo (Int.le_refl _) (by omega), ih (lo + 1) hi (by omega) (fun r a b => h r (by omega) b)]
theorem sumP_z {u : Int → Int} : ∀ (k : Nat) (lo hi : Int), (hi + 1 - lo).toNat = k → (∀ r, lo ≤ r → r ≤ hi → u r = 0) → sumP u lo hi = 0 := by
  intro k
  induction k with
  | zero =>
    intro lo hi hk h
    rw [sumP_e (by omega)]
  | succ k ih =>
    intro lo hi hk h
    rw [sumP_s (u := u) (by omega), h lo (Int.le_refl _) (by omega), ih (lo + 1) hi (by omega) (fun r a b => h r (by omega) b)]
    rfl
theorem sumP_sp {u : Int → Int} : ∀ (k : Nat) (lo m hi : Int), (m + 1 - lo).toNat = k → lo ≤ m + 1 → m ≤ hi → sumP u lo hi = sumP u lo m + sumP u (m + 1) hi := by
  intro k
  induction k with
  | zero =>
    intro lo m hi hk h1 h2
    rw [sumP_e (u := u) (lo := lo) (hi := m) (by omega), show m + 1 = lo by omega]
    omega
  | succ k ih =>
    intro lo m hi hk h1 h2
    rw [sumP_s (u := u) (lo := lo) (hi := hi) (by omega), sumP_s (u := u) (lo := lo) (hi := m) (by omega), ih (lo + 1) m hi (by omega) (by omega) h2]
    omega
theorem sumP_mk {u : Int → Int} {lo hi : Int} (h1 : 0 ≤ lo) (h2 : hi ≤ 99) : sumP (fun r => if lo ≤ r ∧ r ≤ hi then u r else 0) 0 99 = sumP u lo hi := by
  by_cases h : hi < lo
  · rw [sumP_e (u := u) h]
    exact sumP_z _ 0 99 rfl (fun r a b => if_neg (by omega))
  · rw [sumP_sp _ 0 (lo - 1) 99 rfl (by omega) (by omega), sumP_sp _ (lo - 1 + 1) hi 99 rfl (by omega) (by omega), sumP_z _ 0 (lo - 1) rfl (fun r a b => if_neg (by omega)), sumP_z _ (hi + 1) 99 rfl (fun r a b => if_neg (by omega)), show lo - 1 + 1 = lo by omega, sumP_cg (u2 := u) _ lo hi rfl (fun r a b => if_pos ⟨a, b⟩)]
    omega
/-- a sum over the keys is the sum over the ranks -/
theorem sumP_turn {o : Int} (u : Int → Int) : sumP (fun r => u (turn o r)) 0 99 = sumP u 0 99 := by
  have key : ∀ n : Nat, n ≤ 100 → sumP (fun r => if 0 ≤ r ∧ r ≤ 99 then (if 0 ≤ turn o r ∧ turn o r < n then u (turn o r) else 0) else 0) 0 99 = sumP (fun k => if 0 ≤ k ∧ k < n then u k else 0) 0 99 := by
    intro n
    induction n with
    | zero =>
      intro _
      rw [sumP_z _ 0 99 rfl (fun r a b => by rw [if_pos ⟨a, b⟩, if_neg (by omega)]), sumP_z _ 0 99 rfl (fun r a b => if_neg (by omega))]
    | succ n ih =>
      intro hn
      have tb := turn_b (o := o) (n := (n : Int)) (by omega)
      have tt := turn_t (o := o) (n := (n : Int)) (by omega)
      rw [sumP_one (u := fun k => if 0 ≤ k ∧ k < (n : Int) then u k else 0) (u' := fun k => if 0 ≤ k ∧ k < ((n + 1 : Nat) : Int) then u k else 0) (n := (n : Int)) (fun r hr => by
        by_cases q : 0 ≤ r ∧ r < (n : Int)
        · rw [if_pos q, if_pos (by omega)]
        · rw [if_neg q, if_neg (by omega)]) _ 0 99 rfl]
      rw [sumP_one (u := fun r => if 0 ≤ r ∧ r ≤ 99 then (if 0 ≤ turn o r ∧ turn o r < (n : Int) then u (turn o r) else 0) else 0) (u' := fun r => if 0 ≤ r ∧ r ≤ 99 then (if 0 ≤ turn o r ∧ turn o r < ((n + 1 : Nat) : Int) then u (turn o r) else 0) else 0) (n := turn o (n : Int)) (fun r hr => by
        by_cases z : 0 ≤ r ∧ r ≤ 99
        · rw [if_pos z, if_pos z]
          have ne : turn o r ≠ (n : Int) := fun e => hr (by rw [← e, turn_t z])
          by_cases q : 0 ≤ turn o r ∧ turn o r < (n : Int)
          · rw [if_pos q, if_pos (by omega)]
          · rw [if_neg q, if_neg (by omega)]
        · rw [if_neg z, if_neg z]) _ 0 99 rfl]
      rw [ih (by omega), if_pos tb, if_pos (by omega)]
      rw [if_pos tb, tt, if_pos (show 0 ≤ (n : Int) ∧ (n : Int) ≤ 99 by omega)]
  have h := key 100 (by omega)
  rw [sumP_cg (u2 := fun r => u (turn o r)) _ 0 99 rfl (fun r a b => by
    have tb := turn_b (o := o) (n := r) ⟨a, b⟩
    rw [if_pos ⟨a, b⟩, if_pos (by omega)]), sumP_cg (u2 := u) _ 0 99 rfl (fun r a b => if_pos (by omega))] at h
  exact h
theorem hash_e {o : Int} {f : Int → Int} : hashM o f = hashP o f 0 := by
  unfold hashM hashP
  rw [← sumP_turn (o := o) (hmU o f)]
  refine sumP_cg _ 0 99 rfl (fun r a b => ?_)
  unfold hmU mwd
  rw [turn_t ⟨a, b⟩, kyI a, wAt_in ⟨a, b⟩]
theorem sumM_e {o : Int} {f : Int → Int} : sumM o f = keyP o f 0 := by
  unfold sumM keyP
  rw [← sumP_turn (o := o) (kmU o f)]
  refine sumP_cg _ 0 99 rfl (fun r a b => ?_)
  unfold kmU
  rw [turn_t ⟨a, b⟩, kyI a]
theorem wor_e {f : Int → Int} {lo hi : Int} (hf : ∀ r, -1 ≤ f r) (h1 : 0 ≤ lo) (h2 : hi ≤ 99) : sumP (wmU f) lo hi = worP f lo hi := by
  unfold worP
  refine sumP_cg _ lo hi rfl (fun r a b => ?_)
  have e := isT_0 (f := f) (r := r) (by omega)
  have := hf r
  unfold wmU
  rw [wAt_in (by omega)]
  by_cases q : isT f r ≠ 0
  · rw [if_pos q]; omega
  · rw [if_neg q]; omega
theorem allP_if {u : Int → Int} : ∀ (k : Nat) (lo : Int), (100 - lo).toNat = k → (allP u lo = 1 ↔ ∀ r, lo ≤ r → r ≤ 99 → u r ≠ 0) := by
  intro k
  induction k with
  | zero =>
    intro lo hk
    rw [allP_e (by omega)]
    exact ⟨fun _ r a b => by omega, fun _ => rfl⟩
  | succ k ih =>
    intro lo hk
    rw [allP_u (by omega)]
    by_cases q : u lo ≠ 0
    · rw [if_pos q, ih (lo + 1) (by omega)]
      refine ⟨fun h r a b => ?_, fun h r a b => h r (by omega) b⟩
      by_cases e : r = lo
      · rw [e]; exact q
      · exact h r (by omega) b
    · rw [if_neg q]
      exact ⟨fun h => absurd h (by decide), fun h => absurd (h lo (Int.le_refl _) (by omega)) q⟩
theorem allP_q {u u2 : Int → Int} (h : (∀ r, 0 ≤ r → r ≤ 99 → u r ≠ 0) ↔ ∀ r, 0 ≤ r → r ≤ 99 → u2 r ≠ 0) : allP u 0 = allP u2 0 := by
  have a := allP_if (u := u) _ 0 rfl
  have b := allP_if (u := u2) _ 0 rfl
  have c := allP_b u 0
  have d := allP_b u2 0
  have e : allP u 0 = 1 ↔ allP u2 0 = 1 := a.trans (h.trans b.symm)
  omega
theorem hasW_e {o n : Int} {f : Int → Int} : 1 - allP (hmW o f n) 0 = hasW f n := by
  unfold hasW
  rw [allP_q (u := hmW o f n) (u2 := hwU f n) ⟨fun h r a b => ?_, fun h r a b => ?_⟩]
  · have tb := turn_b (o := o) (n := r) ⟨a, b⟩
    have z := h (turn o r) tb.1 tb.2
    unfold hmW mwd at z
    rw [turn_t ⟨a, b⟩] at z
    unfold hwU
    rw [wAt_in ⟨a, b⟩]
    exact z
  · have tb := turn_b (o := o) (n := r) ⟨a, b⟩
    have z := h (turn o r) tb.1 tb.2
    unfold hwU at z
    rw [wAt_in tb] at z
    exact z
theorem sameM_e {o o2 : Int} {f f2 : Int → Int} : sameM o o2 f f2 = sameR o o2 f f2 := by
  refine allP_q ⟨fun h r a b => ?_, fun h r a b => ?_⟩
  · have z := h r a b
    unfold sm2U mwd at z
    unfold smU
    rw [wAt_in (turn_b ⟨a, b⟩), wAt_in (turn_b ⟨a, b⟩)]
    exact z
  · have z := h r a b
    unfold smU at z
    rw [wAt_in (turn_b ⟨a, b⟩), wAt_in (turn_b ⟨a, b⟩)] at z
    unfold sm2U mwd
    exact z
theorem ss0_e {o o2 : Int} {f f2 : Int → Int} (hf : ∀ r, -1 ≤ f r ∧ f r ≤ 0) (hf2 : ∀ r, -1 ≤ f2 r ∧ f2 r ≤ 0) : allP (ssU o o2 f f2 0) 0 = sameR o o2 f f2 := by
  have key : ∀ r, 0 ≤ r → r ≤ 99 → (isT f (turn o r) = isT f2 (turn o2 r) ↔ f (turn o r) = f2 (turn o2 r)) := fun r a b => by
    have t1 := isT_0 (f := f) (turn_b (o := o) (n := r) ⟨a, b⟩)
    have t2 := isT_0 (f := f2) (turn_b (o := o2) (n := r) ⟨a, b⟩)
    have b1 := isT_b f (turn o r)
    have b2 := isT_b f2 (turn o2 r)
    have c1 := hf (turn o r)
    have c2 := hf2 (turn o2 r)
    omega
  refine allP_q ⟨fun h r a b => ?_, fun h r a b => ?_⟩
  · have z := h r a b
    unfold ssU at z
    unfold smU
    rw [wAt_in (turn_b ⟨a, b⟩), wAt_in (turn_b ⟨a, b⟩)]
    have k := key r a b
    by_cases q : isT f (turn o r) = isT f2 (turn o2 r)
    · rw [if_pos (k.1 q)]; decide
    · rw [if_neg (fun w => w.elim q (fun v => absurd v.1 (by decide)))] at z
      exact absurd rfl z
  · have z := h r a b
    unfold smU at z
    rw [wAt_in (turn_b ⟨a, b⟩), wAt_in (turn_b ⟨a, b⟩)] at z
    have k := key r a b
    unfold ssU
    by_cases q : f (turn o r) = f2 (turn o2 r)
    · rw [if_pos (Or.inl (k.2 q))]; decide
    · rw [if_neg q] at z
      exact absurd rfl z
theorem ss1_e {o o2 : Int} {f f2 : Int → Int} : allP (ssU o o2 f f2 1) 0 = hasK o o2 f f2 := by
  refine allP_q ⟨fun h r a b => ?_, fun h r a b => ?_⟩
  · have tb := turn_b (o := o2) (n := r) ⟨a, b⟩
    have z := h (turn o2 r) tb.1 tb.2
    unfold ssU at z
    rw [turn_t ⟨a, b⟩] at z
    unfold hkU
    rw [kyI a]
    have b1 := isT_b f (turn o (turn o2 r))
    have b2 := isT_b f2 r
    by_cases q : isT f2 r ≠ 0 ∧ isT f (turn o (turn o2 r)) = 0
    · rw [if_neg (by omega)] at z
      exact absurd rfl z
    · rw [if_neg q]; decide
  · have tb := turn_b (o := o2) (n := r) ⟨a, b⟩
    have z := h (turn o2 r) tb.1 tb.2
    unfold hkU at z
    rw [kyI tb.1, turn_t ⟨a, b⟩] at z
    unfold ssU
    have b1 := isT_b f (turn o r)
    have b2 := isT_b f2 (turn o2 r)
    by_cases q : isT f2 (turn o2 r) ≠ 0 ∧ isT f (turn o r) = 0
    · rw [if_pos q] at z
      exact absurd rfl z
    · rw [if_pos (by omega)]; decide
theorem firP_i (f : Int → Int) (lo hi : Int) : firP f lo hi = -1 ∨ ((0 ≤ firP f lo hi ∧ firP f lo hi ≤ 99) ∧ isT f (firP f lo hi) ≠ 0) := by
  rcases firP_b f lo hi with h | h
  · exact Or.inl h
  · have := isT_in h.2.2
    exact Or.inr ⟨⟨this.1, by omega⟩, h.2.2⟩
theorem lasP_i (f : Int → Int) (lo hi : Int) : lasP f lo hi = -1 ∨ ((0 ≤ lasP f lo hi ∧ lasP f lo hi ≤ 99) ∧ isT f (lasP f lo hi) ≠ 0) := by
  rcases lasP_b f lo hi with h | h
  · exact Or.inl h
  · have := isT_in h.2.2
    exact Or.inr ⟨⟨this.1, by omega⟩, h.2.2⟩
theorem endP_i (f : Int → Int) (lo hi b : Int) : endP f lo hi b = -1 ∨ ((0 ≤ endP f lo hi b ∧ endP f lo hi b ≤ 99) ∧ isT f (endP f lo hi b) ≠ 0) := by
  unfold endP
  split
  · exact lasP_i f lo hi
  · exact firP_i f lo hi
theorem nearP_i (o : Int) (f : Int → Int) (lo hi key what : Int) : nearP o f lo hi key what = -1 ∨ ((0 ≤ nearP o f lo hi key what ∧ nearP o f lo hi key what ≤ 99) ∧ isT f (nearP o f lo hi key what) ≠ 0) := by
  unfold nearP
  split
  · exact lasP_i _ _ _
  · split
    · exact firP_i _ _ _
    · split
      · exact lasP_i _ _ _
      · split
        · exact firP_i _ _ _
        · exact firP_i _ _ _
theorem isT_m {f : Int → Int} : isT f (-1) = 0 := by
  unfold isT
  rw [if_neg (by omega)]
theorem keyR_m {o : Int} : keyR o (-1) = -1 := rfl
theorem pairR_m {o : Int} {f : Int → Int} : pairR o f (-1) = -1 := by
  unfold pairR
  rw [if_neg (fun z => z isT_m)]
theorem pairR_i {o n : Int} {f : Int → Int} (h : (0 ≤ n ∧ n ≤ 99) ∧ isT f n ≠ 0) : pairR o f n = turn o n * 100 + f n := by
  unfold pairR
  rw [if_pos h.2, kyI h.1.1, wAt_in h.1]
theorem tldR_e {o n z : Int} {f : Int → Int} (h : n = -1 ∨ ((0 ≤ n ∧ n ≤ 99) ∧ isT f n ≠ 0)) : tldR o f (keyR o n) z = if z ≠ 0 then pairR o f n else keyR o n := by
  unfold tldR
  rcases h with rfl | h
  · rw [pairR_m, keyR_m, if_pos rfl, ite_self]
  · have tb := turn_b (o := o) h.1
    rw [kyI h.1.1, if_neg (by omega), pairR_i h, turn_t h.1]
    by_cases q : z = 0
    · rw [if_pos q, if_neg (fun w => w q)]
    · rw [if_neg q, if_pos q]
theorem k100_e {o n : Int} {f : Int → Int} (hf : ∀ r, -1 ≤ f r ∧ f r ≤ 0) (h : n = -1 ∨ ((0 ≤ n ∧ n ≤ 99) ∧ isT f n ≠ 0)) : k100 (pairR o f n) = keyR o n := by
  rcases h with rfl | h
  · rw [pairR_m]; rfl
  · have tb := turn_b (o := o) h.1
    have a := hf n
    have c := isT_in h.2
    rw [pairR_i h, kyI h.1.1]
    unfold k100
    rw [if_neg (by omega)]
    omega
theorem cnt_clr {f g : Int → Int} {lo hi : Int} (h1 : 0 ≤ lo) (h2 : hi ≤ 99) (hg : ∀ t, g t = if lo ≤ t ∧ t ≤ hi then -1 else f t) : cntP f 0 99 - cntP g 0 99 = cntP f lo hi := by
  have e : cntP f 0 99 = cntP g 0 99 + cntP f lo hi := by
    unfold cntP
    rw [← sumP_mk (u := isT f) h1 h2]
    have key : ∀ (k : Nat) (a b : Int), (b + 1 - a).toNat = k → sumP (isT f) a b = sumP (isT g) a b + sumP (fun r => if lo ≤ r ∧ r ≤ hi then isT f r else 0) a b := by
      intro k
      induction k with
      | zero =>
        intro a b hk
        rw [sumP_e (by omega), sumP_e (by omega), sumP_e (by omega)]
        rfl
      | succ k ih =>
        intro a b hk
        rw [sumP_s (u := isT f) (by omega), sumP_s (u := isT g) (by omega), sumP_s (u := fun r => if lo ≤ r ∧ r ≤ hi then isT f r else 0) (by omega), ih (a + 1) b (by omega)]
        have z := hg a
        by_cases q : lo ≤ a ∧ a ≤ hi
        · rw [if_pos q] at z
          have e1 : isT g a = 0 := (isT_0 (by omega)).2 z
          rw [if_pos q, e1]
          omega
        · rw [if_neg q] at z
          have e1 : isT g a = isT f a := by
            unfold isT
            rw [z]
          rw [if_neg q, e1]
          omega
    exact key _ 0 99 rfl
  omega
theorem cnt_add {o lo hi : Int} {f : Int → Int} (h1 : 0 ≤ lo) (h2 : hi ≤ 99) : cntP (addS o o f lo hi R0).2.2 0 99 = cntP f lo hi := by
  unfold cntP
  rw [← sumP_mk (u := isT f) h1 h2]
  refine sumP_cg _ 0 99 rfl (fun t a b => ?_)
  have e := addS_f (o := o) (o2 := o) (f2 := f) (S := R0) h1 h2 t
  rw [turn_t ⟨a, b⟩] at e
  by_cases q : lo ≤ t ∧ t ≤ hi
  · rw [if_pos q]
    by_cases z : isT f t ≠ 0
    · rw [if_pos ⟨⟨a, b⟩, q.1, q.2, z⟩] at e
      unfold isT
      rw [e]
    · rw [if_neg (fun w => z w.2.2.2)] at e
      have e2 : emp t = -1 := by
        unfold emp
        rw [if_pos (by omega)]
      rw [(isT_0 ⟨a, b⟩).2 (e.trans e2)]
      omega
  · rw [if_neg q]
    rw [if_neg (fun w => q ⟨w.2.1, w.2.2.1⟩)] at e
    have e2 : emp t = -1 := by
      unfold emp
      rw [if_pos (by omega)]
    exact (isT_0 ⟨a, b⟩).2 (e.trans e2)
-- the key at a place, from the front or from behind
theorem ka_0 {f : Int → Int} {n : Int} : kaP f 0 0 n = rbP f n 0 := by
  unfold kaP rbP
  have key : ∀ (m : Nat) (k u : Int), kaF f 0 m k u = rbF f u k m := by
    intro m
    induction m with
    | zero => intro k u; rfl
    | succ m ih =>
      intro k u
      unfold kaF rbF
      rw [show kaR 0 k = k from rfl, ih, ih]
  exact key _ _ _
theorem rb_neg {f : Int → Int} : ∀ (m : Nat) (k a : Int), k < 0 → rbF f k a m = -1 := by
  intro m
  induction m with
  | zero => intro k a h; rfl
  | succ m ih =>
    intro k a h
    unfold rbF
    rw [if_neg (show ¬ k = 0 by omega), ih _ _ (by omega), ih _ _ h, ite_self]
theorem rb_at {f : Int → Int} {r : Int} (hr : r ≤ 99) (hi : isT f r ≠ 0) : ∀ (m : Nat) (lo u : Int), (r - lo).toNat = m → lo ≤ r → cntP f lo (r - 1) = u → rbP f u lo = r := by
  intro m
  induction m with
  | zero =>
    intro lo u hm hl hc
    have e : lo = r := by omega
    subst e
    rw [cntP_e (by omega)] at hc
    rw [rbP_s (by omega), if_pos hi, if_pos hc.symm]
  | succ m ih =>
    intro lo u hm hl hc
    rw [cntP_s (by omega)] at hc
    have b := isT_b f lo
    have c := cnt_bd f _ (lo + 1) (r - 1) rfl
    rw [rbP_s (by omega)]
    by_cases q : isT f lo ≠ 0
    · rw [if_pos q, if_neg (by omega)]
      exact ih (lo + 1) (u - 1) (by omega) (by omega) (by omega)
    · rw [if_neg q]
      exact ih (lo + 1) u (by omega) (by omega) (by omega)
theorem sumP_r {u : Int → Int} {lo hi : Int} (h : lo ≤ hi) : sumP u lo hi = sumP u lo (hi - 1) + u hi := by
  rw [sumP_sp _ lo (hi - 1) hi rfl (by omega) (by omega), show hi - 1 + 1 = hi by omega, sumP_s (u := u) (lo := hi) (hi := hi) (Int.le_refl _), sumP_e (u := u) (lo := hi + 1) (hi := hi) (by omega)]
  omega
theorem ka_b {f : Int → Int} {z : Int} (hz : z ≠ 0) : ∀ (m : Nat) (k u : Int), (100 - k).toNat = m → 0 ≤ k → k ≤ 100 → 0 ≤ u → (kaF f z m k u = -1 ∧ cntP f 0 (99 - k) ≤ u) ∨ ((0 ≤ kaF f z m k u ∧ kaF f z m k u ≤ 99 - k) ∧ isT f (kaF f z m k u) ≠ 0 ∧ cntP f (kaF f z m k u + 1) (99 - k) = u) := by
  intro m
  induction m with
  | zero =>
    intro k u hm h0 h1 hu
    exact Or.inl ⟨rfl, by rw [cntP_e (by omega)]; exact hu⟩
  | succ m ih =>
    intro k u hm h0 h1 hu
    have e : kaR z k = 99 - k := if_pos hz
    have c1 : cntP f 0 (99 - k) = cntP f 0 (99 - (k + 1)) + isT f (99 - k) := by
      have := sumP_r (u := isT f) (lo := 0) (hi := 99 - k) (by omega)
      rw [show 99 - (k + 1) = 99 - k - 1 by omega]
      exact this
    have b := isT_b f (99 - k)
    unfold kaF
    rw [e]
    by_cases q : isT f (99 - k) ≠ 0
    · rw [if_pos q]
      by_cases w : u = 0
      · rw [if_pos w]
        exact Or.inr ⟨⟨by omega, Int.le_refl _⟩, q, by rw [cntP_e (by omega)]; exact w.symm⟩
      · rw [if_neg w]
        rcases ih (k + 1) (u - 1) (by omega) (by omega) (by omega) (by omega) with h | h
        · exact Or.inl ⟨h.1, by omega⟩
        · refine Or.inr ⟨⟨h.1.1, by omega⟩, h.2.1, ?_⟩
          have c2 := sumP_r (u := isT f) (lo := kaF f z m (k + 1) (u - 1) + 1) (hi := 99 - k) (by omega)
          have c3 := h.2.2
          rw [show 99 - (k + 1) = 99 - k - 1 by omega] at c3
          unfold cntP at c3 ⊢
          omega
    · rw [if_neg q]
      rcases ih (k + 1) u (by omega) (by omega) (by omega) hu with h | h
      · exact Or.inl ⟨h.1, by omega⟩
      · refine Or.inr ⟨⟨h.1.1, by omega⟩, h.2.1, ?_⟩
        have c2 := sumP_r (u := isT f) (lo := kaF f z m (k + 1) u + 1) (hi := 99 - k) (by omega)
        have c3 := h.2.2
        rw [show 99 - (k + 1) = 99 - k - 1 by omega] at c3
        unfold cntP at c3 ⊢
        omega
theorem ka_1 {f : Int → Int} {z n : Int} (hz : z ≠ 0) (hn : 0 ≤ n) : kaP f z 0 n = rbP f (cntP f 0 99 - 1 - n) 0 := by
  unfold kaP
  rcases ka_b (f := f) hz _ 0 n rfl (Int.le_refl _) (by omega) hn with h | h
  · rw [show (99 : Int) - 0 = 99 by omega] at h
    rw [h.1]
    exact (rb_neg _ _ _ (by omega)).symm
  · rw [show (99 : Int) - 0 = 99 by omega] at h
    generalize kaF f z (100 - (0 : Int)).toNat 0 n = r at h ⊢
    refine (rb_at (r := r) h.1.2 h.2.1 _ 0 _ rfl h.1.1 ?_).symm
    have c1 := sumP_sp (u := isT f) _ 0 r 99 rfl (by omega) h.1.2
    have c2 := sumP_r (u := isT f) (lo := 0) (hi := r) h.1.1
    have c3 := h.2.2
    have b := isT_b f r
    have d := h.2.1
    unfold cntP at c3 ⊢
    omega
