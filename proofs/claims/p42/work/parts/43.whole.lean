-- the relation that every call keeps
def IV (k : Int) (σ : CS) (μ : MS) : Prop := CI (100 * k) σ ∧ MW μ ∧ z3 σ = vct μ 3 ∧ 0 ≤ z3 σ ∧ z3 σ ≤ k
theorem IV_st {k : Int} {σ σ1 : CS} {μ μ1 : MS} (h : IV k σ μ) (a : CI (100 * k + 100) σ1) (b : MW μ1) (e1 : z3 σ1 = z3 σ) (e2 : vct μ1 3 = vct μ 3) : IV (k + 1) σ1 μ1 := by
  obtain ⟨h1, h2, h3, h4, h5⟩ := h
  exact ⟨by rw [show 100 * (k + 1) = 100 * k + 100 by omega]; exact a, b, by rw [e1, e2]; exact h3, by omega, by omega⟩
theorem IV_init : IV 0 kS_init jS_init := ⟨CI_init, MW_init, rfl, by decide, by decide⟩
set_option maxRecDepth 100000 in
theorem presIV : Pres IV := by
  unfold Pres
  refine ⟨fun h0 h1 h => ⟨h.1.cw (by omega), h.2.1, h.2.2.1, h.2.2.2.1, by have := h.2.2.2.2; omega⟩, fun h0 h1 h => IV_st h (h.1.up (by omega)) h.2.1 rfl rfl, ?_, ?_, ?_, ?_, ?_, ?_, ?_, ?_, ?_, ?_, ?_, ?_, ?_, ?_, ?_, ?_, ?_, ?_, ?_, ?_, ?_, ?_, ?_, ?_, ?_, ?_, ?_, ?_, ?_, ?_, ?_, ?_, ?_, ?_, ?_, ?_, ?_, ?_, ?_, ?_, ?_, ?_, ?_⟩
  · intro a1 a2 k σ μ h0 h1 h
    exact IV_st h (CI_freshBook h.1) (MW_freshBook h.2.1) z3_freshBook v3_freshBook
  · intro a1 a2 a3 k σ μ h0 h1 h
    exact IV_st h (CI_buildBook h.1) (MW_buildBook h.2.1) z3_buildBook v3_buildBook
  · intro a1 a2 a3 k σ μ h0 h1 h
    exact IV_st h (CI_splitBook h.1) (MW_splitBook h.2.1) z3_splitBook v3_splitBook
  · intro a1 a2 a3 a4 a5 k σ μ h0 h1 h
    exact IV_st h (CI_fill h.1) (MW_fill h.2.1) z3_fill v3_fill
  · intro a1 a2 k σ μ h0 h1 h
    exact IV_st h (CI_pour h.1) (MW_pour h.2.1) z3_pour v3_pour
  · intro a1 a2 a3 k σ μ h0 h1 h
    exact IV_st h (CI_keep h.1) (MW_keep h.2.1) z3_keep v3_keep
  · intro a1 a2 a3 a4 k σ μ h0 h1 h
    exact IV_st h (CI_put h.1) (MW_put h.2.1) z3_put v3_put
  · intro a1 a2 a3 a4 k σ μ h0 h1 h
    exact IV_st h (CI_exchange h.1) (MW_exchange h.2.1) z3_exchange v3_exchange
  · intro a1 a2 k σ μ h0 h1 h
    exact IV_st h (CI_take h.1) (MW_take h.2.1) z3_take v3_take
  · intro a1 a2 k σ μ h0 h1 h
    exact IV_st h (CI_drop h.1) (MW_drop h.2.1) z3_drop v3_drop
  · intro a1 a2 a3 k σ μ h0 h1 h
    exact IV_st h (CI_has h.1) (MW_has h.2.1) z3_has v3_has
  · intro a1 a2 a3 a4 k σ μ h0 h1 h
    exact IV_st h (CI_near h.1) (MW_near h.2.1) z3_near v3_near
  · intro a1 a2 a3 k σ μ h0 h1 h
    exact IV_st h (CI_end h.1) (MW_end h.2.1) z3_end v3_end
  · intro a1 a2 a3 k σ μ h0 h1 h
    exact IV_st h (CI_keyAt h.1) (MW_keyAt h.2.1) z3_keyAt v3_keyAt
  · intro a1 a2 k σ μ h0 h1 h
    exact IV_st h (CI_tellBook h.1) (MW_tellBook h.2.1) z3_tellBook v3_tellBook
  · intro a1 k σ μ h0 h1 h
    exact IV_st h (CI_bookText h.1) (MW_bookText h.2.1) z3_bookText v3_bookText
  · intro a1 a2 k σ μ h0 h1 h
    exact IV_st h (CI_sameBooks h.1) (MW_sameBooks h.2.1) z3_sameBooks v3_sameBooks
  · intro a1 a2 a3 a4 a5 a6 k σ μ h0 h1 h
    exact IV_st h (CI_openView h.1) (MW_openView h.2.1) z3_openView v3_openView
  · intro a1 a2 a3 a4 k σ μ h0 h1 h
    exact IV_st h (CI_narrowView h.1) (MW_narrowView h.2.1) z3_narrowView v3_narrowView
  · intro a1 a2 a3 k σ μ h0 h1 h
    exact IV_st h (CI_buildFromView h.1) (MW_buildFromView h.2.1) z3_buildFromView v3_buildFromView
  · intro a1 a2 a3 k σ μ h0 h1 h
    exact IV_st h (CI_viewPut h.1) (MW_viewPut h.2.1) z3_viewPut v3_viewPut
  · intro a1 a2 k σ μ h0 h1 h
    exact IV_st h (CI_viewTake h.1) (MW_viewTake h.2.1) z3_viewTake v3_viewTake
  · intro a1 a2 k σ μ h0 h1 h
    exact IV_st h (CI_viewDrop h.1) (MW_viewDrop h.2.1) z3_viewDrop v3_viewDrop
  · intro a1 a2 a3 k σ μ h0 h1 h
    exact IV_st h (CI_viewNear h.1) (MW_viewNear h.2.1) z3_viewNear v3_viewNear
  · intro a1 a2 k σ μ h0 h1 h
    exact IV_st h (CI_viewTell h.1) (MW_viewTell h.2.1) z3_viewTell v3_viewTell
  · intro a1 k σ μ h0 h1 h
    exact IV_st h (CI_startWalk h.1) (MW_startWalk h.2.1) z3_startWalk v3_startWalk
  · intro k σ μ h0 h1 h
    exact IV_st h (CI_walkNext h.1) (MW_walkNext h.2.1) z3_walkNext v3_walkNext
  · intro a1 k σ μ h0 h1 h
    exact IV_st h (CI_walkSet h.1) (MW_walkSet h.2.1) z3_walkSet v3_walkSet
  · intro k σ μ h0 h1 h
    exact IV_st h (CI_walkTake h.1) (MW_walkTake h.2.1) z3_walkTake v3_walkTake
  · intro a1 a2 k σ μ h0 h1 h
    exact IV_st h (CI_freshShelf h.1) (MW_freshShelf h.2.1) z3_freshShelf v3_freshShelf
  · intro a1 a2 a3 k σ μ h0 h1 h
    exact IV_st h (CI_buildShelf h.1) (MW_buildShelf h.2.1) z3_buildShelf v3_buildShelf
  · intro a1 a2 k σ μ h0 h1 h
    exact IV_st h (CI_keysOf h.1) (MW_keysOf h.2.1) z3_keysOf v3_keysOf
  · intro a1 a2 a3 a4 a5 k σ μ h0 h1 h
    exact IV_st h (CI_lay h.1) (MW_lay h.2.1) z3_lay v3_lay
  · intro a1 a2 a3 k σ μ h0 h1 h
    exact IV_st h (CI_shelfBoth h.1) (MW_shelfBoth h.2.1) z3_shelfBoth v3_shelfBoth
  · intro a1 a2 k σ μ h0 h1 h
    exact IV_st h (CI_shelfDrop h.1) (MW_shelfDrop h.2.1) z3_shelfDrop v3_shelfDrop
  · intro a1 a2 a3 a4 a5 k σ μ h0 h1 h
    exact IV_st h (CI_shelfCut h.1) (MW_shelfCut h.2.1) z3_shelfCut v3_shelfCut
  · intro a1 a2 a3 k σ μ h0 h1 h
    exact IV_st h (CI_shelfNear h.1) (MW_shelfNear h.2.1) z3_shelfNear v3_shelfNear
  · intro a1 a2 k σ μ h0 h1 h
    exact IV_st h (CI_shelfTell h.1) (MW_shelfTell h.2.1) z3_shelfTell v3_shelfTell
  · intro a1 a2 a3 k σ μ h0 h1 h
    exact IV_st h (CI_sameShelves h.1) (MW_sameShelves h.2.1) z3_sameShelves v3_sameShelves
  · intro a1 k σ μ h0 h1 h
    exact IV_st h (CI_house h.1) (MW_house h.2.1) z3_house v3_house
  · intro k σ μ h0 h1 h
    exact ⟨by rw [show 100 * (k + 1) = 100 * k + 100 by omega]; exact CI_knock h.1, MW_knock h.2.1, by rw [z3_knock, v3_knock, h.2.2.1], by rw [z3_knock]; have := h.2.2.2.1; omega, by rw [z3_knock]; have := h.2.2.2.2; omega⟩
  · intro k σ μ h0 h1 h
    exact IV_st h (CI_isSound h.1) (MW_isSound h.2.1) z3_isSound v3_isSound
  · intro k σ μ h0 h1 h
    exact IV_st h (CI_digest h.1) (MW_digest h.2.1) z3_digest v3_digest
theorem whole_start {p : Program} {e : Env} {s : State} {m : MethodId} {below : List Frame} {meth : Method} {c : Code} (l : Launch) (hflags : l.flags = flags0) {b L : Nat} {xs : Nat → Int32} (hL : L ≤ 448) (C0 : lw_At p s m meth c b L xs) : W p l e room_1 s m #[Value.ref b] below meth c s.heap [] 0 0 (lw_Z below #[Value.ref b] s) (entryFrame m ([Value.ref b] : List Value).toArray 7) := by
  obtain ⟨D, y, sl, X⟩ := whole_lx hL C0
  have hl := lv_entry [Value.ref b] (n := 7) (Nat.le_of_ble_eq_true rfl)
  have hfl : l.stackTraces = false := by
    unfold Launch.stackTraces
    rw [hflags]
    decide
  rw [lg_entry_eq]
  exact law_begin hfl C0.2.2.1 C0.2.2.2.2.2.2.2.2.1 presIV IV_init X _ hl
