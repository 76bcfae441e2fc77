-- the relation that every call keeps
def IV (k : Int) (σ : CS) (μ : MS) : Prop := CI (100 * k) σ ∧ FI σ ∧ MW μ ∧ ∃ t, μ = mof σ t
theorem IV_up {k : Int} {σ : CS} (h : CI (100 * k + 100) σ) : CI (100 * (k + 1)) σ := by
  rw [show 100 * (k + 1) = 100 * k + 100 by omega]
  exact h
theorem IV_te {k : Int} {σ : CS} {μ : MS} {okA okB : Prop} {e2 a b : Int} (c : CI (100 * k + 100) σ) (m : MW μ) (T : TE σ μ okA okB e2 a b) : IV (k + 1) σ μ := ⟨IV_up c, T.1, m, by
  obtain ⟨t1, e, _⟩ := T.2
  exact ⟨t1, e⟩⟩
theorem IV_tw {k : Int} {σ : CS} {μ : MS} (c : CI (100 * k + 100) σ) (m : MW μ) (T : TW σ μ) : IV (k + 1) σ μ := ⟨IV_up c, T.1, m, T.2⟩
theorem TE_eq {σ : CS} {μ : MS} {okA okB : Prop} {e2 a b : Int} (T : TE σ μ okA okB e2 a b) : (okA ∧ okB ∧ vth μ = 0 ∧ a = b) ∨ (¬ okA ∧ vth μ = 1) ∨ (okA ∧ ¬ okB ∧ vth μ = e2) := by
  obtain ⟨_, t1, e, h⟩ := T
  rw [e]
  exact h
theorem IV_init : IV 0 kS_init jS_init := ⟨CI_init, FI_init, MW_init, 0, m_init⟩
set_option maxRecDepth 100000 in
theorem presIV : Pres IV := by
  unfold Pres
  refine ⟨fun {k σ μ} h0 h1 h => ?_, fun {k σ μ} h0 h1 h => ⟨IV_up (h.1.up (by omega)), h.2⟩, ?_, ?_, ?_, ?_, ?_, ?_, ?_, ?_, ?_, ?_, ?_, ?_, ?_, ?_, ?_, ?_, ?_, ?_, ?_, ?_, ?_, ?_, ?_, ?_, ?_, ?_, ?_, ?_, ?_, ?_, ?_, ?_, ?_, ?_, ?_, ?_, ?_, ?_, ?_, ?_, ?_, ?_, ?_⟩
  · obtain ⟨hc, hf, hm, t, e⟩ := h
    subst e
    exact ⟨hc.cw (by omega), hm, fun a1 a2 a3 => (TE_eq (T_sameShelves hc hf) : EQ_sameShelves σ (mof σ t) a1 a2 a3)⟩
  · intro a1 a2 k σ μ h0 h1 h
    obtain ⟨hc, hf, hm, t, e⟩ := h
    subst e
    exact IV_te (CI_freshBook hc) (MW_freshBook hm) (T_freshBook hc hf)
  · intro a1 a2 a3 k σ μ h0 h1 h
    obtain ⟨hc, hf, hm, t, e⟩ := h
    subst e
    exact IV_te (CI_buildBook hc) (MW_buildBook hm) (T_buildBook hc hf)
  · intro a1 a2 a3 k σ μ h0 h1 h
    obtain ⟨hc, hf, hm, t, e⟩ := h
    subst e
    exact IV_te (CI_splitBook hc) (MW_splitBook hm) (T_splitBook hc hf)
  · intro a1 a2 a3 a4 a5 k σ μ h0 h1 h
    obtain ⟨hc, hf, hm, t, e⟩ := h
    subst e
    exact IV_te (CI_fill hc) (MW_fill hm) (T_fill hc hf)
  · intro a1 a2 k σ μ h0 h1 h
    obtain ⟨hc, hf, hm, t, e⟩ := h
    subst e
    exact IV_te (CI_pour hc) (MW_pour hm) (T_pour hc hf)
  · intro a1 a2 a3 k σ μ h0 h1 h
    obtain ⟨hc, hf, hm, t, e⟩ := h
    subst e
    exact IV_te (CI_keep hc) (MW_keep hm) (T_keep hc hf)
  · intro a1 a2 a3 a4 k σ μ h0 h1 h
    obtain ⟨hc, hf, hm, t, e⟩ := h
    subst e
    exact IV_te (CI_put hc) (MW_put hm) (T_put hc hf)
  · intro a1 a2 a3 a4 k σ μ h0 h1 h
    obtain ⟨hc, hf, hm, t, e⟩ := h
    subst e
    exact IV_te (CI_exchange hc) (MW_exchange hm) (T_exchange hc hf)
  · intro a1 a2 k σ μ h0 h1 h
    obtain ⟨hc, hf, hm, t, e⟩ := h
    subst e
    exact IV_te (CI_take hc) (MW_take hm) (T_take hc hf)
  · intro a1 a2 k σ μ h0 h1 h
    obtain ⟨hc, hf, hm, t, e⟩ := h
    subst e
    exact IV_te (CI_drop hc) (MW_drop hm) (T_drop hc hf)
  · intro a1 a2 a3 k σ μ h0 h1 h
    obtain ⟨hc, hf, hm, t, e⟩ := h
    subst e
    exact IV_te (CI_has hc) (MW_has hm) (T_has hc hf)
  · intro a1 a2 a3 a4 k σ μ h0 h1 h
    obtain ⟨hc, hf, hm, t, e⟩ := h
    subst e
    exact IV_te (CI_near hc) (MW_near hm) (T_near hc hf)
  · intro a1 a2 a3 k σ μ h0 h1 h
    obtain ⟨hc, hf, hm, t, e⟩ := h
    subst e
    exact IV_te (CI_end hc) (MW_end hm) (T_end hc hf)
  · intro a1 a2 a3 k σ μ h0 h1 h
    obtain ⟨hc, hf, hm, t, e⟩ := h
    subst e
    exact IV_te (CI_keyAt hc) (MW_keyAt hm) (T_keyAt hc hf)
  · intro a1 a2 k σ μ h0 h1 h
    obtain ⟨hc, hf, hm, t, e⟩ := h
    subst e
    exact IV_te (CI_tellBook hc) (MW_tellBook hm) (T_tellBook hc hf)
  · intro a1 k σ μ h0 h1 h
    obtain ⟨hc, hf, hm, t, e⟩ := h
    subst e
    exact IV_te (CI_bookText hc) (MW_bookText hm) (T_bookText hc hf)
  · intro a1 a2 k σ μ h0 h1 h
    obtain ⟨hc, hf, hm, t, e⟩ := h
    subst e
    exact IV_te (CI_sameBooks hc) (MW_sameBooks hm) (T_sameBooks hc hf)
  · intro a1 a2 a3 a4 a5 a6 k σ μ h0 h1 h
    obtain ⟨hc, hf, hm, t, e⟩ := h
    subst e
    exact IV_te (CI_openView hc) (MW_openView hm) (T_openView hc hf)
  · intro a1 a2 a3 a4 k σ μ h0 h1 h
    obtain ⟨hc, hf, hm, t, e⟩ := h
    subst e
    exact IV_te (CI_narrowView hc) (MW_narrowView hm) (T_narrowView hc hf)
  · intro a1 a2 a3 k σ μ h0 h1 h
    obtain ⟨hc, hf, hm, t, e⟩ := h
    subst e
    exact IV_te (CI_buildFromView hc) (MW_buildFromView hm) (T_buildFromView hc hf)
  · intro a1 a2 a3 k σ μ h0 h1 h
    obtain ⟨hc, hf, hm, t, e⟩ := h
    subst e
    exact IV_te (CI_viewPut hc) (MW_viewPut hm) (T_viewPut hc hf)
  · intro a1 a2 k σ μ h0 h1 h
    obtain ⟨hc, hf, hm, t, e⟩ := h
    subst e
    exact IV_te (CI_viewTake hc) (MW_viewTake hm) (T_viewTake hc hf)
  · intro a1 a2 k σ μ h0 h1 h
    obtain ⟨hc, hf, hm, t, e⟩ := h
    subst e
    exact IV_te (CI_viewDrop hc) (MW_viewDrop hm) (T_viewDrop hc hf)
  · intro a1 a2 a3 k σ μ h0 h1 h
    obtain ⟨hc, hf, hm, t, e⟩ := h
    subst e
    exact IV_te (CI_viewNear hc) (MW_viewNear hm) (T_viewNear hc hf)
  · intro a1 a2 k σ μ h0 h1 h
    obtain ⟨hc, hf, hm, t, e⟩ := h
    subst e
    exact IV_te (CI_viewTell hc) (MW_viewTell hm) (T_viewTell hc hf)
  · intro a1 k σ μ h0 h1 h
    obtain ⟨hc, hf, hm, t, e⟩ := h
    subst e
    exact IV_te (CI_startWalk hc) (MW_startWalk hm) (T_startWalk hc hf)
  · intro k σ μ h0 h1 h
    obtain ⟨hc, hf, hm, t, e⟩ := h
    subst e
    exact IV_tw (CI_walkNext hc) (MW_walkNext hm) (T_walkNext hc hf).1
  · intro a1 k σ μ h0 h1 h
    obtain ⟨hc, hf, hm, t, e⟩ := h
    subst e
    have T := (T_walkSet (t := t) (xw := a1) hc hf).1
    obtain ⟨f, t1, e, _⟩ := T
    exact ⟨IV_up (CI_walkSet hc), f, MW_walkSet hm, t1, e⟩
  · intro k σ μ h0 h1 h
    obtain ⟨hc, hf, hm, t, e⟩ := h
    subst e
    exact IV_tw (CI_walkTake hc) (MW_walkTake hm) (T_walkTake hc hf).1
  · intro a1 a2 k σ μ h0 h1 h
    obtain ⟨hc, hf, hm, t, e⟩ := h
    subst e
    exact IV_te (CI_freshShelf hc) (MW_freshShelf hm) (T_freshShelf hc hf)
  · intro a1 a2 a3 k σ μ h0 h1 h
    obtain ⟨hc, hf, hm, t, e⟩ := h
    subst e
    exact IV_te (CI_buildShelf hc) (MW_buildShelf hm) (T_buildShelf hc hf)
  · intro a1 a2 k σ μ h0 h1 h
    obtain ⟨hc, hf, hm, t, e⟩ := h
    subst e
    exact IV_te (CI_keysOf hc) (MW_keysOf hm) (T_keysOf hc hf)
  · intro a1 a2 a3 a4 a5 k σ μ h0 h1 h
    obtain ⟨hc, hf, hm, t, e⟩ := h
    subst e
    exact IV_te (CI_lay hc) (MW_lay hm) (T_lay hc hf)
  · intro a1 a2 a3 k σ μ h0 h1 h
    obtain ⟨hc, hf, hm, t, e⟩ := h
    subst e
    exact IV_te (CI_shelfBoth hc) (MW_shelfBoth hm) (T_shelfBoth hc hf)
  · intro a1 a2 k σ μ h0 h1 h
    obtain ⟨hc, hf, hm, t, e⟩ := h
    subst e
    exact IV_te (CI_shelfDrop hc) (MW_shelfDrop hm) (T_shelfDrop hc hf)
  · intro a1 a2 a3 a4 a5 k σ μ h0 h1 h
    obtain ⟨hc, hf, hm, t, e⟩ := h
    subst e
    exact IV_te (CI_shelfCut hc) (MW_shelfCut hm) (T_shelfCut hc hf)
  · intro a1 a2 a3 k σ μ h0 h1 h
    obtain ⟨hc, hf, hm, t, e⟩ := h
    subst e
    exact IV_te (CI_shelfNear hc) (MW_shelfNear hm) (T_shelfNear hc hf)
  · intro a1 a2 k σ μ h0 h1 h
    obtain ⟨hc, hf, hm, t, e⟩ := h
    subst e
    exact IV_te (CI_shelfTell hc) (MW_shelfTell hm) (T_shelfTell hc hf)
  · intro a1 a2 a3 k σ μ h0 h1 h
    obtain ⟨hc, hf, hm, t, e⟩ := h
    subst e
    exact IV_te (CI_sameShelves hc) (MW_sameShelves hm) (T_sameShelves hc hf)
  · intro a1 k σ μ h0 h1 h
    obtain ⟨hc, hf, hm, t, e⟩ := h
    subst e
    exact IV_te (CI_house hc) (MW_house hm) (T_house hc hf)
  · intro k σ μ h0 h1 h
    obtain ⟨hc, hf, hm, t, e⟩ := h
    subst e
    exact IV_tw (CI_knock hc) (MW_knock hm) (T_knock hc hf)
  · intro k σ μ h0 h1 h
    obtain ⟨hc, hf, hm, t, e⟩ := h
    subst e
    exact IV_tw (CI_isSound hc) (MW_isSound hm) (T_isSound hc hf)
  · intro k σ μ h0 h1 h
    obtain ⟨hc, hf, hm, t, e⟩ := h
    subst e
    exact IV_tw (CI_digest hc) (MW_digest hm) (T_digest hc hf)
theorem whole_start {p : Program} {e : Env} {s : State} {m : MethodId} {below : List Frame} {meth : Method} {c : Code} (l : Launch) (hflags : l.flags = flags0) {b L : Nat} {xs : Nat → Int32} (hL : L ≤ 448) (C0 : lw_At p s m meth c b L xs) : W p l e room_1 s m #[Value.ref b] below meth c s.heap [] 0 0 (lw_Z below #[Value.ref b] s) (entryFrame m ([Value.ref b] : List Value).toArray 7) := by
  obtain ⟨D, y, sl, X⟩ := whole_lx hL C0
  have hl := lv_entry [Value.ref b] (n := 7) (Nat.le_of_ble_eq_true rfl)
  have hfl : l.stackTraces = false := by
    unfold Launch.stackTraces
    rw [hflags]
    decide
  rw [lg_entry_eq]
  exact law_begin hfl C0.2.2.1 C0.2.2.2.2.2.2.2.2.1 presIV IV_init X _ hl
