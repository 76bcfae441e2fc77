-- contracts that change the pool
theorem pl_notin {A : Nat → Prop} {L : List Nat} {F : Nat → va_E} {q : Nat} {e : va_E} (hD : va_D A (va_pl L F ++ [(q, e)])) : q ∉ L := fun h => by
  obtain ⟨i, hi⟩ := va_pl_get (X := []) (f := F) h
  simp only [List.nil_append] at hi
  have hlt := (List.getElem?_eq_some_iff.mp hi).1
  have := hD.1 i (va_pl L F).length (q, F q) (q, e) (by rw [List.getElem?_append_left hlt]; exact hi) (by rw [List.getElem?_append_right (Nat.le_refl _), Nat.sub_self]; rfl) rfl
  omega
def PcM (D : va_G) (y : Nat → ClassId) (L : List Nat) (F : Nat → va_E) (sz : Nat) (av : List Value) : Array Value → State → Prop := va_Pc av (fun U => U.heap.size = sz ∧ KK D y U ∧ va_P D vwCl (va_pl L F) U.heap ∧ va_D (fun _ => True) (va_pl L F))
theorem PcM_blind (D : va_G) (y : Nat → ClassId) (L : List Nat) (F : Nat → va_E) (sz : Nat) (av : List Value) : FrameBlind (PcM D y L F sz av) := fun _ _ _ _ q => ⟨q.1, q.2.1, q.2.2.1.call, q.2.2.2.1, q.2.2.2.2⟩
theorem AL_in {D : va_G} {A0 : Nat → Prop} {L : List Nat} {F : Nat → va_E} {H0 H : Heap} {locs : List Loc} (hD : va_D A0 (va_pl L F)) (hS : va_S A0 H0 H locs) (hA : ∀ q, H0.size ≤ q → A0 q) : ∀ q, AL L H.size q → A0 q := by
  intro q h
  rcases h with h | h
  · obtain ⟨k, hk⟩ := va_pl_get (X := []) (f := F) h
    exact hD.2 k _ hk
  · exact hA q (Nat.le_trans hS.1 h)
theorem va_D_AL {A : Nat → Prop} {L : List Nat} {F : Nat → va_E} {sz : Nat} (h : va_D A (va_pl L F)) : va_D (AL L sz) (va_pl L F) := ⟨h.1, fun k q hk => by
  obtain ⟨x, hx, e⟩ := List.mem_map.mp (List.mem_of_getElem? hk)
  rw [← e]
  exact Or.inl hx⟩
def cMi (D : va_G) (A : Nat → Prop) (post : Int → List Nat → (Nat → va_E) → Prop) : Array Value → State → Outcome → State → Prop := fun _ st oc t => (∃ (r : Int) (L1 : List Nat) (F1 : Nat → va_E), oc = .returned (some (.int (iI r))) ∧ va_P D vwCl (va_pl L1 F1) t.heap ∧ va_D A (va_pl L1 F1) ∧ post r L1 F1) ∧ va_F A st t
def cMa (D : va_G) (A : Nat → Prop) (post : Nat → List Nat → (Nat → va_E) → Prop) : Array Value → State → Outcome → State → Prop := fun _ st oc t => (∃ (r : Nat) (L1 : List Nat) (F1 : Nat → va_E), oc = .returned (some (.ref r)) ∧ va_P D vwCl (va_pl L1 F1) t.heap ∧ va_D A (va_pl L1 F1) ∧ post r L1 F1) ∧ va_F A st t
def cMl (D : va_G) (A : Nat → Prop) (post : Int64 → List Nat → (Nat → va_E) → Prop) : Array Value → State → Outcome → State → Prop := fun _ st oc t => (∃ (r : Int64) (L1 : List Nat) (F1 : Nat → va_E), oc = .returned (some (.long r)) ∧ va_P D vwCl (va_pl L1 F1) t.heap ∧ va_D A (va_pl L1 F1) ∧ post r L1 F1) ∧ va_F A st t
def cMv (D : va_G) (A : Nat → Prop) (post : Unit → List Nat → (Nat → va_E) → Prop) : Array Value → State → Outcome → State → Prop := fun _ st oc t => (∃ (r : Unit) (L1 : List Nat) (F1 : Nat → va_E), oc = .returned (none) ∧ va_P D vwCl (va_pl L1 F1) t.heap ∧ va_D A (va_pl L1 F1) ∧ post r L1 F1) ∧ va_F A st t
def cMq (D : va_G) (A : Nat → Prop) (post : Option Nat → List Nat → (Nat → va_E) → Prop) : Array Value → State → Outcome → State → Prop := fun _ st oc t => (∃ (r : Option Nat) (L1 : List Nat) (F1 : Nat → va_E), oc = .returned (some (va_rf r)) ∧ va_P D vwCl (va_pl L1 F1) t.heap ∧ va_D A (va_pl L1 F1) ∧ post r L1 F1) ∧ va_F A st t
section QM
variable {p : Program} {l : Launch} {e : Env} {R : Room} {s : State} {m : MethodId} {args : Array Value} {below : List Frame} {meth : Method} {c : Code} {H : Heap} {locs : List Loc} {cells slots : Nat} {Q : State → Prop} {cc : ByteArray} {pc : Nat} {ls : Array Slot} {rest : List Value}
variable {D : va_G} {y : Nat → ClassId} {nL : Nat} {kw : Cond} {own : String} {L : List Nat} {F : Nat → va_E} {a : Nat} {A : Nat → Prop} {H0 : Heap}
variable {yy : MethodName} {bytes : ByteArray} {maxL n index mc ms : Nat} {ret : Option FieldType} {rm : Room} {As st : List Value}
theorem preM (C0 : Cx D y p c cc nL s m args kw own) (hP : va_P D vwCl (va_pl L F) H) (hD : va_D A (va_pl L F)) (av : List Value) : ∀ U : State, U.heap = H → s.WarmedH U.vm → PcM D y L F H.size av av.toArray U := fun U hU hW => ⟨rfl, by rw [hU], C0.2.warm hW, by rw [hU]; exact hP, hD.weaken (fun _ _ _ _ => trivial)⟩

theorem q_goMi {post : Int → List Nat → (Nat → va_E) → Prop} {av : Array Value} {st0 : List Value} {A1 : Nat → Prop} (hr : va_Run p l e R s m args below meth c H locs cells slots mc ms (F0 m pc ls st0) rest (cMi D A1 post av) A1) (hS : va_S A H0 H locs) (hA1 : ∀ q, A1 q → A q)
    (kk : ∀ (r : Int) (H1 : Heap) (locs1 : List Loc) (L1 : List Nat) (F1 : Nat → va_E), va_P D vwCl (va_pl L1 F1) H1 → va_D A (va_pl L1 F1) → va_S A H0 H1 locs1 → H.size ≤ H1.size → post r L1 F1 → W p l e R s m args below meth c H1 locs1 (cells + mc) (slots + ms) Q (F0 m (pc + 3) ls (.int (iI r) :: rest))) : W p l e R s m args below meth c H locs cells slots Q (F0 m pc ls st0) := by
  intro T hT X
  obtain ⟨v, st₀, t, T', Lo, h0, X', hL, e1, e2, ⟨⟨r, L1, F1, hv, hP, hD, hp⟩, hz, hk⟩, stp⟩ := hr T hT X
  cases hv
  rw [h0] at hz hk
  obtain ⟨t2, a1, b1⟩ := kk r T'.heap (locs ++ Lo) L1 F1 (by rw [e1]; exact hP) (hD.weaken (fun _ _ _ h => hA1 _ h))
    ⟨Nat.le_trans hS.1 (by rw [e1]; exact hz), fun q h1 h2 => by rw [e1, hk q (Nat.lt_of_lt_of_le h1 hS.1) (fun z => h2 (hA1 q z))]; exact hS.2.1 q h1 h2, fun q hq => by
      rcases List.mem_append.mp hq with h | h
      · exact hS.2.2 q h
      · exact hA1 _ (hL q h)⟩ (by rw [e1]; exact hz) hp T' rfl X'
  exact ⟨t2, stp t2 a1, b1⟩
theorem q_vMi {post : Int → List Nat → (Nat → va_E) → Prop} (C0 : Cx D y p c cc nL s m args kw own) (k : CLV own index yy bytes maxL ret n) (hM : Met l yy (.code yy bytes maxL ret :: Tt) rm (PcM D y L F H.size (.ref a :: As)) (cMi D (AL L H.size) post) mc ms (AL L H.size)) (hrc : rm.cells = mc ∧ rm.slots = ms) (hR : (Nat.ble (rm.frames + 1) R.frames && Nat.ble (8 + (maxL + 11) + rm.locals) R.locals) = true) (hP : va_P D vwCl (va_pl L F) H) (hD : va_D A (va_pl L F)) (hS : va_S A H0 H locs) (hA : ∀ q, H0.size ≤ q → A q) (ha : a ∈ L) {ci : Nat} {fs : List Value} {q : vw_C} (hF : F a = .inr (ci, fs)) (hc : vwCl[ci]? = some q) (hq : q.1 = yy.cls) (hn : As.length = n) {lv : List (Nat × Value)} (hl : lv_has ls nL lv) (hst : st = As.reverse ++ .ref a :: rest) (hW : (rest.map fun v => v.category).sum ≤ 8) (hdg : decode cc pc = .ok (.invokevirtual index, 3)) (hcs : cells + mc ≤ R.cells ∧ slots + ms ≤ R.slots)
    (kk : ∀ (r : Int) (H1 : Heap) (locs1 : List Loc) (L1 : List Nat) (F1 : Nat → va_E), va_P D vwCl (va_pl L1 F1) H1 → va_D A (va_pl L1 F1) → va_S A H0 H1 locs1 → H.size ≤ H1.size → post r L1 F1 → W p l e R s m args below meth c H1 locs1 (cells + mc) (slots + ms) Q (F0 m (pc + 3) ls (.int (iI r) :: rest))) : W p l e R s m args below meth c H locs cells slots Q (F0 m pc ls st) := by
  subst hst
  have hts := C0.1.2.2.2.2
  have cw : CallW R s args own yy.cls index yy bytes maxL ret (.code yy bytes maxL ret :: Tt) rm mc ms n := ⟨cbQ C0 k.1 hrc.1 hrc.2 hR, hts _ (List.mem_cons_of_mem _ k.2.1), hts _ (List.mem_cons_of_mem _ k.2.2)⟩
  have rv := recvQ C0 hP ha hF hc
  rw [hq] at rv
  exact q_goMi (va_runV (H := H) (locs := locs) (cells := cells) (slots := slots) (rest := rest) (g := F0 m pc ls (As.reverse ++ .ref a :: rest)) (e := e) (below := below) (meth := meth) C0.1 hM cw ⟨PcM_blind _ _ _ _ _ _, rv, preM C0 hP hD _⟩ rfl hn hl.1 rfl (lv_room hW) hdg ⟨hcs.1, hcs.2⟩) hS (AL_in (D := D) hD hS hA) kk
theorem q_sMi {post : Int → List Nat → (Nat → va_E) → Prop} (C0 : Cx D y p c cc nL s m args kw own) (k : CLS own index yy bytes maxL ret n) (hM : Met l yy (.code yy bytes maxL ret :: Tt) rm (PcM D y L F H.size (As)) (cMi D (AL L H.size) post) mc ms (AL L H.size)) (hrc : rm.cells = mc ∧ rm.slots = ms) (hR : (Nat.ble (rm.frames + 1) R.frames && Nat.ble (8 + (maxL + 11) + rm.locals) R.locals) = true) (hP : va_P D vwCl (va_pl L F) H) (hD : va_D A (va_pl L F)) (hS : va_S A H0 H locs) (hA : ∀ q, H0.size ≤ q → A q) (hn : As.length = n) {lv : List (Nat × Value)} (hl : lv_has ls nL lv) (hst : st = As.reverse ++ rest) (hW : (rest.map fun v => v.category).sum ≤ 8) (hdg : decode cc pc = .ok (.invokestatic index, 3)) (hcs : cells + mc ≤ R.cells ∧ slots + ms ≤ R.slots)
    (kk : ∀ (r : Int) (H1 : Heap) (locs1 : List Loc) (L1 : List Nat) (F1 : Nat → va_E), va_P D vwCl (va_pl L1 F1) H1 → va_D A (va_pl L1 F1) → va_S A H0 H1 locs1 → H.size ≤ H1.size → post r L1 F1 → W p l e R s m args below meth c H1 locs1 (cells + mc) (slots + ms) Q (F0 m (pc + 3) ls (.int (iI r) :: rest))) : W p l e R s m args below meth c H locs cells slots Q (F0 m pc ls st) := by
  subst hst
  have hts := C0.1.2.2.2.2
  exact q_goMi (va_runS (H := H) (locs := locs) (cells := cells) (slots := slots) (rest := rest) (g := F0 m pc ls (As.reverse ++ rest)) (e := e) (below := below) (meth := meth) C0.1 hM ⟨cbQ C0 k.1 hrc.1 hrc.2 hR, hts _ (List.mem_cons_of_mem _ k.2)⟩ ⟨PcM_blind _ _ _ _ _ _, preM C0 hP hD _⟩ rfl hn hl.1 rfl (lv_room hW) hdg ⟨hcs.1, hcs.2⟩) hS (AL_in (D := D) hD hS hA) kk
theorem q_goMa {post : Nat → List Nat → (Nat → va_E) → Prop} {av : Array Value} {st0 : List Value} {A1 : Nat → Prop} (hr : va_Run p l e R s m args below meth c H locs cells slots mc ms (F0 m pc ls st0) rest (cMa D A1 post av) A1) (hS : va_S A H0 H locs) (hA1 : ∀ q, A1 q → A q)
    (kk : ∀ (r : Nat) (H1 : Heap) (locs1 : List Loc) (L1 : List Nat) (F1 : Nat → va_E), va_P D vwCl (va_pl L1 F1) H1 → va_D A (va_pl L1 F1) → va_S A H0 H1 locs1 → H.size ≤ H1.size → post r L1 F1 → W p l e R s m args below meth c H1 locs1 (cells + mc) (slots + ms) Q (F0 m (pc + 3) ls (.ref r :: rest))) : W p l e R s m args below meth c H locs cells slots Q (F0 m pc ls st0) := by
  intro T hT X
  obtain ⟨v, st₀, t, T', Lo, h0, X', hL, e1, e2, ⟨⟨r, L1, F1, hv, hP, hD, hp⟩, hz, hk⟩, stp⟩ := hr T hT X
  cases hv
  rw [h0] at hz hk
  obtain ⟨t2, a1, b1⟩ := kk r T'.heap (locs ++ Lo) L1 F1 (by rw [e1]; exact hP) (hD.weaken (fun _ _ _ h => hA1 _ h))
    ⟨Nat.le_trans hS.1 (by rw [e1]; exact hz), fun q h1 h2 => by rw [e1, hk q (Nat.lt_of_lt_of_le h1 hS.1) (fun z => h2 (hA1 q z))]; exact hS.2.1 q h1 h2, fun q hq => by
      rcases List.mem_append.mp hq with h | h
      · exact hS.2.2 q h
      · exact hA1 _ (hL q h)⟩ (by rw [e1]; exact hz) hp T' rfl X'
  exact ⟨t2, stp t2 a1, b1⟩
theorem q_vMa {post : Nat → List Nat → (Nat → va_E) → Prop} (C0 : Cx D y p c cc nL s m args kw own) (k : CLV own index yy bytes maxL ret n) (hM : Met l yy (.code yy bytes maxL ret :: Tt) rm (PcM D y L F H.size (.ref a :: As)) (cMa D (AL L H.size) post) mc ms (AL L H.size)) (hrc : rm.cells = mc ∧ rm.slots = ms) (hR : (Nat.ble (rm.frames + 1) R.frames && Nat.ble (8 + (maxL + 11) + rm.locals) R.locals) = true) (hP : va_P D vwCl (va_pl L F) H) (hD : va_D A (va_pl L F)) (hS : va_S A H0 H locs) (hA : ∀ q, H0.size ≤ q → A q) (ha : a ∈ L) {ci : Nat} {fs : List Value} {q : vw_C} (hF : F a = .inr (ci, fs)) (hc : vwCl[ci]? = some q) (hq : q.1 = yy.cls) (hn : As.length = n) {lv : List (Nat × Value)} (hl : lv_has ls nL lv) (hst : st = As.reverse ++ .ref a :: rest) (hW : (rest.map fun v => v.category).sum ≤ 8) (hdg : decode cc pc = .ok (.invokevirtual index, 3)) (hcs : cells + mc ≤ R.cells ∧ slots + ms ≤ R.slots)
    (kk : ∀ (r : Nat) (H1 : Heap) (locs1 : List Loc) (L1 : List Nat) (F1 : Nat → va_E), va_P D vwCl (va_pl L1 F1) H1 → va_D A (va_pl L1 F1) → va_S A H0 H1 locs1 → H.size ≤ H1.size → post r L1 F1 → W p l e R s m args below meth c H1 locs1 (cells + mc) (slots + ms) Q (F0 m (pc + 3) ls (.ref r :: rest))) : W p l e R s m args below meth c H locs cells slots Q (F0 m pc ls st) := by
  subst hst
  have hts := C0.1.2.2.2.2
  have cw : CallW R s args own yy.cls index yy bytes maxL ret (.code yy bytes maxL ret :: Tt) rm mc ms n := ⟨cbQ C0 k.1 hrc.1 hrc.2 hR, hts _ (List.mem_cons_of_mem _ k.2.1), hts _ (List.mem_cons_of_mem _ k.2.2)⟩
  have rv := recvQ C0 hP ha hF hc
  rw [hq] at rv
  exact q_goMa (va_runV (H := H) (locs := locs) (cells := cells) (slots := slots) (rest := rest) (g := F0 m pc ls (As.reverse ++ .ref a :: rest)) (e := e) (below := below) (meth := meth) C0.1 hM cw ⟨PcM_blind _ _ _ _ _ _, rv, preM C0 hP hD _⟩ rfl hn hl.1 rfl (lv_room hW) hdg ⟨hcs.1, hcs.2⟩) hS (AL_in (D := D) hD hS hA) kk
theorem q_sMa {post : Nat → List Nat → (Nat → va_E) → Prop} (C0 : Cx D y p c cc nL s m args kw own) (k : CLS own index yy bytes maxL ret n) (hM : Met l yy (.code yy bytes maxL ret :: Tt) rm (PcM D y L F H.size (As)) (cMa D (AL L H.size) post) mc ms (AL L H.size)) (hrc : rm.cells = mc ∧ rm.slots = ms) (hR : (Nat.ble (rm.frames + 1) R.frames && Nat.ble (8 + (maxL + 11) + rm.locals) R.locals) = true) (hP : va_P D vwCl (va_pl L F) H) (hD : va_D A (va_pl L F)) (hS : va_S A H0 H locs) (hA : ∀ q, H0.size ≤ q → A q) (hn : As.length = n) {lv : List (Nat × Value)} (hl : lv_has ls nL lv) (hst : st = As.reverse ++ rest) (hW : (rest.map fun v => v.category).sum ≤ 8) (hdg : decode cc pc = .ok (.invokestatic index, 3)) (hcs : cells + mc ≤ R.cells ∧ slots + ms ≤ R.slots)
    (kk : ∀ (r : Nat) (H1 : Heap) (locs1 : List Loc) (L1 : List Nat) (F1 : Nat → va_E), va_P D vwCl (va_pl L1 F1) H1 → va_D A (va_pl L1 F1) → va_S A H0 H1 locs1 → H.size ≤ H1.size → post r L1 F1 → W p l e R s m args below meth c H1 locs1 (cells + mc) (slots + ms) Q (F0 m (pc + 3) ls (.ref r :: rest))) : W p l e R s m args below meth c H locs cells slots Q (F0 m pc ls st) := by
  subst hst
  have hts := C0.1.2.2.2.2
  exact q_goMa (va_runS (H := H) (locs := locs) (cells := cells) (slots := slots) (rest := rest) (g := F0 m pc ls (As.reverse ++ rest)) (e := e) (below := below) (meth := meth) C0.1 hM ⟨cbQ C0 k.1 hrc.1 hrc.2 hR, hts _ (List.mem_cons_of_mem _ k.2)⟩ ⟨PcM_blind _ _ _ _ _ _, preM C0 hP hD _⟩ rfl hn hl.1 rfl (lv_room hW) hdg ⟨hcs.1, hcs.2⟩) hS (AL_in (D := D) hD hS hA) kk
theorem q_goMl {post : Int64 → List Nat → (Nat → va_E) → Prop} {av : Array Value} {st0 : List Value} {A1 : Nat → Prop} (hr : va_Run p l e R s m args below meth c H locs cells slots mc ms (F0 m pc ls st0) rest (cMl D A1 post av) A1) (hS : va_S A H0 H locs) (hA1 : ∀ q, A1 q → A q)
    (kk : ∀ (r : Int64) (H1 : Heap) (locs1 : List Loc) (L1 : List Nat) (F1 : Nat → va_E), va_P D vwCl (va_pl L1 F1) H1 → va_D A (va_pl L1 F1) → va_S A H0 H1 locs1 → H.size ≤ H1.size → post r L1 F1 → W p l e R s m args below meth c H1 locs1 (cells + mc) (slots + ms) Q (F0 m (pc + 3) ls (.long r :: rest))) : W p l e R s m args below meth c H locs cells slots Q (F0 m pc ls st0) := by
  intro T hT X
  obtain ⟨v, st₀, t, T', Lo, h0, X', hL, e1, e2, ⟨⟨r, L1, F1, hv, hP, hD, hp⟩, hz, hk⟩, stp⟩ := hr T hT X
  cases hv
  rw [h0] at hz hk
  obtain ⟨t2, a1, b1⟩ := kk r T'.heap (locs ++ Lo) L1 F1 (by rw [e1]; exact hP) (hD.weaken (fun _ _ _ h => hA1 _ h))
    ⟨Nat.le_trans hS.1 (by rw [e1]; exact hz), fun q h1 h2 => by rw [e1, hk q (Nat.lt_of_lt_of_le h1 hS.1) (fun z => h2 (hA1 q z))]; exact hS.2.1 q h1 h2, fun q hq => by
      rcases List.mem_append.mp hq with h | h
      · exact hS.2.2 q h
      · exact hA1 _ (hL q h)⟩ (by rw [e1]; exact hz) hp T' rfl X'
  exact ⟨t2, stp t2 a1, b1⟩
theorem q_vMl {post : Int64 → List Nat → (Nat → va_E) → Prop} (C0 : Cx D y p c cc nL s m args kw own) (k : CLV own index yy bytes maxL ret n) (hM : Met l yy (.code yy bytes maxL ret :: Tt) rm (PcM D y L F H.size (.ref a :: As)) (cMl D (AL L H.size) post) mc ms (AL L H.size)) (hrc : rm.cells = mc ∧ rm.slots = ms) (hR : (Nat.ble (rm.frames + 1) R.frames && Nat.ble (8 + (maxL + 11) + rm.locals) R.locals) = true) (hP : va_P D vwCl (va_pl L F) H) (hD : va_D A (va_pl L F)) (hS : va_S A H0 H locs) (hA : ∀ q, H0.size ≤ q → A q) (ha : a ∈ L) {ci : Nat} {fs : List Value} {q : vw_C} (hF : F a = .inr (ci, fs)) (hc : vwCl[ci]? = some q) (hq : q.1 = yy.cls) (hn : As.length = n) {lv : List (Nat × Value)} (hl : lv_has ls nL lv) (hst : st = As.reverse ++ .ref a :: rest) (hW : (rest.map fun v => v.category).sum ≤ 8) (hdg : decode cc pc = .ok (.invokevirtual index, 3)) (hcs : cells + mc ≤ R.cells ∧ slots + ms ≤ R.slots)
    (kk : ∀ (r : Int64) (H1 : Heap) (locs1 : List Loc) (L1 : List Nat) (F1 : Nat → va_E), va_P D vwCl (va_pl L1 F1) H1 → va_D A (va_pl L1 F1) → va_S A H0 H1 locs1 → H.size ≤ H1.size → post r L1 F1 → W p l e R s m args below meth c H1 locs1 (cells + mc) (slots + ms) Q (F0 m (pc + 3) ls (.long r :: rest))) : W p l e R s m args below meth c H locs cells slots Q (F0 m pc ls st) := by
  subst hst
  have hts := C0.1.2.2.2.2
  have cw : CallW R s args own yy.cls index yy bytes maxL ret (.code yy bytes maxL ret :: Tt) rm mc ms n := ⟨cbQ C0 k.1 hrc.1 hrc.2 hR, hts _ (List.mem_cons_of_mem _ k.2.1), hts _ (List.mem_cons_of_mem _ k.2.2)⟩
  have rv := recvQ C0 hP ha hF hc
  rw [hq] at rv
  exact q_goMl (va_runV (H := H) (locs := locs) (cells := cells) (slots := slots) (rest := rest) (g := F0 m pc ls (As.reverse ++ .ref a :: rest)) (e := e) (below := below) (meth := meth) C0.1 hM cw ⟨PcM_blind _ _ _ _ _ _, rv, preM C0 hP hD _⟩ rfl hn hl.1 rfl (lv_room hW) hdg ⟨hcs.1, hcs.2⟩) hS (AL_in (D := D) hD hS hA) kk
theorem q_sMl {post : Int64 → List Nat → (Nat → va_E) → Prop} (C0 : Cx D y p c cc nL s m args kw own) (k : CLS own index yy bytes maxL ret n) (hM : Met l yy (.code yy bytes maxL ret :: Tt) rm (PcM D y L F H.size (As)) (cMl D (AL L H.size) post) mc ms (AL L H.size)) (hrc : rm.cells = mc ∧ rm.slots = ms) (hR : (Nat.ble (rm.frames + 1) R.frames && Nat.ble (8 + (maxL + 11) + rm.locals) R.locals) = true) (hP : va_P D vwCl (va_pl L F) H) (hD : va_D A (va_pl L F)) (hS : va_S A H0 H locs) (hA : ∀ q, H0.size ≤ q → A q) (hn : As.length = n) {lv : List (Nat × Value)} (hl : lv_has ls nL lv) (hst : st = As.reverse ++ rest) (hW : (rest.map fun v => v.category).sum ≤ 8) (hdg : decode cc pc = .ok (.invokestatic index, 3)) (hcs : cells + mc ≤ R.cells ∧ slots + ms ≤ R.slots)
    (kk : ∀ (r : Int64) (H1 : Heap) (locs1 : List Loc) (L1 : List Nat) (F1 : Nat → va_E), va_P D vwCl (va_pl L1 F1) H1 → va_D A (va_pl L1 F1) → va_S A H0 H1 locs1 → H.size ≤ H1.size → post r L1 F1 → W p l e R s m args below meth c H1 locs1 (cells + mc) (slots + ms) Q (F0 m (pc + 3) ls (.long r :: rest))) : W p l e R s m args below meth c H locs cells slots Q (F0 m pc ls st) := by
  subst hst
  have hts := C0.1.2.2.2.2
  exact q_goMl (va_runS (H := H) (locs := locs) (cells := cells) (slots := slots) (rest := rest) (g := F0 m pc ls (As.reverse ++ rest)) (e := e) (below := below) (meth := meth) C0.1 hM ⟨cbQ C0 k.1 hrc.1 hrc.2 hR, hts _ (List.mem_cons_of_mem _ k.2)⟩ ⟨PcM_blind _ _ _ _ _ _, preM C0 hP hD _⟩ rfl hn hl.1 rfl (lv_room hW) hdg ⟨hcs.1, hcs.2⟩) hS (AL_in (D := D) hD hS hA) kk
theorem q_goMv {post : Unit → List Nat → (Nat → va_E) → Prop} {av : Array Value} {st0 : List Value} {A1 : Nat → Prop} (hr : va_Run p l e R s m args below meth c H locs cells slots mc ms (F0 m pc ls st0) rest (cMv D A1 post av) A1) (hS : va_S A H0 H locs) (hA1 : ∀ q, A1 q → A q)
    (kk : ∀ (r : Unit) (H1 : Heap) (locs1 : List Loc) (L1 : List Nat) (F1 : Nat → va_E), va_P D vwCl (va_pl L1 F1) H1 → va_D A (va_pl L1 F1) → va_S A H0 H1 locs1 → H.size ≤ H1.size → post r L1 F1 → W p l e R s m args below meth c H1 locs1 (cells + mc) (slots + ms) Q (F0 m (pc + 3) ls (rest))) : W p l e R s m args below meth c H locs cells slots Q (F0 m pc ls st0) := by
  intro T hT X
  obtain ⟨v, st₀, t, T', Lo, h0, X', hL, e1, e2, ⟨⟨r, L1, F1, hv, hP, hD, hp⟩, hz, hk⟩, stp⟩ := hr T hT X
  cases hv
  rw [h0] at hz hk
  obtain ⟨t2, a1, b1⟩ := kk r T'.heap (locs ++ Lo) L1 F1 (by rw [e1]; exact hP) (hD.weaken (fun _ _ _ h => hA1 _ h))
    ⟨Nat.le_trans hS.1 (by rw [e1]; exact hz), fun q h1 h2 => by rw [e1, hk q (Nat.lt_of_lt_of_le h1 hS.1) (fun z => h2 (hA1 q z))]; exact hS.2.1 q h1 h2, fun q hq => by
      rcases List.mem_append.mp hq with h | h
      · exact hS.2.2 q h
      · exact hA1 _ (hL q h)⟩ (by rw [e1]; exact hz) hp T' rfl X'
  exact ⟨t2, stp t2 a1, b1⟩
theorem q_vMv {post : Unit → List Nat → (Nat → va_E) → Prop} (C0 : Cx D y p c cc nL s m args kw own) (k : CLV own index yy bytes maxL ret n) (hM : Met l yy (.code yy bytes maxL ret :: Tt) rm (PcM D y L F H.size (.ref a :: As)) (cMv D (AL L H.size) post) mc ms (AL L H.size)) (hrc : rm.cells = mc ∧ rm.slots = ms) (hR : (Nat.ble (rm.frames + 1) R.frames && Nat.ble (8 + (maxL + 11) + rm.locals) R.locals) = true) (hP : va_P D vwCl (va_pl L F) H) (hD : va_D A (va_pl L F)) (hS : va_S A H0 H locs) (hA : ∀ q, H0.size ≤ q → A q) (ha : a ∈ L) {ci : Nat} {fs : List Value} {q : vw_C} (hF : F a = .inr (ci, fs)) (hc : vwCl[ci]? = some q) (hq : q.1 = yy.cls) (hn : As.length = n) {lv : List (Nat × Value)} (hl : lv_has ls nL lv) (hst : st = As.reverse ++ .ref a :: rest) (hW : (rest.map fun v => v.category).sum ≤ 8) (hdg : decode cc pc = .ok (.invokevirtual index, 3)) (hcs : cells + mc ≤ R.cells ∧ slots + ms ≤ R.slots)
    (kk : ∀ (r : Unit) (H1 : Heap) (locs1 : List Loc) (L1 : List Nat) (F1 : Nat → va_E), va_P D vwCl (va_pl L1 F1) H1 → va_D A (va_pl L1 F1) → va_S A H0 H1 locs1 → H.size ≤ H1.size → post r L1 F1 → W p l e R s m args below meth c H1 locs1 (cells + mc) (slots + ms) Q (F0 m (pc + 3) ls (rest))) : W p l e R s m args below meth c H locs cells slots Q (F0 m pc ls st) := by
  subst hst
  have hts := C0.1.2.2.2.2
  have cw : CallW R s args own yy.cls index yy bytes maxL ret (.code yy bytes maxL ret :: Tt) rm mc ms n := ⟨cbQ C0 k.1 hrc.1 hrc.2 hR, hts _ (List.mem_cons_of_mem _ k.2.1), hts _ (List.mem_cons_of_mem _ k.2.2)⟩
  have rv := recvQ C0 hP ha hF hc
  rw [hq] at rv
  exact q_goMv (va_runV (H := H) (locs := locs) (cells := cells) (slots := slots) (rest := rest) (g := F0 m pc ls (As.reverse ++ .ref a :: rest)) (e := e) (below := below) (meth := meth) C0.1 hM cw ⟨PcM_blind _ _ _ _ _ _, rv, preM C0 hP hD _⟩ rfl hn hl.1 rfl (lv_room hW) hdg ⟨hcs.1, hcs.2⟩) hS (AL_in (D := D) hD hS hA) kk
theorem q_sMv {post : Unit → List Nat → (Nat → va_E) → Prop} (C0 : Cx D y p c cc nL s m args kw own) (k : CLS own index yy bytes maxL ret n) (hM : Met l yy (.code yy bytes maxL ret :: Tt) rm (PcM D y L F H.size (As)) (cMv D (AL L H.size) post) mc ms (AL L H.size)) (hrc : rm.cells = mc ∧ rm.slots = ms) (hR : (Nat.ble (rm.frames + 1) R.frames && Nat.ble (8 + (maxL + 11) + rm.locals) R.locals) = true) (hP : va_P D vwCl (va_pl L F) H) (hD : va_D A (va_pl L F)) (hS : va_S A H0 H locs) (hA : ∀ q, H0.size ≤ q → A q) (hn : As.length = n) {lv : List (Nat × Value)} (hl : lv_has ls nL lv) (hst : st = As.reverse ++ rest) (hW : (rest.map fun v => v.category).sum ≤ 8) (hdg : decode cc pc = .ok (.invokestatic index, 3)) (hcs : cells + mc ≤ R.cells ∧ slots + ms ≤ R.slots)
    (kk : ∀ (r : Unit) (H1 : Heap) (locs1 : List Loc) (L1 : List Nat) (F1 : Nat → va_E), va_P D vwCl (va_pl L1 F1) H1 → va_D A (va_pl L1 F1) → va_S A H0 H1 locs1 → H.size ≤ H1.size → post r L1 F1 → W p l e R s m args below meth c H1 locs1 (cells + mc) (slots + ms) Q (F0 m (pc + 3) ls (rest))) : W p l e R s m args below meth c H locs cells slots Q (F0 m pc ls st) := by
  subst hst
  have hts := C0.1.2.2.2.2
  exact q_goMv (va_runS (H := H) (locs := locs) (cells := cells) (slots := slots) (rest := rest) (g := F0 m pc ls (As.reverse ++ rest)) (e := e) (below := below) (meth := meth) C0.1 hM ⟨cbQ C0 k.1 hrc.1 hrc.2 hR, hts _ (List.mem_cons_of_mem _ k.2)⟩ ⟨PcM_blind _ _ _ _ _ _, preM C0 hP hD _⟩ rfl hn hl.1 rfl (lv_room hW) hdg ⟨hcs.1, hcs.2⟩) hS (AL_in (D := D) hD hS hA) kk
theorem q_iMv {post : Unit → List Nat → (Nat → va_E) → Prop} (C0 : Cx D y p c cc nL s m args kw own) (k : CLI own index yy bytes maxL n) (hM : Met l yy (.code yy bytes maxL none :: Tt) rm (PcM D y L F H.size (.ref a :: As)) (cMv D (AL L H.size) post) mc ms (AL L H.size)) (hrc : rm.cells = mc ∧ rm.slots = ms) (hR : (Nat.ble (rm.frames + 1) R.frames && Nat.ble (8 + (maxL + 11) + rm.locals) R.locals) = true) (hP : va_P D vwCl (va_pl L F) H) (hD : va_D A (va_pl L F)) (hS : va_S A H0 H locs) (hA : ∀ q, H0.size ≤ q → A q) (hn : As.length = n) {lv : List (Nat × Value)} (hl : lv_has ls nL lv) (hst : st = As.reverse ++ .ref a :: rest) (hW : (rest.map fun v => v.category).sum ≤ 8) (hdg : decode cc pc = .ok (.invokespecial index, 3)) (hcs : cells + mc ≤ R.cells ∧ slots + ms ≤ R.slots)
    (kk : ∀ (r : Unit) (H1 : Heap) (locs1 : List Loc) (L1 : List Nat) (F1 : Nat → va_E), va_P D vwCl (va_pl L1 F1) H1 → va_D A (va_pl L1 F1) → va_S A H0 H1 locs1 → H.size ≤ H1.size → post r L1 F1 → W p l e R s m args below meth c H1 locs1 (cells + mc) (slots + ms) Q (F0 m (pc + 3) ls (rest))) : W p l e R s m args below meth c H locs cells slots Q (F0 m pc ls st) := by
  subst hst
  have hts := C0.1.2.2.2.2
  exact q_goMv (va_runI (H := H) (locs := locs) (cells := cells) (slots := slots) (rest := rest) (g := F0 m pc ls (As.reverse ++ .ref a :: rest)) (e := e) (below := below) (meth := meth) C0.1 hM ⟨cbQ C0 k.1 hrc.1 hrc.2 hR, k.2.2, hts _ (List.mem_cons_of_mem _ k.2.1)⟩ ⟨PcM_blind _ _ _ _ _ _, preM C0 hP hD _⟩ rfl hn hl.1 rfl (lv_room hW) hdg ⟨hcs.1, hcs.2⟩) hS (AL_in (D := D) hD hS hA) kk
theorem q_goMq {post : Option Nat → List Nat → (Nat → va_E) → Prop} {av : Array Value} {st0 : List Value} {A1 : Nat → Prop} (hr : va_Run p l e R s m args below meth c H locs cells slots mc ms (F0 m pc ls st0) rest (cMq D A1 post av) A1) (hS : va_S A H0 H locs) (hA1 : ∀ q, A1 q → A q)
    (kk : ∀ (r : Option Nat) (H1 : Heap) (locs1 : List Loc) (L1 : List Nat) (F1 : Nat → va_E), va_P D vwCl (va_pl L1 F1) H1 → va_D A (va_pl L1 F1) → va_S A H0 H1 locs1 → H.size ≤ H1.size → post r L1 F1 → W p l e R s m args below meth c H1 locs1 (cells + mc) (slots + ms) Q (F0 m (pc + 3) ls (va_rf r :: rest))) : W p l e R s m args below meth c H locs cells slots Q (F0 m pc ls st0) := by
  intro T hT X
  obtain ⟨v, st₀, t, T', Lo, h0, X', hL, e1, e2, ⟨⟨r, L1, F1, hv, hP, hD, hp⟩, hz, hk⟩, stp⟩ := hr T hT X
  cases hv
  rw [h0] at hz hk
  obtain ⟨t2, a1, b1⟩ := kk r T'.heap (locs ++ Lo) L1 F1 (by rw [e1]; exact hP) (hD.weaken (fun _ _ _ h => hA1 _ h))
    ⟨Nat.le_trans hS.1 (by rw [e1]; exact hz), fun q h1 h2 => by rw [e1, hk q (Nat.lt_of_lt_of_le h1 hS.1) (fun z => h2 (hA1 q z))]; exact hS.2.1 q h1 h2, fun q hq => by
      rcases List.mem_append.mp hq with h | h
      · exact hS.2.2 q h
      · exact hA1 _ (hL q h)⟩ (by rw [e1]; exact hz) hp T' rfl X'
  exact ⟨t2, stp t2 a1, b1⟩
theorem q_vMq {post : Option Nat → List Nat → (Nat → va_E) → Prop} (C0 : Cx D y p c cc nL s m args kw own) (k : CLV own index yy bytes maxL ret n) (hM : Met l yy (.code yy bytes maxL ret :: Tt) rm (PcM D y L F H.size (.ref a :: As)) (cMq D (AL L H.size) post) mc ms (AL L H.size)) (hrc : rm.cells = mc ∧ rm.slots = ms) (hR : (Nat.ble (rm.frames + 1) R.frames && Nat.ble (8 + (maxL + 11) + rm.locals) R.locals) = true) (hP : va_P D vwCl (va_pl L F) H) (hD : va_D A (va_pl L F)) (hS : va_S A H0 H locs) (hA : ∀ q, H0.size ≤ q → A q) (ha : a ∈ L) {ci : Nat} {fs : List Value} {q : vw_C} (hF : F a = .inr (ci, fs)) (hc : vwCl[ci]? = some q) (hq : q.1 = yy.cls) (hn : As.length = n) {lv : List (Nat × Value)} (hl : lv_has ls nL lv) (hst : st = As.reverse ++ .ref a :: rest) (hW : (rest.map fun v => v.category).sum ≤ 8) (hdg : decode cc pc = .ok (.invokevirtual index, 3)) (hcs : cells + mc ≤ R.cells ∧ slots + ms ≤ R.slots)
    (kk : ∀ (r : Option Nat) (H1 : Heap) (locs1 : List Loc) (L1 : List Nat) (F1 : Nat → va_E), va_P D vwCl (va_pl L1 F1) H1 → va_D A (va_pl L1 F1) → va_S A H0 H1 locs1 → H.size ≤ H1.size → post r L1 F1 → W p l e R s m args below meth c H1 locs1 (cells + mc) (slots + ms) Q (F0 m (pc + 3) ls (va_rf r :: rest))) : W p l e R s m args below meth c H locs cells slots Q (F0 m pc ls st) := by
  subst hst
  have hts := C0.1.2.2.2.2
  have cw : CallW R s args own yy.cls index yy bytes maxL ret (.code yy bytes maxL ret :: Tt) rm mc ms n := ⟨cbQ C0 k.1 hrc.1 hrc.2 hR, hts _ (List.mem_cons_of_mem _ k.2.1), hts _ (List.mem_cons_of_mem _ k.2.2)⟩
  have rv := recvQ C0 hP ha hF hc
  rw [hq] at rv
  exact q_goMq (va_runV (H := H) (locs := locs) (cells := cells) (slots := slots) (rest := rest) (g := F0 m pc ls (As.reverse ++ .ref a :: rest)) (e := e) (below := below) (meth := meth) C0.1 hM cw ⟨PcM_blind _ _ _ _ _ _, rv, preM C0 hP hD _⟩ rfl hn hl.1 rfl (lv_room hW) hdg ⟨hcs.1, hcs.2⟩) hS (AL_in (D := D) hD hS hA) kk
theorem q_sMq {post : Option Nat → List Nat → (Nat → va_E) → Prop} (C0 : Cx D y p c cc nL s m args kw own) (k : CLS own index yy bytes maxL ret n) (hM : Met l yy (.code yy bytes maxL ret :: Tt) rm (PcM D y L F H.size (As)) (cMq D (AL L H.size) post) mc ms (AL L H.size)) (hrc : rm.cells = mc ∧ rm.slots = ms) (hR : (Nat.ble (rm.frames + 1) R.frames && Nat.ble (8 + (maxL + 11) + rm.locals) R.locals) = true) (hP : va_P D vwCl (va_pl L F) H) (hD : va_D A (va_pl L F)) (hS : va_S A H0 H locs) (hA : ∀ q, H0.size ≤ q → A q) (hn : As.length = n) {lv : List (Nat × Value)} (hl : lv_has ls nL lv) (hst : st = As.reverse ++ rest) (hW : (rest.map fun v => v.category).sum ≤ 8) (hdg : decode cc pc = .ok (.invokestatic index, 3)) (hcs : cells + mc ≤ R.cells ∧ slots + ms ≤ R.slots)
    (kk : ∀ (r : Option Nat) (H1 : Heap) (locs1 : List Loc) (L1 : List Nat) (F1 : Nat → va_E), va_P D vwCl (va_pl L1 F1) H1 → va_D A (va_pl L1 F1) → va_S A H0 H1 locs1 → H.size ≤ H1.size → post r L1 F1 → W p l e R s m args below meth c H1 locs1 (cells + mc) (slots + ms) Q (F0 m (pc + 3) ls (va_rf r :: rest))) : W p l e R s m args below meth c H locs cells slots Q (F0 m pc ls st) := by
  subst hst
  have hts := C0.1.2.2.2.2
  exact q_goMq (va_runS (H := H) (locs := locs) (cells := cells) (slots := slots) (rest := rest) (g := F0 m pc ls (As.reverse ++ rest)) (e := e) (below := below) (meth := meth) C0.1 hM ⟨cbQ C0 k.1 hrc.1 hrc.2 hR, hts _ (List.mem_cons_of_mem _ k.2)⟩ ⟨PcM_blind _ _ _ _ _ _, preM C0 hP hD _⟩ rfl hn hl.1 rfl (lv_room hW) hdg ⟨hcs.1, hcs.2⟩) hS (AL_in (D := D) hD hS hA) kk
theorem q_retMi {post : Int → List Nat → (Nat → va_E) → Prop} {r : Int} (C0 : Cx D y p c cc nL s m args kw own) {ty : FieldType} (hr : meth.sig.returnType = some ty) (hn : narrow ty (.int (iI r)) = .int (iI r)) (hlk : meth.locks = false) (hdg : decode cc pc = .ok (.ireturn, 1)) (hP : va_P D vwCl (va_pl L F) H) (hD : va_D A (va_pl L F)) (hS : va_S A s.heap H locs) (hp : post r L F) : W p l e R s m args below meth c H locs cells slots (MQ below (cMi D A post) args s cells slots A) (F0 m pc ls [.int (iI r)]) := W.zret C0.1.1 C0.1.2.1 hr hn (fun t ht _ => ⟨⟨r, L, F, rfl, by rw [ht]; exact hP, hD, hp⟩, hS.F ht⟩) hS.2.2 hdg hlk
theorem q_retMa {post : Nat → List Nat → (Nat → va_E) → Prop} {r : Nat} (C0 : Cx D y p c cc nL s m args kw own) {rt : FieldType} (hr : meth.sig.returnType = some rt) (hrt : (∃ n, rt = .object n) ∨ ∃ t, rt = .array t) (hlk : meth.locks = false) (hdg : decode cc pc = .ok (.areturn, 1)) (hP : va_P D vwCl (va_pl L F) H) (hD : va_D A (va_pl L F)) (hS : va_S A s.heap H locs) (hp : post r L F) : W p l e R s m args below meth c H locs cells slots (MQ below (cMa D A post) args s cells slots A) (F0 m pc ls [.ref r]) := W.aret C0.1.1 C0.1.2.1 hr hrt (Or.inr ⟨_, rfl⟩) (fun t ht _ => ⟨⟨r, L, F, rfl, by rw [ht]; exact hP, hD, hp⟩, hS.F ht⟩) hS.2.2 hdg hlk
theorem q_retMl {post : Int64 → List Nat → (Nat → va_E) → Prop} {r : Int64} (C0 : Cx D y p c cc nL s m args kw own) (hr : meth.sig.returnType = some .long) (hlk : meth.locks = false) (hdg : decode cc pc = .ok (.lreturn, 1)) (hP : va_P D vwCl (va_pl L F) H) (hD : va_D A (va_pl L F)) (hS : va_S A s.heap H locs) (hp : post r L F) : W p l e R s m args below meth c H locs cells slots (MQ below (cMl D A post) args s cells slots A) (F0 m pc ls [.long r]) := W.lret C0.1.1 C0.1.2.1 hr (fun t ht _ => ⟨⟨r, L, F, rfl, by rw [ht]; exact hP, hD, hp⟩, hS.F ht⟩) hS.2.2 hdg hlk
theorem q_retMv {post : Unit → List Nat → (Nat → va_E) → Prop} (C0 : Cx D y p c cc nL s m args kw own) (hr : meth.sig.returnType = none) (hlk : meth.locks = false) (hdg : decode cc pc = .ok (.return_, 1)) (hP : va_P D vwCl (va_pl L F) H) (hD : va_D A (va_pl L F)) (hS : va_S A s.heap H locs) (hp : post () L F) : W p l e R s m args below meth c H locs cells slots (MQ below (cMv D A post) args s cells slots A) (F0 m pc ls []) := W.vret C0.1.1 C0.1.2.1 hr (fun t ht _ => ⟨⟨(), L, F, rfl, by rw [ht]; exact hP, hD, hp⟩, hS.F ht⟩) hS.2.2 hdg hlk
theorem q_retMq {post : Option Nat → List Nat → (Nat → va_E) → Prop} {r : Option Nat} (C0 : Cx D y p c cc nL s m args kw own) {rt : FieldType} (hr : meth.sig.returnType = some rt) (hrt : (∃ n, rt = .object n) ∨ ∃ t, rt = .array t) (hlk : meth.locks = false) (hdg : decode cc pc = .ok (.areturn, 1)) (hP : va_P D vwCl (va_pl L F) H) (hD : va_D A (va_pl L F)) (hS : va_S A s.heap H locs) (hp : post r L F) : W p l e R s m args below meth c H locs cells slots (MQ below (cMq D A post) args s cells slots A) (F0 m pc ls [va_rf r]) := W.aret C0.1.1 C0.1.2.1 hr hrt (va_rf_or r) (fun t ht _ => ⟨⟨r, L, F, rfl, by rw [ht]; exact hP, hD, hp⟩, hS.F ht⟩) hS.2.2 hdg hlk
theorem q_aretS {post : Nat → Prop} {r : Nat} {rt : FieldType} (C0 : Cx D y p c cc nL s m args kw own) (hr : meth.sig.returnType = some rt) (hlk : meth.locks = false) (hrt : (∃ n, rt = .object n) ∨ ∃ t, rt = .array t) (hdg : decode cc pc = .ok (.areturn, 1)) (hp : post r) : W p l e R s m args below meth c s.heap [] 0 0 (MQ below (cSa post) args s 0 0 (fun _ => False)) (F0 m pc ls [.ref r]) :=
  W.aret C0.1.1 C0.1.2.1 hr hrt (Or.inr ⟨_, rfl⟩) (fun t ht _ => ⟨r, rfl, hp, ht⟩) (fun q h => nomatch h) hdg hlk
theorem q_lretS {post : Int64 → Prop} {r : Int64} (C0 : Cx D y p c cc nL s m args kw own) (hr : meth.sig.returnType = some .long) (hlk : meth.locks = false) (hdg : decode cc pc = .ok (.lreturn, 1)) (hp : post r) : W p l e R s m args below meth c s.heap [] 0 0 (MQ below (cSl post) args s 0 0 (fun _ => False)) (F0 m pc ls [.long r]) :=
  W.lret C0.1.1 C0.1.2.1 hr (fun t ht _ => ⟨r, rfl, hp, ht⟩) (fun q h => nomatch h) hdg hlk
theorem q_vretS (C0 : Cx D y p c cc nL s m args kw own) (hr : meth.sig.returnType = none) (hlk : meth.locks = false) (hdg : decode cc pc = .ok (.return_, 1)) : W p l e R s m args below meth c s.heap [] 0 0 (MQ below cSv args s 0 0 (fun _ => False)) (F0 m pc ls []) :=
  W.vret C0.1.1 C0.1.2.1 hr (fun t ht _ => ⟨rfl, ht⟩) (fun q h => nomatch h) hdg hlk

theorem q_vSa {post : Nat → Prop} (C0 : Cx D y p c cc nL s m args kw own) (k : CLV own index yy bytes maxL ret n) (hM : Met l yy (.code yy bytes maxL ret :: Tt) rm (PcR D y L F (.ref a :: As)) (cSa post) 0 0 (fun _ => False)) (hrc : rm.cells = 0 ∧ rm.slots = 0) (hR : (Nat.ble (rm.frames + 1) R.frames && Nat.ble (8 + (maxL + 11) + rm.locals) R.locals) = true) (hP : va_P D vwCl (va_pl L F) H) (ha : a ∈ L) {ci : Nat} {fs : List Value} {q : vw_C} (hF : F a = .inr (ci, fs)) (hc : vwCl[ci]? = some q) (hq : q.1 = yy.cls) (hn : As.length = n) {lv : List (Nat × Value)} (hl : lv_has ls nL lv) (hst : st = As.reverse ++ .ref a :: rest) (hW : (rest.map fun v => v.category).sum ≤ 8) (hdg : decode cc pc = .ok (.invokevirtual index, 3)) (hcs : cells ≤ R.cells ∧ slots ≤ R.slots)
    (kk : ∀ r : Nat, post r → W p l e R s m args below meth c H locs cells slots Q (F0 m (pc + 3) ls (.ref r :: rest))) : W p l e R s m args below meth c H locs cells slots Q (F0 m pc ls st) := by
  subst hst
  have hts := C0.1.2.2.2.2
  have cw : CallW R s args own yy.cls index yy bytes maxL ret (.code yy bytes maxL ret :: Tt) rm 0 0 n := ⟨cbQ C0 k.1 hrc.1 hrc.2 hR, hts _ (List.mem_cons_of_mem _ k.2.1), hts _ (List.mem_cons_of_mem _ k.2.2)⟩
  have rv := recvQ C0 hP ha hF hc
  rw [hq] at rv
  have hr := va_runV (H := H) (locs := locs) (cells := cells) (slots := slots) (rest := rest) (g := F0 m pc ls (As.reverse ++ .ref a :: rest)) (e := e) (below := below) (meth := meth) C0.1 hM cw ⟨PcR_blind _ _ _ _ _, rv, preR C0 hP _⟩ rfl hn hl.1 rfl (lv_room hW) hdg ⟨hcs.1, hcs.2⟩
  intro T hT X
  obtain ⟨v, st₀, t, T', Lo, h0, X', hL, e1, e2, ⟨r, hv, hp, hh⟩, stp⟩ := hr T hT X
  cases hv
  obtain ⟨t2, a1, b1⟩ := kk r hp T' (by rw [e1, hh, h0]) (Stand.forget X' (fun q h => (hL q h).elim))
  exact ⟨t2, stp t2 a1, b1⟩
theorem q_sSa {post : Nat → Prop} (C0 : Cx D y p c cc nL s m args kw own) (k : CLS own index yy bytes maxL ret n) (hM : Met l yy (.code yy bytes maxL ret :: Tt) rm (PcR D y L F (As)) (cSa post) 0 0 (fun _ => False)) (hrc : rm.cells = 0 ∧ rm.slots = 0) (hR : (Nat.ble (rm.frames + 1) R.frames && Nat.ble (8 + (maxL + 11) + rm.locals) R.locals) = true) (hP : va_P D vwCl (va_pl L F) H) (hn : As.length = n) {lv : List (Nat × Value)} (hl : lv_has ls nL lv) (hst : st = As.reverse ++ rest) (hW : (rest.map fun v => v.category).sum ≤ 8) (hdg : decode cc pc = .ok (.invokestatic index, 3)) (hcs : cells ≤ R.cells ∧ slots ≤ R.slots)
    (kk : ∀ r : Nat, post r → W p l e R s m args below meth c H locs cells slots Q (F0 m (pc + 3) ls (.ref r :: rest))) : W p l e R s m args below meth c H locs cells slots Q (F0 m pc ls st) := by
  subst hst
  have hts := C0.1.2.2.2.2
  have hr := va_runS (H := H) (locs := locs) (cells := cells) (slots := slots) (rest := rest) (g := F0 m pc ls (As.reverse ++ rest)) (e := e) (below := below) (meth := meth) C0.1 hM ⟨cbQ C0 k.1 hrc.1 hrc.2 hR, hts _ (List.mem_cons_of_mem _ k.2)⟩ ⟨PcR_blind _ _ _ _ _, preR C0 hP _⟩ rfl hn hl.1 rfl (lv_room hW) hdg ⟨hcs.1, hcs.2⟩
  intro T hT X
  obtain ⟨v, st₀, t, T', Lo, h0, X', hL, e1, e2, ⟨r, hv, hp, hh⟩, stp⟩ := hr T hT X
  cases hv
  obtain ⟨t2, a1, b1⟩ := kk r hp T' (by rw [e1, hh, h0]) (Stand.forget X' (fun q h => (hL q h).elim))
  exact ⟨t2, stp t2 a1, b1⟩
theorem q_vSl {post : Int64 → Prop} (C0 : Cx D y p c cc nL s m args kw own) (k : CLV own index yy bytes maxL ret n) (hM : Met l yy (.code yy bytes maxL ret :: Tt) rm (PcR D y L F (.ref a :: As)) (cSl post) 0 0 (fun _ => False)) (hrc : rm.cells = 0 ∧ rm.slots = 0) (hR : (Nat.ble (rm.frames + 1) R.frames && Nat.ble (8 + (maxL + 11) + rm.locals) R.locals) = true) (hP : va_P D vwCl (va_pl L F) H) (ha : a ∈ L) {ci : Nat} {fs : List Value} {q : vw_C} (hF : F a = .inr (ci, fs)) (hc : vwCl[ci]? = some q) (hq : q.1 = yy.cls) (hn : As.length = n) {lv : List (Nat × Value)} (hl : lv_has ls nL lv) (hst : st = As.reverse ++ .ref a :: rest) (hW : (rest.map fun v => v.category).sum ≤ 8) (hdg : decode cc pc = .ok (.invokevirtual index, 3)) (hcs : cells ≤ R.cells ∧ slots ≤ R.slots)
    (kk : ∀ r : Int64, post r → W p l e R s m args below meth c H locs cells slots Q (F0 m (pc + 3) ls (.long r :: rest))) : W p l e R s m args below meth c H locs cells slots Q (F0 m pc ls st) := by
  subst hst
  have hts := C0.1.2.2.2.2
  have cw : CallW R s args own yy.cls index yy bytes maxL ret (.code yy bytes maxL ret :: Tt) rm 0 0 n := ⟨cbQ C0 k.1 hrc.1 hrc.2 hR, hts _ (List.mem_cons_of_mem _ k.2.1), hts _ (List.mem_cons_of_mem _ k.2.2)⟩
  have rv := recvQ C0 hP ha hF hc
  rw [hq] at rv
  have hr := va_runV (H := H) (locs := locs) (cells := cells) (slots := slots) (rest := rest) (g := F0 m pc ls (As.reverse ++ .ref a :: rest)) (e := e) (below := below) (meth := meth) C0.1 hM cw ⟨PcR_blind _ _ _ _ _, rv, preR C0 hP _⟩ rfl hn hl.1 rfl (lv_room hW) hdg ⟨hcs.1, hcs.2⟩
  intro T hT X
  obtain ⟨v, st₀, t, T', Lo, h0, X', hL, e1, e2, ⟨r, hv, hp, hh⟩, stp⟩ := hr T hT X
  cases hv
  obtain ⟨t2, a1, b1⟩ := kk r hp T' (by rw [e1, hh, h0]) (Stand.forget X' (fun q h => (hL q h).elim))
  exact ⟨t2, stp t2 a1, b1⟩
theorem q_sSl {post : Int64 → Prop} (C0 : Cx D y p c cc nL s m args kw own) (k : CLS own index yy bytes maxL ret n) (hM : Met l yy (.code yy bytes maxL ret :: Tt) rm (PcR D y L F (As)) (cSl post) 0 0 (fun _ => False)) (hrc : rm.cells = 0 ∧ rm.slots = 0) (hR : (Nat.ble (rm.frames + 1) R.frames && Nat.ble (8 + (maxL + 11) + rm.locals) R.locals) = true) (hP : va_P D vwCl (va_pl L F) H) (hn : As.length = n) {lv : List (Nat × Value)} (hl : lv_has ls nL lv) (hst : st = As.reverse ++ rest) (hW : (rest.map fun v => v.category).sum ≤ 8) (hdg : decode cc pc = .ok (.invokestatic index, 3)) (hcs : cells ≤ R.cells ∧ slots ≤ R.slots)
    (kk : ∀ r : Int64, post r → W p l e R s m args below meth c H locs cells slots Q (F0 m (pc + 3) ls (.long r :: rest))) : W p l e R s m args below meth c H locs cells slots Q (F0 m pc ls st) := by
  subst hst
  have hts := C0.1.2.2.2.2
  have hr := va_runS (H := H) (locs := locs) (cells := cells) (slots := slots) (rest := rest) (g := F0 m pc ls (As.reverse ++ rest)) (e := e) (below := below) (meth := meth) C0.1 hM ⟨cbQ C0 k.1 hrc.1 hrc.2 hR, hts _ (List.mem_cons_of_mem _ k.2)⟩ ⟨PcR_blind _ _ _ _ _, preR C0 hP _⟩ rfl hn hl.1 rfl (lv_room hW) hdg ⟨hcs.1, hcs.2⟩
  intro T hT X
  obtain ⟨v, st₀, t, T', Lo, h0, X', hL, e1, e2, ⟨r, hv, hp, hh⟩, stp⟩ := hr T hT X
  cases hv
  obtain ⟨t2, a1, b1⟩ := kk r hp T' (by rw [e1, hh, h0]) (Stand.forget X' (fun q h => (hL q h).elim))
  exact ⟨t2, stp t2 a1, b1⟩
theorem q_new (C0 : Cx D y p c cc nL s m args kw own) {ci index N : Nat} {C : String} {T : u_T} (hin : ∀ w ∈ u_ws C T N, w ∈ Tt) (ty0 : Nat → FieldType) (hty : ∀ k, k < N → parseFieldDescriptor (T k).2.2.1 = some (ty0 k)) (hcl : Cond.classLink own index C ∈ Tt) (hinst : Cond.instantiable C N ∈ Tt) (hini : Cond.initialized C ∈ Tt) (hP : va_P D vwCl (va_pl L F) H) (hD : va_D A (va_pl L F)) (hS : va_S A H0 H locs) (hA : ∀ q, H0.size ≤ q → A q) (hc : vwCl[ci]? = some (C, T, N)) {fs : List Value} (hfs : ∀ j, j < N → defaultValue (ty0 j) = vp_V fs j) (hcells : cells + 1 ≤ R.cells) (hslots : slots + N ≤ R.slots) (hdg : decode cc pc = .ok (.new index, 3))
    (kk : ∀ (q : Nat) (H1 : Heap), q ∉ L → va_P D vwCl (va_pl (L ++ [q]) (va_up F q (.inr (ci, fs)))) H1 → va_D A (va_pl (L ++ [q]) (va_up F q (.inr (ci, fs)))) → va_S A H0 H1 locs → W p l e R s m args below meth c H1 locs (cells + 1) (slots + N) Q (F0 m (pc + 3) ls (.ref q :: rest))) : W p l e R s m args below meth c H locs cells slots Q (F0 m pc ls rest) := by
  obtain ⟨⟨hx, hb, hml, hown, hts⟩, hK⟩ := C0
  refine va_new hx hb hts (fun w h => List.mem_cons_of_mem _ (hin w h)) ty0 hty hown (hts _ (List.mem_cons_of_mem _ hcl)) (hts _ (List.mem_cons_of_mem _ hinst)) (hts _ (List.mem_cons_of_mem _ hini)) hK.1 hP hD hS hA hc hfs hcells hslots hdg (fun q H1 hP1 hD1 hS1 => ?_)
  have hq : q ∉ L := pl_notin hD1
  rw [va_pl_push hq] at hP1 hD1
  exact kk q H1 hq hP1 hD1 hS1
theorem q_newi (C0 : Cx D y p c cc nL s m args kw own) (hP : va_P D vwCl (va_pl L F) H) (hD : va_D A (va_pl L F)) (hS : va_S A H0 H locs) (hA : ∀ q, H0.size ≤ q → A q) {z : Int} {N : Nat} (hz : z = N) (hN : N ≤ 65536) (hcells : cells + 1 ≤ R.cells) (hslots : slots + N ≤ R.slots) (hdg : decode cc pc = .ok (.newarray .int, 2))
    (kk : ∀ (q : Nat) (H1 : Heap), q ∉ L → va_P D vwCl (va_pl (L ++ [q]) (va_up F q (arrI (y 0) N (fun _ => 0)))) H1 → va_D A (va_pl (L ++ [q]) (va_up F q (arrI (y 0) N (fun _ => 0)))) → va_S A H0 H1 locs → W p l e R s m args below meth c H1 locs (cells + 1) (slots + N) Q (F0 m (pc + 2) ls (.ref q :: rest))) : W p l e R s m args below meth c H locs cells slots Q (F0 m pc ls (.int (iI z) :: rest)) := by
  obtain ⟨⟨hx, hb, hml, hown, hts⟩, hK⟩ := C0
  refine va_newa (atype := .int) (ty := .int) (N' := N) (a0 := (N, .inl (fun _ => 0))) hx hb (hts _ (List.mem_cons_of_mem _ aCint)) rfl hK.1 hP hD hS hA (fun cA => rfl) ?_ ?_ ?_ hcells hslots hdg (fun q cA H1 hK1 hP1 hD1 hS1 => ?_)
  · rw [hz, iI_0, iI_lt (by omega) (by omega)]; omega
  · rw [hz, iI_clamp (by omega)]; omega
  · show N * 4 ≤ 536870912
    omega
  · have hcA : cA = y 0 := by
      have h1 := (hK1.2 5 _ rfl).2
      have h2 := (hK.1.2 0 _ rfl).2
      exact Option.some.inj (h1.symm.trans h2)
    subst hcA
    have hq : q ∉ L := pl_notin hD1
    rw [va_pl_push hq] at hP1 hD1
    exact kk q H1 hq hP1 hD1 hS1

theorem q_alen (C0 : Cx D y p c cc nL s m args kw own) (hP : va_P D vwCl (va_pl L F) H) (ha : a ∈ L) {n : Nat} {f : Int → Int} (hF : F a = arrI (y 0) n f) (hdg : decode cc pc = .ok (.arraylength, 1)) (kk : W p l e R s m args below meth c H locs cells slots Q (F0 m (pc + 1) ls (.int (iI (n : Int)) :: rest))) : W p l e R s m args below meth c H locs cells slots Q (F0 m pc ls (.ref a :: rest)) := by
  obtain ⟨⟨hx, hb, hml, hown, hts⟩, hK⟩ := C0
  obtain ⟨j, hj⟩ := va_pl_get (X := []) (f := F) ha
  rw [hF] at hj
  exact va_alen hx hb hK.1 hP j 0 hj (ty := .int) rfl (v := iI (n : Int)) (iI_ofnat n).symm hdg kk
end QM
/-- the start of a method that changes the pool -/
theorem q_ofM {l : Launch} {yy : MethodName} {bytes : ByteArray} {maxL : Nat} {ret : Option FieldType} {rm : Room} {D : va_G} {y : Nat → ClassId} {L : List Nat} {F : Nat → va_E} {sz : Nat} {av : List Value} {Qc : Array Value → State → Outcome → State → Prop} {mc ms : Nat} {lv : List (Nat × Value)} (hy : plainName yy.cls = true) (hlen : (lg_sl av).length ≤ maxL) (hlv : lv_args 0 av = lv)
    (body : ∀ (p : Program) (e : Env) (s : State) (m : MethodId) (below : List Frame) (meth : Method) (c : Code), Cx D y p c bytes maxL s m av.toArray (.code yy bytes maxL ret) yy.cls → meth.sig.returnType = ret → meth.locks = false → meth.name = yy.name → (∀ q, s.heap.size ≤ q → AL L sz q) → va_P D vwCl (va_pl L F) s.heap → va_D (AL L sz) (va_pl L F) → va_S (AL L sz) s.heap s.heap [] → ∀ ls : Array Slot, lv_has ls maxL lv → W p l e rm s m av.toArray below meth c s.heap [] 0 0 (MQ below Qc av.toArray s mc ms (AL L sz)) (F0 m 0 ls [])) : Met l yy (.code yy bytes maxL ret :: Tt) rm (PcM D y L F sz av) Qc mc ms (AL L sz) := by
  refine Met.ofW (cc := bytes) (maxL := maxL) (ret := ret) hy rfl ?_
  intro p e s m args below meth c s₁ B hml hv
  obtain ⟨rfl, hsz, hK, hP, hD⟩ := hv
  have hown : s.vm.findClass yy.cls = some m.cls := findClass_of_methodNamed B.named
  have hl := lv_entry av (n := maxL) hlen
  rw [hlv] at hl
  rw [lg_entry_eq]
  exact body p e s m below meth c ⟨⟨B.exec, B.bytes, hml, hown, atoms_spec (ws := .code yy bytes maxL ret :: Tt) B.pre⟩, hK⟩ B.returns B.notSynchronized (name_of_methodNamed B.named B.method).1 (fun q h => Or.inr (by rw [← hsz]; exact h)) hP (va_D_AL hD) va_S.rf _ hl
