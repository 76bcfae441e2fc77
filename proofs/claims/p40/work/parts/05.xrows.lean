-- methods that may throw
theorem xw_I0 : ∀ w ∈ (vx_atS RX3 278 xIO xNm).filter goodWord, w ∈ lw_tbl := by decide +kernel
theorem xw_A0 : ∀ w ∈ (vx_atS RX3 289 xIA xNm).filter goodWord, w ∈ lw_tbl := by decide +kernel
theorem xw_I : ∀ w ∈ (vx_atS RX3 278 xIO xNm).filter goodWord, w ∈ Tt := fun w h => List.mem_filter.mpr ⟨xw_I0 w h, (List.mem_filter.mp h).2⟩
theorem xw_A : ∀ w ∈ (vx_atS RX3 289 xIA xNm).filter goodWord, w ∈ Tt := fun w h => List.mem_filter.mpr ⟨xw_A0 w h, (List.mem_filter.mp h).2⟩
theorem xw_I2 : ∀ w ∈ (vx_atS RX3 278 xIO xNm).filter (fun w => !goodWord w), w ∈ [Cond.castable xIO xIO, .declares (Bundle.initS "java/lang/RuntimeException"), .declares (Bundle.initS "java/lang/Exception"), .declares (Bundle.initS "java/lang/Throwable")] := by decide +kernel
theorem xw_A2 : ∀ w ∈ (vx_atS RX3 289 xIA xNm).filter (fun w => !goodWord w), w ∈ [Cond.castable xIA xIA, .declares (Bundle.initS "java/lang/RuntimeException"), .declares (Bundle.initS "java/lang/Exception"), .declares (Bundle.initS "java/lang/Throwable")] := by decide +kernel
theorem xw_I3 : ∀ w ∈ Cond.classLink RX3 274 xIO :: Cond.initialized xIO :: vx_atS RX3 278 xIO xNm, vx_ot w = true := by decide +kernel
theorem xw_A3 : ∀ w ∈ Cond.classLink RX3 285 xIA :: Cond.initialized xIA :: vx_atS RX3 289 xIA xNm, vx_ot w = true := by decide +kernel
/-- two statics of Throwable, that no cell of the pool is -/
def XS (L : List Nat) (U : State) (H : Heap) : Prop := vx_Zq Bundle.tN "UNASSIGNED_STACK" Bundle.steD (fun q => q ∈ L) U H ∧ vx_Zq Bundle.tN "SUPPRESSED_SENTINEL" Bundle.listD (fun q => q ∈ L) U H
def PcX (D : va_G) (y : Nat → ClassId) (L : List Nat) (F : Nat → va_E) (sz : Nat) (av : List Value) : Array Value → State → Prop := va_Pc av (fun U => U.heap.size = sz ∧ KK D y U ∧ va_P D vwCl (va_pl L F) U.heap ∧ va_D (fun _ => True) (va_pl L F) ∧ XS L U U.heap)
/-- thrown: an exception of that class; all old cells as they were -/
def XC (pE : String → Prop) : String → State → State → Prop := fun E st t => pE E ∧ st.heap.size ≤ t.heap.size ∧ ∀ q : Nat, q < st.heap.size → t.heap[q]? = st.heap[q]?
theorem PcX_blind (D : va_G) (y : Nat → ClassId) (L : List Nat) (F : Nat → va_E) (sz : Nat) (av : List Value) : FrameBlind (PcX D y L F sz av) := fun a U g mk q => ⟨q.1, q.2.1, q.2.2.1.call, q.2.2.2.1, q.2.2.2.2.1, vx_Zq.moved (u := U) (U := U.calling g mk a) (Vm.Alike.refl U.vm) q.2.2.2.2.2.1, vx_Zq.moved (u := U) (U := U.calling g mk a) (Vm.Alike.refl U.vm) q.2.2.2.2.2.2⟩
theorem XS.warm {L : List Nat} {s U : State} {H : Heap} (hW : s.WarmedH U.vm) (h : XS L s H) : XS L U H := ⟨vx_Zq.moved hW.alike h.1, vx_Zq.moved hW.alike h.2⟩
section QX2
variable {p : Program} {l : Launch} {e : Env} {R : Room} {s : State} {m : MethodId} {args : Array Value} {below : List Frame} {meth : Method} {c : Code} {H : Heap} {locs : List Loc} {cells slots : Nat} {Q : State → Prop} {cc : ByteArray} {pc : Nat} {ls : Array Slot} {rest : List Value}
variable {D : va_G} {y : Nat → ClassId} {nL : Nat} {kw : Cond} {own : String} {L : List Nat} {F : Nat → va_E} {a : Nat} {A : Nat → Prop} {H0 : Heap}
variable {yy : MethodName} {bytes : ByteArray} {maxL n index mc ms : Nat} {ret : Option FieldType} {rm : Room} {As st : List Value}
variable {Qc : Array Value → State → Outcome → State → Prop} {free : Addr → Prop}
theorem preX (C0 : Cx D y p c cc nL s m args kw own) (hP : va_P D vwCl (va_pl L F) H) (hD : va_D A (va_pl L F)) (hX : XS L s H) (av : List Value) : ∀ U : State, U.heap = H → s.WarmedH U.vm → PcX D y L F H.size av av.toArray U := fun U hU hW => ⟨rfl, by rw [hU], C0.2.warm hW, by rw [hU]; exact hP, hD.weaken (fun _ _ _ _ => trivial), by rw [hU]; exact hX.warm hW⟩
/-- a throw of the class's own -/
theorem q_throwI {is : Nat} {text : String} {pE : String → Prop} (hfl : l.stackTraces = false) (C0 : Cx D y p c cc nL s m args kw RX3) (hq : (RX3, is, text) ∈ strL) {lv : List (Nat × Value)} (hl : lv_has ls nL lv) (hX : XS L s s.heap) (hout : ∀ x ∈ c.exceptionTable.toList, False) (hlk : meth.locks = false) (d0 : decode cc pc = .ok (.new 274, 3)) (d3 : decode cc (pc + 3) = .ok (.dup, 1)) (d4 : decode cc (pc + 4) = .ok (.ldc_w is, 3)) (d7 : decode cc (pc + 7) = .ok (.invokespecial 278, 3)) (d10 : decode cc (pc + 10) = .ok (.athrow, 1)) (hRf : 5 < R.frames) (hRl : (rest.map fun v => v.category).sum + 82 ≤ R.locals) (hRc : 1 ≤ R.cells) (hRs : 6 ≤ R.slots) (hp : pE xIO) : W p l e R s m args below meth c s.heap [] 0 0 (vx_MQ below Qc (XC pE) args s 1 6 free) (F0 m pc ls rest) := by
  obtain ⟨⟨hx, hb, hml, hown, hts⟩, hK⟩ := C0
  obtain ⟨sa, hsa⟩ := hK.2.2.2.2.2.2.2.2.2.2.2.2.1 _ hq
  exact vx_throwSW hx hb hfl (cls := xIO) (names := xNm) hown (by decide) (by decide) (hts _ (List.mem_cons_of_mem _ klX3_274)) (hts _ (List.mem_cons_of_mem _ iniIO)) hsa (vx_hat (fun w h => hts _ (List.mem_cons_of_mem _ (xw_I w h))) xw_I2 (vx_c (va_Nw.use rfl hK.2.2.2.2.2.2.2.2.2.2.1) (vx_c (va_Nw.use rfl hK.2.2.2.2.2.2.2.2.2.2.2.2.2.1) (vx_c (va_Nw.use rfl hK.2.2.2.2.2.2.2.2.2.2.2.2.2.2.1) (vx_c (va_Nw.use rfl hK.2.2.2.2.2.2.2.2.2.2.2.2.2.2.2) vx_n))))) xw_I3 hX.1 hX.2 va_S.rf (by rw [hml]; exact hl.1) d0 d3 d4 d7 d10 (fun x h => (hout x h).elim) hRf hRl hRc hRs hlk (fun t _ h1 h2 => ⟨hp, h1, h2⟩) (fun z h => nomatch h) (Nat.le_refl _) (Nat.le_refl _)
theorem q_throwA {is : Nat} {text : String} {pE : String → Prop} (hfl : l.stackTraces = false) (C0 : Cx D y p c cc nL s m args kw RX3) (hq : (RX3, is, text) ∈ strL) {lv : List (Nat × Value)} (hl : lv_has ls nL lv) (hX : XS L s s.heap) (hout : ∀ x ∈ c.exceptionTable.toList, False) (hlk : meth.locks = false) (d0 : decode cc pc = .ok (.new 285, 3)) (d3 : decode cc (pc + 3) = .ok (.dup, 1)) (d4 : decode cc (pc + 4) = .ok (.ldc_w is, 3)) (d7 : decode cc (pc + 7) = .ok (.invokespecial 289, 3)) (d10 : decode cc (pc + 10) = .ok (.athrow, 1)) (hRf : 5 < R.frames) (hRl : (rest.map fun v => v.category).sum + 82 ≤ R.locals) (hRc : 1 ≤ R.cells) (hRs : 6 ≤ R.slots) (hp : pE xIA) : W p l e R s m args below meth c s.heap [] 0 0 (vx_MQ below Qc (XC pE) args s 1 6 free) (F0 m pc ls rest) := by
  obtain ⟨⟨hx, hb, hml, hown, hts⟩, hK⟩ := C0
  obtain ⟨sa, hsa⟩ := hK.2.2.2.2.2.2.2.2.2.2.2.2.1 _ hq
  exact vx_throwSW hx hb hfl (cls := xIA) (names := xNm) hown (by decide) (by decide) (hts _ (List.mem_cons_of_mem _ klX3_285)) (hts _ (List.mem_cons_of_mem _ iniIA)) hsa (vx_hat (fun w h => hts _ (List.mem_cons_of_mem _ (xw_A w h))) xw_A2 (vx_c (va_Nw.use rfl hK.2.2.2.2.2.2.2.2.2.2.2.1) (vx_c (va_Nw.use rfl hK.2.2.2.2.2.2.2.2.2.2.2.2.2.1) (vx_c (va_Nw.use rfl hK.2.2.2.2.2.2.2.2.2.2.2.2.2.2.1) (vx_c (va_Nw.use rfl hK.2.2.2.2.2.2.2.2.2.2.2.2.2.2.2) vx_n))))) xw_A3 hX.1 hX.2 va_S.rf (by rw [hml]; exact hl.1) d0 d3 d4 d7 d10 (fun x h => (hout x h).elim) hRf hRl hRc hRs hlk (fun t _ h1 h2 => ⟨hp, h1, h2⟩) (fun z h => nomatch h) (Nat.le_refl _) (Nat.le_refl _)
def cXi (post : Int → Prop) : Array Value → State → Outcome → State → Prop := fun _ st oc t => ∃ r : Int, oc = .returned (some (.int (iI r))) ∧ post r ∧ t.heap = st.heap
/-- the ordinary end of a method that may throw and changes nothing -/
theorem q_retXi {post : Int → Prop} {XX : String → State → State → Prop} {r : Int} (C0 : Cx D y p c cc nL s m args kw own) {ty : FieldType} (hr : meth.sig.returnType = some ty) (hn : narrow ty (.int (iI r)) = .int (iI r)) (hlk : meth.locks = false) (hdg : decode cc pc = .ok (.ireturn, 1)) (hc : cells ≤ mc) (hs : slots ≤ ms) (hp : post r) : W p l e R s m args below meth c s.heap [] cells slots (vx_MQ below (cXi post) XX args s mc ms free) (F0 m pc ls [.int (iI r)]) := W.widen (k := mc) (n := ms) hc hs (vx_ret (W.zret C0.1.1 C0.1.2.1 hr hn (fun t ht _ => ⟨r, rfl, hp, ht⟩) (fun q h => nomatch h) hdg hlk))
/-- a call of one that may throw and changes nothing, ahead of all changes -/
theorem q_vXi {post : Int → Prop} {pE pE2 : String → Prop} {k1 k2 : Nat} (C0 : Cx D y p c cc nL s m args kw own) (k : CLV own index yy bytes maxL ret n) (hM : vx_Met l yy (.code yy bytes maxL ret :: Tt) rm (PcX D y L F s.heap.size (.ref a :: As)) (cXi post) (XC pE) k1 k2 (fun q => s.heap.size ≤ q)) (hrc : rm.cells = k1 ∧ rm.slots = k2) (hR : (Nat.ble (rm.frames + 1) R.frames && Nat.ble (8 + (maxL + 11) + rm.locals) R.locals) = true) (hP : va_P D vwCl (va_pl L F) s.heap) (hD : va_D A (va_pl L F)) (hX : XS L s s.heap) (hout : ∀ x ∈ c.exceptionTable.toList, False) (hlk : meth.locks = false) (ha : a ∈ L) {ci : Nat} {fs : List Value} {q : vw_C} (hF : F a = .inr (ci, fs)) (hc : vwCl[ci]? = some q) (hq : q.1 = yy.cls) (hn : As.length = n) {lv : List (Nat × Value)} (hl : lv_has ls nL lv) (hst : st = As.reverse ++ .ref a :: rest) (hW : (rest.map fun v => v.category).sum ≤ 8) (hdg : decode cc pc = .ok (.invokevirtual index, 3)) (hcs : cells + k1 ≤ R.cells ∧ slots + k2 ≤ R.slots) (hms : cells + k1 ≤ mc ∧ slots + k2 ≤ ms) (hpE : ∀ E, pE E → pE2 E)
    (kk : ∀ r : Int, post r → W p l e R s m args below meth c s.heap [] (cells + k1) (slots + k2) (vx_MQ below Qc (XC pE2) args s mc ms free) (F0 m (pc + 3) ls (.int (iI r) :: rest))) : W p l e R s m args below meth c s.heap [] cells slots (vx_MQ below Qc (XC pE2) args s mc ms free) (F0 m pc ls st) := by
  subst hst
  have hts := C0.1.2.2.2.2
  have cw : CallW R s args own yy.cls index yy bytes maxL ret (.code yy bytes maxL ret :: Tt) rm k1 k2 n := ⟨cbQ C0 k.1 hrc.1 hrc.2 hR, hts _ (List.mem_cons_of_mem _ k.2.1), hts _ (List.mem_cons_of_mem _ k.2.2)⟩
  have rv := recvQ C0 hP ha hF hc
  rw [hq] at rv
  have hr := vx_runV (H := s.heap) (locs := []) (cells := cells) (slots := slots) (rest := rest) (g := F0 m pc ls (As.reverse ++ .ref a :: rest)) (e := e) (below := below) (meth := meth) C0.1 hM cw ⟨PcX_blind _ _ _ _ _ _, rv, preX C0 hP hD hX _⟩ rfl hn hl.1 rfl (lv_room hW) hdg ⟨hcs.1, hcs.2⟩
  intro T hT X
  rcases hr T hT X with ⟨v, st₀, t, T', Lo, h0, X', hL, e1, e2, ⟨r, hv, hp, hh⟩, stp⟩ | ⟨q9, st₀, t, T', Lo, E, ce, h0, X', hL, e1, e2, ⟨hp, hz, hk⟩, hce, hcv, hcl, stp⟩
  · cases hv
    obtain ⟨t2, a1, b1⟩ := kk r hp T' (by rw [e1, hh, h0]) (Stand.forget (locs := []) X' (fun q h => hL q h))
    exact ⟨t2, stp t2 a1, b1⟩
  · rw [h0] at hz hk
    have X2 := Stand.forget (locs := []) X' (fun q h => hL q h)
    obtain ⟨t2, a1, b1⟩ := vx_out (XC := XC pE2) (Qc := Qc) (free := free) (mc := mc) (ms := ms) (H := T'.heap) (locs := []) (ls := ls) (rest := rest) (pc := pc) (fun x h => (hout x h).elim) hlk (by rw [e1]; exact hce) hcv hcl (fun t9 h9 _ => ⟨hpE _ hp, by rw [h9, e1]; exact hz, fun q hq => by rw [h9, e1]; exact hk q hq⟩) (fun z h => nomatch h) hms.1 hms.2 T' rfl X2
    exact ⟨t2, stp.trans a1, b1⟩
/-- a call of one that may throw and changes nothing, ahead of all changes -/
theorem q_sXi {post : Int → Prop} {pE pE2 : String → Prop} {k1 k2 : Nat} (C0 : Cx D y p c cc nL s m args kw own) (k : CLS own index yy bytes maxL ret n) (hM : vx_Met l yy (.code yy bytes maxL ret :: Tt) rm (PcX D y L F s.heap.size (As)) (cXi post) (XC pE) k1 k2 (fun q => s.heap.size ≤ q)) (hrc : rm.cells = k1 ∧ rm.slots = k2) (hR : (Nat.ble (rm.frames + 1) R.frames && Nat.ble (8 + (maxL + 11) + rm.locals) R.locals) = true) (hP : va_P D vwCl (va_pl L F) s.heap) (hD : va_D A (va_pl L F)) (hX : XS L s s.heap) (hout : ∀ x ∈ c.exceptionTable.toList, False) (hlk : meth.locks = false) (hn : As.length = n) {lv : List (Nat × Value)} (hl : lv_has ls nL lv) (hst : st = As.reverse ++ rest) (hW : (rest.map fun v => v.category).sum ≤ 8) (hdg : decode cc pc = .ok (.invokestatic index, 3)) (hcs : cells + k1 ≤ R.cells ∧ slots + k2 ≤ R.slots) (hms : cells + k1 ≤ mc ∧ slots + k2 ≤ ms) (hpE : ∀ E, pE E → pE2 E)
    (kk : ∀ r : Int, post r → W p l e R s m args below meth c s.heap [] (cells + k1) (slots + k2) (vx_MQ below Qc (XC pE2) args s mc ms free) (F0 m (pc + 3) ls (.int (iI r) :: rest))) : W p l e R s m args below meth c s.heap [] cells slots (vx_MQ below Qc (XC pE2) args s mc ms free) (F0 m pc ls st) := by
  subst hst
  have hts := C0.1.2.2.2.2
  have hr := vx_runS (H := s.heap) (locs := []) (cells := cells) (slots := slots) (rest := rest) (g := F0 m pc ls (As.reverse ++ rest)) (e := e) (below := below) (meth := meth) C0.1 hM ⟨cbQ C0 k.1 hrc.1 hrc.2 hR, hts _ (List.mem_cons_of_mem _ k.2)⟩ ⟨PcX_blind _ _ _ _ _ _, preX C0 hP hD hX _⟩ rfl hn hl.1 rfl (lv_room hW) hdg ⟨hcs.1, hcs.2⟩
  intro T hT X
  rcases hr T hT X with ⟨v, st₀, t, T', Lo, h0, X', hL, e1, e2, ⟨r, hv, hp, hh⟩, stp⟩ | ⟨q9, st₀, t, T', Lo, E, ce, h0, X', hL, e1, e2, ⟨hp, hz, hk⟩, hce, hcv, hcl, stp⟩
  · cases hv
    obtain ⟨t2, a1, b1⟩ := kk r hp T' (by rw [e1, hh, h0]) (Stand.forget (locs := []) X' (fun q h => hL q h))
    exact ⟨t2, stp t2 a1, b1⟩
  · rw [h0] at hz hk
    have X2 := Stand.forget (locs := []) X' (fun q h => hL q h)
    obtain ⟨t2, a1, b1⟩ := vx_out (XC := XC pE2) (Qc := Qc) (free := free) (mc := mc) (ms := ms) (H := T'.heap) (locs := []) (ls := ls) (rest := rest) (pc := pc) (fun x h => (hout x h).elim) hlk (by rw [e1]; exact hce) hcv hcl (fun t9 h9 _ => ⟨hpE _ hp, by rw [h9, e1]; exact hz, fun q hq => by rw [h9, e1]; exact hk q hq⟩) (fun z h => nomatch h) hms.1 hms.2 T' rfl X2
    exact ⟨t2, stp.trans a1, b1⟩
def cXa (post : Nat → Prop) : Array Value → State → Outcome → State → Prop := fun _ st oc t => ∃ r : Nat, oc = .returned (some (.ref r)) ∧ post r ∧ t.heap = st.heap
/-- the ordinary end of a method that may throw and changes nothing -/
theorem q_retXa {post : Nat → Prop} {XX : String → State → State → Prop} {r : Nat} (C0 : Cx D y p c cc nL s m args kw own) {rt : FieldType} (hr : meth.sig.returnType = some rt) (hrt : (∃ n, rt = .object n) ∨ ∃ t, rt = .array t) (hlk : meth.locks = false) (hdg : decode cc pc = .ok (.areturn, 1)) (hc : cells ≤ mc) (hs : slots ≤ ms) (hp : post r) : W p l e R s m args below meth c s.heap [] cells slots (vx_MQ below (cXa post) XX args s mc ms free) (F0 m pc ls [.ref r]) := W.widen (k := mc) (n := ms) hc hs (vx_ret (W.aret C0.1.1 C0.1.2.1 hr hrt (Or.inr ⟨_, rfl⟩) (fun t ht _ => ⟨r, rfl, hp, ht⟩) (fun q h => nomatch h) hdg hlk))
/-- a call of one that may throw and changes nothing, ahead of all changes -/
theorem q_vXa {post : Nat → Prop} {pE pE2 : String → Prop} {k1 k2 : Nat} (C0 : Cx D y p c cc nL s m args kw own) (k : CLV own index yy bytes maxL ret n) (hM : vx_Met l yy (.code yy bytes maxL ret :: Tt) rm (PcX D y L F s.heap.size (.ref a :: As)) (cXa post) (XC pE) k1 k2 (fun q => s.heap.size ≤ q)) (hrc : rm.cells = k1 ∧ rm.slots = k2) (hR : (Nat.ble (rm.frames + 1) R.frames && Nat.ble (8 + (maxL + 11) + rm.locals) R.locals) = true) (hP : va_P D vwCl (va_pl L F) s.heap) (hD : va_D A (va_pl L F)) (hX : XS L s s.heap) (hout : ∀ x ∈ c.exceptionTable.toList, False) (hlk : meth.locks = false) (ha : a ∈ L) {ci : Nat} {fs : List Value} {q : vw_C} (hF : F a = .inr (ci, fs)) (hc : vwCl[ci]? = some q) (hq : q.1 = yy.cls) (hn : As.length = n) {lv : List (Nat × Value)} (hl : lv_has ls nL lv) (hst : st = As.reverse ++ .ref a :: rest) (hW : (rest.map fun v => v.category).sum ≤ 8) (hdg : decode cc pc = .ok (.invokevirtual index, 3)) (hcs : cells + k1 ≤ R.cells ∧ slots + k2 ≤ R.slots) (hms : cells + k1 ≤ mc ∧ slots + k2 ≤ ms) (hpE : ∀ E, pE E → pE2 E)
    (kk : ∀ r : Nat, post r → W p l e R s m args below meth c s.heap [] (cells + k1) (slots + k2) (vx_MQ below Qc (XC pE2) args s mc ms free) (F0 m (pc + 3) ls (.ref r :: rest))) : W p l e R s m args below meth c s.heap [] cells slots (vx_MQ below Qc (XC pE2) args s mc ms free) (F0 m pc ls st) := by
  subst hst
  have hts := C0.1.2.2.2.2
  have cw : CallW R s args own yy.cls index yy bytes maxL ret (.code yy bytes maxL ret :: Tt) rm k1 k2 n := ⟨cbQ C0 k.1 hrc.1 hrc.2 hR, hts _ (List.mem_cons_of_mem _ k.2.1), hts _ (List.mem_cons_of_mem _ k.2.2)⟩
  have rv := recvQ C0 hP ha hF hc
  rw [hq] at rv
  have hr := vx_runV (H := s.heap) (locs := []) (cells := cells) (slots := slots) (rest := rest) (g := F0 m pc ls (As.reverse ++ .ref a :: rest)) (e := e) (below := below) (meth := meth) C0.1 hM cw ⟨PcX_blind _ _ _ _ _ _, rv, preX C0 hP hD hX _⟩ rfl hn hl.1 rfl (lv_room hW) hdg ⟨hcs.1, hcs.2⟩
  intro T hT X
  rcases hr T hT X with ⟨v, st₀, t, T', Lo, h0, X', hL, e1, e2, ⟨r, hv, hp, hh⟩, stp⟩ | ⟨q9, st₀, t, T', Lo, E, ce, h0, X', hL, e1, e2, ⟨hp, hz, hk⟩, hce, hcv, hcl, stp⟩
  · cases hv
    obtain ⟨t2, a1, b1⟩ := kk r hp T' (by rw [e1, hh, h0]) (Stand.forget (locs := []) X' (fun q h => hL q h))
    exact ⟨t2, stp t2 a1, b1⟩
  · rw [h0] at hz hk
    have X2 := Stand.forget (locs := []) X' (fun q h => hL q h)
    obtain ⟨t2, a1, b1⟩ := vx_out (XC := XC pE2) (Qc := Qc) (free := free) (mc := mc) (ms := ms) (H := T'.heap) (locs := []) (ls := ls) (rest := rest) (pc := pc) (fun x h => (hout x h).elim) hlk (by rw [e1]; exact hce) hcv hcl (fun t9 h9 _ => ⟨hpE _ hp, by rw [h9, e1]; exact hz, fun q hq => by rw [h9, e1]; exact hk q hq⟩) (fun z h => nomatch h) hms.1 hms.2 T' rfl X2
    exact ⟨t2, stp.trans a1, b1⟩
/-- a call of one that may throw and changes nothing, ahead of all changes -/
theorem q_sXa {post : Nat → Prop} {pE pE2 : String → Prop} {k1 k2 : Nat} (C0 : Cx D y p c cc nL s m args kw own) (k : CLS own index yy bytes maxL ret n) (hM : vx_Met l yy (.code yy bytes maxL ret :: Tt) rm (PcX D y L F s.heap.size (As)) (cXa post) (XC pE) k1 k2 (fun q => s.heap.size ≤ q)) (hrc : rm.cells = k1 ∧ rm.slots = k2) (hR : (Nat.ble (rm.frames + 1) R.frames && Nat.ble (8 + (maxL + 11) + rm.locals) R.locals) = true) (hP : va_P D vwCl (va_pl L F) s.heap) (hD : va_D A (va_pl L F)) (hX : XS L s s.heap) (hout : ∀ x ∈ c.exceptionTable.toList, False) (hlk : meth.locks = false) (hn : As.length = n) {lv : List (Nat × Value)} (hl : lv_has ls nL lv) (hst : st = As.reverse ++ rest) (hW : (rest.map fun v => v.category).sum ≤ 8) (hdg : decode cc pc = .ok (.invokestatic index, 3)) (hcs : cells + k1 ≤ R.cells ∧ slots + k2 ≤ R.slots) (hms : cells + k1 ≤ mc ∧ slots + k2 ≤ ms) (hpE : ∀ E, pE E → pE2 E)
    (kk : ∀ r : Nat, post r → W p l e R s m args below meth c s.heap [] (cells + k1) (slots + k2) (vx_MQ below Qc (XC pE2) args s mc ms free) (F0 m (pc + 3) ls (.ref r :: rest))) : W p l e R s m args below meth c s.heap [] cells slots (vx_MQ below Qc (XC pE2) args s mc ms free) (F0 m pc ls st) := by
  subst hst
  have hts := C0.1.2.2.2.2
  have hr := vx_runS (H := s.heap) (locs := []) (cells := cells) (slots := slots) (rest := rest) (g := F0 m pc ls (As.reverse ++ rest)) (e := e) (below := below) (meth := meth) C0.1 hM ⟨cbQ C0 k.1 hrc.1 hrc.2 hR, hts _ (List.mem_cons_of_mem _ k.2)⟩ ⟨PcX_blind _ _ _ _ _ _, preX C0 hP hD hX _⟩ rfl hn hl.1 rfl (lv_room hW) hdg ⟨hcs.1, hcs.2⟩
  intro T hT X
  rcases hr T hT X with ⟨v, st₀, t, T', Lo, h0, X', hL, e1, e2, ⟨r, hv, hp, hh⟩, stp⟩ | ⟨q9, st₀, t, T', Lo, E, ce, h0, X', hL, e1, e2, ⟨hp, hz, hk⟩, hce, hcv, hcl, stp⟩
  · cases hv
    obtain ⟨t2, a1, b1⟩ := kk r hp T' (by rw [e1, hh, h0]) (Stand.forget (locs := []) X' (fun q h => hL q h))
    exact ⟨t2, stp t2 a1, b1⟩
  · rw [h0] at hz hk
    have X2 := Stand.forget (locs := []) X' (fun q h => hL q h)
    obtain ⟨t2, a1, b1⟩ := vx_out (XC := XC pE2) (Qc := Qc) (free := free) (mc := mc) (ms := ms) (H := T'.heap) (locs := []) (ls := ls) (rest := rest) (pc := pc) (fun x h => (hout x h).elim) hlk (by rw [e1]; exact hce) hcv hcl (fun t9 h9 _ => ⟨hpE _ hp, by rw [h9, e1]; exact hz, fun q hq => by rw [h9, e1]; exact hk q hq⟩) (fun z h => nomatch h) hms.1 hms.2 T' rfl X2
    exact ⟨t2, stp.trans a1, b1⟩
def cXv (post : Unit → Prop) : Array Value → State → Outcome → State → Prop := fun _ st oc t => ∃ r : Unit, oc = .returned (none) ∧ post r ∧ t.heap = st.heap
/-- the ordinary end of a method that may throw and changes nothing -/
theorem q_retXv {post : Unit → Prop} {XX : String → State → State → Prop} (C0 : Cx D y p c cc nL s m args kw own) (hr : meth.sig.returnType = none) (hlk : meth.locks = false) (hdg : decode cc pc = .ok (.return_, 1)) (hc : cells ≤ mc) (hs : slots ≤ ms) (hp : post ()) : W p l e R s m args below meth c s.heap [] cells slots (vx_MQ below (cXv post) XX args s mc ms free) (F0 m pc ls []) := W.widen (k := mc) (n := ms) hc hs (vx_ret (W.vret C0.1.1 C0.1.2.1 hr (fun t ht _ => ⟨(), rfl, hp, ht⟩) (fun q h => nomatch h) hdg hlk))
/-- a call of one that may throw and changes nothing, ahead of all changes -/
theorem q_vXv {post : Unit → Prop} {pE pE2 : String → Prop} {k1 k2 : Nat} (C0 : Cx D y p c cc nL s m args kw own) (k : CLV own index yy bytes maxL ret n) (hM : vx_Met l yy (.code yy bytes maxL ret :: Tt) rm (PcX D y L F s.heap.size (.ref a :: As)) (cXv post) (XC pE) k1 k2 (fun q => s.heap.size ≤ q)) (hrc : rm.cells = k1 ∧ rm.slots = k2) (hR : (Nat.ble (rm.frames + 1) R.frames && Nat.ble (8 + (maxL + 11) + rm.locals) R.locals) = true) (hP : va_P D vwCl (va_pl L F) s.heap) (hD : va_D A (va_pl L F)) (hX : XS L s s.heap) (hout : ∀ x ∈ c.exceptionTable.toList, False) (hlk : meth.locks = false) (ha : a ∈ L) {ci : Nat} {fs : List Value} {q : vw_C} (hF : F a = .inr (ci, fs)) (hc : vwCl[ci]? = some q) (hq : q.1 = yy.cls) (hn : As.length = n) {lv : List (Nat × Value)} (hl : lv_has ls nL lv) (hst : st = As.reverse ++ .ref a :: rest) (hW : (rest.map fun v => v.category).sum ≤ 8) (hdg : decode cc pc = .ok (.invokevirtual index, 3)) (hcs : cells + k1 ≤ R.cells ∧ slots + k2 ≤ R.slots) (hms : cells + k1 ≤ mc ∧ slots + k2 ≤ ms) (hpE : ∀ E, pE E → pE2 E)
    (kk : ∀ r : Unit, post r → W p l e R s m args below meth c s.heap [] (cells + k1) (slots + k2) (vx_MQ below Qc (XC pE2) args s mc ms free) (F0 m (pc + 3) ls (rest))) : W p l e R s m args below meth c s.heap [] cells slots (vx_MQ below Qc (XC pE2) args s mc ms free) (F0 m pc ls st) := by
  subst hst
  have hts := C0.1.2.2.2.2
  have cw : CallW R s args own yy.cls index yy bytes maxL ret (.code yy bytes maxL ret :: Tt) rm k1 k2 n := ⟨cbQ C0 k.1 hrc.1 hrc.2 hR, hts _ (List.mem_cons_of_mem _ k.2.1), hts _ (List.mem_cons_of_mem _ k.2.2)⟩
  have rv := recvQ C0 hP ha hF hc
  rw [hq] at rv
  have hr := vx_runV (H := s.heap) (locs := []) (cells := cells) (slots := slots) (rest := rest) (g := F0 m pc ls (As.reverse ++ .ref a :: rest)) (e := e) (below := below) (meth := meth) C0.1 hM cw ⟨PcX_blind _ _ _ _ _ _, rv, preX C0 hP hD hX _⟩ rfl hn hl.1 rfl (lv_room hW) hdg ⟨hcs.1, hcs.2⟩
  intro T hT X
  rcases hr T hT X with ⟨v, st₀, t, T', Lo, h0, X', hL, e1, e2, ⟨r, hv, hp, hh⟩, stp⟩ | ⟨q9, st₀, t, T', Lo, E, ce, h0, X', hL, e1, e2, ⟨hp, hz, hk⟩, hce, hcv, hcl, stp⟩
  · cases hv
    obtain ⟨t2, a1, b1⟩ := kk r hp T' (by rw [e1, hh, h0]) (Stand.forget (locs := []) X' (fun q h => hL q h))
    exact ⟨t2, stp t2 a1, b1⟩
  · rw [h0] at hz hk
    have X2 := Stand.forget (locs := []) X' (fun q h => hL q h)
    obtain ⟨t2, a1, b1⟩ := vx_out (XC := XC pE2) (Qc := Qc) (free := free) (mc := mc) (ms := ms) (H := T'.heap) (locs := []) (ls := ls) (rest := rest) (pc := pc) (fun x h => (hout x h).elim) hlk (by rw [e1]; exact hce) hcv hcl (fun t9 h9 _ => ⟨hpE _ hp, by rw [h9, e1]; exact hz, fun q hq => by rw [h9, e1]; exact hk q hq⟩) (fun z h => nomatch h) hms.1 hms.2 T' rfl X2
    exact ⟨t2, stp.trans a1, b1⟩
/-- a call of one that may throw and changes nothing, ahead of all changes -/
theorem q_sXv {post : Unit → Prop} {pE pE2 : String → Prop} {k1 k2 : Nat} (C0 : Cx D y p c cc nL s m args kw own) (k : CLS own index yy bytes maxL ret n) (hM : vx_Met l yy (.code yy bytes maxL ret :: Tt) rm (PcX D y L F s.heap.size (As)) (cXv post) (XC pE) k1 k2 (fun q => s.heap.size ≤ q)) (hrc : rm.cells = k1 ∧ rm.slots = k2) (hR : (Nat.ble (rm.frames + 1) R.frames && Nat.ble (8 + (maxL + 11) + rm.locals) R.locals) = true) (hP : va_P D vwCl (va_pl L F) s.heap) (hD : va_D A (va_pl L F)) (hX : XS L s s.heap) (hout : ∀ x ∈ c.exceptionTable.toList, False) (hlk : meth.locks = false) (hn : As.length = n) {lv : List (Nat × Value)} (hl : lv_has ls nL lv) (hst : st = As.reverse ++ rest) (hW : (rest.map fun v => v.category).sum ≤ 8) (hdg : decode cc pc = .ok (.invokestatic index, 3)) (hcs : cells + k1 ≤ R.cells ∧ slots + k2 ≤ R.slots) (hms : cells + k1 ≤ mc ∧ slots + k2 ≤ ms) (hpE : ∀ E, pE E → pE2 E)
    (kk : ∀ r : Unit, post r → W p l e R s m args below meth c s.heap [] (cells + k1) (slots + k2) (vx_MQ below Qc (XC pE2) args s mc ms free) (F0 m (pc + 3) ls (rest))) : W p l e R s m args below meth c s.heap [] cells slots (vx_MQ below Qc (XC pE2) args s mc ms free) (F0 m pc ls st) := by
  subst hst
  have hts := C0.1.2.2.2.2
  have hr := vx_runS (H := s.heap) (locs := []) (cells := cells) (slots := slots) (rest := rest) (g := F0 m pc ls (As.reverse ++ rest)) (e := e) (below := below) (meth := meth) C0.1 hM ⟨cbQ C0 k.1 hrc.1 hrc.2 hR, hts _ (List.mem_cons_of_mem _ k.2)⟩ ⟨PcX_blind _ _ _ _ _ _, preX C0 hP hD hX _⟩ rfl hn hl.1 rfl (lv_room hW) hdg ⟨hcs.1, hcs.2⟩
  intro T hT X
  rcases hr T hT X with ⟨v, st₀, t, T', Lo, h0, X', hL, e1, e2, ⟨r, hv, hp, hh⟩, stp⟩ | ⟨q9, st₀, t, T', Lo, E, ce, h0, X', hL, e1, e2, ⟨hp, hz, hk⟩, hce, hcv, hcl, stp⟩
  · cases hv
    obtain ⟨t2, a1, b1⟩ := kk r hp T' (by rw [e1, hh, h0]) (Stand.forget (locs := []) X' (fun q h => hL q h))
    exact ⟨t2, stp t2 a1, b1⟩
  · rw [h0] at hz hk
    have X2 := Stand.forget (locs := []) X' (fun q h => hL q h)
    obtain ⟨t2, a1, b1⟩ := vx_out (XC := XC pE2) (Qc := Qc) (free := free) (mc := mc) (ms := ms) (H := T'.heap) (locs := []) (ls := ls) (rest := rest) (pc := pc) (fun x h => (hout x h).elim) hlk (by rw [e1]; exact hce) hcv hcl (fun t9 h9 _ => ⟨hpE _ hp, by rw [h9, e1]; exact hz, fun q hq => by rw [h9, e1]; exact hk q hq⟩) (fun z h => nomatch h) hms.1 hms.2 T' rfl X2
    exact ⟨t2, stp.trans a1, b1⟩
end QX2
/-- the start of a method that may throw -/
theorem q_ofX {l : Launch} {yy : MethodName} {bytes : ByteArray} {maxL : Nat} {ret : Option FieldType} {rm : Room} {D : va_G} {y : Nat → ClassId} {L : List Nat} {F : Nat → va_E} {sz : Nat} {av : List Value} {Qc : Array Value → State → Outcome → State → Prop} {XX : String → State → State → Prop} {mc ms : Nat} {free : Addr → Prop} {lv : List (Nat × Value)} (hy : plainName yy.cls = true) (hlen : (lg_sl av).length ≤ maxL) (hlv : lv_args 0 av = lv)
    (body : ∀ (p : Program) (e : Env) (s : State) (m : MethodId) (below : List Frame) (meth : Method) (c : Code), Cx D y p c bytes maxL s m av.toArray (.code yy bytes maxL ret) yy.cls → meth.sig.returnType = ret → meth.locks = false → (∀ x ∈ c.exceptionTable.toList, False) → s.heap.size = sz → (∀ q, s.heap.size ≤ q → AL L sz q) → va_P D vwCl (va_pl L F) s.heap → va_D (AL L sz) (va_pl L F) → va_S (AL L sz) s.heap s.heap [] → XS L s s.heap → ∀ ls : Array Slot, lv_has ls maxL lv → W p l e rm s m av.toArray below meth c s.heap [] 0 0 (vx_MQ below Qc XX av.toArray s mc ms free) (F0 m 0 ls [])) : vx_Met l yy (.code yy bytes maxL ret :: Tt) rm (PcX D y L F sz av) Qc XX mc ms free := by
  refine vx_ofW (cc := bytes) (maxL := maxL) (ret := ret) hy rfl ?_
  intro p e s m args below meth c s₁ B hml hout hv
  obtain ⟨rfl, hsz, hK, hP, hD, hX⟩ := hv
  have hown : s.vm.findClass yy.cls = some m.cls := findClass_of_methodNamed B.named
  have hl := lv_entry av (n := maxL) hlen
  rw [hlv] at hl
  rw [lg_entry_eq]
  exact body p e s m below meth c ⟨⟨B.exec, B.bytes, hml, hown, atoms_spec (ws := .code yy bytes maxL ret :: Tt) B.pre⟩, hK⟩ B.returns B.notSynchronized hout hsz (fun q h => Or.inr (by rw [← hsz]; exact h)) hP (va_D_AL hD) va_S.rf hX _ hl
