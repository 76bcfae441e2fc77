-- the law's own static methods: rows
def PcT (D : va_G) (y : Nat → ClassId) (sl : List (Nat × Nat × Nat)) (L : List Nat) (F : Nat → va_E) (sz : Nat) (av : List Value) : Array Value → State → Prop := va_Pc av (fun U => (U.heap.size = sz ∧ KK D y U ∧ va_P D vwCl (va_pl L F) U.heap ∧ va_D (fun _ => True) (va_pl L F) ∧ XS L U U.heap ∧ JW sl (AL L sz) U U.heap) ∧ va_Nc xIA xIO U)
theorem PcT_blind (D : va_G) (y : Nat → ClassId) (sl : List (Nat × Nat × Nat)) (L : List Nat) (F : Nat → va_E) (sz : Nat) (av : List Value) : FrameBlind (PcT D y sl L F sz av) := fun a U g mk q => ⟨q.1, (PcXJ_blind D y sl L F sz av a U g mk ⟨q.1, q.2.1⟩).2, va_Nc.moved (u := U) (U := U.calling g mk a) (Vm.Alike.refl U.vm) q.2.2⟩
/-- links of the law's own static methods -/
def CLT (own : String) (idx : Nat) (y : MethodName) (b : ByteArray) (n : Nat) (r : Option FieldType) (hh : List (Nat × Nat × Nat × Nat)) (k : Nat) : Prop := Cond.methodLink own idx y ∈ Tt ∧ Cond.initialized y.cls ∈ Tt ∧ Cond.codeWith y b n r hh ∈ Tt ∧ Cond.static y ∈ Tt ∧ (y.cls ≠ "java/lang/invoke/MethodHandle" ∧ y.cls ≠ "java/lang/invoke/VarHandle" ∧ (parseMethodDescriptor y.desc).map (fun d => d.parameters.length) = some k)
section QL
variable {p : Program} {l : Launch} {e : Env} {R : Room} {s : State} {m : MethodId} {args : Array Value} {below : List Frame} {meth : Method} {c : Code} {H : Heap} {locs : List Loc} {cells slots : Nat} {Q : State → Prop} {cc : ByteArray} {pc : Nat} {ls : Array Slot} {rest : List Value}
variable {D : va_G} {y : Nat → ClassId} {sl : List (Nat × Nat × Nat)} {nL : Nat} {kw : Cond} {own : String} {L : List Nat} {F : Nat → va_E} {a : Nat} {A : Nat → Prop} {H0 : Heap}
variable {yy : MethodName} {bytes : ByteArray} {maxL n index mc ms : Nat} {ret : Option FieldType} {rm : Room} {As st : List Value} {hh : List (Nat × Nat × Nat × Nat)}
variable {Qc : Array Value → State → Outcome → State → Prop} {free : Addr → Prop}
theorem q_putN (C0 : Cx D y p c cc nL s m args kw own) {ci index N : Nat} {fs : List Value} {ref C host : String} {T : u_T} (hin : ∀ w ∈ u_ws C T N, w ∈ Tt) (ty0 : Nat → FieldType) (hty : ∀ k, k < N → parseFieldDescriptor (T k).2.2.1 = some (ty0 k)) (hnm : ∀ a, a < N → ∀ b, b < N → a ≠ b → (T a).2.1 ≠ (T b).2.1) (hP : va_P D vwCl (va_pl L F) H) (hD : va_D A (va_pl L F)) (hS : va_S A H0 H locs) (ha : a ∈ L) (hF : F a = .inr (ci, fs)) (hc : vwCl[ci]? = some (C, T, N)) (k : Nat) (hk : k < N) (hlink : va_Nw (.fieldLinkNest own index ref (T k).2.1 (T k).2.2.1 host) s) (hsame : (T k).1 = ref) (hfin : (T k).2.2.2 = false) {v : Value} (hn : narrow (ty0 k) v = v) (hfit : fits (ty0 k) v = true) (hl : k < fs.length) (hdg : decode cc pc = .ok (.putfield index, 3))
    (kk : ∀ (H1 : Heap) (locs1 : List Loc), va_P D vwCl (va_pl L (va_up F a (.inr (ci, fs.set k v)))) H1 → va_D A (va_pl L (va_up F a (.inr (ci, fs.set k v)))) → va_S A H0 H1 locs1 → W p l e R s m args below meth c H1 locs1 cells slots Q (F0 m (pc + 3) ls rest)) : W p l e R s m args below meth c H locs cells slots Q (F0 m pc ls (v :: .ref a :: rest)) := by
  obtain ⟨⟨hx, hb, hml, hown, hts⟩, hK⟩ := C0
  obtain ⟨i, hi⟩ := va_pl_get (X := []) (f := F) ha
  have hi0 := hi
  rw [hF] at hi
  refine va_putN hx hb hts (fun w h => List.mem_cons_of_mem _ (hin w h)) ty0 hty hnm hown hK.1 hP hD hS i hi hc k hk (va_Nw.use rfl hlink) (fun x h => by rw [← hsame]; exact h) hfin (hty k hk) hn hfit hl hdg (fun H1 locs1 hP1 hD1 hS1 => ?_)
  have e := va_pl_set (X := []) (e := .inr (ci, fs.set k v)) hD ha hi0
  simp only [List.nil_append] at e hP1 hD1
  rw [e] at hP1 hD1
  exact kk H1 locs1 hP1 hD1 hS1
/-- the start of a static method of the law -/
theorem q_ofT {sz : Nat} {av : List Value} {lv : List (Nat × Value)} (hy : plainName yy.cls = true) (hlen : (lg_sl av).length ≤ maxL) (hlv : lv_args 0 av = lv)
    (body : ∀ (p : Program) (e : Env) (s : State) (m : MethodId) (below : List Frame) (meth : Method) (c : Code), Cx D y p c bytes maxL s m av.toArray (.codeWith yy bytes maxL ret hh) yy.cls → meth.sig.returnType = ret → meth.locks = false → c.exceptionTable.toList = tableOf hh → s.heap.size = sz → (∀ q, s.heap.size ≤ q → AL L sz q) → va_P D vwCl (va_pl L F) s.heap → va_D (AL L sz) (va_pl L F) → va_S (AL L sz) s.heap s.heap [] → XS L s s.heap → JW sl (AL L sz) s s.heap → va_Nc xIA xIO s → ∀ ls : Array Slot, lv_has ls maxL lv → W p l e rm s m av.toArray below meth c s.heap [] 0 0 (MQ below Qc av.toArray s mc ms (AL L sz)) (F0 m 0 ls [])) : Met l yy (.codeWith yy bytes maxL ret hh :: Tt) rm (PcT D y sl L F sz av) Qc mc ms (AL L sz) := by
  refine MetFree.of_bodyS (code := bytes) (maxLocals := maxL) (ret := ret) hy ?_ ?_
  · intro args s m h hn
    obtain ⟨m9, meth, c, h0, h1, h2, h3, h4, -, h5, h6, -⟩ := Cond.codeWith_spec (atoms_spec (ws := .codeWith yy bytes maxL ret hh :: Tt) h _ List.mem_cons_self)
    cases Option.some.inj (h0.symm.trans hn)
    exact ⟨meth, c, h1, h2, h3, h4, h5, h6⟩
  · intro p e s m args below meth c s₁ B hml hv _
    obtain ⟨rfl, ⟨hsz, hK, hP, hD, hX, hJ⟩, hN⟩ := hv
    have hh0 : s₁.heap = s.heap := by rw [B.state]; rfl
    have hT : c.exceptionTable.toList = tableOf hh := vx_table (x := yy) B (atoms_spec (ws := .codeWith yy bytes maxL ret hh :: Tt) B.pre _ List.mem_cons_self)
    have hown : s.vm.findClass yy.cls = some m.cls := findClass_of_methodNamed B.named
    have hl := lv_entry av (n := maxL) hlen
    rw [hlv] at hl
    have K := body p e s m below meth c ⟨⟨B.exec, B.bytes, hml, hown, atoms_spec (ws := .codeWith yy bytes maxL ret hh :: Tt) B.pre⟩, hK⟩ B.returns B.notSynchronized hT hsz (fun q h => Or.inr (by rw [← hsz]; exact h)) hP (va_D_AL hD) va_S.rf hX hJ hN _ hl
    rw [← lg_entry_eq] at K
    obtain ⟨t, a1, o, b1, b2, b3⟩ := K s₁ hh0 (Stand.of_body B)
    exact ⟨t, o, a1, b1, b2, b3⟩
/-- caught: the place's exception, by the first row -/
theorem q_cI {e0 h0 : Nat} {suf : List (Nat × Nat × Nat × Nat)} {ce : Cell} {q9 : Addr} (C0 : Cx D y p c cc nL s m args kw RL) (hT : c.exceptionTable.toList = tableOf ((0, e0, h0, 19) :: suf)) (hpc : Nat.blt pc e0 = true) (hcell : H[q9]? = some ce) (hv : ce.vm = .none) (hcl : s.vm.findClass xIO = some ce.cls) (kk : W p l e R s m args below meth c H locs cells slots Q (F0 m h0 ls [.ref q9])) : vx_W p l e R s m args below meth c H locs cells slots Q (F0 m pc ls rest) q9 :=
  vx_catch (own := RL) (name := xIO) (E := xIO) C0.1.2.2.2.1 [] ⟨0, e0, h0, 19⟩ (tableOf suf) (by rw [hT]; rfl) (fun z h => nomatch h) (by simp only [covers, Nat.zero_le, decide_true, Bool.true_and, decide_eq_true_eq]; exact Nat.le_of_ble_eq_true hpc) (show (19 : Nat) ≠ 0 by decide) (C0.1.2.2.2.2 _ (List.mem_cons_of_mem _ klL_19)) (va_Nw.use rfl C0.2.2.2.2.2.2.2.2.2.2.2.1) hcell hv hcl kk
/-- caught: the thing's exception, by the second row -/
theorem q_cA {e0 h0 h1 : Nat} {ce : Cell} {q9 : Addr} (C0 : Cx D y p c cc nL s m args kw RL) (hN : va_Nc xIA xIO s) (hT : c.exceptionTable.toList = tableOf [(0, e0, h0, 19), (0, e0, h1, 21)]) (hpc : Nat.blt pc e0 = true) (hcell : H[q9]? = some ce) (hv : ce.vm = .none) (hcl : s.vm.findClass xIA = some ce.cls) (kk : W p l e R s m args below meth c H locs cells slots Q (F0 m h1 ls [.ref q9])) : vx_W p l e R s m args below meth c H locs cells slots Q (F0 m pc ls rest) q9 :=
  vx_catch (own := RL) (name := xIA) (E := xIA) C0.1.2.2.2.1 [⟨0, e0, h0, 19⟩] ⟨0, e0, h1, 21⟩ [] (by rw [hT]; rfl) (fun z h => by
    rcases List.mem_singleton.mp h with rfl
    exact Or.inr ⟨(show (19 : Nat) ≠ 0 by decide), xIO, C0.1.2.2.2.2 _ (List.mem_cons_of_mem _ klL_19), hN⟩) (by simp only [covers, Nat.zero_le, decide_true, Bool.true_and, decide_eq_true_eq]; exact Nat.le_of_ble_eq_true hpc) (show (21 : Nat) ≠ 0 by decide) (C0.1.2.2.2.2 _ (List.mem_cons_of_mem _ klL_21)) (va_Nw.use rfl C0.2.2.2.2.2.2.2.2.2.2.2.2.1) hcell hv hcl kk
/-- caught: the thing's exception, by the only row -/
theorem q_cA1 {e0 h0 : Nat} {ce : Cell} {q9 : Addr} (C0 : Cx D y p c cc nL s m args kw RL) (hT : c.exceptionTable.toList = tableOf [(0, e0, h0, 21)]) (hpc : Nat.blt pc e0 = true) (hcell : H[q9]? = some ce) (hv : ce.vm = .none) (hcl : s.vm.findClass xIA = some ce.cls) (kk : W p l e R s m args below meth c H locs cells slots Q (F0 m h0 ls [.ref q9])) : vx_W p l e R s m args below meth c H locs cells slots Q (F0 m pc ls rest) q9 :=
  vx_catch (own := RL) (name := xIA) (E := xIA) C0.1.2.2.2.1 [] ⟨0, e0, h0, 21⟩ [] (by rw [hT]; rfl) (fun z h => nomatch h) (by simp only [covers, Nat.zero_le, decide_true, Bool.true_and, decide_eq_true_eq]; exact Nat.le_of_ble_eq_true hpc) (show (21 : Nat) ≠ 0 by decide) (C0.1.2.2.2.2 _ (List.mem_cons_of_mem _ klL_21)) (va_Nw.use rfl C0.2.2.2.2.2.2.2.2.2.2.2.2.1) hcell hv hcl kk
theorem preXJ (C0 : Cx D y p c cc nL s m args kw own) (hJ : JW sl (AL L s.heap.size) s s.heap) (hP : va_P D vwCl (va_pl L F) s.heap) (hD : va_D A (va_pl L F)) (hX : XS L s s.heap) (av : List Value) : ∀ U : State, U.heap = s.heap → s.WarmedH U.vm → PcXJ D y sl L F s.heap.size av av.toArray U := fun U hU hW => ⟨rfl, by rw [hU], C0.2.warm hW, by rw [hU]; exact hP, hD.weaken (fun _ _ _ _ => trivial), by rw [hU]; exact hX.warm hW, by rw [hU]; exact hJ.pass hW (va_S.rf (A := AL L s.heap.size)) (fun _ h => h)⟩
/-- a call of one that may throw, ahead of all changes, from one that catches -/
theorem q_vTi {post : Int → List Nat → (Nat → va_E) → Prop} {okA okB : Prop} {k1 k2 : Nat} (C0 : Cx D y p c cc nL s m args kw own) (k : CLV own index yy bytes maxL ret n) (hM : vx_Met l yy (.code yy bytes maxL ret :: Tt) rm (PcX D y L F s.heap.size (.ref a :: As)) (cMi D (AL L s.heap.size) post) (XC (pX okA okB)) k1 k2 (AL L s.heap.size)) (hrc : rm.cells = k1 ∧ rm.slots = k2) (hR : (Nat.ble (rm.frames + 1) R.frames && Nat.ble (8 + (maxL + 11) + rm.locals) R.locals) = true) (hP : va_P D vwCl (va_pl L F) s.heap) (hD : va_D A (va_pl L F)) (hA : ∀ q, s.heap.size ≤ q → A q) (hX : XS L s s.heap) (ha : a ∈ L) {ci : Nat} {fs : List Value} {q : vw_C} (hF : F a = .inr (ci, fs)) (hc : vwCl[ci]? = some q) (hq : q.1 = yy.cls) (hn : As.length = n) {lv : List (Nat × Value)} (hl : lv_has ls nL lv) (hst : st = As.reverse ++ .ref a :: rest) (hW : (rest.map fun v => v.category).sum ≤ 8) (hdg : decode cc pc = .ok (.invokevirtual index, 3)) (hcs : cells + k1 ≤ R.cells ∧ slots + k2 ≤ R.slots)
    (kI : ∀ (ce : Cell) (q9 : Addr) (H1 : Heap) (locs1 : List Loc), ¬ okA → va_P D vwCl (va_pl L F) H1 → va_D A (va_pl L F) → va_S A s.heap H1 locs1 → H1[q9]? = some ce → ce.vm = .none → s.vm.findClass xIO = some ce.cls → vx_W p l e R s m args below meth c H1 locs1 (cells + k1) (slots + k2) Q (F0 m pc ls rest) q9)
    (kA : ∀ (ce : Cell) (q9 : Addr) (H1 : Heap) (locs1 : List Loc), okA → ¬ okB → va_P D vwCl (va_pl L F) H1 → va_D A (va_pl L F) → va_S A s.heap H1 locs1 → H1[q9]? = some ce → ce.vm = .none → s.vm.findClass xIA = some ce.cls → vx_W p l e R s m args below meth c H1 locs1 (cells + k1) (slots + k2) Q (F0 m pc ls rest) q9)
    (kk : ∀ (r : Int) (H1 : Heap) (locs1 : List Loc) (L1 : List Nat) (F1 : Nat → va_E), va_P D vwCl (va_pl L1 F1) H1 → va_D A (va_pl L1 F1) → va_S A s.heap H1 locs1 → post r L1 F1 → W p l e R s m args below meth c H1 locs1 (cells + k1) (slots + k2) Q (F0 m (pc + 3) ls (.int (iI r) :: rest))) : W p l e R s m args below meth c s.heap [] cells slots Q (F0 m pc ls st) := by
  subst hst
  have hts := C0.1.2.2.2.2
  have cw : CallW R s args own yy.cls index yy bytes maxL ret (.code yy bytes maxL ret :: Tt) rm k1 k2 n := ⟨cbQ C0 k.1 hrc.1 hrc.2 hR, hts _ (List.mem_cons_of_mem _ k.2.1), hts _ (List.mem_cons_of_mem _ k.2.2)⟩
  have rv := recvQ C0 hP ha hF hc
  rw [hq] at rv
  have hIn := AL_in (D := D) hD (va_S.rf (A := A) (H0 := s.heap)) hA
  have hr := vx_runV (H := s.heap) (locs := []) (cells := cells) (slots := slots) (rest := rest) (g := F0 m pc ls (As.reverse ++ .ref a :: rest)) (e := e) (below := below) (meth := meth) C0.1 hM cw ⟨PcX_blind _ _ _ _ _ _, rv, preX C0 hP hD hX _⟩ rfl hn hl.1 rfl (lv_room hW) hdg ⟨hcs.1, hcs.2⟩
  intro T hT X
  rcases hr T hT X with ⟨v, st₀, t, T', Lo, h0, X', hL, e1, e2, ⟨⟨r, L1, F1, hv, hP1, hD1, hp⟩, hF9⟩, stp⟩ | ⟨q9, st₀, t, T', Lo, E, ce, h0, X', hL, e1, e2, ⟨hp, hz, hk⟩, hce, hcv, hcl, stp⟩
  · cases hv
    obtain ⟨k1, k2, k3⟩ := vx_keep h0 e1 (va_S.rf (A := A) (H0 := s.heap)) (fun q _ h => hIn q h) hIn hL hF9
    obtain ⟨t2, a1, b1⟩ := kk r T'.heap ([] ++ Lo) L1 F1 (by rw [e1]; exact hP1) (hD1.weaken (fun _ _ _ h => hIn _ h)) k3 hp T' rfl X'
    exact ⟨t2, stp t2 a1, b1⟩
  · rw [h0] at hz hk
    have hP2 : va_P D vwCl (va_pl L F) T'.heap := hP.kept (fun k q hq9 => by rw [e1]; exact hk q.1 (vx_lt hP hq9))
    have hS2 : va_S A s.heap T'.heap ([] ++ Lo) := ⟨by rw [e1]; exact hz, fun q h1 _ => by rw [e1]; exact hk q h1, fun x hx9 => hIn _ (hL x (by simpa using hx9))⟩
    rcases hp with ⟨rfl, h1⟩ | ⟨rfl, h1, h2⟩
    · obtain ⟨t2, a1, b1⟩ := kI ce q9 T'.heap ([] ++ Lo) h1 hP2 hD hS2 (by rw [e1]; exact hce) hcv hcl T' rfl X'
      exact ⟨t2, stp.trans a1, b1⟩
    · obtain ⟨t2, a1, b1⟩ := kA ce q9 T'.heap ([] ++ Lo) h1 h2 hP2 hD hS2 (by rw [e1]; exact hce) hcv hcl T' rfl X'
      exact ⟨t2, stp.trans a1, b1⟩
/-- a call of one that may throw, ahead of all changes, from one that catches -/
theorem q_vTa {post : Nat → List Nat → (Nat → va_E) → Prop} {okA okB : Prop} {k1 k2 : Nat} (C0 : Cx D y p c cc nL s m args kw own) (k : CLV own index yy bytes maxL ret n) (hM : vx_Met l yy (.code yy bytes maxL ret :: Tt) rm (PcXJ D y sl L F s.heap.size (.ref a :: As)) (cMa D (AL L s.heap.size) post) (XC (pX okA okB)) k1 k2 (AL L s.heap.size)) (hrc : rm.cells = k1 ∧ rm.slots = k2) (hR : (Nat.ble (rm.frames + 1) R.frames && Nat.ble (8 + (maxL + 11) + rm.locals) R.locals) = true) (hJ : JW sl (AL L s.heap.size) s s.heap) (hP : va_P D vwCl (va_pl L F) s.heap) (hD : va_D A (va_pl L F)) (hA : ∀ q, s.heap.size ≤ q → A q) (hX : XS L s s.heap) (ha : a ∈ L) {ci : Nat} {fs : List Value} {q : vw_C} (hF : F a = .inr (ci, fs)) (hc : vwCl[ci]? = some q) (hq : q.1 = yy.cls) (hn : As.length = n) {lv : List (Nat × Value)} (hl : lv_has ls nL lv) (hst : st = As.reverse ++ .ref a :: rest) (hW : (rest.map fun v => v.category).sum ≤ 8) (hdg : decode cc pc = .ok (.invokevirtual index, 3)) (hcs : cells + k1 ≤ R.cells ∧ slots + k2 ≤ R.slots)
    (kI : ∀ (ce : Cell) (q9 : Addr) (H1 : Heap) (locs1 : List Loc), ¬ okA → va_P D vwCl (va_pl L F) H1 → va_D A (va_pl L F) → va_S A s.heap H1 locs1 → H1[q9]? = some ce → ce.vm = .none → s.vm.findClass xIO = some ce.cls → vx_W p l e R s m args below meth c H1 locs1 (cells + k1) (slots + k2) Q (F0 m pc ls rest) q9)
    (kA : ∀ (ce : Cell) (q9 : Addr) (H1 : Heap) (locs1 : List Loc), okA → ¬ okB → va_P D vwCl (va_pl L F) H1 → va_D A (va_pl L F) → va_S A s.heap H1 locs1 → H1[q9]? = some ce → ce.vm = .none → s.vm.findClass xIA = some ce.cls → vx_W p l e R s m args below meth c H1 locs1 (cells + k1) (slots + k2) Q (F0 m pc ls rest) q9)
    (kk : ∀ (r : Nat) (H1 : Heap) (locs1 : List Loc) (L1 : List Nat) (F1 : Nat → va_E), va_P D vwCl (va_pl L1 F1) H1 → va_D A (va_pl L1 F1) → va_S A s.heap H1 locs1 → post r L1 F1 → W p l e R s m args below meth c H1 locs1 (cells + k1) (slots + k2) Q (F0 m (pc + 3) ls (.ref r :: rest))) : W p l e R s m args below meth c s.heap [] cells slots Q (F0 m pc ls st) := by
  subst hst
  have hts := C0.1.2.2.2.2
  have cw : CallW R s args own yy.cls index yy bytes maxL ret (.code yy bytes maxL ret :: Tt) rm k1 k2 n := ⟨cbQ C0 k.1 hrc.1 hrc.2 hR, hts _ (List.mem_cons_of_mem _ k.2.1), hts _ (List.mem_cons_of_mem _ k.2.2)⟩
  have rv := recvQ C0 hP ha hF hc
  rw [hq] at rv
  have hIn := AL_in (D := D) hD (va_S.rf (A := A) (H0 := s.heap)) hA
  have hr := vx_runV (H := s.heap) (locs := []) (cells := cells) (slots := slots) (rest := rest) (g := F0 m pc ls (As.reverse ++ .ref a :: rest)) (e := e) (below := below) (meth := meth) C0.1 hM cw ⟨PcXJ_blind _ _ _ _ _ _ _, rv, preXJ C0 hJ hP hD hX _⟩ rfl hn hl.1 rfl (lv_room hW) hdg ⟨hcs.1, hcs.2⟩
  intro T hT X
  rcases hr T hT X with ⟨v, st₀, t, T', Lo, h0, X', hL, e1, e2, ⟨⟨r, L1, F1, hv, hP1, hD1, hp⟩, hF9⟩, stp⟩ | ⟨q9, st₀, t, T', Lo, E, ce, h0, X', hL, e1, e2, ⟨hp, hz, hk⟩, hce, hcv, hcl, stp⟩
  · cases hv
    obtain ⟨k1, k2, k3⟩ := vx_keep h0 e1 (va_S.rf (A := A) (H0 := s.heap)) (fun q _ h => hIn q h) hIn hL hF9
    obtain ⟨t2, a1, b1⟩ := kk r T'.heap ([] ++ Lo) L1 F1 (by rw [e1]; exact hP1) (hD1.weaken (fun _ _ _ h => hIn _ h)) k3 hp T' rfl X'
    exact ⟨t2, stp t2 a1, b1⟩
  · rw [h0] at hz hk
    have hP2 : va_P D vwCl (va_pl L F) T'.heap := hP.kept (fun k q hq9 => by rw [e1]; exact hk q.1 (vx_lt hP hq9))
    have hS2 : va_S A s.heap T'.heap ([] ++ Lo) := ⟨by rw [e1]; exact hz, fun q h1 _ => by rw [e1]; exact hk q h1, fun x hx9 => hIn _ (hL x (by simpa using hx9))⟩
    rcases hp with ⟨rfl, h1⟩ | ⟨rfl, h1, h2⟩
    · obtain ⟨t2, a1, b1⟩ := kI ce q9 T'.heap ([] ++ Lo) h1 hP2 hD hS2 (by rw [e1]; exact hce) hcv hcl T' rfl X'
      exact ⟨t2, stp.trans a1, b1⟩
    · obtain ⟨t2, a1, b1⟩ := kA ce q9 T'.heap ([] ++ Lo) h1 h2 hP2 hD hS2 (by rw [e1]; exact hce) hcv hcl T' rfl X'
      exact ⟨t2, stp.trans a1, b1⟩
/-- the law's call of a static method of its own -/
theorem q_sT {post : Int → List Nat → (Nat → va_E) → Prop} (C0 : Cx D y p c cc nL s m args kw own) (k : CLT own index yy bytes maxL ret hh n) (hM : Met l yy (.codeWith yy bytes maxL ret hh :: Tt) rm (PcT D y sl L F H.size As) (cMi D (AL L H.size) post) mc ms (AL L H.size)) (hrc : rm.cells = mc ∧ rm.slots = ms) (hR : (Nat.ble (rm.frames + 1) R.frames && Nat.ble (8 + (maxL + 11) + rm.locals) R.locals) = true) (hJ : JW sl A s s.heap) (hN : va_Nc xIA xIO s) (hX : XS L s H) (hP : va_P D vwCl (va_pl L F) H) (hD : va_D A (va_pl L F)) (hS : va_S A s.heap H locs) (hA : ∀ q, s.heap.size ≤ q → A q) (hn : As.length = n) {lv : List (Nat × Value)} (hl : lv_has ls nL lv) (hst : st = As.reverse ++ rest) (hW : (rest.map fun v => v.category).sum ≤ 8) (hdg : decode cc pc = .ok (.invokestatic index, 3)) (hcs : cells + mc ≤ R.cells ∧ slots + ms ≤ R.slots)
    (kk : ∀ (r : Int) (H1 : Heap) (locs1 : List Loc) (L1 : List Nat) (F1 : Nat → va_E), va_P D vwCl (va_pl L1 F1) H1 → va_D A (va_pl L1 F1) → va_S A s.heap H1 locs1 → H.size ≤ H1.size → post r L1 F1 → W p l e R s m args below meth c H1 locs1 (cells + mc) (slots + ms) Q (F0 m (pc + 3) ls (.int (iI r) :: rest))) : W p l e R s m args below meth c H locs cells slots Q (F0 m pc ls st) := by
  subst hst
  have hts := C0.1.2.2.2.2
  rw [Bool.and_eq_true] at hR
  have T1 : ∀ w : Cond, w ∈ Tt → w.before args s = true := fun w h => hts w (List.mem_cons_of_mem _ h)
  have hIn := AL_in (D := D) hD hS hA
  have cw : vx_CSW R s args own index yy bytes maxL ret hh (.codeWith yy bytes maxL ret hh :: Tt) rm mc ms n := ⟨⟨hrc.1, hrc.2, Nat.le_of_ble_eq_true hR.1, Nat.le_of_ble_eq_true hR.2, fun w h a' U hW => by
      have hw : w ∈ Tt := (List.mem_cons.mp h).elim (fun e => e ▸ k.2.2.1) id
      exact word_at hW (good_of_word (List.mem_filter.mp hw).2) (T1 _ hw), List.mem_cons_self⟩, T1 _ k.2.2.1, T1 _ k.2.1, ⟨k.2.2.2.2.1, k.2.2.2.2.2.1⟩, fun sig h => by
      have h2 := k.2.2.2.2.2.2
      rw [h] at h2
      exact (Option.some.inj h2).symm, T1 _ k.1, T1 _ k.2.2.2.1⟩
  have pre : ∀ U : State, U.heap = H → s.WarmedH U.vm → PcT D y sl L F H.size As As.toArray U := fun U hU hW => ⟨rfl, ⟨by rw [hU], C0.2.warm hW, by rw [hU]; exact hP, hD.weaken (fun _ _ _ _ => trivial), by rw [hU]; exact hX.warm hW, by rw [hU]; exact hJ.pass hW hS hIn⟩, va_Nc.moved hW.alike hN⟩
  exact q_goMi (vx_runSW (H := H) (locs := locs) (cells := cells) (slots := slots) (rest := rest) (g := F0 m pc ls (As.reverse ++ rest)) (e := e) (below := below) (meth := meth) C0.1 hM cw ⟨PcT_blind _ _ _ _ _ _ _, pre⟩ rfl hn hl.1 rfl (lv_room hW) hdg ⟨hcs.1, hcs.2⟩) hS hIn kk
end QL
theorem RwO_fr {y : Nat → ClassId} {L L1 : List Nat} {F F1 : Nat → va_E} {O : Nat → Prop} {h w : Nat} {o k g : Int} {f : Int → Int} (a : Rw y L F h w o k g f) (hO : O h ∧ O w) (hL : ∀ q ∈ L, q ∈ L1) (hf : ∀ q ∈ L, O q → F1 q = F q) : Rw y L1 F1 h w o k g f := ⟨hL _ a.1, (hf _ a.1 hO.1).trans a.2.1, hL _ a.2.2.1, (hf _ a.2.2.1 hO.2).trans a.2.2.2.1, a.2.2.2.2⟩
theorem MBO_fr {y : Nat → ClassId} {L L1 : List Nat} {F F1 : Nat → va_E} {O : Nat → Prop} {h w : Nat} {o : Int} {f : Int → Int} (a : MB y L F h w o f) (hO : O h ∧ O w) (hL : ∀ q ∈ L, q ∈ L1) (hf : ∀ q ∈ L, O q → F1 q = F q) : MB y L1 F1 h w o f := ⟨hL _ a.1, (hf _ a.1 hO.1).trans a.2.1, hL _ a.2.2.1, (hf _ a.2.2.1 hO.2).trans a.2.2.2.1, a.2.2.2.2⟩
/-- a picture stands while its own addresses do -/
theorem CP_fr {y : Nat → ClassId} {L L1 : List Nat} {F F1 : Nat → va_E} {O : Nat → Prop} {G : CG} {σ : CS} (h : CP y L F O G σ) (hL : ∀ a ∈ L, a ∈ L1) (hf : ∀ a ∈ L, O a → F1 a = F a) : CP y L1 F1 O G σ := by
  obtain ⟨h1, h2, h3, h4, h5, h6, h7, h8, hO⟩ := h
  exact ⟨⟨hL _ h1.1, (hf _ h1.1 hO.1).trans h1.2⟩, ⟨hL _ h2.1, (hf _ h2.1 hO.2.1).trans h2.2⟩, ⟨hL _ h3.1, (hf _ h3.1 hO.2.2.1).trans h3.2⟩, ⟨hL _ h4.1, (hf _ h4.1 hO.2.2.2.1).trans h4.2⟩, fun i a b => ⟨hL _ (h5 i a b).1, (hf _ (h5 i a b).1 (hO.2.2.2.2.2.1 i a b)).trans (h5 i a b).2⟩, ⟨hL _ h6.1, (hf _ h6.1 hO.2.2.2.2.1).trans h6.2⟩, fun i hi => RwO_fr (h7 i hi) (hO.2.2.2.2.2.2 i hi) hL hf, h8, hO⟩
theorem MP_fr {y : Nat → ClassId} {L L1 : List Nat} {F F1 : Nat → va_E} {O : Nat → Prop} {G : MG} {μ : MS} (h : MP y L F O G μ) (hL : ∀ a ∈ L, a ∈ L1) (hf : ∀ a ∈ L, O a → F1 a = F a) : MP y L1 F1 O G μ := by
  obtain ⟨h1, h2, h3, h4, h5, h6, h7, h8, h9, hO⟩ := h
  exact ⟨⟨hL _ h1.1, (hf _ h1.1 hO.1).trans h1.2⟩, ⟨hL _ h2.1, (hf _ h2.1 hO.2.1).trans h2.2⟩, ⟨hL _ h3.1, (hf _ h3.1 hO.2.2.1).trans h3.2⟩, ⟨hL _ h4.1, (hf _ h4.1 hO.2.2.2.1).trans h4.2⟩, ⟨hL _ h5.1, (hf _ h5.1 hO.2.2.2.2.1).trans h5.2⟩, ⟨hL _ h6.1, (hf _ h6.1 hO.2.2.2.2.2.1).trans h6.2⟩, ⟨hL _ h7.1, (hf _ h7.1 hO.2.2.2.2.2.2.1).trans h7.2⟩, fun i hi => MBO_fr (h8 i hi) (hO.2.2.2.2.2.2.2 i hi) hL hf, h9, hO⟩
/-- what a static method of the law did: its code r, the class's picture, the object out -/
def LWp (y : Nat → ClassId) (O : Nat → Prop) (G : CG) (ou : Nat) (L : List Nat) (F : Nat → va_E) (σ σ2 : CS) (okA okB : Prop) (Rv : Int64) (e2 : Int) : Int → List Nat → (Nat → va_E) → Prop := fun r L1 F1 => ∃ (O1 : Nat → Prop) (G1 : CG) (σ1 : CS) (n1 : Int64) (s1 : Value), CP y L1 F1 O1 G1 σ1 ∧ gbg G1 = gbg G ∧ (∀ q ∈ L, q ∈ L1) ∧ (∀ q ∈ L, ¬ O q → q ≠ ou → F1 q = F q) ∧ (∀ q, O1 q → O q ∨ q ∉ L) ∧ F1 ou = .inr (6, [.long n1, s1]) ∧ ((okA ∧ okB ∧ r = 0 ∧ σ1 = σ2 ∧ n1 = Rv) ∨ (¬ okA ∧ r = 1 ∧ σ1 = σ) ∨ (okA ∧ ¬ okB ∧ r = e2 ∧ σ1 = σ))
theorem LW_ok {y : Nat → ClassId} {O O1 : Nat → Prop} {G G1 : CG} {ou : Nat} {L L1 : List Nat} {F F1 : Nat → va_E} {σ σ2 : CS} {okA okB : Prop} {Rv : Int64} {s1 : Value} {e2 : Int} (hC : CP y L1 F1 O1 G1 σ2) (hg : gbg G1 = gbg G) (hE : Ext O O1 L L1 F F1) (ha : ou ∈ L) (hO : ¬ O ou) (a : okA) (b : okB) {v : Value} (hv : v = .long Rv) : LWp y O G ou L F σ σ2 okA okB Rv e2 0 L1 (va_up F1 ou (.inr (6, [v, s1]))) := by
  subst hv
  have hn : ¬ O1 ou := fun h => (hE.2.2 _ h).elim hO (fun z => z ha)
  exact ⟨O1, G1, σ2, Rv, s1, CP_fr hC (fun _ h => h) (fun q _ h2 => va_up_ne _ _ (fun z => hn (z ▸ h2))), hg, hE.1, fun q h1 h2 h3 => (va_up_ne _ _ h3).trans (hE.2.1 q h1 h2), hE.2.2, va_up_self _ _ _, Or.inl ⟨a, b, rfl, rfl, rfl⟩⟩
theorem LW_os {y : Nat → ClassId} {O O1 : Nat → Prop} {G G1 : CG} {ou : Nat} {L L1 : List Nat} {F F1 : Nat → va_E} {σ σ2 : CS} {okA okB : Prop} {Rv : Int64} {v : Value} {e2 : Int} (hC : CP y L1 F1 O1 G1 σ2) (hg : gbg G1 = gbg G) (hE : Ext O O1 L L1 F F1) (ha : ou ∈ L) (hO : ¬ O ou) (a : okA) (b : okB) : LWp y O G ou L F σ σ2 okA okB Rv e2 0 L1 (va_up F1 ou (.inr (6, [.long Rv, v]))) := LW_ok hC hg hE ha hO a b rfl
theorem LW_n1 {y : Nat → ClassId} {O : Nat → Prop} {G : CG} {ou : Nat} {L : List Nat} {F : Nat → va_E} {σ σ2 : CS} {okA okB : Prop} {Rv n1 : Int64} {s1 : Value} {e2 : Int} (hC : CP y L F O G σ) (hF : F ou = .inr (6, [.long n1, s1])) (h : ¬ okA) : LWp y O G ou L F σ σ2 okA okB Rv e2 1 L F := ⟨O, G, σ, n1, s1, hC, rfl, fun _ h => h, fun _ _ _ _ => rfl, fun _ h => Or.inl h, hF, Or.inr (Or.inl ⟨h, rfl, rfl⟩)⟩
theorem LW_n2 {y : Nat → ClassId} {O : Nat → Prop} {G : CG} {ou : Nat} {L : List Nat} {F : Nat → va_E} {σ σ2 : CS} {okA okB : Prop} {Rv n1 : Int64} {s1 : Value} {e2 : Int} (hC : CP y L F O G σ) (hF : F ou = .inr (6, [.long n1, s1])) (h : okA) (h2 : ¬ okB) : LWp y O G ou L F σ σ2 okA okB Rv e2 e2 L F := ⟨O, G, σ, n1, s1, hC, rfl, fun _ h => h, fun _ _ _ _ => rfl, fun _ h => Or.inl h, hF, Or.inr (Or.inr ⟨h, h2, rfl, rfl⟩)⟩
