-- rows for the JDK's own methods
/-- an array of bytes -/
abbrev arrB (y : Nat → ClassId) (n : Nat) (f : Nat → Int32) : va_E := .inl (y 4, n, .inl f)
/-- a String constant q.1 with the bytes q.2.1, q.2.2 of them, that no cell of A is -/
def JStr (q : Nat × Nat × Nat) (A : Nat → Prop) (U : State) (H : Heap) : Prop := va_O "java/lang/String" q.1 A U H ∧ va_OF "java/lang/String" "coder" "B" (.int (iI 0)) q.1 A U H ∧ va_OF "java/lang/String" "value" "[B" (.ref q.2.1) q.1 A U H ∧ (∃ f : Nat → Int32, va_T .byte q.2.1 q.2.2 (fun j => .int (f j)) A U H ∧ ∀ j, j < q.2.2 → fits .byte (.int (f j)) = true) ∧ q.2.2 ≤ 1000
def JDg (n : String) (A : Nat → Prop) (U : State) (H : Heap) : Prop := ∃ (t : Nat) (f : Nat → Int32), va_Z "java/lang/Integer" n "[B" (.ref t) A U H ∧ va_T .byte t 100 (fun j => .int (f j)) A U H
def jsel : List Cond := [Cond.selects RJ4 yJ5_ensureCapacityInternal_d00df yJ5_ensureCapacityInternal_d00df, Cond.selects RJ4 yJ5_newCapacity_0f7a4 yJ5_newCapacity_0f7a4, Cond.selects RJ4 yJ5_putStringAt_47b60 yJ5_putStringAt_47b60, Cond.selects RJ4 yJ5_inflateIfNeededFor_a7421 yJ5_inflateIfNeededFor_a7421]
theorem jsel_t : ∀ w ∈ jsel, w.onTables = true := List.all_eq_true.mp (by decide +kernel)
theorem jsel_k : ∀ w ∈ jsel, (w.onTables && w.keeps) = true := List.all_eq_true.mp (by decide +kernel)
/-- the String constants that bookText appends -/
def jstr : List (String × Nat × String) := [(RX3, 155, ", "), (RX6, 139, "{"), (RX6, 147, ", "), (RX6, 156, "="), (RX6, 158, "}")]
/-- what the JDK's methods find outside of the pool -/
def JW (sl : List (Nat × Nat × Nat)) (A : Nat → Prop) (U : State) (H : Heap) : Prop := va_Z "java/lang/String" "COMPACT_STRINGS" "Z" (.int (iI 1)) A U H ∧ JDg "DigitOnes" A U H ∧ JDg "DigitTens" A U H ∧ (∀ q ∈ sl, JStr q A U H) ∧ (∀ w ∈ jsel, va_Nw w U) ∧ va_Nw (.castable "[B" "java/lang/Cloneable") U ∧ ∀ z ∈ jstr, ∃ q ∈ sl, vk_R z.1 z.2.1 z.2.2 q.1 U ∧ q.2.2 ≤ 2
theorem JDg.pass {n : String} {A B : Nat → Prop} {u U : State} {H0 H : Heap} (hm : u.vm.Alike U.vm) (hq : ∀ a : Nat, a < H0.size → ¬ A a → H[a]? = H0[a]?) (hAB : ∀ q, B q → A q) (h : JDg n A u H0) : JDg n B U H := by
  obtain ⟨t, f, a, b⟩ := h
  exact ⟨t, f, ((a.moved hm).kept hq).narrow hAB, ((b.moved hm).kept hq).narrow hAB⟩
theorem JStr.pass {q : Nat × Nat × Nat} {A B : Nat → Prop} {u U : State} {H0 H : Heap} (hm : u.vm.Alike U.vm) (hq : ∀ a : Nat, a < H0.size → ¬ A a → H[a]? = H0[a]?) (hAB : ∀ q, B q → A q) (h : JStr q A u H0) : JStr q B U H := by
  obtain ⟨a, b, c, ⟨f, d, g⟩, k⟩ := h
  exact ⟨((a.moved hm).kept hq).narrow hAB, ((b.moved hm).kept hq).narrow hAB, ((c.moved hm).kept hq).narrow hAB, ⟨f, ((d.moved hm).kept hq).narrow hAB, g⟩, k⟩
theorem JW.pass {sl : List (Nat × Nat × Nat)} {A B : Nat → Prop} {s U : State} {H : Heap} {locs : List Loc} (hW : s.WarmedH U.vm) (hS : va_S A s.heap H locs) (hAB : ∀ q, B q → A q) (h : JW sl A s s.heap) : JW sl B U H := by
  obtain ⟨h1, h2, h3, h4, h5, h6, h7⟩ := h
  exact ⟨((h1.moved hW.alike).kept hS.2.1).narrow hAB, h2.pass hW.alike hS.2.1 hAB, h3.pass hW.alike hS.2.1 hAB, fun q hq => (h4 q hq).pass hW.alike hS.2.1 hAB, fun w hw => word_at hW (Or.inl (jsel_k w hw)) (h5 w hw), va_Nw.warmC hW h6, fun z hz => (h7 z hz).imp fun q hq => ⟨hq.1, vk_R.warm hW hq.2.1, hq.2.2⟩⟩
theorem JW.call {sl : List (Nat × Nat × Nat)} {A : Nat → Prop} {U : State} {H : Heap} {g : JFrame} {mk : MethodId} {a : Array Value} (h : JW sl A U H) : JW sl A (U.calling g mk a) H := by
  obtain ⟨h1, h2, h3, h4, h5, h6, h7⟩ := h
  have hm : U.vm.Alike (U.calling g mk a).vm := Vm.Alike.refl U.vm
  have hq : ∀ a : Nat, a < H.size → ¬ A a → H[a]? = H[a]? := fun _ _ _ => rfl
  exact ⟨h1.moved hm, h2.pass hm hq (fun _ z => z), h3.pass hm hq (fun _ z => z), fun q hx => (h4 q hx).pass hm hq (fun _ z => z), fun w hw => va_Nw.same (u := U) (U := U.calling g mk a) (jsel_t w hw) rfl (h5 w hw), va_Nw.same (u := U) (U := U.calling g mk a) rfl rfl h6, fun z hz => (h7 z hz).imp fun q hq => ⟨hq.1, vk_R.same (u := U) (U := U.calling g mk a) rfl hq.2.1, hq.2.2⟩⟩
def PcJ (D : va_G) (y : Nat → ClassId) (sl : List (Nat × Nat × Nat)) (L : List Nat) (F : Nat → va_E) (sz : Nat) (av : List Value) : Array Value → State → Prop := va_Pc av (fun U => U.heap.size = sz ∧ KK D y U ∧ va_P D vwCl (va_pl L F) U.heap ∧ va_D (fun _ => True) (va_pl L F) ∧ JW sl (AL L sz) U U.heap)
theorem PcJ_blind (D : va_G) (y : Nat → ClassId) (sl : List (Nat × Nat × Nat)) (L : List Nat) (F : Nat → va_E) (sz : Nat) (av : List Value) : FrameBlind (PcJ D y sl L F sz av) := fun _ _ _ _ q => ⟨q.1, q.2.1, q.2.2.1.call, q.2.2.2.1, q.2.2.2.2.1, q.2.2.2.2.2.call⟩
def PcXJ (D : va_G) (y : Nat → ClassId) (sl : List (Nat × Nat × Nat)) (L : List Nat) (F : Nat → va_E) (sz : Nat) (av : List Value) : Array Value → State → Prop := va_Pc av (fun U => U.heap.size = sz ∧ KK D y U ∧ va_P D vwCl (va_pl L F) U.heap ∧ va_D (fun _ => True) (va_pl L F) ∧ XS L U U.heap ∧ JW sl (AL L sz) U U.heap)
theorem PcXJ_blind (D : va_G) (y : Nat → ClassId) (sl : List (Nat × Nat × Nat)) (L : List Nat) (F : Nat → va_E) (sz : Nat) (av : List Value) : FrameBlind (PcXJ D y sl L F sz av) := fun a U g mk q => ⟨q.1, q.2.1, q.2.2.1.call, q.2.2.2.1, q.2.2.2.2.1, ⟨vx_Zq.moved (u := U) (U := U.calling g mk a) (Vm.Alike.refl U.vm) q.2.2.2.2.2.1.1, vx_Zq.moved (u := U) (U := U.calling g mk a) (Vm.Alike.refl U.vm) q.2.2.2.2.2.1.2⟩, q.2.2.2.2.2.2.call⟩
/-- links of calls of inherited methods (x named, yy run, C the receiver's class), and of super.m(..) -/
def CLU (own : String) (idx : Nat) (owner : String) (x yy : MethodName) (b : ByteArray) (n : Nat) (r : Option FieldType) (k : Nat) : Prop := Cond.methodLink own idx x ∈ Tt ∧ Cond.sameMethod x.cls owner x.name x.desc ∈ Tt ∧ Cond.instanceMethod yy ∈ Tt ∧ Cond.initialized yy.cls ∈ Tt ∧ Cond.code yy b n r ∈ Tt ∧ (∃ (b0 : ByteArray) (n0 : Nat) (r0 : Option FieldType), Cond.instanceMethod ⟨owner, x.name, x.desc⟩ ∈ Tt ∧ Cond.code ⟨owner, x.name, x.desc⟩ b0 n0 r0 ∈ Tt) ∧ (owner ≠ "java/lang/invoke/MethodHandle" ∧ owner ≠ "java/lang/invoke/VarHandle" ∧ (parseMethodDescriptor x.desc).map (fun d => d.parameters.length) = some k)
def CLSU (own : String) (idx : Nat) (yy : MethodName) (b : ByteArray) (n : Nat) (r : Option FieldType) (k : Nat) : Prop := Cond.methodLink own idx yy ∈ Tt ∧ Cond.sameMethod yy.cls yy.cls yy.name yy.desc ∈ Tt ∧ Cond.superclass own yy.cls ∈ Tt ∧ Cond.instanceMethod yy ∈ Tt ∧ Cond.initialized yy.cls ∈ Tt ∧ Cond.code yy b n r ∈ Tt ∧ yy.name ≠ "<init>" ∧ (parseMethodDescriptor yy.desc).map (fun d => d.parameters.length) = some k
theorem uJ5_100 : CLU RJ5 100 "java/lang/AbstractStringBuilder" yJ5_ensureCapacityInternal_d00df yJ5_ensureCapacityInternal_d00df cJ5_ensureCapacityInternal_d00df 3 none 1 := ⟨mlJ5_100, w6_230, w3_144, iniJ5, w3_145, ⟨_, _, _, w3_144, w3_145⟩, ⟨by decide +kernel, by decide +kernel, by decide +kernel⟩⟩
theorem uJ5_104 : CLU RJ5 104 "java/lang/AbstractStringBuilder" yJ5_newCapacity_0f7a4 yJ5_newCapacity_0f7a4 cJ5_newCapacity_0f7a4 6 (some .int) 1 := ⟨mlJ5_104, w6_231, w3_148, iniJ5, w3_149, ⟨_, _, _, w3_148, w3_149⟩, ⟨by decide +kernel, by decide +kernel, by decide +kernel⟩⟩
theorem uJ5_83 : CLU RJ5 83 "java/lang/AbstractStringBuilder" yJ5_isLatin1_aae02 yJ5_isLatin1_aae02 cJ5_isLatin1_aae02 1 (some .boolean) 0 := ⟨mlJ5_83, w3_175, w3_174, iniJ5, w3_177, ⟨_, _, _, w3_174, w3_177⟩, ⟨by decide +kernel, by decide +kernel, by decide +kernel⟩⟩
theorem uJ5_208 : CLU RJ5 208 "java/lang/AbstractStringBuilder" yJ5_putStringAt_47b60 yJ5_putStringAt_47b60 cJ5_putStringAt_47b60 3 none 2 := ⟨mlJ5_208, w6_235, w4_21, iniJ5, w4_22, ⟨_, _, _, w4_21, w4_22⟩, ⟨by decide +kernel, by decide +kernel, by decide +kernel⟩⟩
theorem uJ5_397 : CLU RJ5 397 "java/lang/AbstractStringBuilder" yJ5_inflateIfNeededFor_a7421 yJ5_inflateIfNeededFor_a7421 cJ5_inflateIfNeededFor_a7421 2 none 1 := ⟨mlJ5_397, w6_236, w4_25, iniJ5, w4_26, ⟨_, _, _, w4_25, w4_26⟩, ⟨by decide +kernel, by decide +kernel, by decide +kernel⟩⟩
theorem uJ0_552 : CLU RJ0 552 "java/lang/AbstractStringBuilder" yJ5_getValue_6d5f1 yJ5_getValue_6d5f1 cJ5_getValue_6d5f1 1 (some (.array .byte)) 0 := ⟨mlJ0_552, w4_74, w4_73, iniJ5, w4_76, ⟨_, _, _, w4_73, w4_76⟩, ⟨by decide +kernel, by decide +kernel, by decide +kernel⟩⟩
theorem uJ0_1047 : CLU RJ0 1047 "java/lang/AbstractStringBuilder" yJ5_isLatin1_aae02 yJ5_isLatin1_aae02 cJ5_isLatin1_aae02 1 (some .boolean) 0 := ⟨mlJ0_1047, w3_175, w3_174, iniJ5, w3_177, ⟨_, _, _, w3_174, w3_177⟩, ⟨by decide +kernel, by decide +kernel, by decide +kernel⟩⟩
theorem uJ0_549 : CLU RJ0 549 "java/lang/AbstractStringBuilder" yJ5_length_8abf5 yJ4_length_8abf5 cJ4_length_8abf5 1 (some .int) 0 := ⟨mlJ0_549, w4_79, w4_81, iniJ4, w4_82, ⟨_, _, _, w4_78, w4_84⟩, ⟨by decide +kernel, by decide +kernel, by decide +kernel⟩⟩
theorem uJ5_43 : CLU RJ5 43 "java/lang/AbstractStringBuilder" yJ5_append_cf1ce yJ4_append_cf1ce cJ4_append_cf1ce 2 (some (.object "java/lang/AbstractStringBuilder")) 1 := ⟨mlJ5_43, w6_233, w6_69, iniJ4, w6_70, ⟨_, _, _, w3_232, w3_233⟩, ⟨by decide +kernel, by decide +kernel, by decide +kernel⟩⟩
theorem uJ4_50 : CLSU RJ4 50 yJ5_append_3fe6f cJ5_append_3fe6f 2 (some (.object "java/lang/AbstractStringBuilder")) 1 := ⟨mlJ4_50, w6_229, w3_134, w3_140, iniJ5, w3_141, by decide, by decide +kernel⟩
theorem uJ4_53 : CLSU RJ4 53 yJ5_append_c97b9 cJ5_append_c97b9 4 (some (.object "java/lang/AbstractStringBuilder")) 1 := ⟨mlJ4_53, w6_237, w3_134, w4_39, iniJ5, w4_40, by decide, by decide +kernel⟩
theorem uJ4_29 : CLSU RJ4 29 yJ5_append_cf1ce cJ5_append_cf1ce 3 (some (.object "java/lang/AbstractStringBuilder")) 1 := ⟨mlJ4_29, w6_233, w3_134, w3_232, iniJ5, w3_233, by decide, by decide +kernel⟩
theorem uJ4_343 : CLSU RJ4 343 yJ5_length_8abf5 cJ5_length_8abf5 1 (some .int) 0 := ⟨mlJ4_343, w4_79, w3_134, w4_78, iniJ5, w4_84, by decide, by decide +kernel⟩
theorem selIsL : Cond.selects RJ4 yJ5_isLatin1_aae02 yJ5_isLatin1_aae02 ∈ Tt := w3_176
theorem selGet : Cond.selects RJ4 yJ5_getValue_6d5f1 yJ5_getValue_6d5f1 ∈ Tt := w4_75
theorem selLen : Cond.selects RJ4 yJ5_length_8abf5 yJ4_length_8abf5 ∈ Tt := w4_80
theorem selApp : Cond.selects RJ4 yJ5_append_cf1ce yJ4_append_cf1ce ∈ Tt := w6_238
section QJ
variable {p : Program} {l : Launch} {e : Env} {R : Room} {s : State} {m : MethodId} {args : Array Value} {below : List Frame} {meth : Method} {c : Code} {H : Heap} {locs : List Loc} {cells slots : Nat} {Q : State → Prop} {cc : ByteArray} {pc : Nat} {ls : Array Slot} {rest : List Value}
variable {D : va_G} {y : Nat → ClassId} {nL : Nat} {kw : Cond} {own : String} {L : List Nat} {F : Nat → va_E} {a : Nat} {A : Nat → Prop} {H0 : Heap}
variable {yy : MethodName} {bytes : ByteArray} {maxL n index mc ms : Nat} {ret : Option FieldType} {rm : Room} {As st : List Value}
variable {sl : List (Nat × Nat × Nat)} {x : MethodName} {owner C9 : String}
theorem preJ (C0 : Cx D y p c cc nL s m args kw own) (hJ : JW sl A s s.heap) (hP : va_P D vwCl (va_pl L F) H) (hD : va_D A (va_pl L F)) (hS : va_S A s.heap H locs) (hA : ∀ q, s.heap.size ≤ q → A q) (av : List Value) : ∀ U : State, U.heap = H → s.WarmedH U.vm → PcJ D y sl L F H.size av av.toArray U := fun U hU hW => ⟨rfl, by rw [hU], C0.2.warm hW, by rw [hU]; exact hP, hD.weaken (fun _ _ _ _ => trivial), by rw [hU]; exact hJ.pass hW hS (AL_in (D := D) hD hS hA)⟩
theorem payQ (C0 : Cx D y p c cc nL s m args kw own) (h3 : Cond.code yy bytes maxL ret ∈ Tt) : ∀ w ∈ (Cond.code yy bytes maxL ret :: Tt), ∀ (a' : Array Value) (U : State), s.WarmedH U.vm → w.before a' U = true := pay_in C0.1.2.2.2.2 (fun w hw => by
  rcases List.mem_cons.mp hw with rfl | hw
  · exact ⟨List.mem_cons_of_mem _ h3, good_of_word (List.mem_filter.mp h3).2⟩
  · exact ⟨List.mem_cons_of_mem _ hw, good_of_word (List.mem_filter.mp hw).2⟩)
theorem selJ (hJ : JW sl A s s.heap) {w : Cond} (hw : w ∈ jsel) {a9 : Array Value} : w.before a9 s = true := va_Nw.use (jsel_t w hw) (hJ.2.2.2.2.1 w hw)
theorem q_vJi {post : Int → List Nat → (Nat → va_E) → Prop} (C0 : Cx D y p c cc nL s m args kw own) (k : CLV own index yy bytes maxL ret n) (hM : Met l yy (.code yy bytes maxL ret :: Tt) rm (PcJ D y sl L F H.size (.ref a :: As)) (cMi D (AL L H.size) post) mc ms (AL L H.size)) (hrc : rm.cells = mc ∧ rm.slots = ms) (hR : (Nat.ble (rm.frames + 1) R.frames && Nat.ble (8 + (maxL + 11) + rm.locals) R.locals) = true) (hJ : JW sl A s s.heap) (hP : va_P D vwCl (va_pl L F) H) (hD : va_D A (va_pl L F)) (hS : va_S A s.heap H locs) (hA : ∀ q, s.heap.size ≤ q → A q) (ha : a ∈ L) {ci : Nat} {fs : List Value} {q : vw_C} (hF : F a = .inr (ci, fs)) (hc : vwCl[ci]? = some q) (hq : q.1 = yy.cls) (hn : As.length = n) {lv : List (Nat × Value)} (hl : lv_has ls nL lv) (hst : st = As.reverse ++ .ref a :: rest) (hW : (rest.map fun v => v.category).sum ≤ 8) (hdg : decode cc pc = .ok (.invokevirtual index, 3)) (hcs : cells + mc ≤ R.cells ∧ slots + ms ≤ R.slots)
    (kk : ∀ (r : Int) (H1 : Heap) (locs1 : List Loc) (L1 : List Nat) (F1 : Nat → va_E), va_P D vwCl (va_pl L1 F1) H1 → va_D A (va_pl L1 F1) → va_S A s.heap H1 locs1 → H.size ≤ H1.size → post r L1 F1 → W p l e R s m args below meth c H1 locs1 (cells + mc) (slots + ms) Q (F0 m (pc + 3) ls (.int (iI r) :: rest))) : W p l e R s m args below meth c H locs cells slots Q (F0 m pc ls st) := by
  subst hst
  have hts := C0.1.2.2.2.2
  have cw : CallW R s args own yy.cls index yy bytes maxL ret (.code yy bytes maxL ret :: Tt) rm mc ms n := ⟨cbQ C0 k.1 hrc.1 hrc.2 hR, hts _ (List.mem_cons_of_mem _ k.2.1), hts _ (List.mem_cons_of_mem _ k.2.2)⟩
  have rv := recvQ C0 hP ha hF hc
  rw [hq] at rv
  exact q_goMi (va_runV (H := H) (locs := locs) (cells := cells) (slots := slots) (rest := rest) (g := F0 m pc ls (As.reverse ++ .ref a :: rest)) (e := e) (below := below) (meth := meth) C0.1 hM cw ⟨PcJ_blind _ _ _ _ _ _ _, rv, preJ C0 hJ hP hD hS hA _⟩ rfl hn hl.1 rfl (lv_room hW) hdg ⟨hcs.1, hcs.2⟩) hS (AL_in (D := D) hD hS hA) kk
theorem q_uJi {post : Int → List Nat → (Nat → va_E) → Prop} (C0 : Cx D y p c cc nL s m args kw own) (k : CLU own index owner x yy bytes maxL ret n) (hsel : (Cond.selects C9 x yy).before args s = true) (hM : Met l yy (.code yy bytes maxL ret :: Tt) rm (PcJ D y sl L F H.size (.ref a :: As)) (cMi D (AL L H.size) post) mc ms (AL L H.size)) (hrc : rm.cells = mc ∧ rm.slots = ms) (hR : (Nat.ble (rm.frames + 1) R.frames && Nat.ble (8 + (maxL + 11) + rm.locals) R.locals) = true) (hJ : JW sl A s s.heap) (hP : va_P D vwCl (va_pl L F) H) (hD : va_D A (va_pl L F)) (hS : va_S A s.heap H locs) (hA : ∀ q, s.heap.size ≤ q → A q) (ha : a ∈ L) {ci : Nat} {fs : List Value} {q : vw_C} (hF : F a = .inr (ci, fs)) (hc : vwCl[ci]? = some q) (hq : q.1 = C9) (hn : As.length = n) {lv : List (Nat × Value)} (hl : lv_has ls nL lv) (hst : st = As.reverse ++ .ref a :: rest) (hW : (rest.map fun v => v.category).sum ≤ 8) (hdg : decode cc pc = .ok (.invokevirtual index, 3)) (hcs : cells + mc ≤ R.cells ∧ slots + ms ≤ R.slots)
    (kk : ∀ (r : Int) (H1 : Heap) (locs1 : List Loc) (L1 : List Nat) (F1 : Nat → va_E), va_P D vwCl (va_pl L1 F1) H1 → va_D A (va_pl L1 F1) → va_S A s.heap H1 locs1 → H.size ≤ H1.size → post r L1 F1 → W p l e R s m args below meth c H1 locs1 (cells + mc) (slots + ms) Q (F0 m (pc + 3) ls (.int (iI r) :: rest))) : W p l e R s m args below meth c H locs cells slots Q (F0 m pc ls st) := by
  subst hst
  have hts := C0.1.2.2.2.2
  rw [Bool.and_eq_true] at hR
  obtain ⟨k1, k2, k3, k4, k5, ⟨b0, n0, r0, k6, k7⟩, k8⟩ := k
  have T1 : ∀ w : Cond, w ∈ Tt → w.before args s = true := fun w h => hts w (List.mem_cons_of_mem _ h)
  have cw : va_CU R s args own C9 owner index x yy bytes maxL ret (.code yy bytes maxL ret :: Tt) rm mc ms n := ⟨⟨hrc.1, hrc.2, Nat.le_of_ble_eq_true hR.1, Nat.le_of_ble_eq_true hR.2, payQ C0 k5, List.mem_cons_self⟩, T1 _ k5, T1 _ k4, ⟨k8.1, k8.2.1⟩, fun sig h => by
    have h2 := k8.2.2
    rw [h] at h2
    exact (Option.some.inj h2).symm, T1 _ k1, T1 _ k2, va_Decl.of (T1 _ k6) (T1 _ k7), hsel, T1 _ k3⟩
  have rv := recvQ C0 hP ha hF hc
  rw [hq] at rv
  exact q_goMi (va_runU (H := H) (locs := locs) (cells := cells) (slots := slots) (rest := rest) (g := F0 m pc ls (As.reverse ++ .ref a :: rest)) (e := e) (below := below) (meth := meth) C0.1 hM cw ⟨PcJ_blind _ _ _ _ _ _ _, rv, preJ C0 hJ hP hD hS hA _⟩ rfl hn hl.1 rfl (lv_room hW) hdg ⟨hcs.1, hcs.2⟩) hS (AL_in (D := D) hD hS hA) kk
theorem q_pJi {post : Int → List Nat → (Nat → va_E) → Prop} (C0 : Cx D y p c cc nL s m args kw own) (k : CLSU own index yy bytes maxL ret n) (hM : Met l yy (.code yy bytes maxL ret :: Tt) rm (PcJ D y sl L F H.size (.ref a :: As)) (cMi D (AL L H.size) post) mc ms (AL L H.size)) (hrc : rm.cells = mc ∧ rm.slots = ms) (hR : (Nat.ble (rm.frames + 1) R.frames && Nat.ble (8 + (maxL + 11) + rm.locals) R.locals) = true) (hJ : JW sl A s s.heap) (hP : va_P D vwCl (va_pl L F) H) (hD : va_D A (va_pl L F)) (hS : va_S A s.heap H locs) (hA : ∀ q, s.heap.size ≤ q → A q) (ha : a ∈ L) {ci : Nat} {fs : List Value} {q : vw_C} (hF : F a = .inr (ci, fs)) (hc : vwCl[ci]? = some q) (hn : As.length = n) {lv : List (Nat × Value)} (hl : lv_has ls nL lv) (hst : st = As.reverse ++ .ref a :: rest) (hW : (rest.map fun v => v.category).sum ≤ 8) (hdg : decode cc pc = .ok (.invokespecial index, 3)) (hcs : cells + mc ≤ R.cells ∧ slots + ms ≤ R.slots)
    (kk : ∀ (r : Int) (H1 : Heap) (locs1 : List Loc) (L1 : List Nat) (F1 : Nat → va_E), va_P D vwCl (va_pl L1 F1) H1 → va_D A (va_pl L1 F1) → va_S A s.heap H1 locs1 → H.size ≤ H1.size → post r L1 F1 → W p l e R s m args below meth c H1 locs1 (cells + mc) (slots + ms) Q (F0 m (pc + 3) ls (.int (iI r) :: rest))) : W p l e R s m args below meth c H locs cells slots Q (F0 m pc ls st) := by
  subst hst
  have hts := C0.1.2.2.2.2
  rw [Bool.and_eq_true] at hR
  obtain ⟨k1, k2, k3, k4, k5, k6, k7, k8⟩ := k
  have T1 : ∀ w : Cond, w ∈ Tt → w.before args s = true := fun w h => hts w (List.mem_cons_of_mem _ h)
  have cw : va_CS R s args own index yy bytes maxL ret (.code yy bytes maxL ret :: Tt) rm mc ms n := ⟨⟨hrc.1, hrc.2, Nat.le_of_ble_eq_true hR.1, Nat.le_of_ble_eq_true hR.2, payQ C0 k6, List.mem_cons_self⟩, T1 _ k1, T1 _ k2, T1 _ k3, T1 _ k4, T1 _ k5, T1 _ k6, k7, fun sig h => by
    rw [h] at k8
    exact (Option.some.inj k8).symm⟩
  have rv := recvQ C0 hP ha hF hc
  exact q_goMi (va_runSU (H := H) (locs := locs) (cells := cells) (slots := slots) (rest := rest) (g := F0 m pc ls (As.reverse ++ .ref a :: rest)) (e := e) (below := below) (meth := meth) (C0.2.1.1 ci q hc).2 C0.1 hM cw ⟨PcJ_blind _ _ _ _ _ _ _, rv, preJ C0 hJ hP hD hS hA _⟩ rfl hn hl.1 rfl (lv_room hW) hdg ⟨hcs.1, hcs.2⟩) hS (AL_in (D := D) hD hS hA) kk
theorem q_kJi {post : Int → List Nat → (Nat → va_E) → Prop} (C0 : Cx D y p c cc nL s m args kw own) (k : CLV own index yy bytes maxL ret n) (hM : Met l yy (.code yy bytes maxL ret :: Tt) rm (PcJ D y sl L F H.size (.ref a :: As)) (cMi D (AL L H.size) post) mc ms (AL L H.size)) (hrc : rm.cells = mc ∧ rm.slots = ms) (hR : (Nat.ble (rm.frames + 1) R.frames && Nat.ble (8 + (maxL + 11) + rm.locals) R.locals) = true) (hJ : JW sl A s s.heap) (hP : va_P D vwCl (va_pl L F) H) (hD : va_D A (va_pl L F)) (hS : va_S A s.heap H locs) (hA : ∀ q, s.heap.size ≤ q → A q) {q9 : Nat × Nat × Nat} (hq9 : q9 ∈ sl) (ha : q9.1 = a) (hq : "java/lang/String" = yy.cls) (hn : As.length = n) {lv : List (Nat × Value)} (hl : lv_has ls nL lv) (hst : st = As.reverse ++ .ref a :: rest) (hW : (rest.map fun v => v.category).sum ≤ 8) (hdg : decode cc pc = .ok (.invokevirtual index, 3)) (hcs : cells + mc ≤ R.cells ∧ slots + ms ≤ R.slots)
    (kk : ∀ (r : Int) (H1 : Heap) (locs1 : List Loc) (L1 : List Nat) (F1 : Nat → va_E), va_P D vwCl (va_pl L1 F1) H1 → va_D A (va_pl L1 F1) → va_S A s.heap H1 locs1 → H.size ≤ H1.size → post r L1 F1 → W p l e R s m args below meth c H1 locs1 (cells + mc) (slots + ms) Q (F0 m (pc + 3) ls (.int (iI r) :: rest))) : W p l e R s m args below meth c H locs cells slots Q (F0 m pc ls st) := by
  subst hst
  have hts := C0.1.2.2.2.2
  have cw : CallW R s args own yy.cls index yy bytes maxL ret (.code yy bytes maxL ret :: Tt) rm mc ms n := ⟨cbQ C0 k.1 hrc.1 hrc.2 hR, hts _ (List.mem_cons_of_mem _ k.2.1), hts _ (List.mem_cons_of_mem _ k.2.2)⟩
  have rv : ∃ cell : Cell, H[a]? = some cell ∧ cell.vm.isStatics = false ∧ s.vm.findClass yy.cls = some cell.cls := by
    obtain ⟨cell, h1, h2, h3, -⟩ := (hJ.2.2.2.1 q9 hq9).1.kept hS.2.1
    rw [ha] at h1
    exact ⟨cell, h1, h2, hq ▸ h3⟩
  exact q_goMi (va_runV (H := H) (locs := locs) (cells := cells) (slots := slots) (rest := rest) (g := F0 m pc ls (As.reverse ++ .ref a :: rest)) (e := e) (below := below) (meth := meth) C0.1 hM cw ⟨PcJ_blind _ _ _ _ _ _ _, rv, preJ C0 hJ hP hD hS hA _⟩ rfl hn hl.1 rfl (lv_room hW) hdg ⟨hcs.1, hcs.2⟩) hS (AL_in (D := D) hD hS hA) kk
theorem q_sJi {post : Int → List Nat → (Nat → va_E) → Prop} (C0 : Cx D y p c cc nL s m args kw own) (k : CLS own index yy bytes maxL ret n) (hM : Met l yy (.code yy bytes maxL ret :: Tt) rm (PcJ D y sl L F H.size (As)) (cMi D (AL L H.size) post) mc ms (AL L H.size)) (hrc : rm.cells = mc ∧ rm.slots = ms) (hR : (Nat.ble (rm.frames + 1) R.frames && Nat.ble (8 + (maxL + 11) + rm.locals) R.locals) = true) (hJ : JW sl A s s.heap) (hP : va_P D vwCl (va_pl L F) H) (hD : va_D A (va_pl L F)) (hS : va_S A s.heap H locs) (hA : ∀ q, s.heap.size ≤ q → A q) (hn : As.length = n) {lv : List (Nat × Value)} (hl : lv_has ls nL lv) (hst : st = As.reverse ++ rest) (hW : (rest.map fun v => v.category).sum ≤ 8) (hdg : decode cc pc = .ok (.invokestatic index, 3)) (hcs : cells + mc ≤ R.cells ∧ slots + ms ≤ R.slots)
    (kk : ∀ (r : Int) (H1 : Heap) (locs1 : List Loc) (L1 : List Nat) (F1 : Nat → va_E), va_P D vwCl (va_pl L1 F1) H1 → va_D A (va_pl L1 F1) → va_S A s.heap H1 locs1 → H.size ≤ H1.size → post r L1 F1 → W p l e R s m args below meth c H1 locs1 (cells + mc) (slots + ms) Q (F0 m (pc + 3) ls (.int (iI r) :: rest))) : W p l e R s m args below meth c H locs cells slots Q (F0 m pc ls st) := by
  subst hst
  have hts := C0.1.2.2.2.2
  exact q_goMi (va_runS (H := H) (locs := locs) (cells := cells) (slots := slots) (rest := rest) (g := F0 m pc ls (As.reverse ++ rest)) (e := e) (below := below) (meth := meth) C0.1 hM ⟨cbQ C0 k.1 hrc.1 hrc.2 hR, hts _ (List.mem_cons_of_mem _ k.2)⟩ ⟨PcJ_blind _ _ _ _ _ _ _, preJ C0 hJ hP hD hS hA _⟩ rfl hn hl.1 rfl (lv_room hW) hdg ⟨hcs.1, hcs.2⟩) hS (AL_in (D := D) hD hS hA) kk
theorem q_vJa {post : Nat → List Nat → (Nat → va_E) → Prop} (C0 : Cx D y p c cc nL s m args kw own) (k : CLV own index yy bytes maxL ret n) (hM : Met l yy (.code yy bytes maxL ret :: Tt) rm (PcJ D y sl L F H.size (.ref a :: As)) (cMa D (AL L H.size) post) mc ms (AL L H.size)) (hrc : rm.cells = mc ∧ rm.slots = ms) (hR : (Nat.ble (rm.frames + 1) R.frames && Nat.ble (8 + (maxL + 11) + rm.locals) R.locals) = true) (hJ : JW sl A s s.heap) (hP : va_P D vwCl (va_pl L F) H) (hD : va_D A (va_pl L F)) (hS : va_S A s.heap H locs) (hA : ∀ q, s.heap.size ≤ q → A q) (ha : a ∈ L) {ci : Nat} {fs : List Value} {q : vw_C} (hF : F a = .inr (ci, fs)) (hc : vwCl[ci]? = some q) (hq : q.1 = yy.cls) (hn : As.length = n) {lv : List (Nat × Value)} (hl : lv_has ls nL lv) (hst : st = As.reverse ++ .ref a :: rest) (hW : (rest.map fun v => v.category).sum ≤ 8) (hdg : decode cc pc = .ok (.invokevirtual index, 3)) (hcs : cells + mc ≤ R.cells ∧ slots + ms ≤ R.slots)
    (kk : ∀ (r : Nat) (H1 : Heap) (locs1 : List Loc) (L1 : List Nat) (F1 : Nat → va_E), va_P D vwCl (va_pl L1 F1) H1 → va_D A (va_pl L1 F1) → va_S A s.heap H1 locs1 → H.size ≤ H1.size → post r L1 F1 → W p l e R s m args below meth c H1 locs1 (cells + mc) (slots + ms) Q (F0 m (pc + 3) ls (.ref r :: rest))) : W p l e R s m args below meth c H locs cells slots Q (F0 m pc ls st) := by
  subst hst
  have hts := C0.1.2.2.2.2
  have cw : CallW R s args own yy.cls index yy bytes maxL ret (.code yy bytes maxL ret :: Tt) rm mc ms n := ⟨cbQ C0 k.1 hrc.1 hrc.2 hR, hts _ (List.mem_cons_of_mem _ k.2.1), hts _ (List.mem_cons_of_mem _ k.2.2)⟩
  have rv := recvQ C0 hP ha hF hc
  rw [hq] at rv
  exact q_goMa (va_runV (H := H) (locs := locs) (cells := cells) (slots := slots) (rest := rest) (g := F0 m pc ls (As.reverse ++ .ref a :: rest)) (e := e) (below := below) (meth := meth) C0.1 hM cw ⟨PcJ_blind _ _ _ _ _ _ _, rv, preJ C0 hJ hP hD hS hA _⟩ rfl hn hl.1 rfl (lv_room hW) hdg ⟨hcs.1, hcs.2⟩) hS (AL_in (D := D) hD hS hA) kk
theorem q_uJa {post : Nat → List Nat → (Nat → va_E) → Prop} (C0 : Cx D y p c cc nL s m args kw own) (k : CLU own index owner x yy bytes maxL ret n) (hsel : (Cond.selects C9 x yy).before args s = true) (hM : Met l yy (.code yy bytes maxL ret :: Tt) rm (PcJ D y sl L F H.size (.ref a :: As)) (cMa D (AL L H.size) post) mc ms (AL L H.size)) (hrc : rm.cells = mc ∧ rm.slots = ms) (hR : (Nat.ble (rm.frames + 1) R.frames && Nat.ble (8 + (maxL + 11) + rm.locals) R.locals) = true) (hJ : JW sl A s s.heap) (hP : va_P D vwCl (va_pl L F) H) (hD : va_D A (va_pl L F)) (hS : va_S A s.heap H locs) (hA : ∀ q, s.heap.size ≤ q → A q) (ha : a ∈ L) {ci : Nat} {fs : List Value} {q : vw_C} (hF : F a = .inr (ci, fs)) (hc : vwCl[ci]? = some q) (hq : q.1 = C9) (hn : As.length = n) {lv : List (Nat × Value)} (hl : lv_has ls nL lv) (hst : st = As.reverse ++ .ref a :: rest) (hW : (rest.map fun v => v.category).sum ≤ 8) (hdg : decode cc pc = .ok (.invokevirtual index, 3)) (hcs : cells + mc ≤ R.cells ∧ slots + ms ≤ R.slots)
    (kk : ∀ (r : Nat) (H1 : Heap) (locs1 : List Loc) (L1 : List Nat) (F1 : Nat → va_E), va_P D vwCl (va_pl L1 F1) H1 → va_D A (va_pl L1 F1) → va_S A s.heap H1 locs1 → H.size ≤ H1.size → post r L1 F1 → W p l e R s m args below meth c H1 locs1 (cells + mc) (slots + ms) Q (F0 m (pc + 3) ls (.ref r :: rest))) : W p l e R s m args below meth c H locs cells slots Q (F0 m pc ls st) := by
  subst hst
  have hts := C0.1.2.2.2.2
  rw [Bool.and_eq_true] at hR
  obtain ⟨k1, k2, k3, k4, k5, ⟨b0, n0, r0, k6, k7⟩, k8⟩ := k
  have T1 : ∀ w : Cond, w ∈ Tt → w.before args s = true := fun w h => hts w (List.mem_cons_of_mem _ h)
  have cw : va_CU R s args own C9 owner index x yy bytes maxL ret (.code yy bytes maxL ret :: Tt) rm mc ms n := ⟨⟨hrc.1, hrc.2, Nat.le_of_ble_eq_true hR.1, Nat.le_of_ble_eq_true hR.2, payQ C0 k5, List.mem_cons_self⟩, T1 _ k5, T1 _ k4, ⟨k8.1, k8.2.1⟩, fun sig h => by
    have h2 := k8.2.2
    rw [h] at h2
    exact (Option.some.inj h2).symm, T1 _ k1, T1 _ k2, va_Decl.of (T1 _ k6) (T1 _ k7), hsel, T1 _ k3⟩
  have rv := recvQ C0 hP ha hF hc
  rw [hq] at rv
  exact q_goMa (va_runU (H := H) (locs := locs) (cells := cells) (slots := slots) (rest := rest) (g := F0 m pc ls (As.reverse ++ .ref a :: rest)) (e := e) (below := below) (meth := meth) C0.1 hM cw ⟨PcJ_blind _ _ _ _ _ _ _, rv, preJ C0 hJ hP hD hS hA _⟩ rfl hn hl.1 rfl (lv_room hW) hdg ⟨hcs.1, hcs.2⟩) hS (AL_in (D := D) hD hS hA) kk
theorem q_pJa {post : Nat → List Nat → (Nat → va_E) → Prop} (C0 : Cx D y p c cc nL s m args kw own) (k : CLSU own index yy bytes maxL ret n) (hM : Met l yy (.code yy bytes maxL ret :: Tt) rm (PcJ D y sl L F H.size (.ref a :: As)) (cMa D (AL L H.size) post) mc ms (AL L H.size)) (hrc : rm.cells = mc ∧ rm.slots = ms) (hR : (Nat.ble (rm.frames + 1) R.frames && Nat.ble (8 + (maxL + 11) + rm.locals) R.locals) = true) (hJ : JW sl A s s.heap) (hP : va_P D vwCl (va_pl L F) H) (hD : va_D A (va_pl L F)) (hS : va_S A s.heap H locs) (hA : ∀ q, s.heap.size ≤ q → A q) (ha : a ∈ L) {ci : Nat} {fs : List Value} {q : vw_C} (hF : F a = .inr (ci, fs)) (hc : vwCl[ci]? = some q) (hn : As.length = n) {lv : List (Nat × Value)} (hl : lv_has ls nL lv) (hst : st = As.reverse ++ .ref a :: rest) (hW : (rest.map fun v => v.category).sum ≤ 8) (hdg : decode cc pc = .ok (.invokespecial index, 3)) (hcs : cells + mc ≤ R.cells ∧ slots + ms ≤ R.slots)
    (kk : ∀ (r : Nat) (H1 : Heap) (locs1 : List Loc) (L1 : List Nat) (F1 : Nat → va_E), va_P D vwCl (va_pl L1 F1) H1 → va_D A (va_pl L1 F1) → va_S A s.heap H1 locs1 → H.size ≤ H1.size → post r L1 F1 → W p l e R s m args below meth c H1 locs1 (cells + mc) (slots + ms) Q (F0 m (pc + 3) ls (.ref r :: rest))) : W p l e R s m args below meth c H locs cells slots Q (F0 m pc ls st) := by
  subst hst
  have hts := C0.1.2.2.2.2
  rw [Bool.and_eq_true] at hR
  obtain ⟨k1, k2, k3, k4, k5, k6, k7, k8⟩ := k
  have T1 : ∀ w : Cond, w ∈ Tt → w.before args s = true := fun w h => hts w (List.mem_cons_of_mem _ h)
  have cw : va_CS R s args own index yy bytes maxL ret (.code yy bytes maxL ret :: Tt) rm mc ms n := ⟨⟨hrc.1, hrc.2, Nat.le_of_ble_eq_true hR.1, Nat.le_of_ble_eq_true hR.2, payQ C0 k6, List.mem_cons_self⟩, T1 _ k1, T1 _ k2, T1 _ k3, T1 _ k4, T1 _ k5, T1 _ k6, k7, fun sig h => by
    rw [h] at k8
    exact (Option.some.inj k8).symm⟩
  have rv := recvQ C0 hP ha hF hc
  exact q_goMa (va_runSU (H := H) (locs := locs) (cells := cells) (slots := slots) (rest := rest) (g := F0 m pc ls (As.reverse ++ .ref a :: rest)) (e := e) (below := below) (meth := meth) (C0.2.1.1 ci q hc).2 C0.1 hM cw ⟨PcJ_blind _ _ _ _ _ _ _, rv, preJ C0 hJ hP hD hS hA _⟩ rfl hn hl.1 rfl (lv_room hW) hdg ⟨hcs.1, hcs.2⟩) hS (AL_in (D := D) hD hS hA) kk
theorem q_kJa {post : Nat → List Nat → (Nat → va_E) → Prop} (C0 : Cx D y p c cc nL s m args kw own) (k : CLV own index yy bytes maxL ret n) (hM : Met l yy (.code yy bytes maxL ret :: Tt) rm (PcJ D y sl L F H.size (.ref a :: As)) (cMa D (AL L H.size) post) mc ms (AL L H.size)) (hrc : rm.cells = mc ∧ rm.slots = ms) (hR : (Nat.ble (rm.frames + 1) R.frames && Nat.ble (8 + (maxL + 11) + rm.locals) R.locals) = true) (hJ : JW sl A s s.heap) (hP : va_P D vwCl (va_pl L F) H) (hD : va_D A (va_pl L F)) (hS : va_S A s.heap H locs) (hA : ∀ q, s.heap.size ≤ q → A q) {q9 : Nat × Nat × Nat} (hq9 : q9 ∈ sl) (ha : q9.1 = a) (hq : "java/lang/String" = yy.cls) (hn : As.length = n) {lv : List (Nat × Value)} (hl : lv_has ls nL lv) (hst : st = As.reverse ++ .ref a :: rest) (hW : (rest.map fun v => v.category).sum ≤ 8) (hdg : decode cc pc = .ok (.invokevirtual index, 3)) (hcs : cells + mc ≤ R.cells ∧ slots + ms ≤ R.slots)
    (kk : ∀ (r : Nat) (H1 : Heap) (locs1 : List Loc) (L1 : List Nat) (F1 : Nat → va_E), va_P D vwCl (va_pl L1 F1) H1 → va_D A (va_pl L1 F1) → va_S A s.heap H1 locs1 → H.size ≤ H1.size → post r L1 F1 → W p l e R s m args below meth c H1 locs1 (cells + mc) (slots + ms) Q (F0 m (pc + 3) ls (.ref r :: rest))) : W p l e R s m args below meth c H locs cells slots Q (F0 m pc ls st) := by
  subst hst
  have hts := C0.1.2.2.2.2
  have cw : CallW R s args own yy.cls index yy bytes maxL ret (.code yy bytes maxL ret :: Tt) rm mc ms n := ⟨cbQ C0 k.1 hrc.1 hrc.2 hR, hts _ (List.mem_cons_of_mem _ k.2.1), hts _ (List.mem_cons_of_mem _ k.2.2)⟩
  have rv : ∃ cell : Cell, H[a]? = some cell ∧ cell.vm.isStatics = false ∧ s.vm.findClass yy.cls = some cell.cls := by
    obtain ⟨cell, h1, h2, h3, -⟩ := (hJ.2.2.2.1 q9 hq9).1.kept hS.2.1
    rw [ha] at h1
    exact ⟨cell, h1, h2, hq ▸ h3⟩
  exact q_goMa (va_runV (H := H) (locs := locs) (cells := cells) (slots := slots) (rest := rest) (g := F0 m pc ls (As.reverse ++ .ref a :: rest)) (e := e) (below := below) (meth := meth) C0.1 hM cw ⟨PcJ_blind _ _ _ _ _ _ _, rv, preJ C0 hJ hP hD hS hA _⟩ rfl hn hl.1 rfl (lv_room hW) hdg ⟨hcs.1, hcs.2⟩) hS (AL_in (D := D) hD hS hA) kk
theorem q_sJa {post : Nat → List Nat → (Nat → va_E) → Prop} (C0 : Cx D y p c cc nL s m args kw own) (k : CLS own index yy bytes maxL ret n) (hM : Met l yy (.code yy bytes maxL ret :: Tt) rm (PcJ D y sl L F H.size (As)) (cMa D (AL L H.size) post) mc ms (AL L H.size)) (hrc : rm.cells = mc ∧ rm.slots = ms) (hR : (Nat.ble (rm.frames + 1) R.frames && Nat.ble (8 + (maxL + 11) + rm.locals) R.locals) = true) (hJ : JW sl A s s.heap) (hP : va_P D vwCl (va_pl L F) H) (hD : va_D A (va_pl L F)) (hS : va_S A s.heap H locs) (hA : ∀ q, s.heap.size ≤ q → A q) (hn : As.length = n) {lv : List (Nat × Value)} (hl : lv_has ls nL lv) (hst : st = As.reverse ++ rest) (hW : (rest.map fun v => v.category).sum ≤ 8) (hdg : decode cc pc = .ok (.invokestatic index, 3)) (hcs : cells + mc ≤ R.cells ∧ slots + ms ≤ R.slots)
    (kk : ∀ (r : Nat) (H1 : Heap) (locs1 : List Loc) (L1 : List Nat) (F1 : Nat → va_E), va_P D vwCl (va_pl L1 F1) H1 → va_D A (va_pl L1 F1) → va_S A s.heap H1 locs1 → H.size ≤ H1.size → post r L1 F1 → W p l e R s m args below meth c H1 locs1 (cells + mc) (slots + ms) Q (F0 m (pc + 3) ls (.ref r :: rest))) : W p l e R s m args below meth c H locs cells slots Q (F0 m pc ls st) := by
  subst hst
  have hts := C0.1.2.2.2.2
  exact q_goMa (va_runS (H := H) (locs := locs) (cells := cells) (slots := slots) (rest := rest) (g := F0 m pc ls (As.reverse ++ rest)) (e := e) (below := below) (meth := meth) C0.1 hM ⟨cbQ C0 k.1 hrc.1 hrc.2 hR, hts _ (List.mem_cons_of_mem _ k.2)⟩ ⟨PcJ_blind _ _ _ _ _ _ _, preJ C0 hJ hP hD hS hA _⟩ rfl hn hl.1 rfl (lv_room hW) hdg ⟨hcs.1, hcs.2⟩) hS (AL_in (D := D) hD hS hA) kk
theorem q_vJl {post : Int64 → List Nat → (Nat → va_E) → Prop} (C0 : Cx D y p c cc nL s m args kw own) (k : CLV own index yy bytes maxL ret n) (hM : Met l yy (.code yy bytes maxL ret :: Tt) rm (PcJ D y sl L F H.size (.ref a :: As)) (cMl D (AL L H.size) post) mc ms (AL L H.size)) (hrc : rm.cells = mc ∧ rm.slots = ms) (hR : (Nat.ble (rm.frames + 1) R.frames && Nat.ble (8 + (maxL + 11) + rm.locals) R.locals) = true) (hJ : JW sl A s s.heap) (hP : va_P D vwCl (va_pl L F) H) (hD : va_D A (va_pl L F)) (hS : va_S A s.heap H locs) (hA : ∀ q, s.heap.size ≤ q → A q) (ha : a ∈ L) {ci : Nat} {fs : List Value} {q : vw_C} (hF : F a = .inr (ci, fs)) (hc : vwCl[ci]? = some q) (hq : q.1 = yy.cls) (hn : As.length = n) {lv : List (Nat × Value)} (hl : lv_has ls nL lv) (hst : st = As.reverse ++ .ref a :: rest) (hW : (rest.map fun v => v.category).sum ≤ 8) (hdg : decode cc pc = .ok (.invokevirtual index, 3)) (hcs : cells + mc ≤ R.cells ∧ slots + ms ≤ R.slots)
    (kk : ∀ (r : Int64) (H1 : Heap) (locs1 : List Loc) (L1 : List Nat) (F1 : Nat → va_E), va_P D vwCl (va_pl L1 F1) H1 → va_D A (va_pl L1 F1) → va_S A s.heap H1 locs1 → H.size ≤ H1.size → post r L1 F1 → W p l e R s m args below meth c H1 locs1 (cells + mc) (slots + ms) Q (F0 m (pc + 3) ls (.long r :: rest))) : W p l e R s m args below meth c H locs cells slots Q (F0 m pc ls st) := by
  subst hst
  have hts := C0.1.2.2.2.2
  have cw : CallW R s args own yy.cls index yy bytes maxL ret (.code yy bytes maxL ret :: Tt) rm mc ms n := ⟨cbQ C0 k.1 hrc.1 hrc.2 hR, hts _ (List.mem_cons_of_mem _ k.2.1), hts _ (List.mem_cons_of_mem _ k.2.2)⟩
  have rv := recvQ C0 hP ha hF hc
  rw [hq] at rv
  exact q_goMl (va_runV (H := H) (locs := locs) (cells := cells) (slots := slots) (rest := rest) (g := F0 m pc ls (As.reverse ++ .ref a :: rest)) (e := e) (below := below) (meth := meth) C0.1 hM cw ⟨PcJ_blind _ _ _ _ _ _ _, rv, preJ C0 hJ hP hD hS hA _⟩ rfl hn hl.1 rfl (lv_room hW) hdg ⟨hcs.1, hcs.2⟩) hS (AL_in (D := D) hD hS hA) kk
theorem q_uJl {post : Int64 → List Nat → (Nat → va_E) → Prop} (C0 : Cx D y p c cc nL s m args kw own) (k : CLU own index owner x yy bytes maxL ret n) (hsel : (Cond.selects C9 x yy).before args s = true) (hM : Met l yy (.code yy bytes maxL ret :: Tt) rm (PcJ D y sl L F H.size (.ref a :: As)) (cMl D (AL L H.size) post) mc ms (AL L H.size)) (hrc : rm.cells = mc ∧ rm.slots = ms) (hR : (Nat.ble (rm.frames + 1) R.frames && Nat.ble (8 + (maxL + 11) + rm.locals) R.locals) = true) (hJ : JW sl A s s.heap) (hP : va_P D vwCl (va_pl L F) H) (hD : va_D A (va_pl L F)) (hS : va_S A s.heap H locs) (hA : ∀ q, s.heap.size ≤ q → A q) (ha : a ∈ L) {ci : Nat} {fs : List Value} {q : vw_C} (hF : F a = .inr (ci, fs)) (hc : vwCl[ci]? = some q) (hq : q.1 = C9) (hn : As.length = n) {lv : List (Nat × Value)} (hl : lv_has ls nL lv) (hst : st = As.reverse ++ .ref a :: rest) (hW : (rest.map fun v => v.category).sum ≤ 8) (hdg : decode cc pc = .ok (.invokevirtual index, 3)) (hcs : cells + mc ≤ R.cells ∧ slots + ms ≤ R.slots)
    (kk : ∀ (r : Int64) (H1 : Heap) (locs1 : List Loc) (L1 : List Nat) (F1 : Nat → va_E), va_P D vwCl (va_pl L1 F1) H1 → va_D A (va_pl L1 F1) → va_S A s.heap H1 locs1 → H.size ≤ H1.size → post r L1 F1 → W p l e R s m args below meth c H1 locs1 (cells + mc) (slots + ms) Q (F0 m (pc + 3) ls (.long r :: rest))) : W p l e R s m args below meth c H locs cells slots Q (F0 m pc ls st) := by
  subst hst
  have hts := C0.1.2.2.2.2
  rw [Bool.and_eq_true] at hR
  obtain ⟨k1, k2, k3, k4, k5, ⟨b0, n0, r0, k6, k7⟩, k8⟩ := k
  have T1 : ∀ w : Cond, w ∈ Tt → w.before args s = true := fun w h => hts w (List.mem_cons_of_mem _ h)
  have cw : va_CU R s args own C9 owner index x yy bytes maxL ret (.code yy bytes maxL ret :: Tt) rm mc ms n := ⟨⟨hrc.1, hrc.2, Nat.le_of_ble_eq_true hR.1, Nat.le_of_ble_eq_true hR.2, payQ C0 k5, List.mem_cons_self⟩, T1 _ k5, T1 _ k4, ⟨k8.1, k8.2.1⟩, fun sig h => by
    have h2 := k8.2.2
    rw [h] at h2
    exact (Option.some.inj h2).symm, T1 _ k1, T1 _ k2, va_Decl.of (T1 _ k6) (T1 _ k7), hsel, T1 _ k3⟩
  have rv := recvQ C0 hP ha hF hc
  rw [hq] at rv
  exact q_goMl (va_runU (H := H) (locs := locs) (cells := cells) (slots := slots) (rest := rest) (g := F0 m pc ls (As.reverse ++ .ref a :: rest)) (e := e) (below := below) (meth := meth) C0.1 hM cw ⟨PcJ_blind _ _ _ _ _ _ _, rv, preJ C0 hJ hP hD hS hA _⟩ rfl hn hl.1 rfl (lv_room hW) hdg ⟨hcs.1, hcs.2⟩) hS (AL_in (D := D) hD hS hA) kk
theorem q_pJl {post : Int64 → List Nat → (Nat → va_E) → Prop} (C0 : Cx D y p c cc nL s m args kw own) (k : CLSU own index yy bytes maxL ret n) (hM : Met l yy (.code yy bytes maxL ret :: Tt) rm (PcJ D y sl L F H.size (.ref a :: As)) (cMl D (AL L H.size) post) mc ms (AL L H.size)) (hrc : rm.cells = mc ∧ rm.slots = ms) (hR : (Nat.ble (rm.frames + 1) R.frames && Nat.ble (8 + (maxL + 11) + rm.locals) R.locals) = true) (hJ : JW sl A s s.heap) (hP : va_P D vwCl (va_pl L F) H) (hD : va_D A (va_pl L F)) (hS : va_S A s.heap H locs) (hA : ∀ q, s.heap.size ≤ q → A q) (ha : a ∈ L) {ci : Nat} {fs : List Value} {q : vw_C} (hF : F a = .inr (ci, fs)) (hc : vwCl[ci]? = some q) (hn : As.length = n) {lv : List (Nat × Value)} (hl : lv_has ls nL lv) (hst : st = As.reverse ++ .ref a :: rest) (hW : (rest.map fun v => v.category).sum ≤ 8) (hdg : decode cc pc = .ok (.invokespecial index, 3)) (hcs : cells + mc ≤ R.cells ∧ slots + ms ≤ R.slots)
    (kk : ∀ (r : Int64) (H1 : Heap) (locs1 : List Loc) (L1 : List Nat) (F1 : Nat → va_E), va_P D vwCl (va_pl L1 F1) H1 → va_D A (va_pl L1 F1) → va_S A s.heap H1 locs1 → H.size ≤ H1.size → post r L1 F1 → W p l e R s m args below meth c H1 locs1 (cells + mc) (slots + ms) Q (F0 m (pc + 3) ls (.long r :: rest))) : W p l e R s m args below meth c H locs cells slots Q (F0 m pc ls st) := by
  subst hst
  have hts := C0.1.2.2.2.2
  rw [Bool.and_eq_true] at hR
  obtain ⟨k1, k2, k3, k4, k5, k6, k7, k8⟩ := k
  have T1 : ∀ w : Cond, w ∈ Tt → w.before args s = true := fun w h => hts w (List.mem_cons_of_mem _ h)
  have cw : va_CS R s args own index yy bytes maxL ret (.code yy bytes maxL ret :: Tt) rm mc ms n := ⟨⟨hrc.1, hrc.2, Nat.le_of_ble_eq_true hR.1, Nat.le_of_ble_eq_true hR.2, payQ C0 k6, List.mem_cons_self⟩, T1 _ k1, T1 _ k2, T1 _ k3, T1 _ k4, T1 _ k5, T1 _ k6, k7, fun sig h => by
    rw [h] at k8
    exact (Option.some.inj k8).symm⟩
  have rv := recvQ C0 hP ha hF hc
  exact q_goMl (va_runSU (H := H) (locs := locs) (cells := cells) (slots := slots) (rest := rest) (g := F0 m pc ls (As.reverse ++ .ref a :: rest)) (e := e) (below := below) (meth := meth) (C0.2.1.1 ci q hc).2 C0.1 hM cw ⟨PcJ_blind _ _ _ _ _ _ _, rv, preJ C0 hJ hP hD hS hA _⟩ rfl hn hl.1 rfl (lv_room hW) hdg ⟨hcs.1, hcs.2⟩) hS (AL_in (D := D) hD hS hA) kk
theorem q_kJl {post : Int64 → List Nat → (Nat → va_E) → Prop} (C0 : Cx D y p c cc nL s m args kw own) (k : CLV own index yy bytes maxL ret n) (hM : Met l yy (.code yy bytes maxL ret :: Tt) rm (PcJ D y sl L F H.size (.ref a :: As)) (cMl D (AL L H.size) post) mc ms (AL L H.size)) (hrc : rm.cells = mc ∧ rm.slots = ms) (hR : (Nat.ble (rm.frames + 1) R.frames && Nat.ble (8 + (maxL + 11) + rm.locals) R.locals) = true) (hJ : JW sl A s s.heap) (hP : va_P D vwCl (va_pl L F) H) (hD : va_D A (va_pl L F)) (hS : va_S A s.heap H locs) (hA : ∀ q, s.heap.size ≤ q → A q) {q9 : Nat × Nat × Nat} (hq9 : q9 ∈ sl) (ha : q9.1 = a) (hq : "java/lang/String" = yy.cls) (hn : As.length = n) {lv : List (Nat × Value)} (hl : lv_has ls nL lv) (hst : st = As.reverse ++ .ref a :: rest) (hW : (rest.map fun v => v.category).sum ≤ 8) (hdg : decode cc pc = .ok (.invokevirtual index, 3)) (hcs : cells + mc ≤ R.cells ∧ slots + ms ≤ R.slots)
    (kk : ∀ (r : Int64) (H1 : Heap) (locs1 : List Loc) (L1 : List Nat) (F1 : Nat → va_E), va_P D vwCl (va_pl L1 F1) H1 → va_D A (va_pl L1 F1) → va_S A s.heap H1 locs1 → H.size ≤ H1.size → post r L1 F1 → W p l e R s m args below meth c H1 locs1 (cells + mc) (slots + ms) Q (F0 m (pc + 3) ls (.long r :: rest))) : W p l e R s m args below meth c H locs cells slots Q (F0 m pc ls st) := by
  subst hst
  have hts := C0.1.2.2.2.2
  have cw : CallW R s args own yy.cls index yy bytes maxL ret (.code yy bytes maxL ret :: Tt) rm mc ms n := ⟨cbQ C0 k.1 hrc.1 hrc.2 hR, hts _ (List.mem_cons_of_mem _ k.2.1), hts _ (List.mem_cons_of_mem _ k.2.2)⟩
  have rv : ∃ cell : Cell, H[a]? = some cell ∧ cell.vm.isStatics = false ∧ s.vm.findClass yy.cls = some cell.cls := by
    obtain ⟨cell, h1, h2, h3, -⟩ := (hJ.2.2.2.1 q9 hq9).1.kept hS.2.1
    rw [ha] at h1
    exact ⟨cell, h1, h2, hq ▸ h3⟩
  exact q_goMl (va_runV (H := H) (locs := locs) (cells := cells) (slots := slots) (rest := rest) (g := F0 m pc ls (As.reverse ++ .ref a :: rest)) (e := e) (below := below) (meth := meth) C0.1 hM cw ⟨PcJ_blind _ _ _ _ _ _ _, rv, preJ C0 hJ hP hD hS hA _⟩ rfl hn hl.1 rfl (lv_room hW) hdg ⟨hcs.1, hcs.2⟩) hS (AL_in (D := D) hD hS hA) kk
theorem q_sJl {post : Int64 → List Nat → (Nat → va_E) → Prop} (C0 : Cx D y p c cc nL s m args kw own) (k : CLS own index yy bytes maxL ret n) (hM : Met l yy (.code yy bytes maxL ret :: Tt) rm (PcJ D y sl L F H.size (As)) (cMl D (AL L H.size) post) mc ms (AL L H.size)) (hrc : rm.cells = mc ∧ rm.slots = ms) (hR : (Nat.ble (rm.frames + 1) R.frames && Nat.ble (8 + (maxL + 11) + rm.locals) R.locals) = true) (hJ : JW sl A s s.heap) (hP : va_P D vwCl (va_pl L F) H) (hD : va_D A (va_pl L F)) (hS : va_S A s.heap H locs) (hA : ∀ q, s.heap.size ≤ q → A q) (hn : As.length = n) {lv : List (Nat × Value)} (hl : lv_has ls nL lv) (hst : st = As.reverse ++ rest) (hW : (rest.map fun v => v.category).sum ≤ 8) (hdg : decode cc pc = .ok (.invokestatic index, 3)) (hcs : cells + mc ≤ R.cells ∧ slots + ms ≤ R.slots)
    (kk : ∀ (r : Int64) (H1 : Heap) (locs1 : List Loc) (L1 : List Nat) (F1 : Nat → va_E), va_P D vwCl (va_pl L1 F1) H1 → va_D A (va_pl L1 F1) → va_S A s.heap H1 locs1 → H.size ≤ H1.size → post r L1 F1 → W p l e R s m args below meth c H1 locs1 (cells + mc) (slots + ms) Q (F0 m (pc + 3) ls (.long r :: rest))) : W p l e R s m args below meth c H locs cells slots Q (F0 m pc ls st) := by
  subst hst
  have hts := C0.1.2.2.2.2
  exact q_goMl (va_runS (H := H) (locs := locs) (cells := cells) (slots := slots) (rest := rest) (g := F0 m pc ls (As.reverse ++ rest)) (e := e) (below := below) (meth := meth) C0.1 hM ⟨cbQ C0 k.1 hrc.1 hrc.2 hR, hts _ (List.mem_cons_of_mem _ k.2)⟩ ⟨PcJ_blind _ _ _ _ _ _ _, preJ C0 hJ hP hD hS hA _⟩ rfl hn hl.1 rfl (lv_room hW) hdg ⟨hcs.1, hcs.2⟩) hS (AL_in (D := D) hD hS hA) kk
theorem q_vJv {post : Unit → List Nat → (Nat → va_E) → Prop} (C0 : Cx D y p c cc nL s m args kw own) (k : CLV own index yy bytes maxL ret n) (hM : Met l yy (.code yy bytes maxL ret :: Tt) rm (PcJ D y sl L F H.size (.ref a :: As)) (cMv D (AL L H.size) post) mc ms (AL L H.size)) (hrc : rm.cells = mc ∧ rm.slots = ms) (hR : (Nat.ble (rm.frames + 1) R.frames && Nat.ble (8 + (maxL + 11) + rm.locals) R.locals) = true) (hJ : JW sl A s s.heap) (hP : va_P D vwCl (va_pl L F) H) (hD : va_D A (va_pl L F)) (hS : va_S A s.heap H locs) (hA : ∀ q, s.heap.size ≤ q → A q) (ha : a ∈ L) {ci : Nat} {fs : List Value} {q : vw_C} (hF : F a = .inr (ci, fs)) (hc : vwCl[ci]? = some q) (hq : q.1 = yy.cls) (hn : As.length = n) {lv : List (Nat × Value)} (hl : lv_has ls nL lv) (hst : st = As.reverse ++ .ref a :: rest) (hW : (rest.map fun v => v.category).sum ≤ 8) (hdg : decode cc pc = .ok (.invokevirtual index, 3)) (hcs : cells + mc ≤ R.cells ∧ slots + ms ≤ R.slots)
    (kk : ∀ (r : Unit) (H1 : Heap) (locs1 : List Loc) (L1 : List Nat) (F1 : Nat → va_E), va_P D vwCl (va_pl L1 F1) H1 → va_D A (va_pl L1 F1) → va_S A s.heap H1 locs1 → H.size ≤ H1.size → post r L1 F1 → W p l e R s m args below meth c H1 locs1 (cells + mc) (slots + ms) Q (F0 m (pc + 3) ls (rest))) : W p l e R s m args below meth c H locs cells slots Q (F0 m pc ls st) := by
  subst hst
  have hts := C0.1.2.2.2.2
  have cw : CallW R s args own yy.cls index yy bytes maxL ret (.code yy bytes maxL ret :: Tt) rm mc ms n := ⟨cbQ C0 k.1 hrc.1 hrc.2 hR, hts _ (List.mem_cons_of_mem _ k.2.1), hts _ (List.mem_cons_of_mem _ k.2.2)⟩
  have rv := recvQ C0 hP ha hF hc
  rw [hq] at rv
  exact q_goMv (va_runV (H := H) (locs := locs) (cells := cells) (slots := slots) (rest := rest) (g := F0 m pc ls (As.reverse ++ .ref a :: rest)) (e := e) (below := below) (meth := meth) C0.1 hM cw ⟨PcJ_blind _ _ _ _ _ _ _, rv, preJ C0 hJ hP hD hS hA _⟩ rfl hn hl.1 rfl (lv_room hW) hdg ⟨hcs.1, hcs.2⟩) hS (AL_in (D := D) hD hS hA) kk
theorem q_uJv {post : Unit → List Nat → (Nat → va_E) → Prop} (C0 : Cx D y p c cc nL s m args kw own) (k : CLU own index owner x yy bytes maxL ret n) (hsel : (Cond.selects C9 x yy).before args s = true) (hM : Met l yy (.code yy bytes maxL ret :: Tt) rm (PcJ D y sl L F H.size (.ref a :: As)) (cMv D (AL L H.size) post) mc ms (AL L H.size)) (hrc : rm.cells = mc ∧ rm.slots = ms) (hR : (Nat.ble (rm.frames + 1) R.frames && Nat.ble (8 + (maxL + 11) + rm.locals) R.locals) = true) (hJ : JW sl A s s.heap) (hP : va_P D vwCl (va_pl L F) H) (hD : va_D A (va_pl L F)) (hS : va_S A s.heap H locs) (hA : ∀ q, s.heap.size ≤ q → A q) (ha : a ∈ L) {ci : Nat} {fs : List Value} {q : vw_C} (hF : F a = .inr (ci, fs)) (hc : vwCl[ci]? = some q) (hq : q.1 = C9) (hn : As.length = n) {lv : List (Nat × Value)} (hl : lv_has ls nL lv) (hst : st = As.reverse ++ .ref a :: rest) (hW : (rest.map fun v => v.category).sum ≤ 8) (hdg : decode cc pc = .ok (.invokevirtual index, 3)) (hcs : cells + mc ≤ R.cells ∧ slots + ms ≤ R.slots)
    (kk : ∀ (r : Unit) (H1 : Heap) (locs1 : List Loc) (L1 : List Nat) (F1 : Nat → va_E), va_P D vwCl (va_pl L1 F1) H1 → va_D A (va_pl L1 F1) → va_S A s.heap H1 locs1 → H.size ≤ H1.size → post r L1 F1 → W p l e R s m args below meth c H1 locs1 (cells + mc) (slots + ms) Q (F0 m (pc + 3) ls (rest))) : W p l e R s m args below meth c H locs cells slots Q (F0 m pc ls st) := by
  subst hst
  have hts := C0.1.2.2.2.2
  rw [Bool.and_eq_true] at hR
  obtain ⟨k1, k2, k3, k4, k5, ⟨b0, n0, r0, k6, k7⟩, k8⟩ := k
  have T1 : ∀ w : Cond, w ∈ Tt → w.before args s = true := fun w h => hts w (List.mem_cons_of_mem _ h)
  have cw : va_CU R s args own C9 owner index x yy bytes maxL ret (.code yy bytes maxL ret :: Tt) rm mc ms n := ⟨⟨hrc.1, hrc.2, Nat.le_of_ble_eq_true hR.1, Nat.le_of_ble_eq_true hR.2, payQ C0 k5, List.mem_cons_self⟩, T1 _ k5, T1 _ k4, ⟨k8.1, k8.2.1⟩, fun sig h => by
    have h2 := k8.2.2
    rw [h] at h2
    exact (Option.some.inj h2).symm, T1 _ k1, T1 _ k2, va_Decl.of (T1 _ k6) (T1 _ k7), hsel, T1 _ k3⟩
  have rv := recvQ C0 hP ha hF hc
  rw [hq] at rv
  exact q_goMv (va_runU (H := H) (locs := locs) (cells := cells) (slots := slots) (rest := rest) (g := F0 m pc ls (As.reverse ++ .ref a :: rest)) (e := e) (below := below) (meth := meth) C0.1 hM cw ⟨PcJ_blind _ _ _ _ _ _ _, rv, preJ C0 hJ hP hD hS hA _⟩ rfl hn hl.1 rfl (lv_room hW) hdg ⟨hcs.1, hcs.2⟩) hS (AL_in (D := D) hD hS hA) kk
theorem q_pJv {post : Unit → List Nat → (Nat → va_E) → Prop} (C0 : Cx D y p c cc nL s m args kw own) (k : CLSU own index yy bytes maxL ret n) (hM : Met l yy (.code yy bytes maxL ret :: Tt) rm (PcJ D y sl L F H.size (.ref a :: As)) (cMv D (AL L H.size) post) mc ms (AL L H.size)) (hrc : rm.cells = mc ∧ rm.slots = ms) (hR : (Nat.ble (rm.frames + 1) R.frames && Nat.ble (8 + (maxL + 11) + rm.locals) R.locals) = true) (hJ : JW sl A s s.heap) (hP : va_P D vwCl (va_pl L F) H) (hD : va_D A (va_pl L F)) (hS : va_S A s.heap H locs) (hA : ∀ q, s.heap.size ≤ q → A q) (ha : a ∈ L) {ci : Nat} {fs : List Value} {q : vw_C} (hF : F a = .inr (ci, fs)) (hc : vwCl[ci]? = some q) (hn : As.length = n) {lv : List (Nat × Value)} (hl : lv_has ls nL lv) (hst : st = As.reverse ++ .ref a :: rest) (hW : (rest.map fun v => v.category).sum ≤ 8) (hdg : decode cc pc = .ok (.invokespecial index, 3)) (hcs : cells + mc ≤ R.cells ∧ slots + ms ≤ R.slots)
    (kk : ∀ (r : Unit) (H1 : Heap) (locs1 : List Loc) (L1 : List Nat) (F1 : Nat → va_E), va_P D vwCl (va_pl L1 F1) H1 → va_D A (va_pl L1 F1) → va_S A s.heap H1 locs1 → H.size ≤ H1.size → post r L1 F1 → W p l e R s m args below meth c H1 locs1 (cells + mc) (slots + ms) Q (F0 m (pc + 3) ls (rest))) : W p l e R s m args below meth c H locs cells slots Q (F0 m pc ls st) := by
  subst hst
  have hts := C0.1.2.2.2.2
  rw [Bool.and_eq_true] at hR
  obtain ⟨k1, k2, k3, k4, k5, k6, k7, k8⟩ := k
  have T1 : ∀ w : Cond, w ∈ Tt → w.before args s = true := fun w h => hts w (List.mem_cons_of_mem _ h)
  have cw : va_CS R s args own index yy bytes maxL ret (.code yy bytes maxL ret :: Tt) rm mc ms n := ⟨⟨hrc.1, hrc.2, Nat.le_of_ble_eq_true hR.1, Nat.le_of_ble_eq_true hR.2, payQ C0 k6, List.mem_cons_self⟩, T1 _ k1, T1 _ k2, T1 _ k3, T1 _ k4, T1 _ k5, T1 _ k6, k7, fun sig h => by
    rw [h] at k8
    exact (Option.some.inj k8).symm⟩
  have rv := recvQ C0 hP ha hF hc
  exact q_goMv (va_runSU (H := H) (locs := locs) (cells := cells) (slots := slots) (rest := rest) (g := F0 m pc ls (As.reverse ++ .ref a :: rest)) (e := e) (below := below) (meth := meth) (C0.2.1.1 ci q hc).2 C0.1 hM cw ⟨PcJ_blind _ _ _ _ _ _ _, rv, preJ C0 hJ hP hD hS hA _⟩ rfl hn hl.1 rfl (lv_room hW) hdg ⟨hcs.1, hcs.2⟩) hS (AL_in (D := D) hD hS hA) kk
theorem q_kJv {post : Unit → List Nat → (Nat → va_E) → Prop} (C0 : Cx D y p c cc nL s m args kw own) (k : CLV own index yy bytes maxL ret n) (hM : Met l yy (.code yy bytes maxL ret :: Tt) rm (PcJ D y sl L F H.size (.ref a :: As)) (cMv D (AL L H.size) post) mc ms (AL L H.size)) (hrc : rm.cells = mc ∧ rm.slots = ms) (hR : (Nat.ble (rm.frames + 1) R.frames && Nat.ble (8 + (maxL + 11) + rm.locals) R.locals) = true) (hJ : JW sl A s s.heap) (hP : va_P D vwCl (va_pl L F) H) (hD : va_D A (va_pl L F)) (hS : va_S A s.heap H locs) (hA : ∀ q, s.heap.size ≤ q → A q) {q9 : Nat × Nat × Nat} (hq9 : q9 ∈ sl) (ha : q9.1 = a) (hq : "java/lang/String" = yy.cls) (hn : As.length = n) {lv : List (Nat × Value)} (hl : lv_has ls nL lv) (hst : st = As.reverse ++ .ref a :: rest) (hW : (rest.map fun v => v.category).sum ≤ 8) (hdg : decode cc pc = .ok (.invokevirtual index, 3)) (hcs : cells + mc ≤ R.cells ∧ slots + ms ≤ R.slots)
    (kk : ∀ (r : Unit) (H1 : Heap) (locs1 : List Loc) (L1 : List Nat) (F1 : Nat → va_E), va_P D vwCl (va_pl L1 F1) H1 → va_D A (va_pl L1 F1) → va_S A s.heap H1 locs1 → H.size ≤ H1.size → post r L1 F1 → W p l e R s m args below meth c H1 locs1 (cells + mc) (slots + ms) Q (F0 m (pc + 3) ls (rest))) : W p l e R s m args below meth c H locs cells slots Q (F0 m pc ls st) := by
  subst hst
  have hts := C0.1.2.2.2.2
  have cw : CallW R s args own yy.cls index yy bytes maxL ret (.code yy bytes maxL ret :: Tt) rm mc ms n := ⟨cbQ C0 k.1 hrc.1 hrc.2 hR, hts _ (List.mem_cons_of_mem _ k.2.1), hts _ (List.mem_cons_of_mem _ k.2.2)⟩
  have rv : ∃ cell : Cell, H[a]? = some cell ∧ cell.vm.isStatics = false ∧ s.vm.findClass yy.cls = some cell.cls := by
    obtain ⟨cell, h1, h2, h3, -⟩ := (hJ.2.2.2.1 q9 hq9).1.kept hS.2.1
    rw [ha] at h1
    exact ⟨cell, h1, h2, hq ▸ h3⟩
  exact q_goMv (va_runV (H := H) (locs := locs) (cells := cells) (slots := slots) (rest := rest) (g := F0 m pc ls (As.reverse ++ .ref a :: rest)) (e := e) (below := below) (meth := meth) C0.1 hM cw ⟨PcJ_blind _ _ _ _ _ _ _, rv, preJ C0 hJ hP hD hS hA _⟩ rfl hn hl.1 rfl (lv_room hW) hdg ⟨hcs.1, hcs.2⟩) hS (AL_in (D := D) hD hS hA) kk
theorem q_sJv {post : Unit → List Nat → (Nat → va_E) → Prop} (C0 : Cx D y p c cc nL s m args kw own) (k : CLS own index yy bytes maxL ret n) (hM : Met l yy (.code yy bytes maxL ret :: Tt) rm (PcJ D y sl L F H.size (As)) (cMv D (AL L H.size) post) mc ms (AL L H.size)) (hrc : rm.cells = mc ∧ rm.slots = ms) (hR : (Nat.ble (rm.frames + 1) R.frames && Nat.ble (8 + (maxL + 11) + rm.locals) R.locals) = true) (hJ : JW sl A s s.heap) (hP : va_P D vwCl (va_pl L F) H) (hD : va_D A (va_pl L F)) (hS : va_S A s.heap H locs) (hA : ∀ q, s.heap.size ≤ q → A q) (hn : As.length = n) {lv : List (Nat × Value)} (hl : lv_has ls nL lv) (hst : st = As.reverse ++ rest) (hW : (rest.map fun v => v.category).sum ≤ 8) (hdg : decode cc pc = .ok (.invokestatic index, 3)) (hcs : cells + mc ≤ R.cells ∧ slots + ms ≤ R.slots)
    (kk : ∀ (r : Unit) (H1 : Heap) (locs1 : List Loc) (L1 : List Nat) (F1 : Nat → va_E), va_P D vwCl (va_pl L1 F1) H1 → va_D A (va_pl L1 F1) → va_S A s.heap H1 locs1 → H.size ≤ H1.size → post r L1 F1 → W p l e R s m args below meth c H1 locs1 (cells + mc) (slots + ms) Q (F0 m (pc + 3) ls (rest))) : W p l e R s m args below meth c H locs cells slots Q (F0 m pc ls st) := by
  subst hst
  have hts := C0.1.2.2.2.2
  exact q_goMv (va_runS (H := H) (locs := locs) (cells := cells) (slots := slots) (rest := rest) (g := F0 m pc ls (As.reverse ++ rest)) (e := e) (below := below) (meth := meth) C0.1 hM ⟨cbQ C0 k.1 hrc.1 hrc.2 hR, hts _ (List.mem_cons_of_mem _ k.2)⟩ ⟨PcJ_blind _ _ _ _ _ _ _, preJ C0 hJ hP hD hS hA _⟩ rfl hn hl.1 rfl (lv_room hW) hdg ⟨hcs.1, hcs.2⟩) hS (AL_in (D := D) hD hS hA) kk
theorem q_iJv {post : Unit → List Nat → (Nat → va_E) → Prop} (C0 : Cx D y p c cc nL s m args kw own) (k : CLI own index yy bytes maxL n) (hM : Met l yy (.code yy bytes maxL none :: Tt) rm (PcJ D y sl L F H.size (.ref a :: As)) (cMv D (AL L H.size) post) mc ms (AL L H.size)) (hrc : rm.cells = mc ∧ rm.slots = ms) (hR : (Nat.ble (rm.frames + 1) R.frames && Nat.ble (8 + (maxL + 11) + rm.locals) R.locals) = true) (hJ : JW sl A s s.heap) (hP : va_P D vwCl (va_pl L F) H) (hD : va_D A (va_pl L F)) (hS : va_S A s.heap H locs) (hA : ∀ q, s.heap.size ≤ q → A q) (hn : As.length = n) {lv : List (Nat × Value)} (hl : lv_has ls nL lv) (hst : st = As.reverse ++ .ref a :: rest) (hW : (rest.map fun v => v.category).sum ≤ 8) (hdg : decode cc pc = .ok (.invokespecial index, 3)) (hcs : cells + mc ≤ R.cells ∧ slots + ms ≤ R.slots)
    (kk : ∀ (r : Unit) (H1 : Heap) (locs1 : List Loc) (L1 : List Nat) (F1 : Nat → va_E), va_P D vwCl (va_pl L1 F1) H1 → va_D A (va_pl L1 F1) → va_S A s.heap H1 locs1 → H.size ≤ H1.size → post r L1 F1 → W p l e R s m args below meth c H1 locs1 (cells + mc) (slots + ms) Q (F0 m (pc + 3) ls (rest))) : W p l e R s m args below meth c H locs cells slots Q (F0 m pc ls st) := by
  subst hst
  have hts := C0.1.2.2.2.2
  exact q_goMv (va_runI (H := H) (locs := locs) (cells := cells) (slots := slots) (rest := rest) (g := F0 m pc ls (As.reverse ++ .ref a :: rest)) (e := e) (below := below) (meth := meth) C0.1 hM ⟨cbQ C0 k.1 hrc.1 hrc.2 hR, k.2.2, hts _ (List.mem_cons_of_mem _ k.2.1)⟩ ⟨PcJ_blind _ _ _ _ _ _ _, preJ C0 hJ hP hD hS hA _⟩ rfl hn hl.1 rfl (lv_room hW) hdg ⟨hcs.1, hcs.2⟩) hS (AL_in (D := D) hD hS hA) kk
theorem q_newb (C0 : Cx D y p c cc nL s m args kw own) (hP : va_P D vwCl (va_pl L F) H) (hD : va_D A (va_pl L F)) (hS : va_S A H0 H locs) (hA : ∀ q, H0.size ≤ q → A q) {z : Int} {N : Nat} (hz : z = N) (hN : N ≤ 65536) (hcells : cells + 1 ≤ R.cells) (hslots : slots + N ≤ R.slots) (hdg : decode cc pc = .ok (.newarray .byte, 2))
    (kk : ∀ (q : Nat) (H1 : Heap), q ∉ L → va_P D vwCl (va_pl (L ++ [q]) (va_up F q (arrB y N (fun _ => 0)))) H1 → va_D A (va_pl (L ++ [q]) (va_up F q (arrB y N (fun _ => 0)))) → va_S A H0 H1 locs → W p l e R s m args below meth c H1 locs (cells + 1) (slots + N) Q (F0 m (pc + 2) ls (.ref q :: rest))) : W p l e R s m args below meth c H locs cells slots Q (F0 m pc ls (.int (iI z) :: rest)) := by
  obtain ⟨⟨hx, hb, hml, hown, hts⟩, hK⟩ := C0
  refine va_newa (atype := .byte) (ty := .byte) (N' := N) (a0 := (N, .inl (fun _ => 0))) hx hb (hts _ (List.mem_cons_of_mem _ aCbyte)) rfl hK.1 hP hD hS hA (fun cA => rfl) ?_ ?_ ?_ hcells hslots hdg (fun q cA H1 hK1 hP1 hD1 hS1 => ?_)
  · rw [hz, iI_0, iI_lt (by omega) (by omega)]; omega
  · rw [hz, iI_clamp (by omega)]; omega
  · first | omega | (show N * 1 ≤ 536870912; omega) | (show N * 1 ≤ 2147483648; omega) | (show N * 1 ≤ _; exact Nat.le_trans (Nat.mul_le_mul_right 1 hN) (by decide))
  · have hcA : cA = y 4 := by
      have h1 := (hK1.2 5 _ rfl).2
      have h2 := (hK.1.2 4 _ rfl).2
      exact Option.some.inj (h1.symm.trans h2)
    subst hcA
    have hq : q ∉ L := pl_notin hD1
    rw [va_pl_push hq] at hP1 hD1
    exact kk q H1 hq hP1 hD1 hS1
theorem q_bast (C0 : Cx D y p c cc nL s m args kw own) (hP : va_P D vwCl (va_pl L F) H) (hD : va_D A (va_pl L F)) (hS : va_S A H0 H locs) (ha : a ∈ L) {n : Nat} {f : Nat → Int32} (hF : F a = arrB y n f) (hf : sb_Fit f) {i : Int} {v : Int32} (hi : 0 ≤ i ∧ i < n) (hn : n ≤ 2147483647) (hdg : decode cc pc = .ok (.bastore, 1))
    (kk : ∀ (H1 : Heap) (locs1 : List Loc) (g : Nat → Int32), sb_Fit g → va_P D vwCl (va_pl L (va_up F a (arrB y n g))) H1 → va_D A (va_pl L (va_up F a (arrB y n g))) → va_S A H0 H1 locs1 → W p l e R s m args below meth c H1 locs1 cells slots Q (F0 m (pc + 1) ls rest)) : W p l e R s m args below meth c H locs cells slots Q (F0 m pc ls (.int v :: .int (iI i) :: .ref a :: rest)) := by
  obtain ⟨⟨hx, hb, hml, hown, hts⟩, hK⟩ := C0
  obtain ⟨j, hj⟩ := va_pl_get (X := []) (f := F) ha
  have hj0 := hj
  rw [hF] at hj
  refine va_bast hx hb hK.1 hP hD hS j 4 hj rfl (iI_in hi.1 hi.2 hn) hdg (fun H1 locs1 hP1 hD1 hS1 => ?_)
  have e := va_pl_set (X := []) (e := arrB y n (upd f (iI i).toNatClampNeg (vp_nar .byte v))) hD ha hj0
  simp only [List.nil_append] at e hP1 hD1
  rw [e] at hP1 hD1
  exact kk H1 locs1 _ (sb_fitU hf (by rw [vp_nar_byte]; exact pk_fb v)) hP1 hD1 hS1
theorem q_blen (C0 : Cx D y p c cc nL s m args kw own) (hP : va_P D vwCl (va_pl L F) H) (ha : a ∈ L) {n : Nat} {f : Nat → Int32} (hF : F a = arrB y n f) (hdg : decode cc pc = .ok (.arraylength, 1)) (kk : W p l e R s m args below meth c H locs cells slots Q (F0 m (pc + 1) ls (.int (iI (n : Int)) :: rest))) : W p l e R s m args below meth c H locs cells slots Q (F0 m pc ls (.ref a :: rest)) := by
  obtain ⟨⟨hx, hb, hml, hown, hts⟩, hK⟩ := C0
  obtain ⟨j, hj⟩ := va_pl_get (X := []) (f := F) ha
  rw [hF] at hj
  exact va_alen hx hb hK.1 hP j 4 hj (ty := .byte) rfl (v := iI (n : Int)) (iI_ofnat n).symm hdg kk
theorem q_tbl (C0 : Cx D y p c cc nL s m args kw own) (hS : va_S A s.heap H locs) {t n : Nat} {f : Nat → Int32} (hT : va_T .byte t n (fun j => .int (f j)) A s s.heap) {i : Int} (hi : 0 ≤ i ∧ i < n) (hn : n ≤ 2147483647) (hdg : decode cc pc = .ok (.baload, 1)) (kk : W p l e R s m args below meth c H locs cells slots Q (F0 m (pc + 1) ls (.int (f (iI i).toNatClampNeg) :: rest))) : W p l e R s m args below meth c H locs cells slots Q (F0 m pc ls (.int (iI i) :: .ref t :: rest)) :=
  va_tb C0.1.1 C0.1.2.1 hT hS (iI_in hi.1 hi.2 hn) rfl hdg kk
theorem q_tlen (C0 : Cx D y p c cc nL s m args kw own) (hS : va_S A s.heap H locs) {t n : Nat} {f : Nat → Value} (hT : va_T .byte t n f A s s.heap) (hdg : decode cc pc = .ok (.arraylength, 1)) (kk : W p l e R s m args below meth c H locs cells slots Q (F0 m (pc + 1) ls (.int (iI (n : Int)) :: rest))) : W p l e R s m args below meth c H locs cells slots Q (F0 m pc ls (.ref t :: rest)) :=
  va_tlen C0.1.1 C0.1.2.1 hT hS (iI_ofnat n).symm hdg kk
theorem q_gets (C0 : Cx D y p c cc nL s m args kw own) (hS : va_S A s.heap H locs) {C n d : String} {v : Value} {index : Nat} (hZ : va_Z C n d v A s s.heap) (hlink : Cond.fieldLink own index C n d ∈ Tt) (hdg : decode cc pc = .ok (.getstatic index, 3)) (kk : W p l e R s m args below meth c H locs cells slots Q (F0 m (pc + 3) ls (v :: rest))) : W p l e R s m args below meth c H locs cells slots Q (F0 m pc ls rest) :=
  va_gets C0.1.1 C0.1.2.1 hZ hS C0.1.2.2.2.1 (C0.1.2.2.2.2 _ (List.mem_cons_of_mem _ hlink)) (fun _ h => h) hdg kk
theorem q_getK (C0 : Cx D y p c cc nL s m args kw own) (hS : va_S A s.heap H locs) {n d : String} {v : Value} {index q : Nat} (hE : va_OF "java/lang/String" n d v q A s s.heap) (hlink : Cond.fieldLink own index "java/lang/String" n d ∈ Tt) (hdg : decode cc pc = .ok (.getfield index, 3)) (kk : W p l e R s m args below meth c H locs cells slots Q (F0 m (pc + 3) ls (v :: rest))) : W p l e R s m args below meth c H locs cells slots Q (F0 m pc ls (.ref q :: rest)) :=
  vk_getf C0.1.1 C0.1.2.1 hE hS C0.1.2.2.2.1 (C0.1.2.2.2.2 _ (List.mem_cons_of_mem _ hlink)) (fun _ h => h) hdg kk
theorem q_ishr0 (hx : p.tables.exec = Jvm.exec) (hb : c.code = cc) {v : Int} (hdg : decode cc pc = .ok (.ishr, 1)) (kk : W p l e R s m args below meth c H locs cells slots Q (F0 m (pc + 1) ls (.int (iI v) :: rest))) : W p l e R s m args below meth c H locs cells slots Q (F0 m pc ls (.int (iI 0) :: .int (iI v) :: rest)) := lv_ishr hx hb hdg (by rw [← iI_0, sb_shr0]; exact kk)
theorem q_ishl0 (hx : p.tables.exec = Jvm.exec) (hb : c.code = cc) {v : Int} (hdg : decode cc pc = .ok (.ishl, 1)) (kk : W p l e R s m args below meth c H locs cells slots Q (F0 m (pc + 1) ls (.int (iI v) :: rest))) : W p l e R s m args below meth c H locs cells slots Q (F0 m pc ls (.int (iI 0) :: .int (iI v) :: rest)) := lv_ishl hx hb hdg (by rw [← iI_0, sb_shl0]; exact kk)
theorem q_2shl0 (hx : p.tables.exec = Jvm.exec) (hb : c.code = cc) (hdg : decode cc pc = .ok (.ishl, 1)) (kk : W p l e R s m args below meth c H locs cells slots Q (F0 m (pc + 1) ls (.int (iI 2) :: rest))) : W p l e R s m args below meth c H locs cells slots Q (F0 m pc ls (.int (iI 0) :: .int (iI 2) :: rest)) := q_ishl0 hx hb hdg kk
theorem q_ineg (hx : p.tables.exec = Jvm.exec) (hb : c.code = cc) {v : Int} (hdg : decode cc pc = .ok (.ineg, 1)) (kk : W p l e R s m args below meth c H locs cells slots Q (F0 m (pc + 1) ls (.int (iI (-v)) :: rest))) : W p l e R s m args below meth c H locs cells slots Q (F0 m pc ls (.int (iI v) :: rest)) := lv_ineg hx hb hdg (by rw [show -(iI v) = iI (-v) from (Int32.ofInt_neg v).symm]; exact kk)
theorem q_ldcI (C0 : Cx D y p c cc nL s m args kw own) {index : Nat} {v : Int32} {z : Int} (hw : Cond.constant own index v ∈ Tt) (hv : v = iI z) (hdg : decode cc pc = .ok (.ldc index, 2)) (kk : W p l e R s m args below meth c H locs cells slots Q (F0 m (pc + 2) ls (.int (iI z) :: rest))) : W p l e R s m args below meth c H locs cells slots Q (F0 m pc ls rest) := lv_ldc C0.1.1 C0.1.2.1 C0.1.2.2.2.1 (C0.1.2.2.2.2 _ (List.mem_cons_of_mem _ hw)) hdg (by rw [hv]; exact kk)
theorem q_copyb (C0 : Cx D y p c cc nL s m args kw own) (hlink : Cond.methodLink own index arraycopyName ∈ Tt) {lv : List (Nat × Value)} (hl : lv_has ls nL lv) (hP : va_P D vwCl (va_pl L F) H) (hD : va_D A (va_pl L F)) (hS : va_S A H0 H locs) {a0 n0 n1 : Nat} {f g : Nat → Int32} (ha0 : a0 ∈ L) (hF0 : F a0 = arrB y n0 f) (ha : a ∈ L) (hF : F a = arrB y n1 g) (hf : sb_Fit f) (hg : sb_Fit g) {sp dp k : Int} (h1 : 0 ≤ sp) (h2 : 0 ≤ dp) (h3 : 0 ≤ k) (h4 : sp + k ≤ n0) (h5 : dp + k ≤ n1) (h6 : n0 ≤ 65536 ∧ n1 ≤ 65536) (hframes : 1 ≤ R.frames) (hlocals : (rest.map fun v => v.category).sum + 32 ≤ R.locals) (hdg : decode cc pc = .ok (.invokestatic index, 3))
    (kk : ∀ (H1 : Heap) (locs1 : List Loc) (g2 : Nat → Int32), sb_Fit g2 → va_P D vwCl (va_pl L (va_up F a (arrB y n1 g2))) H1 → va_D A (va_pl L (va_up F a (arrB y n1 g2))) → va_S A H0 H1 locs1 → W p l e R s m args below meth c H1 locs1 cells slots Q (F0 m (pc + 3) ls rest)) : W p l e R s m args below meth c H locs cells slots Q (F0 m pc ls (.int (iI k) :: .int (iI dp) :: .ref a :: .int (iI sp) :: .ref a0 :: rest)) := by
  obtain ⟨⟨hx, hb, hml, hown, hts⟩, hK⟩ := C0
  obtain ⟨i, hi⟩ := va_pl_get (X := []) (f := F) ha0
  obtain ⟨j, hj⟩ := va_pl_get (X := []) (f := F) ha
  have hj0 := hj
  rw [hF0] at hi
  rw [hF] at hj
  have T1 : ∀ w : Cond, w ∈ Tt → w.before args s = true := fun w h => hts w (List.mem_cons_of_mem _ h)
  have z0 : ∀ v : Int, 0 ≤ v ∧ v ≤ 65536 → ¬ iI v < 0 := fun v hv => by rw [iI_0, iI_lt (by omega) (by omega)]; omega
  refine va_copyi hx hb (by rw [hl.1]; exact hml) hown (T1 _ hlink) (T1 _ w3_172) (T1 _ w3_171) (T1 _ iniJ10) hK.1 hP hD hS i j 4 4 hi hj rfl rfl rfl (z0 _ (by omega)) (z0 _ (by omega)) (z0 _ (by omega)) (by rw [iI_clamp (by omega), iI_clamp (by omega)]; omega) (by rw [iI_clamp (by omega), iI_clamp (by omega)]; omega) (fun q _ => hf _) hframes (Nat.le_trans (Nat.add_le_add_left (by decide) _) hlocals) hdg (fun H1 locs1 hP1 hD1 hS1 => ?_)
  have e := va_pl_set (X := []) (e := arrB y n1 (va_cpy f g (iI sp).toNatClampNeg (iI dp).toNatClampNeg (iI k).toNatClampNeg)) hD ha hj0
  simp only [List.nil_append] at e hP1 hD1
  rw [e] at hP1 hD1
  exact kk H1 locs1 _ (sb_fitC hf hg) hP1 hD1 hS1
theorem q_copyt (C0 : Cx D y p c cc nL s m args kw own) (hlink : Cond.methodLink own index arraycopyName ∈ Tt) {lv : List (Nat × Value)} (hl : lv_has ls nL lv) (hP : va_P D vwCl (va_pl L F) H) (hD : va_D A (va_pl L F)) (hS : va_S A s.heap H locs) {a0 n0 n1 : Nat} {f g : Nat → Int32} (hT : va_T .byte a0 n0 (fun j => .int (f j)) A s s.heap) (hf : ∀ j, j < n0 → fits .byte (.int (f j)) = true) (ha : a ∈ L) (hF : F a = arrB y n1 g) (hg : sb_Fit g) {dp : Int} (h2 : 0 ≤ dp) (h5 : dp + n0 ≤ n1) (h6 : n0 ≤ 65536 ∧ n1 ≤ 65536) (hframes : 1 ≤ R.frames) (hlocals : (rest.map fun v => v.category).sum + 32 ≤ R.locals) (hdg : decode cc pc = .ok (.invokestatic index, 3))
    (kk : ∀ (H1 : Heap) (locs1 : List Loc) (g2 : Nat → Int32), sb_Fit g2 → va_P D vwCl (va_pl L (va_up F a (arrB y n1 g2))) H1 → va_D A (va_pl L (va_up F a (arrB y n1 g2))) → va_S A s.heap H1 locs1 → W p l e R s m args below meth c H1 locs1 cells slots Q (F0 m (pc + 3) ls rest)) : W p l e R s m args below meth c H locs cells slots Q (F0 m pc ls (.int (iI (n0 : Int)) :: .int (iI dp) :: .ref a :: .int (iI 0) :: .ref a0 :: rest)) := by
  obtain ⟨⟨hx, hb, hml, hown, hts⟩, hK⟩ := C0
  obtain ⟨j, hj⟩ := va_pl_get (X := []) (f := F) ha
  have hj0 := hj
  rw [hF] at hj
  have T1 : ∀ w : Cond, w ∈ Tt → w.before args s = true := fun w h => hts w (List.mem_cons_of_mem _ h)
  have z0 : ∀ v : Int, 0 ≤ v ∧ v ≤ 65536 → ¬ iI v < 0 := fun v hv => by rw [iI_0, iI_lt (by omega) (by omega)]; omega
  have c0 : (iI 0).toNatClampNeg = 0 := by rw [iI_clamp (by omega)]; rfl
  have cn : (iI (n0 : Int)).toNatClampNeg = n0 := by rw [iI_clamp (by omega)]; omega
  refine vk_copyt hx hb (by rw [hl.1]; exact hml) hown (T1 _ hlink) (T1 _ w3_172) (T1 _ w3_171) (T1 _ iniJ10) hK.1 hP hD hS hT j 4 hj rfl (z0 _ (by omega)) (z0 _ (by omega)) (z0 _ (by omega)) (by rw [c0, cn]; omega) (by rw [iI_clamp (by omega), cn]; omega) (fun q hq => hf _ (by rw [cn] at hq; rw [c0]; omega)) hframes (Nat.le_trans (Nat.add_le_add_left (by decide) _) hlocals) hdg (fun H1 locs1 hP1 hD1 hS1 => ?_)
  rw [c0, cn] at hP1 hD1
  have fg : ∃ f2 : Nat → Int32, sb_Fit f2 ∧ va_cpy f2 g 0 (iI dp).toNatClampNeg n0 = va_cpy f g 0 (iI dp).toNatClampNeg n0 := by
    refine ⟨fun j => if j < n0 then f j else 0, fun j => ?_, ?_⟩
    · by_cases h : j < n0
      · show fits .byte (.int (if j < n0 then f j else 0)) = true
        rw [if_pos h]
        exact hf j h
      · show fits .byte (.int (if j < n0 then f j else 0)) = true
        rw [if_neg h]
        rfl
    · funext j
      by_cases h : (iI dp).toNatClampNeg ≤ j ∧ j < (iI dp).toNatClampNeg + n0
      · rw [pk_cpy_in h.1 h.2, pk_cpy_in h.1 h.2, if_pos (by omega)]
      · rw [pk_cpy_out (by omega), pk_cpy_out (by omega)]
  obtain ⟨f2, h7, h8⟩ := fg
  rw [← h8] at hP1 hD1
  have e := va_pl_set (X := []) (e := arrB y n1 (va_cpy f2 g 0 (iI dp).toNatClampNeg n0)) hD ha hj0
  simp only [List.nil_append] at e hP1 hD1
  rw [e] at hP1 hD1
  exact kk H1 locs1 _ (sb_fitC h7 hg) hP1 hD1 hS1
theorem q_cloneb (C0 : Cx D y p c cc nL s m args kw own) (hJ : JW sl A s s.heap) (hlink : Cond.methodLink own index ⟨"[B", "clone", "()Ljava/lang/Object;"⟩ ∈ Tt) {lv : List (Nat × Value)} (hl : lv_has ls nL lv) (hP : va_P D vwCl (va_pl L F) H) (hD : va_D A (va_pl L F)) (hS : va_S A s.heap H locs) (hA : ∀ q, s.heap.size ≤ q → A q) {n : Nat} {f : Nat → Int32} (ha : a ∈ L) (hF : F a = arrB y n f) (hf : sb_Fit f) (hframes : 1 ≤ R.frames) (hlocals : (rest.map fun v => v.category).sum + 14 ≤ R.locals) (hcells : cells + 1 ≤ R.cells) (hslots : slots + n ≤ R.slots) (hdg : decode cc pc = .ok (.invokevirtual index, 3))
    (kk : ∀ (q : Nat) (H1 : Heap), q ∉ L → va_P D vwCl (va_pl (L ++ [q]) (va_up F q (arrB y n f))) H1 → va_D A (va_pl (L ++ [q]) (va_up F q (arrB y n f))) → va_S A s.heap H1 locs → W p l e R s m args below meth c H1 locs (cells + 1) (slots + n) Q (F0 m (pc + 3) ls (.ref q :: rest))) : W p l e R s m args below meth c H locs cells slots Q (F0 m pc ls (.ref a :: rest)) := by
  obtain ⟨⟨hx, hb, hml, hown, hts⟩, hK⟩ := C0
  obtain ⟨j, hj⟩ := va_pl_get (X := []) (f := F) ha
  rw [hF] at hj
  have T1 : ∀ w : Cond, w ∈ Tt → w.before args s = true := fun w h => hts w (List.mem_cons_of_mem _ h)
  refine va_clone hx hb (by rw [hl.1]; exact hml) hown (T1 _ hlink) (T1 _ w3_163) (T1 _ w3_164) (T1 _ w3_165) (T1 _ w3_166) hJ.2.2.2.2.2.1 hK.1 hP hD hS hA j 4 hj rfl (hK.1.2 4 _ rfl).2 (fun i v h => ?_) hframes hlocals hcells hslots hdg (fun q H1 hK1 hP1 hD1 hS1 => ?_)
  · have h2 : (arrV (y 4) n (fun j => Value.int (f j))).slots[i]? = some v := h
    have hlt : i < n := by
      have := (Array.getElem?_eq_some_iff.mp h2).1
      rw [arrV_size] at this
      exact this
    rw [arrV_read _ _ hlt] at h2
    cases h2
    exact hf i
  · have hq : q ∉ L := pl_notin hD1
    rw [va_pl_push hq] at hP1 hD1
    exact kk q H1 hq hP1 hD1 hS1
theorem q_castB (C0 : Cx D y p c cc nL s m args kw own) (hlink : Cond.classLink own index "[B" ∈ Tt) (hP : va_P D vwCl (va_pl L F) H) {n : Nat} {f : Nat → Int32} (ha : a ∈ L) (hF : F a = arrB y n f) (hdg : decode cc pc = .ok (.checkcast index, 3)) (kk : W p l e R s m args below meth c H locs cells slots Q (F0 m (pc + 3) ls (.ref a :: rest))) : W p l e R s m args below meth c H locs cells slots Q (F0 m pc ls (.ref a :: rest)) := by
  obtain ⟨j, hj⟩ := va_pl_get (X := []) (f := F) ha
  rw [hF] at hj
  exact va_castA C0.1.1 C0.1.2.1 C0.1.2.2.2.1 (C0.1.2.2.2.2 _ (List.mem_cons_of_mem _ hlink)) hP j hj (C0.2.1.2 4 _ rfl).2 hdg kk
theorem q_ldcS (C0 : Cx D y p c cc nL s m args kw own) {index q : Nat} {tx : String} (hZ : vk_R own index tx q s) (hdg : decode cc pc = .ok (.ldc index, 2)) (kk : W p l e R s m args below meth c H locs cells slots Q (F0 m (pc + 2) ls (.ref q :: rest))) : W p l e R s m args below meth c H locs cells slots Q (F0 m pc ls rest) := va_ldcS C0.1.1 C0.1.2.1 C0.1.2.2.2.1 hZ hdg kk
theorem q_i2b (hx : p.tables.exec = Jvm.exec) (hb : c.code = cc) {v : Int32} (hdg : decode cc pc = .ok (.i2b, 1)) (kk : W p l e R s m args below meth c H locs cells slots Q (F0 m (pc + 1) ls (.int v.toInt8.toInt32 :: rest))) : W p l e R s m args below meth c H locs cells slots Q (F0 m pc ls (.int v :: rest)) := lv_i2b hx hb hdg rfl kk
end QJ
theorem q_ofXJ {l : Launch} {yy : MethodName} {bytes : ByteArray} {maxL : Nat} {ret : Option FieldType} {rm : Room} {D : va_G} {sl : List (Nat × Nat × Nat)} {y : Nat → ClassId} {L : List Nat} {F : Nat → va_E} {sz : Nat} {av : List Value} {Qc : Array Value → State → Outcome → State → Prop} {XX : String → State → State → Prop} {mc ms : Nat} {free : Addr → Prop} {lv : List (Nat × Value)} (hy : plainName yy.cls = true) (hlen : (lg_sl av).length ≤ maxL) (hlv : lv_args 0 av = lv)
    (body : ∀ (p : Program) (e : Env) (s : State) (m : MethodId) (below : List Frame) (meth : Method) (c : Code), Cx D y p c bytes maxL s m av.toArray (.code yy bytes maxL ret) yy.cls → meth.sig.returnType = ret → meth.locks = false → (∀ x ∈ c.exceptionTable.toList, False) → s.heap.size = sz → (∀ q, s.heap.size ≤ q → AL L sz q) → va_P D vwCl (va_pl L F) s.heap → va_D (AL L sz) (va_pl L F) → va_S (AL L sz) s.heap s.heap [] → XS L s s.heap → JW sl (AL L sz) s s.heap → ∀ ls : Array Slot, lv_has ls maxL lv → W p l e rm s m av.toArray below meth c s.heap [] 0 0 (vx_MQ below Qc XX av.toArray s mc ms free) (F0 m 0 ls [])) : vx_Met l yy (.code yy bytes maxL ret :: Tt) rm (PcXJ D y sl L F sz av) Qc XX mc ms free := by
  refine vx_ofW (cc := bytes) (maxL := maxL) (ret := ret) hy rfl ?_
  intro p e s m args below meth c s₁ B hml hout hv
  obtain ⟨rfl, hsz, hK, hP, hD, hX, hJ⟩ := hv
  have hown : s.vm.findClass yy.cls = some m.cls := findClass_of_methodNamed B.named
  have hl := lv_entry av (n := maxL) hlen
  rw [hlv] at hl
  rw [lg_entry_eq]
  exact body p e s m below meth c ⟨⟨B.exec, B.bytes, hml, hown, atoms_spec (ws := .code yy bytes maxL ret :: Tt) B.pre⟩, hK⟩ B.returns B.notSynchronized hout hsz (fun q h => Or.inr (by rw [← hsz]; exact h)) hP (va_D_AL hD) va_S.rf hX hJ _ hl
/-- the start of a method of the JDK -/
theorem q_ofJ {l : Launch} {yy : MethodName} {bytes : ByteArray} {maxL : Nat} {ret : Option FieldType} {rm : Room} {D : va_G} {sl : List (Nat × Nat × Nat)} {y : Nat → ClassId} {L : List Nat} {F : Nat → va_E} {sz : Nat} {av : List Value} {Qc : Array Value → State → Outcome → State → Prop} {mc ms : Nat} {lv : List (Nat × Value)} (hy : plainName yy.cls = true) (hlen : (lg_sl av).length ≤ maxL) (hlv : lv_args 0 av = lv)
    (body : ∀ (p : Program) (e : Env) (s : State) (m : MethodId) (below : List Frame) (meth : Method) (c : Code), Cx D y p c bytes maxL s m av.toArray (.code yy bytes maxL ret) yy.cls → meth.sig.returnType = ret → meth.locks = false → meth.name = yy.name → (∀ q, s.heap.size ≤ q → AL L sz q) → va_P D vwCl (va_pl L F) s.heap → va_D (AL L sz) (va_pl L F) → va_S (AL L sz) s.heap s.heap [] → JW sl (AL L sz) s s.heap → ∀ ls : Array Slot, lv_has ls maxL lv → W p l e rm s m av.toArray below meth c s.heap [] 0 0 (MQ below Qc av.toArray s mc ms (AL L sz)) (F0 m 0 ls [])) : Met l yy (.code yy bytes maxL ret :: Tt) rm (PcJ D y sl L F sz av) Qc mc ms (AL L sz) := by
  refine Met.ofW (cc := bytes) (maxL := maxL) (ret := ret) hy rfl ?_
  intro p e s m args below meth c s₁ B hml hv
  obtain ⟨rfl, hsz, hK, hP, hD, hJ⟩ := hv
  have hown : s.vm.findClass yy.cls = some m.cls := findClass_of_methodNamed B.named
  have hl := lv_entry av (n := maxL) hlen
  rw [hlv] at hl
  rw [lg_entry_eq]
  exact body p e s m below meth c ⟨⟨B.exec, B.bytes, hml, hown, atoms_spec (ws := .code yy bytes maxL ret :: Tt) B.pre⟩, hK⟩ B.returns B.notSynchronized (name_of_methodNamed B.named B.method).1 (fun q h => Or.inr (by rw [← hsz]; exact h)) hP (va_D_AL hD) va_S.rf hJ _ hl
