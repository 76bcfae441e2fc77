-- the law's entry: what of the start is wanted, out of the statement's own words
theorem st_arr {args : Array Value} {s : State} (h : (Cond.arrayClass .int).before args s = true) : ∃ c : ClassId, ArrOfT s c .int ∧ va_RA s c .int := by
  obtain ⟨c, k, comp, h1, h2, h3⟩ := Cond.arrayClass_spec h
  exact ⟨c, fun N z => ⟨(fun k h => by cases h), k, h2, comp, h3⟩, h1⟩
theorem st_arb {args : Array Value} {s : State} (h : (Cond.arrayClass .byte).before args s = true) : ∃ c : ClassId, ArrOfT s c .byte ∧ va_RA s c .byte := by
  obtain ⟨c, k, comp, h1, h2, h3⟩ := Cond.arrayClass_spec h
  exact ⟨c, fun N z => ⟨(fun k h => by cases h), k, h2, comp, h3⟩, h1⟩
theorem st_ob {s : State} {C : String} (h : va_AO C s) : ∃ c : ClassId, ArrOfT s c (.object C) ∧ va_RA s c (.object C) := by
  obtain ⟨comp, c, k, h1, h2, h3, h4, h5⟩ := Cond.arrayOver_spec h
  exact ⟨c, fun N z => ⟨(fun k h => by cases h), k, h3, comp, h4⟩, k, comp, h3, h4, h1, h5⟩
theorem st_sel {C : String} {n : Nat} {y x9 y9 : MethodName} {args : Array Value} {s : State} (hy : y.cls ≠ "java/lang/invoke/MethodHandle" ∧ y.cls ≠ "java/lang/invoke/VarHandle") (hins : (Cond.instantiable C n).before args s = true) (hpriv : (Cond.privateMethod y).before args s = true) (hinst : (Cond.instanceMethod y).before args s = true) (h9 : (Cond.selects C x9 y9).before args s = true) (hc9 : y9.cls = y.cls) : (Cond.selects C y y).before args s = true := by
  obtain ⟨c, k, hc, hk, -, hniab, -, -⟩ := Cond.instantiable_spec hins
  obtain ⟨mk, methM, hnamed, hmethM, -, -⟩ := Cond.instanceMethod_spec hinst
  have hfound : s.methodFound? y.cls y.name y.desc = some mk := State.methodFound?_of_named hnamed hy
  have hsel : selectMethod {} s.vm c mk = .method mk := selectMethod_private hmethM (Cond.privateMethod_at hpriv mk methM hnamed hmethM)
  obtain ⟨c9, r9, m9, q1, q2, q3, q4, k9, hk9, hi9⟩ := Cond.selects_spec h9
  have e1 := findClass_of_methodNamed q3
  rw [hc9, findClass_of_methodNamed hnamed] at e1
  have e3 : mk.cls = m9.cls := Option.some.inj e1
  simp only [Cond.before, Cond.holds, Cond.value, hc, hfound, hnamed, hsel, e3, hk9]
  simp; exact hi9
theorem st_str {own tx : String} {k : Nat} {args : Array Value} {s : State} (h1 : (Cond.stringRef own k tx).before args s = true) (h2 : (Cond.exactly (.string own k) "java/lang/String").before args s = true) : ∃ a : Nat, vk_R own k tx a s := by
  obtain ⟨a, c, cA, kA, q1, -⟩ := Cond.exactly_spec (args := args) (first := s) (o := none) (s := s) (idx := []) (t := .string own k) (cls := "java/lang/String") h2
  exact ⟨a, vk_R.of h1 q1⟩
theorem st_js {own tx : String} {k N : Nat} {f : Nat → Int32} {args : Array Value} {s : State} {A : Nat → Prop} (h1 : (Cond.stringRef own k tx).before args s = true) (hex : (Cond.exactly (.string own k) "java/lang/String").before args s = true) (hco : (Cond.eq (.field (.string own k) "java/lang/String" "coder" "B") (.int 0)).before args s = true) (har : (Cond.arrayOf (.field (.string own k) "java/lang/String" "value" "[B") .byte).before args s = true) (hle : (Cond.eq (.length (.field (.string own k) "java/lang/String" "value" "[B")) (.int (Int32.ofNat N))).before args s = true) (hel : ∀ j : Nat, j < N → (Cond.eq (.elem (.field (.string own k) "java/lang/String" "value" "[B") (.int (Int32.ofNat j))) (.int (f j))).before args s = true) (hN : N ≤ 2) (hf : ∀ j, j < N → fits .byte (.int (f j)) = true) (hA : ∀ a : Nat, a < s.heap.size → ¬ A a) : ∃ q : Nat × Nat × Nat, JStr q A s s.heap ∧ vk_R own k tx q.1 s ∧ q.2.2 ≤ 2 := by
  obtain ⟨a, c, cA, kA, q1, q2, q3, q4, q5, q6, -⟩ := Cond.exactly_spec (args := args) (first := s) (o := none) (s := s) (idx := []) (t := .string own k) (cls := "java/lang/String") hex
  obtain ⟨t, ht, hT⟩ := va_Tof (f := fun j => .int (f j)) (A := A) (N := N) (by omega) har (va_eqt hle) (fun j hj => va_eqt (hel j hj)) hA
  have e0 : (iI 0) = (0 : Int32) := by decide
  exact ⟨(a, t, N), ⟨⟨cA, q3, q5, by rw [q6]; exact q2, hA a (Array.getElem?_eq_some_iff.mp q3).1⟩, by rw [e0]; exact vk_OFof q1 (va_eqt hco) hA, vk_OFof q1 ht hA, ⟨f, hT, hf⟩, by show N ≤ 1000; omega⟩, vk_R.of h1 q1, hN⟩
theorem st_dg {n : String} {f : Nat → Int32} {args : Array Value} {s : State} {A : Nat → Prop} (hl : (Cond.laysStatic "java/lang/Integer" n "[B").before args s = true) (hini : (Cond.initialized "java/lang/Integer").before args s = true) (har : (Cond.arrayOf (.static "java/lang/Integer" n "[B") .byte).before args s = true) (hle : (Cond.eq (.length (.static "java/lang/Integer" n "[B")) (.int (Int32.ofNat 100))).before args s = true) (hel : ∀ j : Nat, j < 100 → (Cond.eq (.elem (.static "java/lang/Integer" n "[B") (.int (Int32.ofNat j))) (.int (f j))).before args s = true) (hA : ∀ a : Nat, a < s.heap.size → ¬ A a) : JDg n A s s.heap := by
  obtain ⟨t, ht, hT⟩ := va_Tof (f := fun j => .int (f j)) (A := A) (N := 100) (by omega) har (va_eqt hle) (fun j hj => va_eqt (hel j hj)) hA
  exact ⟨t, f, va_Zof hl hini ht hA, hT⟩
theorem st_at {w : Cond} {i : Nat} (h : (flatC (Jvm.Cond.and given_1 narrow_1))[i]? = some w) : w ∈ flatC (Jvm.Cond.and given_1 narrow_1) := List.mem_of_getElem? h
theorem st_in1 {w : Cond} {i : Nat} (h : tables_1_1[i]? = some w) : w ∈ lw_tbl := List.mem_append_right _ (List.mem_append_left _ (List.mem_of_getElem? h))
theorem st_in2 {w : Cond} {i : Nat} (h : tables_1_2[i]? = some w) : w ∈ lw_tbl := List.mem_append_right _ (List.mem_append_right _ (List.mem_append_left _ (List.mem_of_getElem? h)))
theorem st_in3 {w : Cond} {i : Nat} (h : tables_1_3[i]? = some w) : w ∈ lw_tbl := List.mem_append_right _ (List.mem_append_right _ (List.mem_append_right _ (List.mem_append_left _ (List.mem_of_getElem? h))))
theorem st_in4 {w : Cond} {i : Nat} (h : tables_1_4[i]? = some w) : w ∈ lw_tbl := List.mem_append_right _ (List.mem_append_right _ (List.mem_append_right _ (List.mem_append_right _ (List.mem_append_left _ (List.mem_of_getElem? h)))))
theorem st_in5 {w : Cond} {i : Nat} (h : tables_1_5[i]? = some w) : w ∈ lw_tbl := List.mem_append_right _ (List.mem_append_right _ (List.mem_append_right _ (List.mem_append_right _ (List.mem_append_right _ (List.mem_append_left _ (List.mem_of_getElem? h))))))
theorem st_in6 {w : Cond} {i : Nat} (h : tables_1_6[i]? = some w) : w ∈ lw_tbl := List.mem_append_right _ (List.mem_append_right _ (List.mem_append_right _ (List.mem_append_right _ (List.mem_append_right _ (List.mem_append_right _ (List.mem_of_getElem? h))))))
set_option maxRecDepth 200000 in
theorem st_DigitOnes0 : ((flatC (Jvm.Cond.and given_1 narrow_1)).drop 14).take 100 = (List.range 100).map (fun j => Cond.eq (.elem (.static "java/lang/Integer" "DigitOnes" "[B") (.int (Int32.ofNat j))) (.int (Int32.ofNat (48 + j % 10)))) := by decide +kernel
theorem st_DigitOnes : ∀ j : Nat, j < 100 → Cond.eq (.elem (.static "java/lang/Integer" "DigitOnes" "[B") (.int (Int32.ofNat j))) (.int (Int32.ofNat (48 + j % 10))) ∈ flatC (Jvm.Cond.and given_1 narrow_1) := fun j hj => List.mem_of_mem_drop (List.mem_of_mem_take (st_DigitOnes0 ▸ List.mem_map.mpr ⟨j, List.mem_range.mpr hj, rfl⟩))
set_option maxRecDepth 200000 in
theorem st_DigitTens0 : ((flatC (Jvm.Cond.and given_1 narrow_1)).drop 117).take 100 = (List.range 100).map (fun j => Cond.eq (.elem (.static "java/lang/Integer" "DigitTens" "[B") (.int (Int32.ofNat j))) (.int (Int32.ofNat (48 + j / 10)))) := by decide +kernel
theorem st_DigitTens : ∀ j : Nat, j < 100 → Cond.eq (.elem (.static "java/lang/Integer" "DigitTens" "[B") (.int (Int32.ofNat j))) (.int (Int32.ofNat (48 + j / 10))) ∈ flatC (Jvm.Cond.and given_1 narrow_1) := fun j hj => List.mem_of_mem_drop (List.mem_of_mem_take (st_DigitTens0 ▸ List.mem_map.mpr ⟨j, List.mem_range.mpr hj, rfl⟩))
set_option maxHeartbeats 8000000 in
set_option maxRecDepth 200000 in
theorem whole_lx {p : Program} {s : State} {m : MethodId} {meth : Method} {c : Code} {b N : Nat} {xs : Nat → Int32} (hN : N ≤ 448) (C0 : lw_At p s m meth c b N xs) : ∃ (D : va_G) (y : Nat → ClassId) (sl : List (Nat × Nat × Nat)), LX D y sl p c s m b N xs := by
  obtain ⟨hx, hb, hr, hml, hown, hts, hX, hbl, hlk, hgv⟩ := C0
  have hs := flat_of_before _ hgv
  have hA : ∀ a : Nat, a < s.heap.size → ¬ AL [] s.heap.size a := fun a h => AL_nil h
  have hTt : ∀ w ∈ Tt, w.before #[Value.ref b] s = true := fun w h => hts w (List.mem_filter.mp h).1
  obtain ⟨c0, i0, hK0⟩ := u_known (C := RJ0) (T := TJ0) (N := 4) hTt iJ0 (hTt _ insJ0)
  obtain ⟨c1, i1, hK1⟩ := u_known (C := RJ4) (T := TJ4) (N := 4) hTt iJ4 (hTt _ insJ4)
  obtain ⟨c2, i2, hK2⟩ := u_known (C := RX0) (T := TX0) (N := 4) hTt iX0 (hTt _ insX0)
  obtain ⟨c3, i3, hK3⟩ := u_known (C := RX1) (T := TX1) (N := 3) hTt iX1 (hTt _ insX1)
  obtain ⟨c4, i4, hK4⟩ := u_known (C := RX2) (T := TX2) (N := 4) hTt iX2 (hTt _ insX2)
  obtain ⟨c5, i5, hK5⟩ := u_known (C := RX3) (T := TX3) (N := 8) hTt iX3 (hTt _ insX3)
  obtain ⟨c6, i6, hK6⟩ := u_known (C := RX4) (T := TX4) (N := 2) hTt iX4 (hTt _ insX4)
  obtain ⟨c7, i7, hK7⟩ := u_known (C := RX5) (T := TX5) (N := 2) hTt iX5 (hTt _ insX5)
  obtain ⟨c8, i8, hK8⟩ := u_known (C := RX6) (T := TX6) (N := 11) hTt iX6 (hTt _ insX6)
  have hR : va_AO "Bookgrafter$Row" s := va_AO.of (hts _ (st_in1 (i := 34) rfl))
  have hV : va_AO "Bookgrafter$View" s := va_AO.of (hts _ (st_in1 (i := 61) rfl))
  have hB : va_AO "BookgrafterModel$Book" s := va_AO.of (hts _ (st_in5 (i := 90) rfl))
  obtain ⟨a0, ha0⟩ := st_arr (hTt _ aCint)
  obtain ⟨a1, ha1⟩ := st_ob hR
  obtain ⟨a2, ha2⟩ := st_ob hV
  obtain ⟨a3, ha3⟩ := st_ob hB
  obtain ⟨a4, ha4⟩ := st_arb (hTt _ aCbyte)
  have hKK : va_K ((fun k => if k = 0 then c0 else if k = 1 then c1 else if k = 2 then c2 else if k = 3 then c3 else if k = 4 then c4 else if k = 5 then c5 else if k = 6 then c6 else if k = 7 then c7 else c8), (fun k => if k = 0 then i0 else if k = 1 then i1 else if k = 2 then i2 else if k = 3 then i3 else if k = 4 then i4 else if k = 5 then i5 else if k = 6 then i6 else if k = 7 then i7 else i8)) vwCl (tysG (fun k => if k = 0 then a0 else if k = 1 then a1 else if k = 2 then a2 else if k = 3 then a3 else a4)) s := by
    constructor
    · intro k q hq
      rcases (show k = 0 ∨ k = 1 ∨ k = 2 ∨ k = 3 ∨ k = 4 ∨ k = 5 ∨ k = 6 ∨ k = 7 ∨ k = 8 ∨ 9 ≤ k by omega) with rfl | rfl | rfl | rfl | rfl | rfl | rfl | rfl | rfl | h9
      · cases hq; exact hK0
      · cases hq; exact hK1
      · cases hq; exact hK2
      · cases hq; exact hK3
      · cases hq; exact hK4
      · cases hq; exact hK5
      · cases hq; exact hK6
      · cases hq; exact hK7
      · cases hq; exact hK8
      · rw [List.getElem?_eq_none (by exact h9)] at hq; cases hq
    · intro k q hq
      rcases (show k = 0 ∨ k = 1 ∨ k = 2 ∨ k = 3 ∨ k = 4 ∨ 5 ≤ k by omega) with rfl | rfl | rfl | rfl | rfl | h9
      · cases hq; exact ha0
      · cases hq; exact ha1
      · cases hq; exact ha2
      · cases hq; exact ha3
      · cases hq; exact ha4
      · rw [List.getElem?_eq_none (by exact h9)] at hq; cases hq
  have hKS : KS s := by
    intro q hq
    unfold strL at hq
    simp only [List.mem_cons, List.not_mem_nil, or_false] at hq
    rcases hq with rfl | rfl | rfl | rfl | rfl | rfl | rfl | rfl | rfl | rfl | rfl | rfl
    · exact st_str (hts _ (st_in2 (i := 127) rfl)) (hs _ (st_at (i := 270) (by decide +kernel)))
    · exact st_str (hts _ (st_in4 (i := 236) rfl)) (hs _ (st_at (i := 388) (by decide +kernel)))
    · exact st_str (hts _ (st_in4 (i := 145) rfl)) (hs _ (st_at (i := 366) (by decide +kernel)))
    · exact st_str (hts _ (st_in2 (i := 166) rfl)) (hs _ (st_at (i := 287) (by decide +kernel)))
    · exact st_str (hts _ (st_in2 (i := 193) rfl)) (hs _ (st_at (i := 317) (by decide +kernel)))
    · exact st_str (hts _ (st_in2 (i := 224) rfl)) (hs _ (st_at (i := 329) (by decide +kernel)))
    · exact st_str (hts _ (st_in3 (i := 226) rfl)) (hs _ (st_at (i := 344) (by decide +kernel)))
    · exact st_str (hts _ (st_in6 (i := 60) rfl)) (hs _ (st_at (i := 424) (by decide +kernel)))
    · exact st_str (hts _ (st_in6 (i := 73) rfl)) (hs _ (st_at (i := 438) (by decide +kernel)))
    · exact st_str (hts _ (st_in6 (i := 76) rfl)) (hs _ (st_at (i := 454) (by decide +kernel)))
    · exact st_str (hts _ (st_in6 (i := 77) rfl)) (hs _ (st_at (i := 470) (by decide +kernel)))
    · exact st_str (hts _ (st_in6 (i := 58) rfl)) (hs _ (st_at (i := 412) (by decide +kernel)))
  obtain ⟨s0, hs0, hv0, hn0⟩ := st_js (own := "Bookgrafter") (k := 155) (tx := ", ") (N := 2) (f := (fun j => if j = 0 then 44 else 32)) (A := AL [] s.heap.size) (hts _ (st_in3 (i := 226) rfl)) (hs _ (st_at (i := 344) (by decide +kernel))) (hs _ (st_at (i := 345) (by decide +kernel))) (hs _ (st_at (i := 346) (by decide +kernel))) (hs _ (st_at (i := 347) (by decide +kernel))) (fun j hj => by rcases (show j = 0 ∨ j = 1 by omega) with rfl | rfl <;> first | exact (hs _ (st_at (i := 348) (by decide +kernel))) | exact (hs _ (st_at (i := 349) (by decide +kernel)))) (by omega) (fun j hj => by rcases (show j = 0 ∨ j = 1 by omega) with rfl | rfl <;> decide) hA
  obtain ⟨s1, hs1, hv1, hn1⟩ := st_js (own := "BookgrafterModel") (k := 139) (tx := "{") (N := 1) (f := (fun j => 123)) (A := AL [] s.heap.size) (hts _ (st_in6 (i := 60) rfl)) (hs _ (st_at (i := 424) (by decide +kernel))) (hs _ (st_at (i := 425) (by decide +kernel))) (hs _ (st_at (i := 426) (by decide +kernel))) (hs _ (st_at (i := 427) (by decide +kernel))) (fun j hj => by rcases (show j = 0 by omega) with rfl; exact (hs _ (st_at (i := 428) (by decide +kernel)))) (by omega) (fun j hj => by rcases (show j = 0 by omega) with rfl <;> decide) hA
  obtain ⟨s2, hs2, hv2, hn2⟩ := st_js (own := "BookgrafterModel") (k := 147) (tx := ", ") (N := 2) (f := (fun j => if j = 0 then 44 else 32)) (A := AL [] s.heap.size) (hts _ (st_in6 (i := 73) rfl)) (hs _ (st_at (i := 438) (by decide +kernel))) (hs _ (st_at (i := 439) (by decide +kernel))) (hs _ (st_at (i := 440) (by decide +kernel))) (hs _ (st_at (i := 441) (by decide +kernel))) (fun j hj => by rcases (show j = 0 ∨ j = 1 by omega) with rfl | rfl <;> first | exact (hs _ (st_at (i := 442) (by decide +kernel))) | exact (hs _ (st_at (i := 443) (by decide +kernel)))) (by omega) (fun j hj => by rcases (show j = 0 ∨ j = 1 by omega) with rfl | rfl <;> decide) hA
  obtain ⟨s3, hs3, hv3, hn3⟩ := st_js (own := "BookgrafterModel") (k := 156) (tx := "=") (N := 1) (f := (fun j => 61)) (A := AL [] s.heap.size) (hts _ (st_in6 (i := 76) rfl)) (hs _ (st_at (i := 454) (by decide +kernel))) (hs _ (st_at (i := 455) (by decide +kernel))) (hs _ (st_at (i := 456) (by decide +kernel))) (hs _ (st_at (i := 457) (by decide +kernel))) (fun j hj => by rcases (show j = 0 by omega) with rfl; exact (hs _ (st_at (i := 458) (by decide +kernel)))) (by omega) (fun j hj => by rcases (show j = 0 by omega) with rfl <;> decide) hA
  obtain ⟨s4, hs4, hv4, hn4⟩ := st_js (own := "BookgrafterModel") (k := 158) (tx := "}") (N := 1) (f := (fun j => 125)) (A := AL [] s.heap.size) (hts _ (st_in6 (i := 77) rfl)) (hs _ (st_at (i := 470) (by decide +kernel))) (hs _ (st_at (i := 471) (by decide +kernel))) (hs _ (st_at (i := 472) (by decide +kernel))) (hs _ (st_at (i := 473) (by decide +kernel))) (fun j hj => by rcases (show j = 0 by omega) with rfl; exact (hs _ (st_at (i := 474) (by decide +kernel)))) (by omega) (fun j hj => by rcases (show j = 0 by omega) with rfl <;> decide) hA
  have hCS : va_Z "java/lang/String" "COMPACT_STRINGS" "Z" (.int (iI 1)) (AL [] s.heap.size) s s.heap := by
    rw [show (iI 1) = (1 : Int32) from by decide]
    exact va_Zof (hts _ (st_in3 (i := 114) rfl)) (hTt _ iniJ0) (va_eqt (hs _ (st_at (i := 6) (by decide +kernel)))) hA
  have hDigitOnes : JDg "DigitOnes" (AL [] s.heap.size) s s.heap := st_dg (f := fun j => Int32.ofNat (48 + j % 10)) (hts _ (st_in4 (i := 48) rfl)) (hts _ (st_in1 (i := 24) rfl)) (hs _ (st_at (i := 12) (by decide +kernel))) (hs _ (st_at (i := 13) (by decide +kernel))) (fun j hj => hs _ (st_DigitOnes j hj)) hA
  have hDigitTens : JDg "DigitTens" (AL [] s.heap.size) s s.heap := st_dg (f := fun j => Int32.ofNat (48 + j / 10)) (hts _ (st_in4 (i := 50) rfl)) (hts _ (st_in1 (i := 24) rfl)) (hs _ (st_at (i := 115) (by decide +kernel))) (hs _ (st_at (i := 116) (by decide +kernel))) (fun j hj => hs _ (st_DigitTens j hj)) hA
  have hsl : ∀ w ∈ jsel, va_Nw w s := by
    intro w hw
    unfold jsel at hw
    simp only [List.mem_cons, List.not_mem_nil, or_false] at hw
    rcases hw with rfl | rfl | rfl | rfl
    · exact va_Nw.of rfl (st_sel (y := yJ5_ensureCapacityInternal_d00df) (by decide +kernel) (hTt _ insJ4) (hts _ (st_in3 (i := 143) rfl)) (hts _ (st_in3 (i := 144) rfl)) (hTt _ w3_176) rfl)
    · exact va_Nw.of rfl (st_sel (y := yJ5_newCapacity_0f7a4) (by decide +kernel) (hTt _ insJ4) (hts _ (st_in3 (i := 147) rfl)) (hts _ (st_in3 (i := 148) rfl)) (hTt _ w3_176) rfl)
    · exact va_Nw.of rfl (st_sel (y := yJ5_putStringAt_47b60) (by decide +kernel) (hTt _ insJ4) (hts _ (st_in4 (i := 20) rfl)) (hts _ (st_in4 (i := 21) rfl)) (hTt _ w3_176) rfl)
    · exact va_Nw.of rfl (st_sel (y := yJ5_inflateIfNeededFor_a7421) (by decide +kernel) (hTt _ insJ4) (hts _ (st_in4 (i := 24) rfl)) (hts _ (st_in4 (i := 25) rfl)) (hTt _ w3_176) rfl)
  have hJ : JW [s0, s1, s2, s3, s4] (AL [] s.heap.size) s s.heap := by
    refine ⟨hCS, hDigitOnes, hDigitTens, ?_, hsl, va_Nw.of rfl (hts _ (st_in3 (i := 167) rfl)), ?_⟩
    · intro q hq
      simp only [List.mem_cons, List.not_mem_nil, or_false] at hq
      rcases hq with rfl | rfl | rfl | rfl | rfl
      · exact hs0
      · exact hs1
      · exact hs2
      · exact hs3
      · exact hs4
    · intro z hz
      unfold jstr at hz
      simp only [List.mem_cons, List.not_mem_nil, or_false] at hz
      rcases hz with rfl | rfl | rfl | rfl | rfl
      · exact ⟨s0, by simp, hv0, hn0⟩
      · exact ⟨s1, by simp, hv1, hn1⟩
      · exact ⟨s2, by simp, hv2, hn2⟩
      · exact ⟨s3, by simp, hv3, hn3⟩
      · exact ⟨s4, by simp, hv4, hn4⟩
  have hC : Cx ((fun k => if k = 0 then c0 else if k = 1 then c1 else if k = 2 then c2 else if k = 3 then c3 else if k = 4 then c4 else if k = 5 then c5 else if k = 6 then c6 else if k = 7 then c7 else c8), (fun k => if k = 0 then i0 else if k = 1 then i1 else if k = 2 then i2 else if k = 3 then i3 else if k = 4 then i4 else if k = 5 then i5 else if k = 6 then i6 else if k = 7 then i7 else i8)) (fun k => if k = 0 then a0 else if k = 1 then a1 else if k = 2 then a2 else if k = 3 then a3 else a4) p c cL_law 7 s m #[.ref b] (.initialized RX3) RL := ⟨⟨hx, hb, hml, hown, fun w hw => (List.mem_cons.mp hw).elim (fun e => by rw [e]; exact hTt _ iniX3) (hTt w)⟩, hKK, hR, hV, hB, va_Nw.of rfl (hts _ (st_in1 (i := 82) rfl)), va_Nw.of rfl (hts _ (st_in5 (i := 99) rfl)), va_Nw.of rfl (hts _ (st_in5 (i := 97) rfl)), va_Nw.of rfl (hts _ (st_in2 (i := 63) rfl)), va_Nw.of rfl (hts _ (st_in2 (i := 67) rfl)), va_Nw.of rfl (hts _ (st_in2 (i := 68) rfl)), va_Nw.of rfl (hts _ (st_in2 (i := 89) rfl)), va_Nw.of rfl (hts _ (st_in2 (i := 159) rfl)), hKS, va_Nw.of rfl (hts _ (st_in2 (i := 91) rfl)), va_Nw.of rfl (hts _ (st_in2 (i := 93) rfl)), va_Nw.of rfl (hts _ (st_in2 (i := 95) rfl))⟩
  have hXS : XS0 s := ⟨vx_Zqof (hts _ (st_in2 (i := 114) rfl)) (hts _ (st_in1 (i := 9) rfl)) (hs _ (st_at (i := 4) (by decide +kernel))) hA, vx_Zqof (hts _ (st_in2 (i := 116) rfl)) (hts _ (st_in1 (i := 9) rfl)) (hs _ (st_at (i := 5) (by decide +kernel))) hA⟩
  exact ⟨_, _, _, hC, hJ, va_Nc.of (hs _ (st_at (i := 224) (by decide +kernel))), hXS, hX, hbl, hN⟩
