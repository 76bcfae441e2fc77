set_option maxHeartbeats 1600000 in
set_option maxRecDepth 100000 in
theorem law_begin {p : Program} {l : Launch} {e : Env} {s : State} {m : MethodId} {below : List Frame} {meth : Method} {c : Code} {b N : Nat} {xs : Nat → Int32} {D : va_G} {y : Nat → ClassId} {sl : List (Nat × Nat × Nat)} (hfl : l.stackTraces = false) (hr : meth.sig.returnType = ret) (hlk : meth.locks = false) {IV : Int → CS → MS → Prop} (hpres : Pres IV) (h0 : IV 0 kS_init jS_init) (X : LX D y sl p c s m b N xs) (ls : Array Slot) (hl : lv_has ls 7 [(0, .ref b)]) : W p l e room_1 s m #[.ref b] below meth c s.heap [] 0 0 (lw_Z below #[Value.ref b] s) (F0 m 0 ls []) := by
  have X0 := X
  obtain ⟨C0, hJ, hN, hXS, hXs, hbl, hN4⟩ := X0
  have hx := C0.1.1
  have hb := C0.1.2.1
  have hts := C0.1.2.2.2.2
  have hA : ∀ q, s.heap.size ≤ q → AL [] s.heap.size q := fun q h => Or.inr h
  have hP : va_P D vwCl (va_pl [] (fun _ => .inr (0, []))) s.heap := fun k q hk => nomatch hk
  have hD : va_D (AL [] s.heap.size) (va_pl [] (fun _ => .inr (0, []))) := ⟨fun i j p q hi => (nomatch hi), fun k q hk => nomatch hk⟩
  have hS : va_S (AL [] s.heap.size) s.heap s.heap [] := va_S.rf
  refine q_new C0 iX3 tyX3 tyX3_ok klL_8 insX3 iniX3 hP hD hS hA (ci := 5) rfl (fs := [.null, .null, .null, .null, .int (iI 0), .int (iI 0), .int (iI 0), .int (iI 0)]) (fun j hj => by rcases (show j = 0 ∨ j = 1 ∨ j = 2 ∨ j = 3 ∨ j = 4 ∨ j = 5 ∨ j = 6 ∨ j = 7 by omega) with rfl | rfl | rfl | rfl | rfl | rfl | rfl | rfl <;> rfl) (Nat.le_of_ble_eq_true rfl) (Nat.le_of_ble_eq_true rfl) dL_law_0 (fun bg H hqbg hP hD hS => ?_)
  refine W.widen (k := 1) (n := 8) (Nat.le_of_ble_eq_true rfl) (Nat.le_of_ble_eq_true rfl) ?_
  refine lv_dup hx hb dL_law_3 rfl ?_
  refine q_iMv C0 lL_151 (c_X3_init l D y _ _ _ bg (List.mem_append_right _ List.mem_cons_self) (va_up_self _ _ _)) ⟨rfl, rfl⟩ rfl hP hD hS hA rfl hl rfl (Nat.le_of_ble_eq_true rfl) dL_law_4 ⟨(Nat.le_of_ble_eq_true rfl), (Nat.le_of_ble_eq_true rfl)⟩ (fun _ H locs L1 F1 hP hD hS hz1 hp1 => ?_)
  refine W.widen (k := 21) (n := 755) (Nat.le_of_ble_eq_true rfl) (Nat.le_of_ble_eq_true rfl) ?_
  obtain ⟨O1, G1, hC1, hg1, hsub1, hfr1, hO1⟩ := hp1
  refine lv_astore_n (lv' := [(1, .ref bg), (0, .ref b)]) hx hb dL_law_7 rfl hl (by decide) rfl (fun ls hl => ?_)
  refine q_new C0 iX6 tyX6 tyX6_ok klL_152 insX6 iniX6 hP hD hS hA (ci := 8) rfl (fs := [.null, .null, .null, .null, .null, .null, .int (iI 0), .int (iI 0), .int (iI 0), .null, .int (iI 0)]) (fun j hj => by rcases (show j = 0 ∨ j = 1 ∨ j = 2 ∨ j = 3 ∨ j = 4 ∨ j = 5 ∨ j = 6 ∨ j = 7 ∨ j = 8 ∨ j = 9 ∨ j = 10 by omega) with rfl | rfl | rfl | rfl | rfl | rfl | rfl | rfl | rfl | rfl | rfl <;> rfl) (Nat.le_of_ble_eq_true rfl) (Nat.le_of_ble_eq_true rfl) dL_law_8 (fun mg H hqmg hP hD hS => ?_)
  refine W.widen (k := 22) (n := 766) (Nat.le_of_ble_eq_true rfl) (Nat.le_of_ble_eq_true rfl) ?_
  refine lv_dup hx hb dL_law_11 rfl ?_
  refine q_iMv C0 lL_154 (c_X6_init l D y _ _ _ mg (List.mem_append_right _ List.mem_cons_self) (va_up_self _ _ _)) ⟨rfl, rfl⟩ rfl hP hD hS hA rfl hl rfl (Nat.le_of_ble_eq_true rfl) dL_law_12 ⟨(Nat.le_of_ble_eq_true rfl), (Nat.le_of_ble_eq_true rfl)⟩ (fun _ H locs L3 F3 hP hD hS hz2 hp2 => ?_)
  refine W.widen (k := 42) (n := 1497) (Nat.le_of_ble_eq_true rfl) (Nat.le_of_ble_eq_true rfl) ?_
  obtain ⟨O2, G2, hM2, hv2, hsub2, hfr2, hO2⟩ := hp2
  refine lv_astore_n (lv' := [(2, .ref mg), (1, .ref bg), (0, .ref b)]) hx hb dL_law_15 rfl hl (by decide) rfl (fun ls hl => ?_)
  refine q_new C0 iX4 tyX4 tyX4_ok klL_14 insX4 iniX4 hP hD hS hA (ci := 6) rfl (fs := [.long 0, .null]) (fun j hj => by rcases (show j = 0 ∨ j = 1 by omega) with rfl | rfl <;> rfl) (Nat.le_of_ble_eq_true rfl) (Nat.le_of_ble_eq_true rfl) dL_law_16 (fun ou H hqou hP hD hS => ?_)
  refine W.widen (k := 43) (n := 1499) (Nat.le_of_ble_eq_true rfl) (Nat.le_of_ble_eq_true rfl) ?_
  refine lv_dup hx hb dL_law_19 rfl ?_
  refine q_inMv C0 ⟨nX4, C0.2.2.2.2.2.2.2.2.1⟩ (c_X4_init l D y _ _ _ ou) ⟨rfl, rfl⟩ rfl hP hD hS hA rfl hl rfl (Nat.le_of_ble_eq_true rfl) dL_law_20 ⟨(Nat.le_of_ble_eq_true rfl), (Nat.le_of_ble_eq_true rfl)⟩ (fun _ H locs L4 F4 hP hD hS hz3 hp3 => ?_)
  refine W.widen (k := 43) (n := 1499) (Nat.le_of_ble_eq_true rfl) (Nat.le_of_ble_eq_true rfl) ?_
  obtain ⟨e4, f4⟩ := hp3
  subst e4
  subst f4
  refine lv_astore_n (lv' := [(3, .ref ou), (2, .ref mg), (1, .ref bg), (0, .ref b)]) hx hb dL_law_23 rfl hl (by decide) rfl (fun ls hl => ?_)
  refine q_iconst hx hb dL_law_24 ?_
  refine lv_istore (lv' := [(4, .int (iI 0)), (3, .ref ou), (2, .ref mg), (1, .ref bg), (0, .ref b)]) hx hb dL_law_25 hl (by decide) rfl (fun ls hl => ?_)
  have sub13 : ∀ q ∈ L1, q ∈ L3 := fun q h => hsub2 q (List.mem_append_left _ h)
  have fr13 : ∀ q ∈ L1, F3 q = F1 q := fun q h => (hfr2 q (List.mem_append_left _ h) (ne_in h hqmg)).trans (va_up_ne _ _ (ne_in h hqmg))
  have hC3 := CP_mono (CP_mono (CP_cut hC1) sub13 fr13) (fun q h => List.mem_append_left [ou] h) (fun q h => va_up_ne F3 (.inr (6, [.long 0, .null])) (ne_in h hqou))
  have hM3 := MP_mono (MP_cut hM2) (fun q h => List.mem_append_left [ou] h) (fun q h => va_up_ne F3 (.inr (6, [.long 0, .null])) (ne_in h hqou))
  have hI : LI y (L3 ++ [ou]) (va_up F3 ou (.inr (6, [.long 0, .null]))) bg mg ou kS_init jS_init := ⟨_, G1, _, G2, 0, .null, hC3, hg1, hM3, hv2, fun q h => ⟨List.mem_append_left _ (sub13 q h.2), fun hu => (hO2 q hu.1).elim (fun z => hqmg (z ▸ h.2)) (fun z => z (List.mem_append_left _ h.2)), ne_in (sub13 q h.2) hqou⟩, fun q hu => ⟨List.mem_append_left _ hu.2, ne_in hu.2 hqou⟩, List.mem_append_right _ List.mem_cons_self, va_up_self _ _ _⟩
  exact law_loop hfl hr hlk hpres X 64 0 _ _ _ _ _ _ _ _ rfl (by omega) (by omega) hP hD hS hI h0 ls (lv_sub hl [4, 3, 2, 1, 0] rfl)
