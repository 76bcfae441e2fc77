set_option maxHeartbeats 800000 in
set_option maxRecDepth 100000 in
theorem c_J7_fill_53178 (l : Launch) (D : va_G) (y : Nat → ClassId) (L : List Nat) (F : Nat → va_E) (sz : Nat) (a : Nat) (f : Int → Int) (v : Int) (ha : a ∈ L) (hF : F a = arrI (y 0) 100 f) : Met l yJ7_fill_53178 (.code yJ7_fill_53178 cJ7_fill_53178 4 none :: Tt) ({ frames := 0, cells := 0, slots := 0, locals := 0 }) (PcM D y L F sz [.ref a, .int (iI v)]) (cMv D (AL L sz) (fun _ L1 F1 => L = L1 ∧ F1 a = arrI (y 0) 100 (filF f v 100) ∧ ∀ q, q ≠ a → F1 q = F q)) 0 0 (AL L sz) := by
  have hfr : ∀ q, q ≠ a → F q = F q := fun _ _ => rfl
  refine q_ofM (lv := [(0, .ref a), (1, .int (iI v))]) (by decide) (Nat.le_of_ble_eq_true rfl) rfl (fun p e s m below meth c C0 hret hlk hnm hA hP hD hS ls hl => ?_)
  have hx := C0.1.1
  have hb := C0.1.2.1
  have hts := C0.1.2.2.2.2
  refine q_iconst hx hb dJ7_fill_53178_0 ?_
  refine lv_istore_n (lv' := [(2, .int (iI 0)), (0, .ref a), (1, .int (iI v))]) hx hb dJ7_fill_53178_1 rfl hl (by decide) rfl (fun ls hl => ?_)
  refine lv_aload_n hx hb dJ7_fill_53178_2 rfl (lv_at hl 1 rfl) ?_
  refine q_alen C0 hP ha hF dJ7_fill_53178_3 ?_
  refine lv_istore_n (lv' := [(3, .int (iI 100)), (2, .int (iI 0)), (0, .ref a), (1, .int (iI v))]) hx hb dJ7_fill_53178_4 rfl hl (by decide) rfl (fun ls hl => ?_)
  have LP5 : ∀ (n_LP5 : Nat) (r : Int) (Fv : Nat → va_E) (H : Heap) (locs : List Loc), (0 ≤ r ∧ r ≤ 100) → (va_P D vwCl (va_pl L Fv) H) → (va_D (AL L sz) (va_pl L Fv)) → (va_S (AL L sz) s.heap H locs) → (Fv a = arrI (y 0) 100 (filF f v r)) → (∀ q, q ≠ a → Fv q = F q) → (100 - r).toNat = n_LP5 → ∀ ls : Array Slot, lv_has ls 4 [(0, .ref a), (1, .int (iI v)), (2, .int (iI r)), (3, .int (iI 100))] → W p l e ({ frames := 0, cells := 0, slots := 0, locals := 0 } : Room) s m [.ref a, .int (iI v)].toArray below meth c H locs 0 0 (MQ below (cMv D (AL L sz) (fun _ L1 F1 => L = L1 ∧ F1 a = arrI (y 0) 100 (filF f v 100) ∧ ∀ q, q ≠ a → F1 q = F q)) [.ref a, .int (iI v)].toArray s 0 0 (AL L sz)) (F0 m 5 ls []) := by
    intro n_LP5
    induction n_LP5 using Nat.strongRecOn with
    | ind n_LP5 ih_LP5 =>
      intro r Fv H locs hr hP hD hS hF hfr hm_LP5 ls hl
      refine lv_iload_n hx hb dJ7_fill_53178_5 rfl (lv_at hl 2 rfl) ?_
      refine lv_iload_n hx hb dJ7_fill_53178_6 rfl (lv_at hl 3 rfl) ?_
      refine q_icmp_ge hx hb dJ7_fill_53178_7 (tgt := 20) (by decide) (by omega) (by omega) (fun c1 => ?_) (fun c1 => ?_)
      · exact q_retMv C0 hret hlk dJ7_fill_53178_20 hP hD hS (⟨rfl, by rw [hF, show r = 100 by omega], hfr⟩)
      · refine lv_aload_n hx hb dJ7_fill_53178_10 rfl (lv_at hl 0 rfl) ?_
        refine lv_iload_n hx hb dJ7_fill_53178_11 rfl (lv_at hl 2 rfl) ?_
        refine lv_iload_n hx hb dJ7_fill_53178_12 rfl (lv_at hl 1 rfl) ?_
        refine q_iast C0 hP hD hS ha hF (i := r) (v := v) (by omega) (by decide) dJ7_fill_53178_13 (fun H locs hP hD hS => ?_)
        obtain ⟨F2, eF2⟩ : ∃ z, z = va_up Fv a (arrI (y 0) 100 (iu (filF f v r) r v)) := ⟨_, rfl⟩
        have hP : va_P D vwCl (va_pl L F2) H := by rw [eF2]; exact hP
        have hD : va_D (AL L sz) (va_pl L F2) := by rw [eF2]; exact hD
        have hfr : ∀ q, q ≠ a → F2 q = F q := by rw [eF2]; exact fun q h => (va_up_ne _ _ h).trans (hfr q h)
        have hF : F2 a = arrI (y 0) 100 (filF f v (r + 1)) := by rw [eF2]; exact (by rw [va_up_self, filF_s (by omega)])
        refine q_iinc (x := r) (n := 1) (lv' := [(2, .int (iI ((r + 1)))), (0, .ref a), (1, .int (iI v)), (3, .int (iI 100))]) hx hb dJ7_fill_53178_14 hl (k := 2) rfl (by decide) rfl (fun ls hl => ?_)
        refine lv_goto (tgt := 5) hx hb dJ7_fill_53178_17 (by decide) ?_
        exact ih_LP5 _ (by omega) (r + 1) F2 _ _ (by omega) (hP) (hD) (hS) (hF) (hfr) rfl ls (lv_sub hl [1, 2, 0, 3] rfl)
  exact LP5 _ 0 F _ _ (by omega) (hP) (hD) (hS) (by rw [filF_0]; exact hF) (hfr) rfl ls (lv_sub hl [2, 3, 1, 0] rfl)
set_option maxHeartbeats 800000 in
set_option maxRecDepth 100000 in
theorem c_X0_init (l : Launch) (D : va_G) (y : Nat → ClassId) (L : List Nat) (F : Nat → va_E) (sz : Nat) (h : Nat) (o : Int) (ha : h ∈ L) (hF : F h = .inr (2, [.int (iI 0), .null, .int (iI 0), .int (iI 0)])) (ho : 0 ≤ o ∧ o ≤ 2) : Met l yX0_init (.code yX0_init cX0_init 2 none :: Tt) ({ frames := 1, cells := 1, slots := 100, locals := 23 }) (PcM D y L F sz [.ref h, .int (iI o)]) (cMv D (AL L sz) (fun _ L1 F1 => ∃ q, q ∉ L ∧ L1 = L ++ [q] ∧ Rw y L1 F1 h q o 0 0 emp ∧ ∀ a ∈ L, a ≠ h → F1 a = F a)) 1 100 (AL L sz) := by
  have hfr : ∀ a ∈ L, a ≠ h → F a = F a := fun _ _ _ => rfl
  refine q_ofM (lv := [(0, .ref h), (1, .int (iI o))]) (by decide) (Nat.le_of_ble_eq_true rfl) rfl (fun p e s m below meth c C0 hret hlk hnm hA hP hD hS ls hl => ?_)
  have hx := C0.1.1
  have hb := C0.1.2.1
  have hts := C0.1.2.2.2.2
  refine lv_aload_n hx hb dX0_init_0 rfl (lv_at hl 0 rfl) ?_
  refine W.objInit hx hb C0.1.2.2.2.1 (hts (.methodLink RX0 3 objectInit) (List.mem_cons_of_mem _ mlX0_3)) (hts (.instanceMethod objectInit) (List.mem_cons_of_mem _ imObj)) (hts _ (List.mem_cons_of_mem _ cdObj)) rfl (by rw [C0.1.2.2.1]; exact hl.1) rfl dX0_init_1 (Nat.le_of_ble_eq_true rfl) (Nat.le_of_ble_eq_true rfl) ?_
  refine W.eq (g2 := F0 m 4 ls []) rfl ?_
  refine lv_aload_n hx hb dX0_init_4 rfl (lv_at hl 0 rfl) ?_
  refine lv_iload_n hx hb dX0_init_5 rfl (lv_at hl 1 rfl) ?_
  refine q_putF C0 iX0 tyX0 tyX0_ok nmX0 hP hD hS ha hF rfl 0 (by decide) flX0_9 rfl rfl hnm rfl rfl rfl (Nat.le_of_ble_eq_true rfl) dX0_init_6 (fun H locs hP hD hS => ?_)
  obtain ⟨F1, eF1⟩ : ∃ z, z = va_up F h (.inr (2, [.int (iI o), .null, .int (iI 0), .int (iI 0)])) := ⟨_, rfl⟩
  have hP : va_P D vwCl (va_pl L F1) H := by rw [eF1]; exact hP
  have hD : va_D (AL L sz) (va_pl L F1) := by rw [eF1]; exact hD
  have hfr : ∀ a ∈ L, a ≠ h → F1 a = F a := by rw [eF1]; exact fun a h1 h2 => (va_up_ne _ _ h2).trans (hfr a h1 h2)
  have hF : F1 h = .inr (2, [.int (iI o), .null, .int (iI 0), .int (iI 0)]) := by rw [eF1]; exact va_up_self _ _ _
  refine lv_aload_n hx hb dX0_init_9 rfl (lv_at hl 0 rfl) ?_
  refine q_bipush hx hb dX0_init_10 (by decide) ?_
  refine q_newi C0 hP hD hS hA (N := 100) rfl (Nat.le_of_ble_eq_true rfl) (Nat.le_of_ble_eq_true rfl) (Nat.le_of_ble_eq_true rfl) dX0_init_12 (fun q2 H hq2 hP hD hS => ?_)
  refine W.widen (k := 1) (n := 100) (Nat.le_of_ble_eq_true rfl) (Nat.le_of_ble_eq_true rfl) ?_
  have hn2_h : h ≠ q2 := fun e => hq2 (e ▸ ha)
  obtain ⟨F3, eF3⟩ : ∃ z, z = va_up F1 q2 (arrI (y 0) 100 (fun _ => 0)) := ⟨_, rfl⟩
  have hP : va_P D vwCl (va_pl (L ++ [q2]) F3) H := by rw [eF3]; exact hP
  have hD : va_D (AL L sz) (va_pl (L ++ [q2]) F3) := by rw [eF3]; exact hD
  have hfr : ∀ a ∈ L, a ≠ h → F3 a = F a := by rw [eF3]; exact fun a h1 h2 => (va_up_ne _ _ (fun e : a = q2 => hq2 (e ▸ h1))).trans (hfr a h1 h2)
  have hFq2 : F3 q2 = arrI (y 0) 100 (fun _ => 0) := by rw [eF3]; exact va_up_self _ _ _
  have hF : F3 h = .inr (2, [.int (iI o), .null, .int (iI 0), .int (iI 0)]) := by rw [eF3]; exact (va_up_ne _ _ hn2_h).trans hF
  have ha : h ∈ (L ++ [q2]) := List.mem_append_left _ ha
  have haq2 : q2 ∈ (L ++ [q2]) := List.mem_append_right _ List.mem_cons_self
  refine q_putF C0 iX0 tyX0 tyX0_ok nmX0 hP hD hS ha hF rfl 1 (by decide) flX0_15 rfl rfl hnm rfl rfl rfl (Nat.le_of_ble_eq_true rfl) dX0_init_14 (fun H locs hP hD hS => ?_)
  obtain ⟨F4, eF4⟩ : ∃ z, z = va_up F3 h (.inr (2, [.int (iI o), .ref q2, .int (iI 0), .int (iI 0)])) := ⟨_, rfl⟩
  have hP : va_P D vwCl (va_pl (L ++ [q2]) F4) H := by rw [eF4]; exact hP
  have hD : va_D (AL L sz) (va_pl (L ++ [q2]) F4) := by rw [eF4]; exact hD
  have hfr : ∀ a ∈ L, a ≠ h → F4 a = F a := by rw [eF4]; exact fun a h1 h2 => (va_up_ne _ _ h2).trans (hfr a h1 h2)
  have hF : F4 h = .inr (2, [.int (iI o), .ref q2, .int (iI 0), .int (iI 0)]) := by rw [eF4]; exact va_up_self _ _ _
  have hFq2 : F4 q2 = arrI (y 0) 100 (fun _ => 0) := by rw [eF4]; exact (va_up_ne _ _ hn2_h.symm).trans hFq2
  refine lv_aload_n hx hb dX0_init_17 rfl (lv_at hl 0 rfl) ?_
  refine q_get C0 iX0 hP ha hF rfl 1 (by decide) flX0_15 rfl rfl dX0_init_18 ?_
  refine q_iconst hx hb dX0_init_21 ?_
  refine q_sMv C0 lX0_19 (c_J7_fill_53178 l D y (L ++ [q2]) F4 _ q2 (fun _ => 0) (-1) haq2 hFq2) ⟨rfl, rfl⟩ rfl hP hD hS hA rfl hl rfl (Nat.le_of_ble_eq_true rfl) dX0_init_22 ⟨Nat.le_of_ble_eq_true rfl, Nat.le_of_ble_eq_true rfl⟩ (fun _ H locs L6 F6 hP hD hS hz6 hp6 => ?_)
  obtain ⟨eL, hFq2, hfr1⟩ := hp6
  subst eL
  have hF : F6 h = .inr (2, [.int (iI o), .ref q2, .int (iI 0), .int (iI 0)]) := (hfr1 h hn2_h.symm.symm).trans hF
  have hfr : ∀ a ∈ L, a ≠ h → F6 a = F a := fun a h1 h2 => (hfr1 a (fun e : a = q2 => hq2 (e ▸ h1))).trans (hfr a h1 h2)
  exact q_retMv C0 hret hlk dX0_init_25 hP hD hS (⟨q2, hq2, rfl, ⟨ha, hF, haq2, hFq2, ho, emp_b⟩, hfr⟩)
set_option maxHeartbeats 800000 in
set_option maxRecDepth 100000 in
theorem c_X0_copyOfPart (l : Launch) (D : va_G) (y : Nat → ClassId) (L : List Nat) (F : Nat → va_E) (sz : Nat) (h : Nat) (w : Nat) (o : Int) (k : Int) (g : Int) (f : Int → Int) (lo : Int) (hi : Int) (no : Int) (hR : Rw y L F h w o k g f) (hlo : -1000 ≤ lo ∧ lo ≤ 1000) (hhi : -1000 ≤ hi ∧ hi ≤ 1000) (hno : 0 ≤ no ∧ no ≤ 2) : Met l yX0_copyOfPart (.code yX0_copyOfPart cX0_copyOfPart 5 (some (.object "Bookgrafter$Row")) :: Tt) ({ frames := 3, cells := 2, slots := 104, locals := 67 }) (PcM D y L F sz [.ref h, .int (iI lo), .int (iI hi), .int (iI no)]) (cMa D (AL L sz) (fun r L1 F1 => ∃ q, L1 = (L ++ [r]) ++ [q] ∧ r ∉ L ∧ q ∉ L ∧ r ≠ q ∧ RwS y L1 F1 r q (no) (addS no o f lo hi (0, 0, emp)) ∧ ∀ a ∈ L, F1 a = F a)) 2 104 (AL L sz) := by
  have ho := hR.2.2.2.2.1
  refine q_ofM (lv := [(0, .ref h), (1, .int (iI lo)), (2, .int (iI hi)), (3, .int (iI no))]) (by decide) (Nat.le_of_ble_eq_true rfl) rfl (fun p e s m below meth c C0 hret hlk hnm hA hP hD hS ls hl => ?_)
  have hx := C0.1.1
  have hb := C0.1.2.1
  have hts := C0.1.2.2.2.2
  refine q_new C0 iX0 tyX0 tyX0_ok klX0_10 insX0 iniX0 hP hD hS hA (ci := 2) rfl (fs := [.int (iI 0), .null, .int (iI 0), .int (iI 0)]) (fun j hj => by rcases (show j = 0 ∨ j = 1 ∨ j = 2 ∨ j = 3 by omega) with rfl | rfl | rfl | rfl <;> rfl) (Nat.le_of_ble_eq_true rfl) (Nat.le_of_ble_eq_true rfl) dX0_copyOfPart_0 (fun q1 H hq1 hP hD hS => ?_)
  refine W.widen (k := 1) (n := 4) (Nat.le_of_ble_eq_true rfl) (Nat.le_of_ble_eq_true rfl) ?_
  obtain ⟨F2, eF2⟩ : ∃ z, z = va_up F q1 (.inr (2, [.int (iI 0), .null, .int (iI 0), .int (iI 0)])) := ⟨_, rfl⟩
  have hP : va_P D vwCl (va_pl (L ++ [q1]) F2) H := by rw [eF2]; exact hP
  have hD : va_D (AL L sz) (va_pl (L ++ [q1]) F2) := by rw [eF2]; exact hD
  have hfr : ∀ a ∈ L, F2 a = F a := by rw [eF2]; exact fun a h1 => va_up_ne _ _ (ne_in h1 hq1)
  have hFq1 : F2 q1 = .inr (2, [.int (iI 0), .null, .int (iI 0), .int (iI 0)]) := by rw [eF2]; exact va_up_self _ _ _
  refine lv_dup hx hb dX0_copyOfPart_3 rfl ?_
  refine lv_iload_n hx hb dX0_copyOfPart_4 rfl (lv_at hl 3 rfl) ?_
  refine q_iMv C0 lX0_63 (c_X0_init l D y (L ++ [q1]) F2 _ q1 no (List.mem_append_right _ List.mem_cons_self) hFq1 (by omega)) ⟨rfl, rfl⟩ rfl hP hD hS hA rfl hl rfl (Nat.le_of_ble_eq_true rfl) dX0_copyOfPart_5 ⟨Nat.le_of_ble_eq_true rfl, Nat.le_of_ble_eq_true rfl⟩ (fun _ H locs L4 F4 hP hD hS hz4 hp4 => ?_)
  refine W.widen (k := 2) (n := 104) (Nat.le_of_ble_eq_true rfl) (Nat.le_of_ble_eq_true rfl) ?_
  obtain ⟨q1w, hqq1w, eL, hRn, hfr1⟩ := hp4
  subst eL
  have hfr : ∀ a ∈ L, F4 a = F a := fun a h1 => (hfr1 a (List.mem_append_left _ h1) (ne_in h1 hq1)).trans (hfr a h1)
  have hqw : q1w ∉ L := fun h1 => hqq1w (List.mem_append_left _ h1)
  have hLs : ∀ a ∈ L, a ∈ ((L ++ [q1]) ++ [q1w]) := fun a h1 => List.mem_append_left _ (List.mem_append_left _ h1)
  have hRs := Rw_mono hR hLs hfr
  refine lv_astore (lv' := [(4, .ref q1), (0, .ref h), (1, .int (iI lo)), (2, .int (iI hi)), (3, .int (iI no))]) hx hb dX0_copyOfPart_8 hl (by decide) rfl (fun ls hl => ?_)
  refine lv_aload hx hb dX0_copyOfPart_10 (lv_at hl 0 rfl) ?_
  refine lv_aload_n hx hb dX0_copyOfPart_12 rfl (lv_at hl 1 rfl) ?_
  refine lv_iload_n hx hb dX0_copyOfPart_13 rfl (lv_at hl 2 rfl) ?_
  refine lv_iload_n hx hb dX0_copyOfPart_14 rfl (lv_at hl 3 rfl) ?_
  refine q_vMi C0 lX0_66 (c_X0_addPart l D y ((L ++ [q1]) ++ [q1w]) F4 _ q1 q1w no ((0, 0, emp) : RS) h w o k g f lo hi hRn hRs (ne_in hR.1 hq1) (ne_in hR.2.2.1 hqw) (by omega) (by omega)) ⟨rfl, rfl⟩ rfl hP hD hS hA hRn.1 hRn.2.1 rfl rfl rfl hl rfl (Nat.le_of_ble_eq_true rfl) dX0_copyOfPart_15 ⟨Nat.le_of_ble_eq_true rfl, Nat.le_of_ble_eq_true rfl⟩ (fun r5 H locs L6 F6 hP hD hS hz6 hp6 => ?_)
  have hRo := hRn
  obtain ⟨eL, er, hRn, hfr1⟩ := hp6
  subst eL
  subst er
  have hRs := Rw_fr hRo hRs (ne_in hR.1 hq1) (ne_in hR.2.2.1 hqw) hfr1
  have hfr : ∀ a ∈ L, F6 a = F a := fun a h1 => (hfr1 a (ne_in h1 hq1) (ne_in h1 hqw)).trans (hfr a h1)
  refine lv_pop hx hb dX0_copyOfPart_18 rfl ?_
  refine lv_aload hx hb dX0_copyOfPart_19 (lv_at hl 0 rfl) ?_
  exact q_retMa C0 hret (Or.inl ⟨_, rfl⟩) hlk dX0_copyOfPart_21 hP hD hS (⟨q1w, rfl, hq1, hqw, (fun e => hqq1w (e ▸ List.mem_append_right _ List.mem_cons_self)), hRn, hfr⟩)
set_option maxHeartbeats 800000 in
set_option maxRecDepth 100000 in
theorem c_X0_copyOfKeys (l : Launch) (D : va_G) (y : Nat → ClassId) (L : List Nat) (F : Nat → va_E) (sz : Nat) (h : Nat) (w : Nat) (o : Int) (k : Int) (g : Int) (f : Int → Int) (hR : Rw y L F h w o k g f) : Met l yX0_copyOfKeys (.code yX0_copyOfKeys cX0_copyOfKeys 3 (some (.object "Bookgrafter$Row")) :: Tt) ({ frames := 2, cells := 2, slots := 104, locals := 44 }) (PcM D y L F sz [.ref h]) (cMa D (AL L sz) (fun r L1 F1 => ∃ q, L1 = (L ++ [r]) ++ [q] ∧ r ∉ L ∧ q ∉ L ∧ r ≠ q ∧ RwS y L1 F1 r q (0) (ckS o f) ∧ ∀ a ∈ L, F1 a = F a)) 2 104 (AL L sz) := by
  have ho := hR.2.2.2.2.1
  refine q_ofM (lv := [(0, .ref h)]) (by decide) (Nat.le_of_ble_eq_true rfl) rfl (fun p e s m below meth c C0 hret hlk hnm hA hP hD hS ls hl => ?_)
  have hx := C0.1.1
  have hb := C0.1.2.1
  have hts := C0.1.2.2.2.2
  refine q_new C0 iX0 tyX0 tyX0_ok klX0_10 insX0 iniX0 hP hD hS hA (ci := 2) rfl (fs := [.int (iI 0), .null, .int (iI 0), .int (iI 0)]) (fun j hj => by rcases (show j = 0 ∨ j = 1 ∨ j = 2 ∨ j = 3 by omega) with rfl | rfl | rfl | rfl <;> rfl) (Nat.le_of_ble_eq_true rfl) (Nat.le_of_ble_eq_true rfl) dX0_copyOfKeys_0 (fun q1 H hq1 hP hD hS => ?_)
  refine W.widen (k := 1) (n := 4) (Nat.le_of_ble_eq_true rfl) (Nat.le_of_ble_eq_true rfl) ?_
  obtain ⟨F2, eF2⟩ : ∃ z, z = va_up F q1 (.inr (2, [.int (iI 0), .null, .int (iI 0), .int (iI 0)])) := ⟨_, rfl⟩
  have hP : va_P D vwCl (va_pl (L ++ [q1]) F2) H := by rw [eF2]; exact hP
  have hD : va_D (AL L sz) (va_pl (L ++ [q1]) F2) := by rw [eF2]; exact hD
  have hfr : ∀ a ∈ L, F2 a = F a := by rw [eF2]; exact fun a h1 => va_up_ne _ _ (ne_in h1 hq1)
  have hFq1 : F2 q1 = .inr (2, [.int (iI 0), .null, .int (iI 0), .int (iI 0)]) := by rw [eF2]; exact va_up_self _ _ _
  refine lv_dup hx hb dX0_copyOfKeys_3 rfl ?_
  refine q_iconst hx hb dX0_copyOfKeys_4 ?_
  refine q_iMv C0 lX0_63 (c_X0_init l D y (L ++ [q1]) F2 _ q1 0 (List.mem_append_right _ List.mem_cons_self) hFq1 (by omega)) ⟨rfl, rfl⟩ rfl hP hD hS hA rfl hl rfl (Nat.le_of_ble_eq_true rfl) dX0_copyOfKeys_5 ⟨Nat.le_of_ble_eq_true rfl, Nat.le_of_ble_eq_true rfl⟩ (fun _ H locs L4 F4 hP hD hS hz4 hp4 => ?_)
  refine W.widen (k := 2) (n := 104) (Nat.le_of_ble_eq_true rfl) (Nat.le_of_ble_eq_true rfl) ?_
  obtain ⟨q1w, hqq1w, eL, hRn, hfr1⟩ := hp4
  subst eL
  have hfr : ∀ a ∈ L, F4 a = F a := fun a h1 => (hfr1 a (List.mem_append_left _ h1) (ne_in h1 hq1)).trans (hfr a h1)
  have hqw : q1w ∉ L := fun h1 => hqq1w (List.mem_append_left _ h1)
  have hLs : ∀ a ∈ L, a ∈ ((L ++ [q1]) ++ [q1w]) := fun a h1 => List.mem_append_left _ (List.mem_append_left _ h1)
  have hRs := Rw_mono hR hLs hfr
  refine lv_astore_n (lv' := [(1, .ref q1), (0, .ref h)]) hx hb dX0_copyOfKeys_8 rfl hl (by decide) rfl (fun ls hl => ?_)
  refine q_iconst hx hb dX0_copyOfKeys_9 ?_
  refine lv_istore_n (lv' := [(2, .int (iI 0)), (1, .ref q1), (0, .ref h)]) hx hb dX0_copyOfKeys_10 rfl hl (by decide) rfl (fun ls hl => ?_)
  have LP11 : ∀ (n_LP11 : Nat) (r : Int) (Fv : Nat → va_E) (Sv : RS) (H : Heap) (locs : List Loc), (0 ≤ r ∧ r ≤ 100) → (va_P D vwCl (va_pl ((L ++ [q1]) ++ [q1w]) Fv) H) → (va_D (AL L sz) (va_pl ((L ++ [q1]) ++ [q1w]) Fv)) → (va_S (AL L sz) s.heap H locs) → (RwS y ((L ++ [q1]) ++ [q1w]) Fv q1 q1w 0 Sv) → (Rw y ((L ++ [q1]) ++ [q1w]) Fv h w o k g f) → (∀ a ∈ L, Fv a = F a) → (ckS o f = itrP (ckU o f) r 99 Sv) → (100 - r).toNat = n_LP11 → ∀ ls : Array Slot, lv_has ls 3 [(0, .ref h), (1, .ref q1), (2, .int (iI r))] → W p l e ({ frames := 2, cells := 2, slots := 104, locals := 44 } : Room) s m [.ref h].toArray below meth c H locs 2 104 (MQ below (cMa D (AL L sz) (fun r L1 F1 => ∃ q, L1 = (L ++ [r]) ++ [q] ∧ r ∉ L ∧ q ∉ L ∧ r ≠ q ∧ RwS y L1 F1 r q (0) (ckS o f) ∧ ∀ a ∈ L, F1 a = F a)) [.ref h].toArray s 2 104 (AL L sz)) (F0 m 11 ls []) := by
    intro n_LP11
    induction n_LP11 using Nat.strongRecOn with
    | ind n_LP11 ih_LP11 =>
      intro r Fv Sv H locs hr hP hD hS hRn hRs hfr hI hm_LP11 ls hl
      refine lv_iload_n hx hb dX0_copyOfKeys_11 rfl (lv_at hl 2 rfl) ?_
      refine q_bipush hx hb dX0_copyOfKeys_12 (by decide) ?_
      refine q_icmp_ge hx hb dX0_copyOfKeys_14 (tgt := 46) (by decide) (by omega) (by omega) (fun c5 => ?_) (fun c5 => ?_)
      · refine lv_aload_n hx hb dX0_copyOfKeys_46 rfl (lv_at hl 1 rfl) ?_
        exact q_retMa C0 hret (Or.inl ⟨_, rfl⟩) hlk dX0_copyOfKeys_47 hP hD hS (⟨q1w, rfl, hq1, hqw, (fun e => hqq1w (e ▸ List.mem_append_right _ List.mem_cons_self)), (by rw [hI, itrP_e (by omega)]; exact hRn), hfr⟩)
      · refine lv_aload_n hx hb dX0_copyOfKeys_17 rfl (lv_at hl 0 rfl) ?_
        refine lv_iload_n hx hb dX0_copyOfKeys_18 rfl (lv_at hl 2 rfl) ?_
        refine q_vS C0 lX0_32 (c_X0_isThere l D y ((L ++ [q1]) ++ [q1w]) Fv h w o k g f r hRs (by omega)) ⟨rfl, rfl⟩ rfl hP hRs.1 hRs.2.1 rfl rfl rfl hl rfl (Nat.le_of_ble_eq_true rfl) dX0_copyOfKeys_19 ⟨Nat.le_of_ble_eq_true rfl, Nat.le_of_ble_eq_true rfl⟩ (fun r6 e_r6 => ?_)
        subst e_r6
        have b_7 := isT_b f r
        refine q_if_eq hx hb dX0_copyOfKeys_22 (tgt := 40) (by decide) (by omega) (fun c8 => ?_) (fun c8 => ?_)
        · refine q_iinc (x := r) (n := 1) (lv' := [(2, .int (iI ((r + 1)))), (0, .ref h), (1, .ref q1)]) hx hb dX0_copyOfKeys_40 hl (k := 2) rfl (by decide) rfl (fun ls hl => ?_)
          refine lv_goto (tgt := 11) hx hb dX0_copyOfKeys_43 (by decide) ?_
          exact ih_LP11 _ (by omega) (r + 1) Fv Sv _ _ (by omega) (hP) (hD) (hS) (hRn) (hRs) (hfr) (by first | (rw [hI, itrP_s (by omega)]; unfold ckU; rw [if_pos (by omega)]; done) | (rw [hI, itrP_s (by omega)]; unfold ckU; rw [if_neg (by omega)])) rfl ls (lv_sub hl [1, 2, 0] rfl)
        · have q_ := isT_w c8
          refine lv_aload_n hx hb dX0_copyOfKeys_25 rfl (lv_at hl 1 rfl) ?_
          refine lv_aload_n hx hb dX0_copyOfKeys_26 rfl (lv_at hl 1 rfl) ?_
          refine lv_aload_n hx hb dX0_copyOfKeys_27 rfl (lv_at hl 0 rfl) ?_
          refine lv_iload_n hx hb dX0_copyOfKeys_28 rfl (lv_at hl 2 rfl) ?_
          refine q_vS C0 lX0_36 (c_X0_keyOf l D y ((L ++ [q1]) ++ [q1w]) Fv h w o k g f r hRs (by omega)) ⟨rfl, rfl⟩ rfl hP hRs.1 hRs.2.1 rfl rfl rfl hl rfl (Nat.le_of_ble_eq_true rfl) dX0_copyOfKeys_29 ⟨Nat.le_of_ble_eq_true rfl, Nat.le_of_ble_eq_true rfl⟩ (fun r9 e_r9 => ?_)
          subst e_r9
          have b_10 := @keyR_b o r (by omega)
          refine q_vS C0 lX0_29 (c_X0_rankOf l D y ((L ++ [q1]) ++ [q1w]) Fv q1 q1w 0 Sv.1 Sv.2.1 Sv.2.2 (keyR o r) hRn (by omega)) ⟨rfl, rfl⟩ rfl hP hRn.1 hRn.2.1 rfl rfl rfl hl rfl (Nat.le_of_ble_eq_true rfl) dX0_copyOfKeys_32 ⟨Nat.le_of_ble_eq_true rfl, Nat.le_of_ble_eq_true rfl⟩ (fun r11 e_r11 => ?_)
          subst e_r11
          have b_12 := @turn_b 0 (keyR o r) (by omega)
          refine q_iconst hx hb dX0_copyOfKeys_35 ?_
          refine q_vMi C0 lX0_70 (c_X0_come l D y ((L ++ [q1]) ++ [q1w]) Fv _ q1 q1w 0 Sv (turn 0 (keyR o r)) 0 hRn (by omega) (by omega)) ⟨rfl, rfl⟩ rfl hP hD hS hA hRn.1 hRn.2.1 rfl rfl rfl hl rfl (Nat.le_of_ble_eq_true rfl) dX0_copyOfKeys_36 ⟨Nat.le_of_ble_eq_true rfl, Nat.le_of_ble_eq_true rfl⟩ (fun r13 H locs L14 F14 hP hD hS hz14 hp14 => ?_)
          have hRo := hRn
          obtain ⟨eL, er, hRn, hfr1⟩ := hp14
          subst eL
          subst er
          have hRs := Rw_fr hRo hRs (ne_in hR.1 hq1) (ne_in hR.2.2.1 hqw) hfr1
          have hfr : ∀ a ∈ L, F14 a = F a := fun a h1 => (hfr1 a (ne_in h1 hq1) (ne_in h1 hqw)).trans (hfr a h1)
          refine lv_pop hx hb dX0_copyOfKeys_39 rfl ?_
          refine q_iinc (x := r) (n := 1) (lv' := [(2, .int (iI ((r + 1)))), (0, .ref h), (1, .ref q1)]) hx hb dX0_copyOfKeys_40 hl (k := 2) rfl (by decide) rfl (fun ls hl => ?_)
          refine lv_goto (tgt := 11) hx hb dX0_copyOfKeys_43 (by decide) ?_
          exact ih_LP11 _ (by omega) (r + 1) F14 (comeS Sv (turn 0 (keyR o r)) 0) _ _ (by omega) (hP) (hD) (hS) (hRn) (hRs) (hfr) (by first | (rw [hI, itrP_s (by omega)]; unfold ckU; rw [if_pos (by omega)]; done) | (rw [hI, itrP_s (by omega)]; unfold ckU; rw [if_neg (by omega)])) rfl ls (lv_sub hl [1, 2, 0] rfl)
  exact LP11 _ 0 F4 (0, 0, emp) _ _ (by omega) (hP) (hD) (hS) (hRn) (hRs) (hfr) (rfl) rfl ls (lv_sub hl [2, 1, 0] rfl)
