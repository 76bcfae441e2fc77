set_option maxHeartbeats 800000 in
set_option maxRecDepth 100000 in
theorem c_X5_init (l : Launch) (D : va_G) (y : Nat → ClassId) (L : List Nat) (F : Nat → va_E) (sz : Nat) (h : Nat) (o : Int) (ha_h : h ∈ L) (hF_h : F h = .inr (7, [.int (iI 0), .null])) (ho : 0 ≤ o ∧ o ≤ 2) : Met l yX5_init (.code yX5_init cX5_init 3 none :: Tt) ({ frames := 1, cells := 1, slots := 100, locals := 12 }) (PcM D y L F sz [.ref h, .int (iI o)]) (cMv D (AL L sz) (fun _ L1 F1 => ∃ q, q ∉ L ∧ L1 = L ++ [q] ∧ MB y L1 F1 h q o emp ∧ ∀ a ∈ L, a ≠ h → F1 a = F a)) 1 100 (AL L sz) := by
  have hfr : ∀ a ∈ L, a ≠ h → F a = F a := fun _ _ _ => rfl
  have hLs : ∀ a ∈ L, a ∈ L := fun _ z => z
  refine q_ofM (lv := [(0, .ref h), (1, .int (iI o))]) (by decide) (Nat.le_of_ble_eq_true rfl) rfl (fun p e s m below meth c C0 hret hlk hnm hA hP hD hS ls hl => ?_)
  have hx := C0.1.1
  have hb := C0.1.2.1
  have hts := C0.1.2.2.2.2
  refine lv_aload_n hx hb dX5_init_0 rfl (lv_at hl 0 rfl) ?_
  refine W.objInit hx hb C0.1.2.2.2.1 (hts (.methodLink RX5 3 objectInit) (List.mem_cons_of_mem _ mlX5_3)) (hts (.instanceMethod objectInit) (List.mem_cons_of_mem _ imObj)) (hts _ (List.mem_cons_of_mem _ cdObj)) rfl (by rw [C0.1.2.2.1]; exact hl.1) rfl dX5_init_1 (Nat.le_of_ble_eq_true rfl) (Nat.le_of_ble_eq_true rfl) ?_
  refine W.eq (g2 := F0 m 4 ls []) rfl ?_
  refine lv_aload_n hx hb dX5_init_4 rfl (lv_at hl 0 rfl) ?_
  refine q_bipush hx hb dX5_init_5 (by decide) ?_
  refine q_newi C0 hP hD hS hA (N := 100) rfl (Nat.le_of_ble_eq_true rfl) (Nat.le_of_ble_eq_true rfl) (Nat.le_of_ble_eq_true rfl) dX5_init_7 (fun q1 H h0q1 hP hD hS => ?_)
  refine W.widen (k := 1) (n := 100) (Nat.le_of_ble_eq_true rfl) (Nat.le_of_ble_eq_true rfl) ?_
  have n_h_q1 : h ≠ q1 := fun e => h0q1 (e ▸ ha_h)
  have nL_q1 : q1 ∉ L := fun z => h0q1 (hLs _ z)
  obtain ⟨L2x, eLL2x⟩ : ∃ z, z = L ++ [q1] := ⟨_, rfl⟩
  obtain ⟨F2x, eFL2x⟩ : ∃ z, z = va_up F q1 (arrI (y 0) 100 (fun _ => 0)) := ⟨_, rfl⟩
  have hP : va_P D vwCl (va_pl L2x F2x) H := by rw [eLL2x, eFL2x]; exact hP
  have hD : va_D (AL L sz) (va_pl L2x F2x) := by rw [eLL2x, eFL2x]; exact hD
  have hF_h : F2x h = .inr (7, [.int (iI 0), .null]) := by rw [eFL2x]; exact (va_up_ne _ _ n_h_q1).trans hF_h
  have ha_h : h ∈ L2x := by rw [eLL2x]; exact List.mem_append_left _ ha_h
  have hfr : ∀ a ∈ L, a ≠ h → F2x a = F a := fun a h1 h2 => by rw [eFL2x]; exact (va_up_ne _ _ (fun e : a = q1 => nL_q1 (e ▸ h1))).trans (hfr a h1 h2)
  have hLs : ∀ a ∈ L, a ∈ L2x := fun a h1 => by rw [eLL2x]; exact List.mem_append_left _ (hLs a h1)
  have hF_q1 : F2x q1 = arrI (y 0) 100 (fun _ => 0) := by rw [eFL2x]; exact va_up_self _ _ _
  have ha_q1 : q1 ∈ L2x := by rw [eLL2x]; exact List.mem_append_right _ List.mem_cons_self
  refine q_putF C0 iX5 tyX5 tyX5_ok nmX5 hP hD hS ha_h hF_h rfl 1 (by decide) flX5_9 rfl rfl hnm rfl rfl rfl (Nat.le_of_ble_eq_true rfl) dX5_init_9 (fun H locs hP hD hS => ?_)
  obtain ⟨F3x, eF3⟩ : ∃ z, z = va_up F2x h (.inr (7, [.int (iI 0), .ref q1])) := ⟨_, rfl⟩
  have hP : va_P D vwCl (va_pl L2x F3x) H := by rw [eF3]; exact hP
  have hD : va_D (AL L sz) (va_pl L2x F3x) := by rw [eF3]; exact hD
  have hF_q1 : F3x q1 = arrI (y 0) 100 (fun _ => 0) := by rw [eF3]; exact (va_up_ne _ _ n_h_q1.symm).trans hF_q1
  have hF_h : F3x h = .inr (7, [.int (iI 0), .ref q1]) := by rw [eF3]; exact va_up_self _ _ _
  have hfr : ∀ a ∈ L, a ≠ h → F3x a = F a := fun a h1 h2 => by rw [eF3]; exact (va_up_ne _ _ h2).trans (hfr a h1 h2)
  refine lv_aload_n hx hb dX5_init_12 rfl (lv_at hl 0 rfl) ?_
  refine lv_iload_n hx hb dX5_init_13 rfl (lv_at hl 1 rfl) ?_
  refine q_putF C0 iX5 tyX5 tyX5_ok nmX5 hP hD hS ha_h hF_h rfl 0 (by decide) flX5_15 rfl rfl hnm rfl rfl rfl (Nat.le_of_ble_eq_true rfl) dX5_init_14 (fun H locs hP hD hS => ?_)
  obtain ⟨F4x, eF4⟩ : ∃ z, z = va_up F3x h (.inr (7, [.int (iI o), .ref q1])) := ⟨_, rfl⟩
  have hP : va_P D vwCl (va_pl L2x F4x) H := by rw [eF4]; exact hP
  have hD : va_D (AL L sz) (va_pl L2x F4x) := by rw [eF4]; exact hD
  have hF_q1 : F4x q1 = arrI (y 0) 100 (fun _ => 0) := by rw [eF4]; exact (va_up_ne _ _ n_h_q1.symm).trans hF_q1
  have hF_h : F4x h = .inr (7, [.int (iI o), .ref q1]) := by rw [eF4]; exact va_up_self _ _ _
  have hfr : ∀ a ∈ L, a ≠ h → F4x a = F a := fun a h1 h2 => by rw [eF4]; exact (va_up_ne _ _ h2).trans (hfr a h1 h2)
  refine q_iconst hx hb dX5_init_17 ?_
  refine lv_istore_n (lv' := [(2, .int (iI 0)), (0, .ref h), (1, .int (iI o))]) hx hb dX5_init_18 rfl hl (by decide) rfl (fun ls hl => ?_)
  have LP19 : ∀ (n_LP19 : Nat) (r : Int) (Fv : Nat → va_E) (H : Heap) (locs : List Loc), (0 ≤ r ∧ r ≤ 100) → (va_P D vwCl (va_pl L2x Fv) H) → (va_D (AL L sz) (va_pl L2x Fv)) → (va_S (AL L sz) s.heap H locs) → (Fv h = .inr (7, [.int (iI o), .ref q1])) → (Fv q1 = arrI (y 0) 100 (filF (fun _ => 0) (-1) r)) → (∀ a ∈ L, a ≠ h → Fv a = F a) → (100 - r).toNat = n_LP19 → ∀ ls : Array Slot, lv_has ls 3 [(0, .ref h), (1, .int (iI o)), (2, .int (iI r))] → W p l e ({ frames := 1, cells := 1, slots := 100, locals := 12 } : Room) s m [.ref h, .int (iI o)].toArray below meth c H locs 1 100 (MQ below (cMv D (AL L sz) (fun _ L1 F1 => ∃ q, q ∉ L ∧ L1 = L ++ [q] ∧ MB y L1 F1 h q o emp ∧ ∀ a ∈ L, a ≠ h → F1 a = F a)) [.ref h, .int (iI o)].toArray s 1 100 (AL L sz)) (F0 m 19 ls []) := by
    intro n_LP19
    induction n_LP19 using Nat.strongRecOn with
    | ind n_LP19 ih_LP19 =>
      intro r Fv H locs hr hP hD hS hF_h hF_q1 hfr hm_LP19 ls hl
      refine lv_iload_n hx hb dX5_init_19 rfl (lv_at hl 2 rfl) ?_
      refine q_bipush hx hb dX5_init_20 (by decide) ?_
      refine q_icmp_ge hx hb dX5_init_22 (tgt := 38) (by decide) (by omega) (by omega) (fun c5 => ?_) (fun c5 => ?_)
      · have r9 : r = 100 := by omega
        subst r9
        replace hP := va_P_re (a := q1) (e := arrI (y 0) 100 (mwd o emp)) hP (fun X z => by rw [hF_q1] at z; exact at_arrI (fun i h0 h1 => mwd_emp i h0 h1) X z)
        replace hD := va_D_re (F1 := va_up Fv q1 (arrI (y 0) 100 (mwd o emp))) hD
        obtain ⟨F6x, eF6⟩ : ∃ z, z = va_up Fv q1 (arrI (y 0) 100 (mwd o emp)) := ⟨_, rfl⟩
        have hP : va_P D vwCl (va_pl L2x F6x) H := by rw [eF6]; exact hP
        have hD : va_D (AL L sz) (va_pl L2x F6x) := by rw [eF6]; exact hD
        have hF_h : F6x h = .inr (7, [.int (iI o), .ref q1]) := by rw [eF6]; exact (va_up_ne _ _ n_h_q1).trans hF_h
        have hF_q1 : F6x q1 = arrI (y 0) 100 (mwd o emp) := by rw [eF6]; exact va_up_self _ _ _
        have hfr : ∀ a ∈ L, a ≠ h → F6x a = F a := fun a h1 h2 => by rw [eF6]; exact (va_up_ne _ _ (fun e : a = q1 => nL_q1 (e ▸ h1))).trans (hfr a h1 h2)
        exact q_retMv C0 hret hlk dX5_init_38 hP hD hS (⟨q1, h0q1, eLL2x, ⟨ha_h, hF_h, ha_q1, hF_q1, ho, emp_b⟩, hfr⟩)
      · refine lv_aload_n hx hb dX5_init_25 rfl (lv_at hl 0 rfl) ?_
        refine q_get C0 iX5 hP ha_h hF_h rfl 1 (by decide) flX5_9 rfl rfl dX5_init_26 ?_
        refine lv_iload_n hx hb dX5_init_29 rfl (lv_at hl 2 rfl) ?_
        refine q_iconst hx hb dX5_init_30 ?_
        refine q_iast C0 hP hD hS ha_q1 hF_q1 (i := r) (v := (-1)) (by omega) (by decide) dX5_init_31 (fun H locs hP hD hS => ?_)
        obtain ⟨F7x, eF7⟩ : ∃ z, z = va_up Fv q1 (arrI (y 0) 100 (iu (filF (fun _ => 0) (-1) r) r (-1))) := ⟨_, rfl⟩
        have hP : va_P D vwCl (va_pl L2x F7x) H := by rw [eF7]; exact hP
        have hD : va_D (AL L sz) (va_pl L2x F7x) := by rw [eF7]; exact hD
        have hF_h : F7x h = .inr (7, [.int (iI o), .ref q1]) := by rw [eF7]; exact (va_up_ne _ _ n_h_q1).trans hF_h
        have hF_q1 : F7x q1 = arrI (y 0) 100 (iu (filF (fun _ => 0) (-1) r) r (-1)) := by rw [eF7]; exact va_up_self _ _ _
        have hfr : ∀ a ∈ L, a ≠ h → F7x a = F a := fun a h1 h2 => by rw [eF7]; exact (va_up_ne _ _ (fun e : a = q1 => nL_q1 (e ▸ h1))).trans (hfr a h1 h2)
        replace hF_q1 : F7x q1 = arrI (y 0) 100 (filF (fun _ => 0) (-1) (r + 1)) := by rw [hF_q1, filF_s (by omega)]
        refine q_iinc (x := r) (n := 1) (lv' := [(2, .int (iI ((r + 1)))), (0, .ref h), (1, .int (iI o))]) hx hb dX5_init_32 hl (k := 2) rfl (by decide) rfl (fun ls hl => ?_)
        refine lv_goto (tgt := 19) hx hb dX5_init_35 (by decide) ?_
        exact ih_LP19 _ (by omega) (r + 1) F7x _ _ (by omega) (hP) (hD) (hS) (hF_h) (hF_q1) (hfr) rfl ls (lv_sub hl [1, 2, 0] rfl)
  exact LP19 _ 0 F4x _ _ (by omega) (hP) (hD) (hS) (hF_h) (by rw [filF_0]; exact hF_q1) (hfr) rfl ls (lv_sub hl [1, 2, 0] rfl)
set_option maxHeartbeats 800000 in
set_option maxRecDepth 100000 in
theorem c_X5_like (l : Launch) (D : va_G) (y : Nat → ClassId) (L : List Nat) (F : Nat → va_E) (sz : Nat) (h : Nat) (w : Nat) (o : Int) (f : Int → Int) (no : Int) (lo : Int) (hi : Int) (hB : MB y L F h w o f) (hno : 0 ≤ no ∧ no ≤ 2) (hlo : 0 ≤ lo ∧ lo ≤ 900) (hhi : -900 ≤ hi ∧ hi ≤ 99) : Met l yX5_like (.code yX5_like cX5_like 6 (some (.object "BookgrafterModel$Book")) :: Tt) ({ frames := 2, cells := 2, slots := 102, locals := 34 }) (PcM D y L F sz [.ref h, .int (iI no), .int (iI lo), .int (iI hi)]) (cMa D (AL L sz) (fun r L1 F1 => ∃ q, L1 = (L ++ [r]) ++ [q] ∧ r ∉ L ∧ q ∉ L ∧ r ≠ q ∧ MB y L1 F1 r q no (mlk no o f lo hi emp) ∧ ∀ a ∈ L, F1 a = F a)) 2 102 (AL L sz) := by
  obtain ⟨ha_h, hF_h, ha_w, hF_w, ho, hfb⟩ := hB
  have hfm : ∀ k, -1 ≤ mwd o f k ∧ mwd o f k ≤ 99 := fun k => hfb _
  have n_h_w : h ≠ w := ne_oa hF_h hF_w
  have gF_h := hF_h
  have hfr : ∀ a ∈ L, a ≠ h → F a = F a := fun _ _ _ => rfl
  have hLs : ∀ a ∈ L, a ∈ L := fun _ z => z
  refine q_ofM (lv := [(0, .ref h), (1, .int (iI no)), (2, .int (iI lo)), (3, .int (iI hi))]) (by decide) (Nat.le_of_ble_eq_true rfl) rfl (fun p e s m below meth c C0 hret hlk hnm hA hP hD hS ls hl => ?_)
  have hx := C0.1.1
  have hb := C0.1.2.1
  have hts := C0.1.2.2.2.2
  refine q_new C0 iX5 tyX5 tyX5_ok klX5_10 insX5 iniX5 hP hD hS hA (ci := 7) rfl (fs := [.int (iI 0), .null]) (fun j hj => by rcases (show j = 0 ∨ j = 1 by omega) with rfl | rfl <;> rfl) (Nat.le_of_ble_eq_true rfl) (Nat.le_of_ble_eq_true rfl) dX5_like_0 (fun q1 H h0q1 hP hD hS => ?_)
  refine W.widen (k := 1) (n := 2) (Nat.le_of_ble_eq_true rfl) (Nat.le_of_ble_eq_true rfl) ?_
  have n_h_q1 : h ≠ q1 := fun e => h0q1 (e ▸ ha_h)
  have n_w_q1 : w ≠ q1 := fun e => h0q1 (e ▸ ha_w)
  have nL_q1 : q1 ∉ L := fun z => h0q1 (hLs _ z)
  obtain ⟨L2x, eLL2x⟩ : ∃ z, z = L ++ [q1] := ⟨_, rfl⟩
  obtain ⟨F2x, eFL2x⟩ : ∃ z, z = va_up F q1 (.inr (7, [.int (iI 0), .null])) := ⟨_, rfl⟩
  have hP : va_P D vwCl (va_pl L2x F2x) H := by rw [eLL2x, eFL2x]; exact hP
  have hD : va_D (AL L sz) (va_pl L2x F2x) := by rw [eLL2x, eFL2x]; exact hD
  have hF_h : F2x h = .inr (7, [.int (iI o), .ref w]) := by rw [eFL2x]; exact (va_up_ne _ _ n_h_q1).trans hF_h
  have ha_h : h ∈ L2x := by rw [eLL2x]; exact List.mem_append_left _ ha_h
  have hF_w : F2x w = arrI (y 0) 100 (mwd o f) := by rw [eFL2x]; exact (va_up_ne _ _ n_w_q1).trans hF_w
  have ha_w : w ∈ L2x := by rw [eLL2x]; exact List.mem_append_left _ ha_w
  have hfr : ∀ a ∈ L, a ≠ h → F2x a = F a := fun a h1 h2 => by rw [eFL2x]; exact (va_up_ne _ _ (fun e : a = q1 => nL_q1 (e ▸ h1))).trans (hfr a h1 h2)
  have hLs : ∀ a ∈ L, a ∈ L2x := fun a h1 => by rw [eLL2x]; exact List.mem_append_left _ (hLs a h1)
  have hF_q1 : F2x q1 = .inr (7, [.int (iI 0), .null]) := by rw [eFL2x]; exact va_up_self _ _ _
  have ha_q1 : q1 ∈ L2x := by rw [eLL2x]; exact List.mem_append_right _ List.mem_cons_self
  refine lv_dup hx hb dX5_like_3 rfl ?_
  refine lv_iload_n hx hb dX5_like_4 rfl (lv_at hl 1 rfl) ?_
  refine q_iMv C0 lX5_45 (c_X5_init l D y L2x F2x _ q1 no ha_q1 hF_q1 (by omega)) ⟨rfl, rfl⟩ rfl hP hD hS hA rfl hl rfl (Nat.le_of_ble_eq_true rfl) dX5_like_5 ⟨Nat.le_of_ble_eq_true rfl, Nat.le_of_ble_eq_true rfl⟩ (fun _ H locs L4 F4 hP hD hS hz4 hp4 => ?_)
  refine W.widen (k := 2) (n := 102) (Nat.le_of_ble_eq_true rfl) (Nat.le_of_ble_eq_true rfl) ?_
  obtain ⟨q1w, h0q1w, eLq1w, hRn, hfrq1w⟩ := hp4
  have n_h_q1w : h ≠ q1w := fun e => h0q1w (e ▸ ha_h)
  have n_w_q1w : w ≠ q1w := fun e => h0q1w (e ▸ ha_w)
  have n_q1_q1w : q1 ≠ q1w := fun e => h0q1w (e ▸ ha_q1)
  have nL_q1w : q1w ∉ L := fun z => h0q1w (hLs _ z)
  have hF_h : F4 h = .inr (7, [.int (iI o), .ref w]) := (hfrq1w h ha_h n_h_q1).trans hF_h
  have ha_h : h ∈ L4 := by rw [eLq1w]; exact List.mem_append_left _ ha_h
  have hF_w : F4 w = arrI (y 0) 100 (mwd o f) := (hfrq1w w ha_w n_w_q1).trans hF_w
  have ha_w : w ∈ L4 := by rw [eLq1w]; exact List.mem_append_left _ ha_w
  have ha_q1 : q1 ∈ L4 := by rw [eLq1w]; exact List.mem_append_left _ ha_q1
  have hfr : ∀ a ∈ L, a ≠ h → F4 a = F a := fun a h1 h2 => (hfrq1w a (hLs a h1) (fun e : a = q1 => nL_q1 (e ▸ h1))).trans (hfr a h1 h2)
  have hLs : ∀ a ∈ L, a ∈ L4 := fun a h1 => by rw [eLq1w]; exact List.mem_append_left _ (hLs a h1)
  have hF_q1 : F4 q1 = .inr (7, [.int (iI no), .ref q1w]) := hRn.2.1
  have hF_q1w : F4 q1w = arrI (y 0) 100 (mwd no emp) := hRn.2.2.2.1
  have ha_q1w : q1w ∈ L4 := hRn.2.2.1
  refine lv_astore (lv' := [(4, .ref q1), (0, .ref h), (1, .int (iI no)), (2, .int (iI lo)), (3, .int (iI hi))]) hx hb dX5_like_8 hl (by decide) rfl (fun ls hl => ?_)
  refine lv_iload_n hx hb dX5_like_10 rfl (lv_at hl 3 rfl) ?_
  refine lv_istore (lv' := [(5, .int (iI lo)), (4, .ref q1), (0, .ref h), (1, .int (iI no)), (2, .int (iI lo)), (3, .int (iI hi))]) hx hb dX5_like_11 hl (by decide) rfl (fun ls hl => ?_)
  have LP13 : ∀ (n_LP13 : Nat) (r : Int) (Fv : Nat → va_E) (gv : Int → Int) (H : Heap) (locs : List Loc), (lo ≤ r ∧ r ≤ 1001) → (va_P D vwCl (va_pl L4 Fv) H) → (va_D (AL L sz) (va_pl L4 Fv)) → (va_S (AL L sz) s.heap H locs) → (Fv h = .inr (7, [.int (iI o), .ref w])) → (Fv w = arrI (y 0) 100 (mwd o f)) → (Fv q1 = .inr (7, [.int (iI no), .ref q1w])) → (Fv q1w = arrI (y 0) 100 (mwd no gv)) → (∀ i, -1 ≤ gv i ∧ gv i ≤ 99) → (∀ a ∈ L, a ≠ h → Fv a = F a) → (mlk no o f lo hi emp = mlk no o f r hi gv) → (hi + 1 - r).toNat = n_LP13 → ∀ ls : Array Slot, lv_has ls 6 [(0, .ref h), (1, .int (iI no)), (2, .int (iI lo)), (3, .int (iI hi)), (4, .ref q1), (5, .int (iI r))] → W p l e ({ frames := 2, cells := 2, slots := 102, locals := 34 } : Room) s m [.ref h, .int (iI no), .int (iI lo), .int (iI hi)].toArray below meth c H locs 2 102 (MQ below (cMa D (AL L sz) (fun r L1 F1 => ∃ q, L1 = (L ++ [r]) ++ [q] ∧ r ∉ L ∧ q ∉ L ∧ r ≠ q ∧ MB y L1 F1 r q no (mlk no o f lo hi emp) ∧ ∀ a ∈ L, F1 a = F a)) [.ref h, .int (iI no), .int (iI lo), .int (iI hi)].toArray s 2 102 (AL L sz)) (F0 m 13 ls []) := by
    intro n_LP13
    induction n_LP13 using Nat.strongRecOn with
    | ind n_LP13 ih_LP13 =>
      intro r Fv gv H locs hr hP hD hS hF_h hF_w hF_q1 hF_q1w hgv hfr hI hm_LP13 ls hl
      refine lv_iload hx hb dX5_like_13 (lv_at hl 5 rfl) ?_
      refine lv_iload_n hx hb dX5_like_15 rfl (lv_at hl 3 rfl) ?_
      refine q_icmp_gt hx hb dX5_like_16 (tgt := 48) (by decide) (by omega) (by omega) (fun c6 => ?_) (fun c6 => ?_)
      · refine lv_aload hx hb dX5_like_48 (lv_at hl 4 rfl) ?_
        exact q_retMa C0 hret (Or.inl ⟨_, rfl⟩) hlk dX5_like_50 hP hD hS (⟨q1w, (by rw [eLq1w, eLL2x]), nL_q1, nL_q1w, n_q1_q1w, ⟨ha_q1, hF_q1, ha_q1w, (by rw [hI, mlk_e (by omega)]; exact hF_q1w), hno, (by rw [hI, mlk_e (by omega)]; exact hgv)⟩, fun a h1 => by
    by_cases e : a = h
    · rw [e]; exact hF_h.trans gF_h.symm
    · exact hfr a h1 e⟩)
      · refine lv_aload hx hb dX5_like_19 (lv_at hl 4 rfl) ?_
        refine q_get C0 iX5 hP ha_q1 hF_q1 rfl 1 (by decide) flX5_9 rfl rfl dX5_like_21 ?_
        refine lv_aload_n hx hb dX5_like_24 rfl (lv_at hl 0 rfl) ?_
        refine lv_iload hx hb dX5_like_25 (lv_at hl 5 rfl) ?_
        refine q_vS C0 lX5_19 (c_X5_key l D y L4 Fv h w o f r ⟨ha_h, hF_h, ha_w, hF_w, ho, hfb⟩ (by omega)) ⟨rfl, rfl⟩ rfl hP ha_h hF_h rfl rfl rfl hl rfl (Nat.le_of_ble_eq_true rfl) dX5_like_27 ⟨Nat.le_of_ble_eq_true rfl, Nat.le_of_ble_eq_true rfl⟩ (fun r7 e_r7 => ?_)
        subst e_r7
        have b_8 := @turn_b o r (by omega)
        refine lv_aload_n hx hb dX5_like_30 rfl (lv_at hl 0 rfl) ?_
        refine q_get C0 iX5 hP ha_h hF_h rfl 1 (by decide) flX5_9 rfl rfl dX5_like_31 ?_
        refine lv_aload_n hx hb dX5_like_34 rfl (lv_at hl 0 rfl) ?_
        refine lv_iload hx hb dX5_like_35 (lv_at hl 5 rfl) ?_
        refine q_vS C0 lX5_19 (c_X5_key l D y L4 Fv h w o f r ⟨ha_h, hF_h, ha_w, hF_w, ho, hfb⟩ (by omega)) ⟨rfl, rfl⟩ rfl hP ha_h hF_h rfl rfl rfl hl rfl (Nat.le_of_ble_eq_true rfl) dX5_like_37 ⟨Nat.le_of_ble_eq_true rfl, Nat.le_of_ble_eq_true rfl⟩ (fun r9 e_r9 => ?_)
        subst e_r9
        have b_10 := @turn_b o r (by omega)
        refine q_iald C0 hP ha_w hF_w (by omega) (by decide) dX5_like_40 ?_
        have b_11 := hfm (turn o r)
        refine q_iast C0 hP hD hS ha_q1w hF_q1w (i := (turn o r)) (v := ((mwd o f) (turn o r))) (by omega) (by decide) dX5_like_41 (fun H locs hP hD hS => ?_)
        obtain ⟨F12x, eF12⟩ : ∃ z, z = va_up Fv q1w (arrI (y 0) 100 (iu (mwd no gv) (turn o r) ((mwd o f) (turn o r)))) := ⟨_, rfl⟩
        have hP : va_P D vwCl (va_pl L4 F12x) H := by rw [eF12]; exact hP
        have hD : va_D (AL L sz) (va_pl L4 F12x) := by rw [eF12]; exact hD
        have hF_h : F12x h = .inr (7, [.int (iI o), .ref w]) := by rw [eF12]; exact (va_up_ne _ _ n_h_q1w).trans hF_h
        have hF_w : F12x w = arrI (y 0) 100 (mwd o f) := by rw [eF12]; exact (va_up_ne _ _ n_w_q1w).trans hF_w
        have hF_q1 : F12x q1 = .inr (7, [.int (iI no), .ref q1w]) := by rw [eF12]; exact (va_up_ne _ _ n_q1_q1w).trans hF_q1
        have hF_q1w : F12x q1w = arrI (y 0) 100 (iu (mwd no gv) (turn o r) ((mwd o f) (turn o r))) := by rw [eF12]; exact va_up_self _ _ _
        have hfr : ∀ a ∈ L, a ≠ h → F12x a = F a := fun a h1 h2 => by rw [eF12]; exact (va_up_ne _ _ (fun e : a = q1w => nL_q1w (e ▸ h1))).trans (hfr a h1 h2)
        replace hP := va_P_re (a := q1w) (e := arrI (y 0) 100 (mwd no (iu gv (turn no (turn o r)) ((mwd o f) (turn o r))))) hP (fun X z => by rw [hF_q1w] at z; exact at_arrI (fun i h0 h1 => mwd_iu (by omega) i h0 h1) X z)
        replace hD := va_D_re (F1 := va_up F12x q1w (arrI (y 0) 100 (mwd no (iu gv (turn no (turn o r)) ((mwd o f) (turn o r)))))) hD
        obtain ⟨F13x, eF13⟩ : ∃ z, z = va_up F12x q1w (arrI (y 0) 100 (mwd no (iu gv (turn no (turn o r)) ((mwd o f) (turn o r))))) := ⟨_, rfl⟩
        have hP : va_P D vwCl (va_pl L4 F13x) H := by rw [eF13]; exact hP
        have hD : va_D (AL L sz) (va_pl L4 F13x) := by rw [eF13]; exact hD
        have hF_h : F13x h = .inr (7, [.int (iI o), .ref w]) := by rw [eF13]; exact (va_up_ne _ _ n_h_q1w).trans hF_h
        have hF_w : F13x w = arrI (y 0) 100 (mwd o f) := by rw [eF13]; exact (va_up_ne _ _ n_w_q1w).trans hF_w
        have hF_q1 : F13x q1 = .inr (7, [.int (iI no), .ref q1w]) := by rw [eF13]; exact (va_up_ne _ _ n_q1_q1w).trans hF_q1
        have hF_q1w : F13x q1w = arrI (y 0) 100 (mwd no (iu gv (turn no (turn o r)) ((mwd o f) (turn o r)))) := by rw [eF13]; exact va_up_self _ _ _
        have hfr : ∀ a ∈ L, a ≠ h → F13x a = F a := fun a h1 h2 => by rw [eF13]; exact (va_up_ne _ _ (fun e : a = q1w => nL_q1w (e ▸ h1))).trans (hfr a h1 h2)
        refine q_iinc (x := r) (n := 1) (lv' := [(5, .int (iI ((r + 1)))), (0, .ref h), (1, .int (iI no)), (2, .int (iI lo)), (3, .int (iI hi)), (4, .ref q1)]) hx hb dX5_like_42 hl (k := 5) rfl (by decide) rfl (fun ls hl => ?_)
        refine lv_goto (tgt := 13) hx hb dX5_like_45 (by decide) ?_
        exact ih_LP13 _ (by omega) (r + 1) F13x (iu gv (turn no (turn o r)) ((mwd o f) (turn o r))) _ _ (by omega) (hP) (hD) (hS) (hF_h) (hF_w) (hF_q1) (hF_q1w) (fun i => by unfold iu; split <;> first | exact hfm _ | exact hgv i) (hfr) (by rw [hI, mlk_s (by omega), f_turn f o (by omega)]) rfl ls (lv_sub hl [1, 2, 3, 4, 5, 0] rfl)
  exact LP13 _ lo F4 emp _ _ (by omega) (hP) (hD) (hS) (hF_h) (hF_w) (hF_q1) (hF_q1w) (emp_b) (hfr) (rfl) rfl ls (lv_sub hl [2, 3, 4, 5, 1, 0] rfl)
set_option maxHeartbeats 800000 in
set_option maxRecDepth 100000 in
theorem c_X4_init (l : Launch) (D : va_G) (y : Nat → ClassId) (L : List Nat) (F : Nat → va_E) (sz : Nat) (h : Nat)  : Met l yX4_init (.code yX4_init cX4_init 1 none :: Tt) ({ frames := 1, cells := 0, slots := 0, locals := 12 }) (PcM D y L F sz [.ref h]) (cMv D (AL L sz) (fun _ L1 F1 => L = L1 ∧ F = F1)) 0 0 (AL L sz) := by
  refine q_ofM (lv := [(0, .ref h)]) (by decide) (Nat.le_of_ble_eq_true rfl) rfl (fun p e s m below meth c C0 hret hlk hnm hA hP hD hS ls hl => ?_)
  have hx := C0.1.1
  have hb := C0.1.2.1
  have hts := C0.1.2.2.2.2
  refine lv_aload_n hx hb dX4_init_0 rfl (lv_at hl 0 rfl) ?_
  refine W.objInit hx hb C0.1.2.2.2.1 (hts (.methodLink RX4 1 objectInit) (List.mem_cons_of_mem _ mlX4_1)) (hts (.instanceMethod objectInit) (List.mem_cons_of_mem _ imObj)) (hts _ (List.mem_cons_of_mem _ cdObj)) rfl (by rw [C0.1.2.2.1]; exact hl.1) rfl dX4_init_1 (Nat.le_of_ble_eq_true rfl) (Nat.le_of_ble_eq_true rfl) ?_
  refine W.eq (g2 := F0 m 4 ls []) rfl ?_
  exact q_retMv C0 hret hlk dX4_init_4 hP hD hS (⟨rfl, rfl⟩)
