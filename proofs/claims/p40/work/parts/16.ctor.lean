def kS_init : CS := (7, fun _ => 0, fun _ => R0, fun b => if b = 1 then 1 else if b = 2 then 2 else if b = 3 then 3 else 0, fun b => if b = 1 then 5 else if b = 2 then 6 else 4, fun v => if v = 1 then 1 else 0, fun _ => 0, fun _ => 99, none, 0, 0, 0, 0, 0, 0, 0)
set_option maxHeartbeats 800000 in
set_option maxRecDepth 100000 in
theorem c_X1_init (l : Launch) (D : va_G) (y : Nat → ClassId) (L : List Nat) (F : Nat → va_E) (sz : Nat) (h : Nat) (r : Nat) (ha_h : h ∈ L) (hF_h : F h = .inr (3, [.null, .int (iI 0), .int (iI 0)])) : Met l yX1_init (.code yX1_init cX1_init 2 none :: Tt) ({ frames := 1, cells := 0, slots := 0, locals := 12 }) (PcM D y L F sz [.ref h, .ref r]) (cMv D (AL L sz) (fun _ L1 F1 => L = L1 ∧ F1 h = vwE r 0 99 ∧ ∀ a ∈ L, a ≠ h → F1 a = F a)) 0 0 (AL L sz) := by
  have hfr : ∀ a ∈ L, a ≠ h → F a = F a := fun _ _ _ => rfl
  have hLs : ∀ a ∈ L, a ∈ L := fun _ z => z
  refine q_ofM (lv := [(0, .ref h), (1, .ref r)]) (by decide) (Nat.le_of_ble_eq_true rfl) rfl (fun p e s m below meth c C0 hret hlk hnm hA hP hD hS ls hl => ?_)
  have hx := C0.1.1
  have hb := C0.1.2.1
  have hts := C0.1.2.2.2.2
  refine lv_aload_n hx hb dX1_init_0 rfl (lv_at hl 0 rfl) ?_
  refine W.objInit hx hb C0.1.2.2.2.1 (hts (.methodLink RX1 3 objectInit) (List.mem_cons_of_mem _ mlX1_3)) (hts (.instanceMethod objectInit) (List.mem_cons_of_mem _ imObj)) (hts _ (List.mem_cons_of_mem _ cdObj)) rfl (by rw [C0.1.2.2.1]; exact hl.1) rfl dX1_init_1 (Nat.le_of_ble_eq_true rfl) (Nat.le_of_ble_eq_true rfl) ?_
  refine W.eq (g2 := F0 m 4 ls []) rfl ?_
  refine lv_aload_n hx hb dX1_init_4 rfl (lv_at hl 0 rfl) ?_
  refine lv_aload_n hx hb dX1_init_5 rfl (lv_at hl 1 rfl) ?_
  refine q_put C0 iX1 tyX1 tyX1_ok nmX1 hP hD hS ha_h hF_h rfl 0 (by decide) flX1_9 rfl rfl rfl rfl (Nat.le_of_ble_eq_true rfl) dX1_init_6 (fun H locs hP hD hS => ?_)
  obtain ⟨F1x, eF1⟩ : ∃ z, z = va_up F h (.inr (3, [.ref r, .int (iI 0), .int (iI 0)])) := ⟨_, rfl⟩
  have hP : va_P D vwCl (va_pl L F1x) H := by rw [eF1]; exact hP
  have hD : va_D (AL L sz) (va_pl L F1x) := by rw [eF1]; exact hD
  have hF_h : F1x h = .inr (3, [.ref r, .int (iI 0), .int (iI 0)]) := by rw [eF1]; exact va_up_self _ _ _
  have hfr : ∀ a ∈ L, a ≠ h → F1x a = F a := fun a h1 h2 => by rw [eF1]; exact (va_up_ne _ _ h2).trans (hfr a h1 h2)
  refine lv_aload_n hx hb dX1_init_9 rfl (lv_at hl 0 rfl) ?_
  refine q_bipush hx hb dX1_init_10 (by decide) ?_
  refine q_put C0 iX1 tyX1 tyX1_ok nmX1 hP hD hS ha_h hF_h rfl 2 (by decide) flX1_15 rfl rfl rfl rfl (Nat.le_of_ble_eq_true rfl) dX1_init_12 (fun H locs hP hD hS => ?_)
  obtain ⟨F2x, eF2⟩ : ∃ z, z = va_up F1x h (.inr (3, [.ref r, .int (iI 0), .int (iI 99)])) := ⟨_, rfl⟩
  have hP : va_P D vwCl (va_pl L F2x) H := by rw [eF2]; exact hP
  have hD : va_D (AL L sz) (va_pl L F2x) := by rw [eF2]; exact hD
  have hF_h : F2x h = .inr (3, [.ref r, .int (iI 0), .int (iI 99)]) := by rw [eF2]; exact va_up_self _ _ _
  have hfr : ∀ a ∈ L, a ≠ h → F2x a = F a := fun a h1 h2 => by rw [eF2]; exact (va_up_ne _ _ h2).trans (hfr a h1 h2)
  exact q_retMv C0 hret hlk dX1_init_15 hP hD hS (⟨rfl, hF_h, hfr⟩)
set_option maxHeartbeats 800000 in
set_option maxRecDepth 100000 in
theorem c_X2_init (l : Launch) (D : va_G) (y : Nat → ClassId) (L : List Nat) (F : Nat → va_E) (sz : Nat) (h : Nat)  : Met l yX2_init (.code yX2_init cX2_init 1 none :: Tt) ({ frames := 1, cells := 0, slots := 0, locals := 12 }) (PcM D y L F sz [.ref h]) (cMv D (AL L sz) (fun _ L1 F1 => L = L1 ∧ F = F1)) 0 0 (AL L sz) := by
  refine q_ofM (lv := [(0, .ref h)]) (by decide) (Nat.le_of_ble_eq_true rfl) rfl (fun p e s m below meth c C0 hret hlk hnm hA hP hD hS ls hl => ?_)
  have hx := C0.1.1
  have hb := C0.1.2.1
  have hts := C0.1.2.2.2.2
  refine lv_aload_n hx hb dX2_init_0 rfl (lv_at hl 0 rfl) ?_
  refine W.objInit hx hb C0.1.2.2.2.1 (hts (.methodLink RX2 3 objectInit) (List.mem_cons_of_mem _ mlX2_3)) (hts (.instanceMethod objectInit) (List.mem_cons_of_mem _ imObj)) (hts _ (List.mem_cons_of_mem _ cdObj)) rfl (by rw [C0.1.2.2.1]; exact hl.1) rfl dX2_init_1 (Nat.le_of_ble_eq_true rfl) (Nat.le_of_ble_eq_true rfl) ?_
  refine W.eq (g2 := F0 m 4 ls []) rfl ?_
  exact q_retMv C0 hret hlk dX2_init_4 hP hD hS (⟨rfl, rfl⟩)
set_option maxHeartbeats 800000 in
set_option maxRecDepth 100000 in
theorem c_X3_init (l : Launch) (D : va_G) (y : Nat → ClassId) (L : List Nat) (F : Nat → va_E) (sz : Nat) (h : Nat) (ha_h : h ∈ L) (hF_h : F h = .inr (5, [.null, .null, .null, .null, .int (iI 0), .int (iI 0), .int (iI 0), .int (iI 0)])) : Met l yX3_init (.code yX3_init cX3_init 2 none :: Tt) ({ frames := 2, cells := 20, slots := 747, locals := 44 }) (PcM D y L F sz [.ref h]) (cMv D (AL L sz) (fun _ L1 F1 => ∃ (O1 : Nat → Prop) (G1 : CG), CP y L1 F1 O1 G1 kS_init ∧ gbg G1 = h ∧ (∀ a ∈ L, a ∈ L1) ∧ (∀ a ∈ L, a ≠ h → F1 a = F a) ∧ ∀ a, O1 a → a = h ∨ a ∉ L)) 20 747 (AL L sz) := by
  have hfr : ∀ a ∈ L, a ≠ h → F a = F a := fun _ _ _ => rfl
  have hLs : ∀ a ∈ L, a ∈ L := fun _ z => z
  refine q_ofM (lv := [(0, .ref h)]) (by decide) (Nat.le_of_ble_eq_true rfl) rfl (fun p e s m below meth c C0 hret hlk hnm hA hP hD hS ls hl => ?_)
  have hx := C0.1.1
  have hb := C0.1.2.1
  have hts := C0.1.2.2.2.2
  refine lv_aload_n hx hb dX3_init_0 rfl (lv_at hl 0 rfl) ?_
  refine W.objInit hx hb C0.1.2.2.2.1 (hts (.methodLink RX3 1 objectInit) (List.mem_cons_of_mem _ mlX3_1)) (hts (.instanceMethod objectInit) (List.mem_cons_of_mem _ imObj)) (hts _ (List.mem_cons_of_mem _ cdObj)) rfl (by rw [C0.1.2.2.1]; exact hl.1) rfl dX3_init_1 (Nat.le_of_ble_eq_true rfl) (Nat.le_of_ble_eq_true rfl) ?_
  refine W.eq (g2 := F0 m 4 ls []) rfl ?_
  refine lv_aload_n hx hb dX3_init_4 rfl (lv_at hl 0 rfl) ?_
  refine q_iconst hx hb dX3_init_5 ?_
  refine q_newq C0 (t := 1) klX3_9 C0.2.2.1 rfl hP hD hS hA (N := 4) rfl (Nat.le_of_ble_eq_true rfl) (Nat.le_of_ble_eq_true rfl) (Nat.le_of_ble_eq_true rfl) dX3_init_6 (fun q1 H h0q1 hP hD hS => ?_)
  refine W.widen (k := 1) (n := 4) (Nat.le_of_ble_eq_true rfl) (Nat.le_of_ble_eq_true rfl) ?_
  have n_h_q1 : h ≠ q1 := fun e => h0q1 (e ▸ ha_h)
  have nL_q1 : q1 ∉ L := fun z => h0q1 (hLs _ z)
  obtain ⟨L2x, eLL2x⟩ : ∃ z, z = L ++ [q1] := ⟨_, rfl⟩
  obtain ⟨F2x, eFL2x⟩ : ∃ z, z = va_up F q1 (arrQ (y 1) 4 (fun _ => none)) := ⟨_, rfl⟩
  have hP : va_P D vwCl (va_pl L2x F2x) H := by rw [eLL2x, eFL2x]; exact hP
  have hD : va_D (AL L sz) (va_pl L2x F2x) := by rw [eLL2x, eFL2x]; exact hD
  have hF_h : F2x h = .inr (5, [.null, .null, .null, .null, .int (iI 0), .int (iI 0), .int (iI 0), .int (iI 0)]) := by rw [eFL2x]; exact (va_up_ne _ _ n_h_q1).trans hF_h
  have ha_h : h ∈ L2x := by rw [eLL2x]; exact List.mem_append_left _ ha_h
  have hfr : ∀ a ∈ L, a ≠ h → F2x a = F a := fun a h1 h2 => by rw [eFL2x]; exact (va_up_ne _ _ (fun e : a = q1 => nL_q1 (e ▸ h1))).trans (hfr a h1 h2)
  have hLs : ∀ a ∈ L, a ∈ L2x := fun a h1 => by rw [eLL2x]; exact List.mem_append_left _ (hLs a h1)
  have hF_q1 : F2x q1 = arrQ (y 1) 4 (fun _ => none) := by rw [eFL2x]; exact va_up_self _ _ _
  have ha_q1 : q1 ∈ L2x := by rw [eLL2x]; exact List.mem_append_right _ List.mem_cons_self
  refine q_putF C0 iX3 tyX3 tyX3_ok nmX3 hP hD hS ha_h hF_h rfl 0 (by decide) flX3_11 rfl rfl hnm rfl rfl rfl (Nat.le_of_ble_eq_true rfl) dX3_init_9 (fun H locs hP hD hS => ?_)
  obtain ⟨F3x, eF3⟩ : ∃ z, z = va_up F2x h (.inr (5, [.ref q1, .null, .null, .null, .int (iI 0), .int (iI 0), .int (iI 0), .int (iI 0)])) := ⟨_, rfl⟩
  have hP : va_P D vwCl (va_pl L2x F3x) H := by rw [eF3]; exact hP
  have hD : va_D (AL L sz) (va_pl L2x F3x) := by rw [eF3]; exact hD
  have hF_q1 : F3x q1 = arrQ (y 1) 4 (fun _ => none) := by rw [eF3]; exact (va_up_ne _ _ n_h_q1.symm).trans hF_q1
  have hF_h : F3x h = .inr (5, [.ref q1, .null, .null, .null, .int (iI 0), .int (iI 0), .int (iI 0), .int (iI 0)]) := by rw [eF3]; exact va_up_self _ _ _
  have hfr : ∀ a ∈ L, a ≠ h → F3x a = F a := fun a h1 h2 => by rw [eF3]; exact (va_up_ne _ _ h2).trans (hfr a h1 h2)
  refine q_iconst hx hb dX3_init_12 ?_
  refine lv_istore_n (lv' := [(1, .int (iI 0)), (0, .ref h)]) hx hb dX3_init_13 rfl hl (by decide) rfl (fun ls hl => ?_)
  refine lv_iload_n hx hb dX3_init_14 rfl (lv_at hl 0 rfl) ?_
  refine q_iconst hx hb dX3_init_15 ?_
  refine q_icmp_ge hx hb dX3_init_16 (tgt := 39) (by decide) (by omega) (by omega) (fun c4 => absurd c4 (by omega)) (fun c4 => ?_)
  refine lv_aload_n hx hb dX3_init_19 rfl (lv_at hl 1 rfl) ?_
  refine q_get C0 iX3 hP ha_h hF_h rfl 0 (by decide) flX3_11 rfl rfl dX3_init_20 ?_
  refine lv_iload_n hx hb dX3_init_23 rfl (lv_at hl 0 rfl) ?_
  refine q_new C0 iX0 tyX0 tyX0_ok klX3_9 insX0 iniX0 hP hD hS hA (ci := 2) rfl (fs := [.int (iI 0), .null, .int (iI 0), .int (iI 0)]) (fun j hj => by rcases (show j = 0 ∨ j = 1 ∨ j = 2 ∨ j = 3 by omega) with rfl | rfl | rfl | rfl <;> rfl) (Nat.le_of_ble_eq_true rfl) (Nat.le_of_ble_eq_true rfl) dX3_init_24 (fun q5 H h0q5 hP hD hS => ?_)
  refine W.widen (k := 2) (n := 8) (Nat.le_of_ble_eq_true rfl) (Nat.le_of_ble_eq_true rfl) ?_
  have n_h_q5 : h ≠ q5 := fun e => h0q5 (e ▸ ha_h)
  have n_q1_q5 : q1 ≠ q5 := fun e => h0q5 (e ▸ ha_q1)
  have nL_q5 : q5 ∉ L := fun z => h0q5 (hLs _ z)
  obtain ⟨L6x, eLL6x⟩ : ∃ z, z = L2x ++ [q5] := ⟨_, rfl⟩
  obtain ⟨F6x, eFL6x⟩ : ∃ z, z = va_up F3x q5 (.inr (2, [.int (iI 0), .null, .int (iI 0), .int (iI 0)])) := ⟨_, rfl⟩
  have hP : va_P D vwCl (va_pl L6x F6x) H := by rw [eLL6x, eFL6x]; exact hP
  have hD : va_D (AL L sz) (va_pl L6x F6x) := by rw [eLL6x, eFL6x]; exact hD
  have hF_h : F6x h = .inr (5, [.ref q1, .null, .null, .null, .int (iI 0), .int (iI 0), .int (iI 0), .int (iI 0)]) := by rw [eFL6x]; exact (va_up_ne _ _ n_h_q5).trans hF_h
  have ha_h : h ∈ L6x := by rw [eLL6x]; exact List.mem_append_left _ ha_h
  have hF_q1 : F6x q1 = arrQ (y 1) 4 (fun _ => none) := by rw [eFL6x]; exact (va_up_ne _ _ n_q1_q5).trans hF_q1
  have ha_q1 : q1 ∈ L6x := by rw [eLL6x]; exact List.mem_append_left _ ha_q1
  have hfr : ∀ a ∈ L, a ≠ h → F6x a = F a := fun a h1 h2 => by rw [eFL6x]; exact (va_up_ne _ _ (fun e : a = q5 => nL_q5 (e ▸ h1))).trans (hfr a h1 h2)
  have hLs : ∀ a ∈ L, a ∈ L6x := fun a h1 => by rw [eLL6x]; exact List.mem_append_left _ (hLs a h1)
  have hF_q5 : F6x q5 = .inr (2, [.int (iI 0), .null, .int (iI 0), .int (iI 0)]) := by rw [eFL6x]; exact va_up_self _ _ _
  have ha_q5 : q5 ∈ L6x := by rw [eLL6x]; exact List.mem_append_right _ List.mem_cons_self
  refine lv_dup hx hb dX3_init_27 rfl ?_
  refine q_iconst hx hb dX3_init_28 ?_
  refine q_iMv C0 lX3_15 (c_X0_init l D y L6x F6x _ q5 0 ha_q5 hF_q5 (by omega)) ⟨rfl, rfl⟩ rfl hP hD hS hA rfl hl rfl (Nat.le_of_ble_eq_true rfl) dX3_init_29 ⟨Nat.le_of_ble_eq_true rfl, Nat.le_of_ble_eq_true rfl⟩ (fun _ H locs L8 F8 hP hD hS hz8 hp8 => ?_)
  refine W.widen (k := 3) (n := 108) (Nat.le_of_ble_eq_true rfl) (Nat.le_of_ble_eq_true rfl) ?_
  obtain ⟨q5w, h0q5w, eLq5w, hRn, hfrq5w⟩ := hp8
  have n_h_q5w : h ≠ q5w := fun e => h0q5w (e ▸ ha_h)
  have n_q1_q5w : q1 ≠ q5w := fun e => h0q5w (e ▸ ha_q1)
  have n_q5_q5w : q5 ≠ q5w := fun e => h0q5w (e ▸ ha_q5)
  have nL_q5w : q5w ∉ L := fun z => h0q5w (hLs _ z)
  have hF_h : F8 h = .inr (5, [.ref q1, .null, .null, .null, .int (iI 0), .int (iI 0), .int (iI 0), .int (iI 0)]) := (hfrq5w h ha_h n_h_q5).trans hF_h
  have ha_h : h ∈ L8 := by rw [eLq5w]; exact List.mem_append_left _ ha_h
  have hF_q1 : F8 q1 = arrQ (y 1) 4 (fun _ => none) := (hfrq5w q1 ha_q1 n_q1_q5).trans hF_q1
  have ha_q1 : q1 ∈ L8 := by rw [eLq5w]; exact List.mem_append_left _ ha_q1
  have ha_q5 : q5 ∈ L8 := by rw [eLq5w]; exact List.mem_append_left _ ha_q5
  have hfr : ∀ a ∈ L, a ≠ h → F8 a = F a := fun a h1 h2 => (hfrq5w a (hLs a h1) (fun e : a = q5 => nL_q5 (e ▸ h1))).trans (hfr a h1 h2)
  have hLs : ∀ a ∈ L, a ∈ L8 := fun a h1 => by rw [eLq5w]; exact List.mem_append_left _ (hLs a h1)
  have hF_q5 : F8 q5 = rowE 0 q5w 0 0 := hRn.2.1
  have hF_q5w : F8 q5w = arrI (y 0) 100 emp := hRn.2.2.2.1
  have ha_q5w : q5w ∈ L8 := hRn.2.2.1
  refine q_aast C0 hP hD hS ha_q1 hF_q1 (t := 1) (r := (RX0, TX0, 4)) rfl ha_q5 hF_q5 rfl (by omega) (by decide) dX3_init_32 (fun H locs hP hD hS => ?_)
  obtain ⟨F10x, eF10⟩ : ∃ z, z = va_up F8 q1 (arrQ (y 1) 4 (iu (fun _ => none) 0 (some q5))) := ⟨_, rfl⟩
  have hP : va_P D vwCl (va_pl L8 F10x) H := by rw [eF10]; exact hP
  have hD : va_D (AL L sz) (va_pl L8 F10x) := by rw [eF10]; exact hD
  have hF_h : F10x h = .inr (5, [.ref q1, .null, .null, .null, .int (iI 0), .int (iI 0), .int (iI 0), .int (iI 0)]) := by rw [eF10]; exact (va_up_ne _ _ n_h_q1).trans hF_h
  have hF_q5 : F10x q5 = rowE 0 q5w 0 0 := by rw [eF10]; exact (va_up_ne _ _ n_q1_q5.symm).trans hF_q5
  have hF_q5w : F10x q5w = arrI (y 0) 100 emp := by rw [eF10]; exact (va_up_ne _ _ n_q1_q5w.symm).trans hF_q5w
  have hF_q1 : F10x q1 = arrQ (y 1) 4 (iu (fun _ => none) 0 (some q5)) := by rw [eF10]; exact va_up_self _ _ _
  have hfr : ∀ a ∈ L, a ≠ h → F10x a = F a := fun a h1 h2 => by rw [eF10]; exact (va_up_ne _ _ (fun e : a = q1 => nL_q1 (e ▸ h1))).trans (hfr a h1 h2)
  refine q_iinc (x := 0) (n := 1) (lv' := [(1, .int (iI 1)), (0, .ref h)]) hx hb dX3_init_33 hl (k := 0) rfl (by decide) rfl (fun ls hl => ?_)
  refine lv_goto (tgt := 14) hx hb dX3_init_36 (by decide) ?_
  refine lv_iload_n hx hb dX3_init_14 rfl (lv_at hl 0 rfl) ?_
  refine q_iconst hx hb dX3_init_15 ?_
  refine q_icmp_ge hx hb dX3_init_16 (tgt := 39) (by decide) (by omega) (by omega) (fun c11 => absurd c11 (by omega)) (fun c11 => ?_)
  refine lv_aload_n hx hb dX3_init_19 rfl (lv_at hl 1 rfl) ?_
  refine q_get C0 iX3 hP ha_h hF_h rfl 0 (by decide) flX3_11 rfl rfl dX3_init_20 ?_
  refine lv_iload_n hx hb dX3_init_23 rfl (lv_at hl 0 rfl) ?_
  refine q_new C0 iX0 tyX0 tyX0_ok klX3_9 insX0 iniX0 hP hD hS hA (ci := 2) rfl (fs := [.int (iI 0), .null, .int (iI 0), .int (iI 0)]) (fun j hj => by rcases (show j = 0 ∨ j = 1 ∨ j = 2 ∨ j = 3 by omega) with rfl | rfl | rfl | rfl <;> rfl) (Nat.le_of_ble_eq_true rfl) (Nat.le_of_ble_eq_true rfl) dX3_init_24 (fun q12 H h0q12 hP hD hS => ?_)
  refine W.widen (k := 4) (n := 112) (Nat.le_of_ble_eq_true rfl) (Nat.le_of_ble_eq_true rfl) ?_
  have n_h_q12 : h ≠ q12 := fun e => h0q12 (e ▸ ha_h)
  have n_q1_q12 : q1 ≠ q12 := fun e => h0q12 (e ▸ ha_q1)
  have n_q5_q12 : q5 ≠ q12 := fun e => h0q12 (e ▸ ha_q5)
  have n_q5w_q12 : q5w ≠ q12 := fun e => h0q12 (e ▸ ha_q5w)
  have nL_q12 : q12 ∉ L := fun z => h0q12 (hLs _ z)
  obtain ⟨L13x, eLL13x⟩ : ∃ z, z = L8 ++ [q12] := ⟨_, rfl⟩
  obtain ⟨F13x, eFL13x⟩ : ∃ z, z = va_up F10x q12 (.inr (2, [.int (iI 0), .null, .int (iI 0), .int (iI 0)])) := ⟨_, rfl⟩
  have hP : va_P D vwCl (va_pl L13x F13x) H := by rw [eLL13x, eFL13x]; exact hP
  have hD : va_D (AL L sz) (va_pl L13x F13x) := by rw [eLL13x, eFL13x]; exact hD
  have hF_h : F13x h = .inr (5, [.ref q1, .null, .null, .null, .int (iI 0), .int (iI 0), .int (iI 0), .int (iI 0)]) := by rw [eFL13x]; exact (va_up_ne _ _ n_h_q12).trans hF_h
  have ha_h : h ∈ L13x := by rw [eLL13x]; exact List.mem_append_left _ ha_h
  have hF_q1 : F13x q1 = arrQ (y 1) 4 (iu (fun _ => none) 0 (some q5)) := by rw [eFL13x]; exact (va_up_ne _ _ n_q1_q12).trans hF_q1
  have ha_q1 : q1 ∈ L13x := by rw [eLL13x]; exact List.mem_append_left _ ha_q1
  have hF_q5 : F13x q5 = rowE 0 q5w 0 0 := by rw [eFL13x]; exact (va_up_ne _ _ n_q5_q12).trans hF_q5
  have ha_q5 : q5 ∈ L13x := by rw [eLL13x]; exact List.mem_append_left _ ha_q5
  have hF_q5w : F13x q5w = arrI (y 0) 100 emp := by rw [eFL13x]; exact (va_up_ne _ _ n_q5w_q12).trans hF_q5w
  have ha_q5w : q5w ∈ L13x := by rw [eLL13x]; exact List.mem_append_left _ ha_q5w
  have hfr : ∀ a ∈ L, a ≠ h → F13x a = F a := fun a h1 h2 => by rw [eFL13x]; exact (va_up_ne _ _ (fun e : a = q12 => nL_q12 (e ▸ h1))).trans (hfr a h1 h2)
  have hLs : ∀ a ∈ L, a ∈ L13x := fun a h1 => by rw [eLL13x]; exact List.mem_append_left _ (hLs a h1)
  have hF_q12 : F13x q12 = .inr (2, [.int (iI 0), .null, .int (iI 0), .int (iI 0)]) := by rw [eFL13x]; exact va_up_self _ _ _
  have ha_q12 : q12 ∈ L13x := by rw [eLL13x]; exact List.mem_append_right _ List.mem_cons_self
  refine lv_dup hx hb dX3_init_27 rfl ?_
  refine q_iconst hx hb dX3_init_28 ?_
  refine q_iMv C0 lX3_15 (c_X0_init l D y L13x F13x _ q12 0 ha_q12 hF_q12 (by omega)) ⟨rfl, rfl⟩ rfl hP hD hS hA rfl hl rfl (Nat.le_of_ble_eq_true rfl) dX3_init_29 ⟨Nat.le_of_ble_eq_true rfl, Nat.le_of_ble_eq_true rfl⟩ (fun _ H locs L15 F15 hP hD hS hz15 hp15 => ?_)
  refine W.widen (k := 5) (n := 212) (Nat.le_of_ble_eq_true rfl) (Nat.le_of_ble_eq_true rfl) ?_
  obtain ⟨q12w, h0q12w, eLq12w, hRn, hfrq12w⟩ := hp15
  have n_h_q12w : h ≠ q12w := fun e => h0q12w (e ▸ ha_h)
  have n_q1_q12w : q1 ≠ q12w := fun e => h0q12w (e ▸ ha_q1)
  have n_q5_q12w : q5 ≠ q12w := fun e => h0q12w (e ▸ ha_q5)
  have n_q5w_q12w : q5w ≠ q12w := fun e => h0q12w (e ▸ ha_q5w)
  have n_q12_q12w : q12 ≠ q12w := fun e => h0q12w (e ▸ ha_q12)
  have nL_q12w : q12w ∉ L := fun z => h0q12w (hLs _ z)
  have hF_h : F15 h = .inr (5, [.ref q1, .null, .null, .null, .int (iI 0), .int (iI 0), .int (iI 0), .int (iI 0)]) := (hfrq12w h ha_h n_h_q12).trans hF_h
  have ha_h : h ∈ L15 := by rw [eLq12w]; exact List.mem_append_left _ ha_h
  have hF_q1 : F15 q1 = arrQ (y 1) 4 (iu (fun _ => none) 0 (some q5)) := (hfrq12w q1 ha_q1 n_q1_q12).trans hF_q1
  have ha_q1 : q1 ∈ L15 := by rw [eLq12w]; exact List.mem_append_left _ ha_q1
  have hF_q5 : F15 q5 = rowE 0 q5w 0 0 := (hfrq12w q5 ha_q5 n_q5_q12).trans hF_q5
  have ha_q5 : q5 ∈ L15 := by rw [eLq12w]; exact List.mem_append_left _ ha_q5
  have hF_q5w : F15 q5w = arrI (y 0) 100 emp := (hfrq12w q5w ha_q5w n_q5w_q12).trans hF_q5w
  have ha_q5w : q5w ∈ L15 := by rw [eLq12w]; exact List.mem_append_left _ ha_q5w
  have ha_q12 : q12 ∈ L15 := by rw [eLq12w]; exact List.mem_append_left _ ha_q12
  have hfr : ∀ a ∈ L, a ≠ h → F15 a = F a := fun a h1 h2 => (hfrq12w a (hLs a h1) (fun e : a = q12 => nL_q12 (e ▸ h1))).trans (hfr a h1 h2)
  have hLs : ∀ a ∈ L, a ∈ L15 := fun a h1 => by rw [eLq12w]; exact List.mem_append_left _ (hLs a h1)
  have hF_q12 : F15 q12 = rowE 0 q12w 0 0 := hRn.2.1
  have hF_q12w : F15 q12w = arrI (y 0) 100 emp := hRn.2.2.2.1
  have ha_q12w : q12w ∈ L15 := hRn.2.2.1
  refine q_aast C0 hP hD hS ha_q1 hF_q1 (t := 1) (r := (RX0, TX0, 4)) rfl ha_q12 hF_q12 rfl (by omega) (by decide) dX3_init_32 (fun H locs hP hD hS => ?_)
  obtain ⟨F17x, eF17⟩ : ∃ z, z = va_up F15 q1 (arrQ (y 1) 4 (iu (iu (fun _ => none) 0 (some q5)) 1 (some q12))) := ⟨_, rfl⟩
  have hP : va_P D vwCl (va_pl L15 F17x) H := by rw [eF17]; exact hP
  have hD : va_D (AL L sz) (va_pl L15 F17x) := by rw [eF17]; exact hD
  have hF_h : F17x h = .inr (5, [.ref q1, .null, .null, .null, .int (iI 0), .int (iI 0), .int (iI 0), .int (iI 0)]) := by rw [eF17]; exact (va_up_ne _ _ n_h_q1).trans hF_h
  have hF_q5 : F17x q5 = rowE 0 q5w 0 0 := by rw [eF17]; exact (va_up_ne _ _ n_q1_q5.symm).trans hF_q5
  have hF_q5w : F17x q5w = arrI (y 0) 100 emp := by rw [eF17]; exact (va_up_ne _ _ n_q1_q5w.symm).trans hF_q5w
  have hF_q12 : F17x q12 = rowE 0 q12w 0 0 := by rw [eF17]; exact (va_up_ne _ _ n_q1_q12.symm).trans hF_q12
  have hF_q12w : F17x q12w = arrI (y 0) 100 emp := by rw [eF17]; exact (va_up_ne _ _ n_q1_q12w.symm).trans hF_q12w
  have hF_q1 : F17x q1 = arrQ (y 1) 4 (iu (iu (fun _ => none) 0 (some q5)) 1 (some q12)) := by rw [eF17]; exact va_up_self _ _ _
  have hfr : ∀ a ∈ L, a ≠ h → F17x a = F a := fun a h1 h2 => by rw [eF17]; exact (va_up_ne _ _ (fun e : a = q1 => nL_q1 (e ▸ h1))).trans (hfr a h1 h2)
  refine q_iinc (x := 1) (n := 1) (lv' := [(1, .int (iI 2)), (0, .ref h)]) hx hb dX3_init_33 hl (k := 0) rfl (by decide) rfl (fun ls hl => ?_)
  refine lv_goto (tgt := 14) hx hb dX3_init_36 (by decide) ?_
  refine lv_iload_n hx hb dX3_init_14 rfl (lv_at hl 0 rfl) ?_
  refine q_iconst hx hb dX3_init_15 ?_
  refine q_icmp_ge hx hb dX3_init_16 (tgt := 39) (by decide) (by omega) (by omega) (fun c18 => absurd c18 (by omega)) (fun c18 => ?_)
  refine lv_aload_n hx hb dX3_init_19 rfl (lv_at hl 1 rfl) ?_
  refine q_get C0 iX3 hP ha_h hF_h rfl 0 (by decide) flX3_11 rfl rfl dX3_init_20 ?_
  refine lv_iload_n hx hb dX3_init_23 rfl (lv_at hl 0 rfl) ?_
  refine q_new C0 iX0 tyX0 tyX0_ok klX3_9 insX0 iniX0 hP hD hS hA (ci := 2) rfl (fs := [.int (iI 0), .null, .int (iI 0), .int (iI 0)]) (fun j hj => by rcases (show j = 0 ∨ j = 1 ∨ j = 2 ∨ j = 3 by omega) with rfl | rfl | rfl | rfl <;> rfl) (Nat.le_of_ble_eq_true rfl) (Nat.le_of_ble_eq_true rfl) dX3_init_24 (fun q19 H h0q19 hP hD hS => ?_)
  refine W.widen (k := 6) (n := 216) (Nat.le_of_ble_eq_true rfl) (Nat.le_of_ble_eq_true rfl) ?_
  have n_h_q19 : h ≠ q19 := fun e => h0q19 (e ▸ ha_h)
  have n_q1_q19 : q1 ≠ q19 := fun e => h0q19 (e ▸ ha_q1)
  have n_q5_q19 : q5 ≠ q19 := fun e => h0q19 (e ▸ ha_q5)
  have n_q5w_q19 : q5w ≠ q19 := fun e => h0q19 (e ▸ ha_q5w)
  have n_q12_q19 : q12 ≠ q19 := fun e => h0q19 (e ▸ ha_q12)
  have n_q12w_q19 : q12w ≠ q19 := fun e => h0q19 (e ▸ ha_q12w)
  have nL_q19 : q19 ∉ L := fun z => h0q19 (hLs _ z)
  obtain ⟨L20x, eLL20x⟩ : ∃ z, z = L15 ++ [q19] := ⟨_, rfl⟩
  obtain ⟨F20x, eFL20x⟩ : ∃ z, z = va_up F17x q19 (.inr (2, [.int (iI 0), .null, .int (iI 0), .int (iI 0)])) := ⟨_, rfl⟩
  have hP : va_P D vwCl (va_pl L20x F20x) H := by rw [eLL20x, eFL20x]; exact hP
  have hD : va_D (AL L sz) (va_pl L20x F20x) := by rw [eLL20x, eFL20x]; exact hD
  have hF_h : F20x h = .inr (5, [.ref q1, .null, .null, .null, .int (iI 0), .int (iI 0), .int (iI 0), .int (iI 0)]) := by rw [eFL20x]; exact (va_up_ne _ _ n_h_q19).trans hF_h
  have ha_h : h ∈ L20x := by rw [eLL20x]; exact List.mem_append_left _ ha_h
  have hF_q1 : F20x q1 = arrQ (y 1) 4 (iu (iu (fun _ => none) 0 (some q5)) 1 (some q12)) := by rw [eFL20x]; exact (va_up_ne _ _ n_q1_q19).trans hF_q1
  have ha_q1 : q1 ∈ L20x := by rw [eLL20x]; exact List.mem_append_left _ ha_q1
  have hF_q5 : F20x q5 = rowE 0 q5w 0 0 := by rw [eFL20x]; exact (va_up_ne _ _ n_q5_q19).trans hF_q5
  have ha_q5 : q5 ∈ L20x := by rw [eLL20x]; exact List.mem_append_left _ ha_q5
  have hF_q5w : F20x q5w = arrI (y 0) 100 emp := by rw [eFL20x]; exact (va_up_ne _ _ n_q5w_q19).trans hF_q5w
  have ha_q5w : q5w ∈ L20x := by rw [eLL20x]; exact List.mem_append_left _ ha_q5w
  have hF_q12 : F20x q12 = rowE 0 q12w 0 0 := by rw [eFL20x]; exact (va_up_ne _ _ n_q12_q19).trans hF_q12
  have ha_q12 : q12 ∈ L20x := by rw [eLL20x]; exact List.mem_append_left _ ha_q12
  have hF_q12w : F20x q12w = arrI (y 0) 100 emp := by rw [eFL20x]; exact (va_up_ne _ _ n_q12w_q19).trans hF_q12w
  have ha_q12w : q12w ∈ L20x := by rw [eLL20x]; exact List.mem_append_left _ ha_q12w
  have hfr : ∀ a ∈ L, a ≠ h → F20x a = F a := fun a h1 h2 => by rw [eFL20x]; exact (va_up_ne _ _ (fun e : a = q19 => nL_q19 (e ▸ h1))).trans (hfr a h1 h2)
  have hLs : ∀ a ∈ L, a ∈ L20x := fun a h1 => by rw [eLL20x]; exact List.mem_append_left _ (hLs a h1)
  have hF_q19 : F20x q19 = .inr (2, [.int (iI 0), .null, .int (iI 0), .int (iI 0)]) := by rw [eFL20x]; exact va_up_self _ _ _
  have ha_q19 : q19 ∈ L20x := by rw [eLL20x]; exact List.mem_append_right _ List.mem_cons_self
  refine lv_dup hx hb dX3_init_27 rfl ?_
  refine q_iconst hx hb dX3_init_28 ?_
  refine q_iMv C0 lX3_15 (c_X0_init l D y L20x F20x _ q19 0 ha_q19 hF_q19 (by omega)) ⟨rfl, rfl⟩ rfl hP hD hS hA rfl hl rfl (Nat.le_of_ble_eq_true rfl) dX3_init_29 ⟨Nat.le_of_ble_eq_true rfl, Nat.le_of_ble_eq_true rfl⟩ (fun _ H locs L22 F22 hP hD hS hz22 hp22 => ?_)
  refine W.widen (k := 7) (n := 316) (Nat.le_of_ble_eq_true rfl) (Nat.le_of_ble_eq_true rfl) ?_
  obtain ⟨q19w, h0q19w, eLq19w, hRn, hfrq19w⟩ := hp22
  have n_h_q19w : h ≠ q19w := fun e => h0q19w (e ▸ ha_h)
  have n_q1_q19w : q1 ≠ q19w := fun e => h0q19w (e ▸ ha_q1)
  have n_q5_q19w : q5 ≠ q19w := fun e => h0q19w (e ▸ ha_q5)
  have n_q5w_q19w : q5w ≠ q19w := fun e => h0q19w (e ▸ ha_q5w)
  have n_q12_q19w : q12 ≠ q19w := fun e => h0q19w (e ▸ ha_q12)
  have n_q12w_q19w : q12w ≠ q19w := fun e => h0q19w (e ▸ ha_q12w)
  have n_q19_q19w : q19 ≠ q19w := fun e => h0q19w (e ▸ ha_q19)
  have nL_q19w : q19w ∉ L := fun z => h0q19w (hLs _ z)
  have hF_h : F22 h = .inr (5, [.ref q1, .null, .null, .null, .int (iI 0), .int (iI 0), .int (iI 0), .int (iI 0)]) := (hfrq19w h ha_h n_h_q19).trans hF_h
  have ha_h : h ∈ L22 := by rw [eLq19w]; exact List.mem_append_left _ ha_h
  have hF_q1 : F22 q1 = arrQ (y 1) 4 (iu (iu (fun _ => none) 0 (some q5)) 1 (some q12)) := (hfrq19w q1 ha_q1 n_q1_q19).trans hF_q1
  have ha_q1 : q1 ∈ L22 := by rw [eLq19w]; exact List.mem_append_left _ ha_q1
  have hF_q5 : F22 q5 = rowE 0 q5w 0 0 := (hfrq19w q5 ha_q5 n_q5_q19).trans hF_q5
  have ha_q5 : q5 ∈ L22 := by rw [eLq19w]; exact List.mem_append_left _ ha_q5
  have hF_q5w : F22 q5w = arrI (y 0) 100 emp := (hfrq19w q5w ha_q5w n_q5w_q19).trans hF_q5w
  have ha_q5w : q5w ∈ L22 := by rw [eLq19w]; exact List.mem_append_left _ ha_q5w
  have hF_q12 : F22 q12 = rowE 0 q12w 0 0 := (hfrq19w q12 ha_q12 n_q12_q19).trans hF_q12
  have ha_q12 : q12 ∈ L22 := by rw [eLq19w]; exact List.mem_append_left _ ha_q12
  have hF_q12w : F22 q12w = arrI (y 0) 100 emp := (hfrq19w q12w ha_q12w n_q12w_q19).trans hF_q12w
  have ha_q12w : q12w ∈ L22 := by rw [eLq19w]; exact List.mem_append_left _ ha_q12w
  have ha_q19 : q19 ∈ L22 := by rw [eLq19w]; exact List.mem_append_left _ ha_q19
  have hfr : ∀ a ∈ L, a ≠ h → F22 a = F a := fun a h1 h2 => (hfrq19w a (hLs a h1) (fun e : a = q19 => nL_q19 (e ▸ h1))).trans (hfr a h1 h2)
  have hLs : ∀ a ∈ L, a ∈ L22 := fun a h1 => by rw [eLq19w]; exact List.mem_append_left _ (hLs a h1)
  have hF_q19 : F22 q19 = rowE 0 q19w 0 0 := hRn.2.1
  have hF_q19w : F22 q19w = arrI (y 0) 100 emp := hRn.2.2.2.1
  have ha_q19w : q19w ∈ L22 := hRn.2.2.1
  refine q_aast C0 hP hD hS ha_q1 hF_q1 (t := 1) (r := (RX0, TX0, 4)) rfl ha_q19 hF_q19 rfl (by omega) (by decide) dX3_init_32 (fun H locs hP hD hS => ?_)
  obtain ⟨F24x, eF24⟩ : ∃ z, z = va_up F22 q1 (arrQ (y 1) 4 (iu (iu (iu (fun _ => none) 0 (some q5)) 1 (some q12)) 2 (some q19))) := ⟨_, rfl⟩
  have hP : va_P D vwCl (va_pl L22 F24x) H := by rw [eF24]; exact hP
  have hD : va_D (AL L sz) (va_pl L22 F24x) := by rw [eF24]; exact hD
  have hF_h : F24x h = .inr (5, [.ref q1, .null, .null, .null, .int (iI 0), .int (iI 0), .int (iI 0), .int (iI 0)]) := by rw [eF24]; exact (va_up_ne _ _ n_h_q1).trans hF_h
  have hF_q5 : F24x q5 = rowE 0 q5w 0 0 := by rw [eF24]; exact (va_up_ne _ _ n_q1_q5.symm).trans hF_q5
  have hF_q5w : F24x q5w = arrI (y 0) 100 emp := by rw [eF24]; exact (va_up_ne _ _ n_q1_q5w.symm).trans hF_q5w
  have hF_q12 : F24x q12 = rowE 0 q12w 0 0 := by rw [eF24]; exact (va_up_ne _ _ n_q1_q12.symm).trans hF_q12
  have hF_q12w : F24x q12w = arrI (y 0) 100 emp := by rw [eF24]; exact (va_up_ne _ _ n_q1_q12w.symm).trans hF_q12w
  have hF_q19 : F24x q19 = rowE 0 q19w 0 0 := by rw [eF24]; exact (va_up_ne _ _ n_q1_q19.symm).trans hF_q19
  have hF_q19w : F24x q19w = arrI (y 0) 100 emp := by rw [eF24]; exact (va_up_ne _ _ n_q1_q19w.symm).trans hF_q19w
  have hF_q1 : F24x q1 = arrQ (y 1) 4 (iu (iu (iu (fun _ => none) 0 (some q5)) 1 (some q12)) 2 (some q19)) := by rw [eF24]; exact va_up_self _ _ _
  have hfr : ∀ a ∈ L, a ≠ h → F24x a = F a := fun a h1 h2 => by rw [eF24]; exact (va_up_ne _ _ (fun e : a = q1 => nL_q1 (e ▸ h1))).trans (hfr a h1 h2)
  refine q_iinc (x := 2) (n := 1) (lv' := [(1, .int (iI 3)), (0, .ref h)]) hx hb dX3_init_33 hl (k := 0) rfl (by decide) rfl (fun ls hl => ?_)
  refine lv_goto (tgt := 14) hx hb dX3_init_36 (by decide) ?_
  refine lv_iload_n hx hb dX3_init_14 rfl (lv_at hl 0 rfl) ?_
  refine q_iconst hx hb dX3_init_15 ?_
  refine q_icmp_ge hx hb dX3_init_16 (tgt := 39) (by decide) (by omega) (by omega) (fun c25 => absurd c25 (by omega)) (fun c25 => ?_)
  refine lv_aload_n hx hb dX3_init_19 rfl (lv_at hl 1 rfl) ?_
  refine q_get C0 iX3 hP ha_h hF_h rfl 0 (by decide) flX3_11 rfl rfl dX3_init_20 ?_
  refine lv_iload_n hx hb dX3_init_23 rfl (lv_at hl 0 rfl) ?_
  refine q_new C0 iX0 tyX0 tyX0_ok klX3_9 insX0 iniX0 hP hD hS hA (ci := 2) rfl (fs := [.int (iI 0), .null, .int (iI 0), .int (iI 0)]) (fun j hj => by rcases (show j = 0 ∨ j = 1 ∨ j = 2 ∨ j = 3 by omega) with rfl | rfl | rfl | rfl <;> rfl) (Nat.le_of_ble_eq_true rfl) (Nat.le_of_ble_eq_true rfl) dX3_init_24 (fun q26 H h0q26 hP hD hS => ?_)
  refine W.widen (k := 8) (n := 320) (Nat.le_of_ble_eq_true rfl) (Nat.le_of_ble_eq_true rfl) ?_
  have n_h_q26 : h ≠ q26 := fun e => h0q26 (e ▸ ha_h)
  have n_q1_q26 : q1 ≠ q26 := fun e => h0q26 (e ▸ ha_q1)
  have n_q5_q26 : q5 ≠ q26 := fun e => h0q26 (e ▸ ha_q5)
  have n_q5w_q26 : q5w ≠ q26 := fun e => h0q26 (e ▸ ha_q5w)
  have n_q12_q26 : q12 ≠ q26 := fun e => h0q26 (e ▸ ha_q12)
  have n_q12w_q26 : q12w ≠ q26 := fun e => h0q26 (e ▸ ha_q12w)
  have n_q19_q26 : q19 ≠ q26 := fun e => h0q26 (e ▸ ha_q19)
  have n_q19w_q26 : q19w ≠ q26 := fun e => h0q26 (e ▸ ha_q19w)
  have nL_q26 : q26 ∉ L := fun z => h0q26 (hLs _ z)
  obtain ⟨L27x, eLL27x⟩ : ∃ z, z = L22 ++ [q26] := ⟨_, rfl⟩
  obtain ⟨F27x, eFL27x⟩ : ∃ z, z = va_up F24x q26 (.inr (2, [.int (iI 0), .null, .int (iI 0), .int (iI 0)])) := ⟨_, rfl⟩
  have hP : va_P D vwCl (va_pl L27x F27x) H := by rw [eLL27x, eFL27x]; exact hP
  have hD : va_D (AL L sz) (va_pl L27x F27x) := by rw [eLL27x, eFL27x]; exact hD
  have hF_h : F27x h = .inr (5, [.ref q1, .null, .null, .null, .int (iI 0), .int (iI 0), .int (iI 0), .int (iI 0)]) := by rw [eFL27x]; exact (va_up_ne _ _ n_h_q26).trans hF_h
  have ha_h : h ∈ L27x := by rw [eLL27x]; exact List.mem_append_left _ ha_h
  have hF_q1 : F27x q1 = arrQ (y 1) 4 (iu (iu (iu (fun _ => none) 0 (some q5)) 1 (some q12)) 2 (some q19)) := by rw [eFL27x]; exact (va_up_ne _ _ n_q1_q26).trans hF_q1
  have ha_q1 : q1 ∈ L27x := by rw [eLL27x]; exact List.mem_append_left _ ha_q1
  have hF_q5 : F27x q5 = rowE 0 q5w 0 0 := by rw [eFL27x]; exact (va_up_ne _ _ n_q5_q26).trans hF_q5
  have ha_q5 : q5 ∈ L27x := by rw [eLL27x]; exact List.mem_append_left _ ha_q5
  have hF_q5w : F27x q5w = arrI (y 0) 100 emp := by rw [eFL27x]; exact (va_up_ne _ _ n_q5w_q26).trans hF_q5w
  have ha_q5w : q5w ∈ L27x := by rw [eLL27x]; exact List.mem_append_left _ ha_q5w
  have hF_q12 : F27x q12 = rowE 0 q12w 0 0 := by rw [eFL27x]; exact (va_up_ne _ _ n_q12_q26).trans hF_q12
  have ha_q12 : q12 ∈ L27x := by rw [eLL27x]; exact List.mem_append_left _ ha_q12
  have hF_q12w : F27x q12w = arrI (y 0) 100 emp := by rw [eFL27x]; exact (va_up_ne _ _ n_q12w_q26).trans hF_q12w
  have ha_q12w : q12w ∈ L27x := by rw [eLL27x]; exact List.mem_append_left _ ha_q12w
  have hF_q19 : F27x q19 = rowE 0 q19w 0 0 := by rw [eFL27x]; exact (va_up_ne _ _ n_q19_q26).trans hF_q19
  have ha_q19 : q19 ∈ L27x := by rw [eLL27x]; exact List.mem_append_left _ ha_q19
  have hF_q19w : F27x q19w = arrI (y 0) 100 emp := by rw [eFL27x]; exact (va_up_ne _ _ n_q19w_q26).trans hF_q19w
  have ha_q19w : q19w ∈ L27x := by rw [eLL27x]; exact List.mem_append_left _ ha_q19w
  have hfr : ∀ a ∈ L, a ≠ h → F27x a = F a := fun a h1 h2 => by rw [eFL27x]; exact (va_up_ne _ _ (fun e : a = q26 => nL_q26 (e ▸ h1))).trans (hfr a h1 h2)
  have hLs : ∀ a ∈ L, a ∈ L27x := fun a h1 => by rw [eLL27x]; exact List.mem_append_left _ (hLs a h1)
  have hF_q26 : F27x q26 = .inr (2, [.int (iI 0), .null, .int (iI 0), .int (iI 0)]) := by rw [eFL27x]; exact va_up_self _ _ _
  have ha_q26 : q26 ∈ L27x := by rw [eLL27x]; exact List.mem_append_right _ List.mem_cons_self
  refine lv_dup hx hb dX3_init_27 rfl ?_
  refine q_iconst hx hb dX3_init_28 ?_
  refine q_iMv C0 lX3_15 (c_X0_init l D y L27x F27x _ q26 0 ha_q26 hF_q26 (by omega)) ⟨rfl, rfl⟩ rfl hP hD hS hA rfl hl rfl (Nat.le_of_ble_eq_true rfl) dX3_init_29 ⟨Nat.le_of_ble_eq_true rfl, Nat.le_of_ble_eq_true rfl⟩ (fun _ H locs L29 F29 hP hD hS hz29 hp29 => ?_)
  refine W.widen (k := 9) (n := 420) (Nat.le_of_ble_eq_true rfl) (Nat.le_of_ble_eq_true rfl) ?_
  obtain ⟨q26w, h0q26w, eLq26w, hRn, hfrq26w⟩ := hp29
  have n_h_q26w : h ≠ q26w := fun e => h0q26w (e ▸ ha_h)
  have n_q1_q26w : q1 ≠ q26w := fun e => h0q26w (e ▸ ha_q1)
  have n_q5_q26w : q5 ≠ q26w := fun e => h0q26w (e ▸ ha_q5)
  have n_q5w_q26w : q5w ≠ q26w := fun e => h0q26w (e ▸ ha_q5w)
  have n_q12_q26w : q12 ≠ q26w := fun e => h0q26w (e ▸ ha_q12)
  have n_q12w_q26w : q12w ≠ q26w := fun e => h0q26w (e ▸ ha_q12w)
  have n_q19_q26w : q19 ≠ q26w := fun e => h0q26w (e ▸ ha_q19)
  have n_q19w_q26w : q19w ≠ q26w := fun e => h0q26w (e ▸ ha_q19w)
  have n_q26_q26w : q26 ≠ q26w := fun e => h0q26w (e ▸ ha_q26)
  have nL_q26w : q26w ∉ L := fun z => h0q26w (hLs _ z)
  have hF_h : F29 h = .inr (5, [.ref q1, .null, .null, .null, .int (iI 0), .int (iI 0), .int (iI 0), .int (iI 0)]) := (hfrq26w h ha_h n_h_q26).trans hF_h
  have ha_h : h ∈ L29 := by rw [eLq26w]; exact List.mem_append_left _ ha_h
  have hF_q1 : F29 q1 = arrQ (y 1) 4 (iu (iu (iu (fun _ => none) 0 (some q5)) 1 (some q12)) 2 (some q19)) := (hfrq26w q1 ha_q1 n_q1_q26).trans hF_q1
  have ha_q1 : q1 ∈ L29 := by rw [eLq26w]; exact List.mem_append_left _ ha_q1
  have hF_q5 : F29 q5 = rowE 0 q5w 0 0 := (hfrq26w q5 ha_q5 n_q5_q26).trans hF_q5
  have ha_q5 : q5 ∈ L29 := by rw [eLq26w]; exact List.mem_append_left _ ha_q5
  have hF_q5w : F29 q5w = arrI (y 0) 100 emp := (hfrq26w q5w ha_q5w n_q5w_q26).trans hF_q5w
  have ha_q5w : q5w ∈ L29 := by rw [eLq26w]; exact List.mem_append_left _ ha_q5w
  have hF_q12 : F29 q12 = rowE 0 q12w 0 0 := (hfrq26w q12 ha_q12 n_q12_q26).trans hF_q12
  have ha_q12 : q12 ∈ L29 := by rw [eLq26w]; exact List.mem_append_left _ ha_q12
  have hF_q12w : F29 q12w = arrI (y 0) 100 emp := (hfrq26w q12w ha_q12w n_q12w_q26).trans hF_q12w
  have ha_q12w : q12w ∈ L29 := by rw [eLq26w]; exact List.mem_append_left _ ha_q12w
  have hF_q19 : F29 q19 = rowE 0 q19w 0 0 := (hfrq26w q19 ha_q19 n_q19_q26).trans hF_q19
  have ha_q19 : q19 ∈ L29 := by rw [eLq26w]; exact List.mem_append_left _ ha_q19
  have hF_q19w : F29 q19w = arrI (y 0) 100 emp := (hfrq26w q19w ha_q19w n_q19w_q26).trans hF_q19w
  have ha_q19w : q19w ∈ L29 := by rw [eLq26w]; exact List.mem_append_left _ ha_q19w
  have ha_q26 : q26 ∈ L29 := by rw [eLq26w]; exact List.mem_append_left _ ha_q26
  have hfr : ∀ a ∈ L, a ≠ h → F29 a = F a := fun a h1 h2 => (hfrq26w a (hLs a h1) (fun e : a = q26 => nL_q26 (e ▸ h1))).trans (hfr a h1 h2)
  have hLs : ∀ a ∈ L, a ∈ L29 := fun a h1 => by rw [eLq26w]; exact List.mem_append_left _ (hLs a h1)
  have hF_q26 : F29 q26 = rowE 0 q26w 0 0 := hRn.2.1
  have hF_q26w : F29 q26w = arrI (y 0) 100 emp := hRn.2.2.2.1
  have ha_q26w : q26w ∈ L29 := hRn.2.2.1
  refine q_aast C0 hP hD hS ha_q1 hF_q1 (t := 1) (r := (RX0, TX0, 4)) rfl ha_q26 hF_q26 rfl (by omega) (by decide) dX3_init_32 (fun H locs hP hD hS => ?_)
  obtain ⟨F31x, eF31⟩ : ∃ z, z = va_up F29 q1 (arrQ (y 1) 4 (iu (iu (iu (iu (fun _ => none) 0 (some q5)) 1 (some q12)) 2 (some q19)) 3 (some q26))) := ⟨_, rfl⟩
  have hP : va_P D vwCl (va_pl L29 F31x) H := by rw [eF31]; exact hP
  have hD : va_D (AL L sz) (va_pl L29 F31x) := by rw [eF31]; exact hD
  have hF_h : F31x h = .inr (5, [.ref q1, .null, .null, .null, .int (iI 0), .int (iI 0), .int (iI 0), .int (iI 0)]) := by rw [eF31]; exact (va_up_ne _ _ n_h_q1).trans hF_h
  have hF_q5 : F31x q5 = rowE 0 q5w 0 0 := by rw [eF31]; exact (va_up_ne _ _ n_q1_q5.symm).trans hF_q5
  have hF_q5w : F31x q5w = arrI (y 0) 100 emp := by rw [eF31]; exact (va_up_ne _ _ n_q1_q5w.symm).trans hF_q5w
  have hF_q12 : F31x q12 = rowE 0 q12w 0 0 := by rw [eF31]; exact (va_up_ne _ _ n_q1_q12.symm).trans hF_q12
  have hF_q12w : F31x q12w = arrI (y 0) 100 emp := by rw [eF31]; exact (va_up_ne _ _ n_q1_q12w.symm).trans hF_q12w
  have hF_q19 : F31x q19 = rowE 0 q19w 0 0 := by rw [eF31]; exact (va_up_ne _ _ n_q1_q19.symm).trans hF_q19
  have hF_q19w : F31x q19w = arrI (y 0) 100 emp := by rw [eF31]; exact (va_up_ne _ _ n_q1_q19w.symm).trans hF_q19w
  have hF_q26 : F31x q26 = rowE 0 q26w 0 0 := by rw [eF31]; exact (va_up_ne _ _ n_q1_q26.symm).trans hF_q26
  have hF_q26w : F31x q26w = arrI (y 0) 100 emp := by rw [eF31]; exact (va_up_ne _ _ n_q1_q26w.symm).trans hF_q26w
  have hF_q1 : F31x q1 = arrQ (y 1) 4 (iu (iu (iu (iu (fun _ => none) 0 (some q5)) 1 (some q12)) 2 (some q19)) 3 (some q26)) := by rw [eF31]; exact va_up_self _ _ _
  have hfr : ∀ a ∈ L, a ≠ h → F31x a = F a := fun a h1 h2 => by rw [eF31]; exact (va_up_ne _ _ (fun e : a = q1 => nL_q1 (e ▸ h1))).trans (hfr a h1 h2)
  refine q_iinc (x := 3) (n := 1) (lv' := [(1, .int (iI 4)), (0, .ref h)]) hx hb dX3_init_33 hl (k := 0) rfl (by decide) rfl (fun ls hl => ?_)
  refine lv_goto (tgt := 14) hx hb dX3_init_36 (by decide) ?_
  refine lv_iload_n hx hb dX3_init_14 rfl (lv_at hl 0 rfl) ?_
  refine q_iconst hx hb dX3_init_15 ?_
  refine q_icmp_ge hx hb dX3_init_16 (tgt := 39) (by decide) (by omega) (by omega) (fun c32 => ?_) (fun c32 => absurd c32 (by omega))
  refine lv_aload_n hx hb dX3_init_39 rfl (lv_at hl 1 rfl) ?_
  refine q_iconst hx hb dX3_init_40 ?_
  refine q_newq C0 (t := 1) klX3_9 C0.2.2.1 rfl hP hD hS hA (N := 3) rfl (Nat.le_of_ble_eq_true rfl) (Nat.le_of_ble_eq_true rfl) (Nat.le_of_ble_eq_true rfl) dX3_init_41 (fun q33 H h0q33 hP hD hS => ?_)
  refine W.widen (k := 10) (n := 423) (Nat.le_of_ble_eq_true rfl) (Nat.le_of_ble_eq_true rfl) ?_
  have n_h_q33 : h ≠ q33 := fun e => h0q33 (e ▸ ha_h)
  have n_q1_q33 : q1 ≠ q33 := fun e => h0q33 (e ▸ ha_q1)
  have n_q5_q33 : q5 ≠ q33 := fun e => h0q33 (e ▸ ha_q5)
  have n_q5w_q33 : q5w ≠ q33 := fun e => h0q33 (e ▸ ha_q5w)
  have n_q12_q33 : q12 ≠ q33 := fun e => h0q33 (e ▸ ha_q12)
  have n_q12w_q33 : q12w ≠ q33 := fun e => h0q33 (e ▸ ha_q12w)
  have n_q19_q33 : q19 ≠ q33 := fun e => h0q33 (e ▸ ha_q19)
  have n_q19w_q33 : q19w ≠ q33 := fun e => h0q33 (e ▸ ha_q19w)
  have n_q26_q33 : q26 ≠ q33 := fun e => h0q33 (e ▸ ha_q26)
  have n_q26w_q33 : q26w ≠ q33 := fun e => h0q33 (e ▸ ha_q26w)
  have nL_q33 : q33 ∉ L := fun z => h0q33 (hLs _ z)
  obtain ⟨L34x, eLL34x⟩ : ∃ z, z = L29 ++ [q33] := ⟨_, rfl⟩
  obtain ⟨F34x, eFL34x⟩ : ∃ z, z = va_up F31x q33 (arrQ (y 1) 3 (fun _ => none)) := ⟨_, rfl⟩
  have hP : va_P D vwCl (va_pl L34x F34x) H := by rw [eLL34x, eFL34x]; exact hP
  have hD : va_D (AL L sz) (va_pl L34x F34x) := by rw [eLL34x, eFL34x]; exact hD
  have hF_h : F34x h = .inr (5, [.ref q1, .null, .null, .null, .int (iI 0), .int (iI 0), .int (iI 0), .int (iI 0)]) := by rw [eFL34x]; exact (va_up_ne _ _ n_h_q33).trans hF_h
  have ha_h : h ∈ L34x := by rw [eLL34x]; exact List.mem_append_left _ ha_h
  have hF_q1 : F34x q1 = arrQ (y 1) 4 (iu (iu (iu (iu (fun _ => none) 0 (some q5)) 1 (some q12)) 2 (some q19)) 3 (some q26)) := by rw [eFL34x]; exact (va_up_ne _ _ n_q1_q33).trans hF_q1
  have ha_q1 : q1 ∈ L34x := by rw [eLL34x]; exact List.mem_append_left _ ha_q1
  have hF_q5 : F34x q5 = rowE 0 q5w 0 0 := by rw [eFL34x]; exact (va_up_ne _ _ n_q5_q33).trans hF_q5
  have ha_q5 : q5 ∈ L34x := by rw [eLL34x]; exact List.mem_append_left _ ha_q5
  have hF_q5w : F34x q5w = arrI (y 0) 100 emp := by rw [eFL34x]; exact (va_up_ne _ _ n_q5w_q33).trans hF_q5w
  have ha_q5w : q5w ∈ L34x := by rw [eLL34x]; exact List.mem_append_left _ ha_q5w
  have hF_q12 : F34x q12 = rowE 0 q12w 0 0 := by rw [eFL34x]; exact (va_up_ne _ _ n_q12_q33).trans hF_q12
  have ha_q12 : q12 ∈ L34x := by rw [eLL34x]; exact List.mem_append_left _ ha_q12
  have hF_q12w : F34x q12w = arrI (y 0) 100 emp := by rw [eFL34x]; exact (va_up_ne _ _ n_q12w_q33).trans hF_q12w
  have ha_q12w : q12w ∈ L34x := by rw [eLL34x]; exact List.mem_append_left _ ha_q12w
  have hF_q19 : F34x q19 = rowE 0 q19w 0 0 := by rw [eFL34x]; exact (va_up_ne _ _ n_q19_q33).trans hF_q19
  have ha_q19 : q19 ∈ L34x := by rw [eLL34x]; exact List.mem_append_left _ ha_q19
  have hF_q19w : F34x q19w = arrI (y 0) 100 emp := by rw [eFL34x]; exact (va_up_ne _ _ n_q19w_q33).trans hF_q19w
  have ha_q19w : q19w ∈ L34x := by rw [eLL34x]; exact List.mem_append_left _ ha_q19w
  have hF_q26 : F34x q26 = rowE 0 q26w 0 0 := by rw [eFL34x]; exact (va_up_ne _ _ n_q26_q33).trans hF_q26
  have ha_q26 : q26 ∈ L34x := by rw [eLL34x]; exact List.mem_append_left _ ha_q26
  have hF_q26w : F34x q26w = arrI (y 0) 100 emp := by rw [eFL34x]; exact (va_up_ne _ _ n_q26w_q33).trans hF_q26w
  have ha_q26w : q26w ∈ L34x := by rw [eLL34x]; exact List.mem_append_left _ ha_q26w
  have hfr : ∀ a ∈ L, a ≠ h → F34x a = F a := fun a h1 h2 => by rw [eFL34x]; exact (va_up_ne _ _ (fun e : a = q33 => nL_q33 (e ▸ h1))).trans (hfr a h1 h2)
  have hLs : ∀ a ∈ L, a ∈ L34x := fun a h1 => by rw [eLL34x]; exact List.mem_append_left _ (hLs a h1)
  have hF_q33 : F34x q33 = arrQ (y 1) 3 (fun _ => none) := by rw [eFL34x]; exact va_up_self _ _ _
  have ha_q33 : q33 ∈ L34x := by rw [eLL34x]; exact List.mem_append_right _ List.mem_cons_self
  refine q_putF C0 iX3 tyX3 tyX3_ok nmX3 hP hD hS ha_h hF_h rfl 1 (by decide) flX3_18 rfl rfl hnm rfl rfl rfl (Nat.le_of_ble_eq_true rfl) dX3_init_44 (fun H locs hP hD hS => ?_)
  obtain ⟨F35x, eF35⟩ : ∃ z, z = va_up F34x h (.inr (5, [.ref q1, .ref q33, .null, .null, .int (iI 0), .int (iI 0), .int (iI 0), .int (iI 0)])) := ⟨_, rfl⟩
  have hP : va_P D vwCl (va_pl L34x F35x) H := by rw [eF35]; exact hP
  have hD : va_D (AL L sz) (va_pl L34x F35x) := by rw [eF35]; exact hD
  have hF_q1 : F35x q1 = arrQ (y 1) 4 (iu (iu (iu (iu (fun _ => none) 0 (some q5)) 1 (some q12)) 2 (some q19)) 3 (some q26)) := by rw [eF35]; exact (va_up_ne _ _ n_h_q1.symm).trans hF_q1
  have hF_q5 : F35x q5 = rowE 0 q5w 0 0 := by rw [eF35]; exact (va_up_ne _ _ n_h_q5.symm).trans hF_q5
  have hF_q5w : F35x q5w = arrI (y 0) 100 emp := by rw [eF35]; exact (va_up_ne _ _ n_h_q5w.symm).trans hF_q5w
  have hF_q12 : F35x q12 = rowE 0 q12w 0 0 := by rw [eF35]; exact (va_up_ne _ _ n_h_q12.symm).trans hF_q12
  have hF_q12w : F35x q12w = arrI (y 0) 100 emp := by rw [eF35]; exact (va_up_ne _ _ n_h_q12w.symm).trans hF_q12w
  have hF_q19 : F35x q19 = rowE 0 q19w 0 0 := by rw [eF35]; exact (va_up_ne _ _ n_h_q19.symm).trans hF_q19
  have hF_q19w : F35x q19w = arrI (y 0) 100 emp := by rw [eF35]; exact (va_up_ne _ _ n_h_q19w.symm).trans hF_q19w
  have hF_q26 : F35x q26 = rowE 0 q26w 0 0 := by rw [eF35]; exact (va_up_ne _ _ n_h_q26.symm).trans hF_q26
  have hF_q26w : F35x q26w = arrI (y 0) 100 emp := by rw [eF35]; exact (va_up_ne _ _ n_h_q26w.symm).trans hF_q26w
  have hF_q33 : F35x q33 = arrQ (y 1) 3 (fun _ => none) := by rw [eF35]; exact (va_up_ne _ _ n_h_q33.symm).trans hF_q33
  have hF_h : F35x h = .inr (5, [.ref q1, .ref q33, .null, .null, .int (iI 0), .int (iI 0), .int (iI 0), .int (iI 0)]) := by rw [eF35]; exact va_up_self _ _ _
  have hfr : ∀ a ∈ L, a ≠ h → F35x a = F a := fun a h1 h2 => by rw [eF35]; exact (va_up_ne _ _ h2).trans (hfr a h1 h2)
  refine q_iconst hx hb dX3_init_47 ?_
  refine lv_istore_n (lv' := [(1, .int (iI 0)), (0, .ref h)]) hx hb dX3_init_48 rfl hl (by decide) rfl (fun ls hl => ?_)
  refine lv_iload_n hx hb dX3_init_49 rfl (lv_at hl 0 rfl) ?_
  refine q_iconst hx hb dX3_init_50 ?_
  refine q_icmp_ge hx hb dX3_init_51 (tgt := 74) (by decide) (by omega) (by omega) (fun c36 => absurd c36 (by omega)) (fun c36 => ?_)
  refine lv_aload_n hx hb dX3_init_54 rfl (lv_at hl 1 rfl) ?_
  refine q_get C0 iX3 hP ha_h hF_h rfl 1 (by decide) flX3_18 rfl rfl dX3_init_55 ?_
  refine lv_iload_n hx hb dX3_init_58 rfl (lv_at hl 0 rfl) ?_
  refine q_new C0 iX0 tyX0 tyX0_ok klX3_9 insX0 iniX0 hP hD hS hA (ci := 2) rfl (fs := [.int (iI 0), .null, .int (iI 0), .int (iI 0)]) (fun j hj => by rcases (show j = 0 ∨ j = 1 ∨ j = 2 ∨ j = 3 by omega) with rfl | rfl | rfl | rfl <;> rfl) (Nat.le_of_ble_eq_true rfl) (Nat.le_of_ble_eq_true rfl) dX3_init_59 (fun q37 H h0q37 hP hD hS => ?_)
  refine W.widen (k := 11) (n := 427) (Nat.le_of_ble_eq_true rfl) (Nat.le_of_ble_eq_true rfl) ?_
  have n_h_q37 : h ≠ q37 := fun e => h0q37 (e ▸ ha_h)
  have n_q1_q37 : q1 ≠ q37 := fun e => h0q37 (e ▸ ha_q1)
  have n_q5_q37 : q5 ≠ q37 := fun e => h0q37 (e ▸ ha_q5)
  have n_q5w_q37 : q5w ≠ q37 := fun e => h0q37 (e ▸ ha_q5w)
  have n_q12_q37 : q12 ≠ q37 := fun e => h0q37 (e ▸ ha_q12)
  have n_q12w_q37 : q12w ≠ q37 := fun e => h0q37 (e ▸ ha_q12w)
  have n_q19_q37 : q19 ≠ q37 := fun e => h0q37 (e ▸ ha_q19)
  have n_q19w_q37 : q19w ≠ q37 := fun e => h0q37 (e ▸ ha_q19w)
  have n_q26_q37 : q26 ≠ q37 := fun e => h0q37 (e ▸ ha_q26)
  have n_q26w_q37 : q26w ≠ q37 := fun e => h0q37 (e ▸ ha_q26w)
  have n_q33_q37 : q33 ≠ q37 := fun e => h0q37 (e ▸ ha_q33)
  have nL_q37 : q37 ∉ L := fun z => h0q37 (hLs _ z)
  obtain ⟨L38x, eLL38x⟩ : ∃ z, z = L34x ++ [q37] := ⟨_, rfl⟩
  obtain ⟨F38x, eFL38x⟩ : ∃ z, z = va_up F35x q37 (.inr (2, [.int (iI 0), .null, .int (iI 0), .int (iI 0)])) := ⟨_, rfl⟩
  have hP : va_P D vwCl (va_pl L38x F38x) H := by rw [eLL38x, eFL38x]; exact hP
  have hD : va_D (AL L sz) (va_pl L38x F38x) := by rw [eLL38x, eFL38x]; exact hD
  have hF_h : F38x h = .inr (5, [.ref q1, .ref q33, .null, .null, .int (iI 0), .int (iI 0), .int (iI 0), .int (iI 0)]) := by rw [eFL38x]; exact (va_up_ne _ _ n_h_q37).trans hF_h
  have ha_h : h ∈ L38x := by rw [eLL38x]; exact List.mem_append_left _ ha_h
  have hF_q1 : F38x q1 = arrQ (y 1) 4 (iu (iu (iu (iu (fun _ => none) 0 (some q5)) 1 (some q12)) 2 (some q19)) 3 (some q26)) := by rw [eFL38x]; exact (va_up_ne _ _ n_q1_q37).trans hF_q1
  have ha_q1 : q1 ∈ L38x := by rw [eLL38x]; exact List.mem_append_left _ ha_q1
  have hF_q5 : F38x q5 = rowE 0 q5w 0 0 := by rw [eFL38x]; exact (va_up_ne _ _ n_q5_q37).trans hF_q5
  have ha_q5 : q5 ∈ L38x := by rw [eLL38x]; exact List.mem_append_left _ ha_q5
  have hF_q5w : F38x q5w = arrI (y 0) 100 emp := by rw [eFL38x]; exact (va_up_ne _ _ n_q5w_q37).trans hF_q5w
  have ha_q5w : q5w ∈ L38x := by rw [eLL38x]; exact List.mem_append_left _ ha_q5w
  have hF_q12 : F38x q12 = rowE 0 q12w 0 0 := by rw [eFL38x]; exact (va_up_ne _ _ n_q12_q37).trans hF_q12
  have ha_q12 : q12 ∈ L38x := by rw [eLL38x]; exact List.mem_append_left _ ha_q12
  have hF_q12w : F38x q12w = arrI (y 0) 100 emp := by rw [eFL38x]; exact (va_up_ne _ _ n_q12w_q37).trans hF_q12w
  have ha_q12w : q12w ∈ L38x := by rw [eLL38x]; exact List.mem_append_left _ ha_q12w
  have hF_q19 : F38x q19 = rowE 0 q19w 0 0 := by rw [eFL38x]; exact (va_up_ne _ _ n_q19_q37).trans hF_q19
  have ha_q19 : q19 ∈ L38x := by rw [eLL38x]; exact List.mem_append_left _ ha_q19
  have hF_q19w : F38x q19w = arrI (y 0) 100 emp := by rw [eFL38x]; exact (va_up_ne _ _ n_q19w_q37).trans hF_q19w
  have ha_q19w : q19w ∈ L38x := by rw [eLL38x]; exact List.mem_append_left _ ha_q19w
  have hF_q26 : F38x q26 = rowE 0 q26w 0 0 := by rw [eFL38x]; exact (va_up_ne _ _ n_q26_q37).trans hF_q26
  have ha_q26 : q26 ∈ L38x := by rw [eLL38x]; exact List.mem_append_left _ ha_q26
  have hF_q26w : F38x q26w = arrI (y 0) 100 emp := by rw [eFL38x]; exact (va_up_ne _ _ n_q26w_q37).trans hF_q26w
  have ha_q26w : q26w ∈ L38x := by rw [eLL38x]; exact List.mem_append_left _ ha_q26w
  have hF_q33 : F38x q33 = arrQ (y 1) 3 (fun _ => none) := by rw [eFL38x]; exact (va_up_ne _ _ n_q33_q37).trans hF_q33
  have ha_q33 : q33 ∈ L38x := by rw [eLL38x]; exact List.mem_append_left _ ha_q33
  have hfr : ∀ a ∈ L, a ≠ h → F38x a = F a := fun a h1 h2 => by rw [eFL38x]; exact (va_up_ne _ _ (fun e : a = q37 => nL_q37 (e ▸ h1))).trans (hfr a h1 h2)
  have hLs : ∀ a ∈ L, a ∈ L38x := fun a h1 => by rw [eLL38x]; exact List.mem_append_left _ (hLs a h1)
  have hF_q37 : F38x q37 = .inr (2, [.int (iI 0), .null, .int (iI 0), .int (iI 0)]) := by rw [eFL38x]; exact va_up_self _ _ _
  have ha_q37 : q37 ∈ L38x := by rw [eLL38x]; exact List.mem_append_right _ List.mem_cons_self
  refine lv_dup hx hb dX3_init_62 rfl ?_
  refine q_iconst hx hb dX3_init_63 ?_
  refine q_iMv C0 lX3_15 (c_X0_init l D y L38x F38x _ q37 0 ha_q37 hF_q37 (by omega)) ⟨rfl, rfl⟩ rfl hP hD hS hA rfl hl rfl (Nat.le_of_ble_eq_true rfl) dX3_init_64 ⟨Nat.le_of_ble_eq_true rfl, Nat.le_of_ble_eq_true rfl⟩ (fun _ H locs L40 F40 hP hD hS hz40 hp40 => ?_)
  refine W.widen (k := 12) (n := 527) (Nat.le_of_ble_eq_true rfl) (Nat.le_of_ble_eq_true rfl) ?_
  obtain ⟨q37w, h0q37w, eLq37w, hRn, hfrq37w⟩ := hp40
  have n_h_q37w : h ≠ q37w := fun e => h0q37w (e ▸ ha_h)
  have n_q1_q37w : q1 ≠ q37w := fun e => h0q37w (e ▸ ha_q1)
  have n_q5_q37w : q5 ≠ q37w := fun e => h0q37w (e ▸ ha_q5)
  have n_q5w_q37w : q5w ≠ q37w := fun e => h0q37w (e ▸ ha_q5w)
  have n_q12_q37w : q12 ≠ q37w := fun e => h0q37w (e ▸ ha_q12)
  have n_q12w_q37w : q12w ≠ q37w := fun e => h0q37w (e ▸ ha_q12w)
  have n_q19_q37w : q19 ≠ q37w := fun e => h0q37w (e ▸ ha_q19)
  have n_q19w_q37w : q19w ≠ q37w := fun e => h0q37w (e ▸ ha_q19w)
  have n_q26_q37w : q26 ≠ q37w := fun e => h0q37w (e ▸ ha_q26)
  have n_q26w_q37w : q26w ≠ q37w := fun e => h0q37w (e ▸ ha_q26w)
  have n_q33_q37w : q33 ≠ q37w := fun e => h0q37w (e ▸ ha_q33)
  have n_q37_q37w : q37 ≠ q37w := fun e => h0q37w (e ▸ ha_q37)
  have nL_q37w : q37w ∉ L := fun z => h0q37w (hLs _ z)
  have hF_h : F40 h = .inr (5, [.ref q1, .ref q33, .null, .null, .int (iI 0), .int (iI 0), .int (iI 0), .int (iI 0)]) := (hfrq37w h ha_h n_h_q37).trans hF_h
  have ha_h : h ∈ L40 := by rw [eLq37w]; exact List.mem_append_left _ ha_h
  have hF_q1 : F40 q1 = arrQ (y 1) 4 (iu (iu (iu (iu (fun _ => none) 0 (some q5)) 1 (some q12)) 2 (some q19)) 3 (some q26)) := (hfrq37w q1 ha_q1 n_q1_q37).trans hF_q1
  have ha_q1 : q1 ∈ L40 := by rw [eLq37w]; exact List.mem_append_left _ ha_q1
  have hF_q5 : F40 q5 = rowE 0 q5w 0 0 := (hfrq37w q5 ha_q5 n_q5_q37).trans hF_q5
  have ha_q5 : q5 ∈ L40 := by rw [eLq37w]; exact List.mem_append_left _ ha_q5
  have hF_q5w : F40 q5w = arrI (y 0) 100 emp := (hfrq37w q5w ha_q5w n_q5w_q37).trans hF_q5w
  have ha_q5w : q5w ∈ L40 := by rw [eLq37w]; exact List.mem_append_left _ ha_q5w
  have hF_q12 : F40 q12 = rowE 0 q12w 0 0 := (hfrq37w q12 ha_q12 n_q12_q37).trans hF_q12
  have ha_q12 : q12 ∈ L40 := by rw [eLq37w]; exact List.mem_append_left _ ha_q12
  have hF_q12w : F40 q12w = arrI (y 0) 100 emp := (hfrq37w q12w ha_q12w n_q12w_q37).trans hF_q12w
  have ha_q12w : q12w ∈ L40 := by rw [eLq37w]; exact List.mem_append_left _ ha_q12w
  have hF_q19 : F40 q19 = rowE 0 q19w 0 0 := (hfrq37w q19 ha_q19 n_q19_q37).trans hF_q19
  have ha_q19 : q19 ∈ L40 := by rw [eLq37w]; exact List.mem_append_left _ ha_q19
  have hF_q19w : F40 q19w = arrI (y 0) 100 emp := (hfrq37w q19w ha_q19w n_q19w_q37).trans hF_q19w
  have ha_q19w : q19w ∈ L40 := by rw [eLq37w]; exact List.mem_append_left _ ha_q19w
  have hF_q26 : F40 q26 = rowE 0 q26w 0 0 := (hfrq37w q26 ha_q26 n_q26_q37).trans hF_q26
  have ha_q26 : q26 ∈ L40 := by rw [eLq37w]; exact List.mem_append_left _ ha_q26
  have hF_q26w : F40 q26w = arrI (y 0) 100 emp := (hfrq37w q26w ha_q26w n_q26w_q37).trans hF_q26w
  have ha_q26w : q26w ∈ L40 := by rw [eLq37w]; exact List.mem_append_left _ ha_q26w
  have hF_q33 : F40 q33 = arrQ (y 1) 3 (fun _ => none) := (hfrq37w q33 ha_q33 n_q33_q37).trans hF_q33
  have ha_q33 : q33 ∈ L40 := by rw [eLq37w]; exact List.mem_append_left _ ha_q33
  have ha_q37 : q37 ∈ L40 := by rw [eLq37w]; exact List.mem_append_left _ ha_q37
  have hfr : ∀ a ∈ L, a ≠ h → F40 a = F a := fun a h1 h2 => (hfrq37w a (hLs a h1) (fun e : a = q37 => nL_q37 (e ▸ h1))).trans (hfr a h1 h2)
  have hLs : ∀ a ∈ L, a ∈ L40 := fun a h1 => by rw [eLq37w]; exact List.mem_append_left _ (hLs a h1)
  have hF_q37 : F40 q37 = rowE 0 q37w 0 0 := hRn.2.1
  have hF_q37w : F40 q37w = arrI (y 0) 100 emp := hRn.2.2.2.1
  have ha_q37w : q37w ∈ L40 := hRn.2.2.1
  refine q_aast C0 hP hD hS ha_q33 hF_q33 (t := 1) (r := (RX0, TX0, 4)) rfl ha_q37 hF_q37 rfl (by omega) (by decide) dX3_init_67 (fun H locs hP hD hS => ?_)
  obtain ⟨F42x, eF42⟩ : ∃ z, z = va_up F40 q33 (arrQ (y 1) 3 (iu (fun _ => none) 0 (some q37))) := ⟨_, rfl⟩
  have hP : va_P D vwCl (va_pl L40 F42x) H := by rw [eF42]; exact hP
  have hD : va_D (AL L sz) (va_pl L40 F42x) := by rw [eF42]; exact hD
  have hF_h : F42x h = .inr (5, [.ref q1, .ref q33, .null, .null, .int (iI 0), .int (iI 0), .int (iI 0), .int (iI 0)]) := by rw [eF42]; exact (va_up_ne _ _ n_h_q33).trans hF_h
  have hF_q1 : F42x q1 = arrQ (y 1) 4 (iu (iu (iu (iu (fun _ => none) 0 (some q5)) 1 (some q12)) 2 (some q19)) 3 (some q26)) := by rw [eF42]; exact (va_up_ne _ _ n_q1_q33).trans hF_q1
  have hF_q5 : F42x q5 = rowE 0 q5w 0 0 := by rw [eF42]; exact (va_up_ne _ _ n_q5_q33).trans hF_q5
  have hF_q5w : F42x q5w = arrI (y 0) 100 emp := by rw [eF42]; exact (va_up_ne _ _ n_q5w_q33).trans hF_q5w
  have hF_q12 : F42x q12 = rowE 0 q12w 0 0 := by rw [eF42]; exact (va_up_ne _ _ n_q12_q33).trans hF_q12
  have hF_q12w : F42x q12w = arrI (y 0) 100 emp := by rw [eF42]; exact (va_up_ne _ _ n_q12w_q33).trans hF_q12w
  have hF_q19 : F42x q19 = rowE 0 q19w 0 0 := by rw [eF42]; exact (va_up_ne _ _ n_q19_q33).trans hF_q19
  have hF_q19w : F42x q19w = arrI (y 0) 100 emp := by rw [eF42]; exact (va_up_ne _ _ n_q19w_q33).trans hF_q19w
  have hF_q26 : F42x q26 = rowE 0 q26w 0 0 := by rw [eF42]; exact (va_up_ne _ _ n_q26_q33).trans hF_q26
  have hF_q26w : F42x q26w = arrI (y 0) 100 emp := by rw [eF42]; exact (va_up_ne _ _ n_q26w_q33).trans hF_q26w
  have hF_q37 : F42x q37 = rowE 0 q37w 0 0 := by rw [eF42]; exact (va_up_ne _ _ n_q33_q37.symm).trans hF_q37
  have hF_q37w : F42x q37w = arrI (y 0) 100 emp := by rw [eF42]; exact (va_up_ne _ _ n_q33_q37w.symm).trans hF_q37w
  have hF_q33 : F42x q33 = arrQ (y 1) 3 (iu (fun _ => none) 0 (some q37)) := by rw [eF42]; exact va_up_self _ _ _
  have hfr : ∀ a ∈ L, a ≠ h → F42x a = F a := fun a h1 h2 => by rw [eF42]; exact (va_up_ne _ _ (fun e : a = q33 => nL_q33 (e ▸ h1))).trans (hfr a h1 h2)
  refine q_iinc (x := 0) (n := 1) (lv' := [(1, .int (iI 1)), (0, .ref h)]) hx hb dX3_init_68 hl (k := 0) rfl (by decide) rfl (fun ls hl => ?_)
  refine lv_goto (tgt := 49) hx hb dX3_init_71 (by decide) ?_
  refine lv_iload_n hx hb dX3_init_49 rfl (lv_at hl 0 rfl) ?_
  refine q_iconst hx hb dX3_init_50 ?_
  refine q_icmp_ge hx hb dX3_init_51 (tgt := 74) (by decide) (by omega) (by omega) (fun c43 => absurd c43 (by omega)) (fun c43 => ?_)
  refine lv_aload_n hx hb dX3_init_54 rfl (lv_at hl 1 rfl) ?_
  refine q_get C0 iX3 hP ha_h hF_h rfl 1 (by decide) flX3_18 rfl rfl dX3_init_55 ?_
  refine lv_iload_n hx hb dX3_init_58 rfl (lv_at hl 0 rfl) ?_
  refine q_new C0 iX0 tyX0 tyX0_ok klX3_9 insX0 iniX0 hP hD hS hA (ci := 2) rfl (fs := [.int (iI 0), .null, .int (iI 0), .int (iI 0)]) (fun j hj => by rcases (show j = 0 ∨ j = 1 ∨ j = 2 ∨ j = 3 by omega) with rfl | rfl | rfl | rfl <;> rfl) (Nat.le_of_ble_eq_true rfl) (Nat.le_of_ble_eq_true rfl) dX3_init_59 (fun q44 H h0q44 hP hD hS => ?_)
  refine W.widen (k := 13) (n := 531) (Nat.le_of_ble_eq_true rfl) (Nat.le_of_ble_eq_true rfl) ?_
  have n_h_q44 : h ≠ q44 := fun e => h0q44 (e ▸ ha_h)
  have n_q1_q44 : q1 ≠ q44 := fun e => h0q44 (e ▸ ha_q1)
  have n_q5_q44 : q5 ≠ q44 := fun e => h0q44 (e ▸ ha_q5)
  have n_q5w_q44 : q5w ≠ q44 := fun e => h0q44 (e ▸ ha_q5w)
  have n_q12_q44 : q12 ≠ q44 := fun e => h0q44 (e ▸ ha_q12)
  have n_q12w_q44 : q12w ≠ q44 := fun e => h0q44 (e ▸ ha_q12w)
  have n_q19_q44 : q19 ≠ q44 := fun e => h0q44 (e ▸ ha_q19)
  have n_q19w_q44 : q19w ≠ q44 := fun e => h0q44 (e ▸ ha_q19w)
  have n_q26_q44 : q26 ≠ q44 := fun e => h0q44 (e ▸ ha_q26)
  have n_q26w_q44 : q26w ≠ q44 := fun e => h0q44 (e ▸ ha_q26w)
  have n_q33_q44 : q33 ≠ q44 := fun e => h0q44 (e ▸ ha_q33)
  have n_q37_q44 : q37 ≠ q44 := fun e => h0q44 (e ▸ ha_q37)
  have n_q37w_q44 : q37w ≠ q44 := fun e => h0q44 (e ▸ ha_q37w)
  have nL_q44 : q44 ∉ L := fun z => h0q44 (hLs _ z)
  obtain ⟨L45x, eLL45x⟩ : ∃ z, z = L40 ++ [q44] := ⟨_, rfl⟩
  obtain ⟨F45x, eFL45x⟩ : ∃ z, z = va_up F42x q44 (.inr (2, [.int (iI 0), .null, .int (iI 0), .int (iI 0)])) := ⟨_, rfl⟩
  have hP : va_P D vwCl (va_pl L45x F45x) H := by rw [eLL45x, eFL45x]; exact hP
  have hD : va_D (AL L sz) (va_pl L45x F45x) := by rw [eLL45x, eFL45x]; exact hD
  have hF_h : F45x h = .inr (5, [.ref q1, .ref q33, .null, .null, .int (iI 0), .int (iI 0), .int (iI 0), .int (iI 0)]) := by rw [eFL45x]; exact (va_up_ne _ _ n_h_q44).trans hF_h
  have ha_h : h ∈ L45x := by rw [eLL45x]; exact List.mem_append_left _ ha_h
  have hF_q1 : F45x q1 = arrQ (y 1) 4 (iu (iu (iu (iu (fun _ => none) 0 (some q5)) 1 (some q12)) 2 (some q19)) 3 (some q26)) := by rw [eFL45x]; exact (va_up_ne _ _ n_q1_q44).trans hF_q1
  have ha_q1 : q1 ∈ L45x := by rw [eLL45x]; exact List.mem_append_left _ ha_q1
  have hF_q5 : F45x q5 = rowE 0 q5w 0 0 := by rw [eFL45x]; exact (va_up_ne _ _ n_q5_q44).trans hF_q5
  have ha_q5 : q5 ∈ L45x := by rw [eLL45x]; exact List.mem_append_left _ ha_q5
  have hF_q5w : F45x q5w = arrI (y 0) 100 emp := by rw [eFL45x]; exact (va_up_ne _ _ n_q5w_q44).trans hF_q5w
  have ha_q5w : q5w ∈ L45x := by rw [eLL45x]; exact List.mem_append_left _ ha_q5w
  have hF_q12 : F45x q12 = rowE 0 q12w 0 0 := by rw [eFL45x]; exact (va_up_ne _ _ n_q12_q44).trans hF_q12
  have ha_q12 : q12 ∈ L45x := by rw [eLL45x]; exact List.mem_append_left _ ha_q12
  have hF_q12w : F45x q12w = arrI (y 0) 100 emp := by rw [eFL45x]; exact (va_up_ne _ _ n_q12w_q44).trans hF_q12w
  have ha_q12w : q12w ∈ L45x := by rw [eLL45x]; exact List.mem_append_left _ ha_q12w
  have hF_q19 : F45x q19 = rowE 0 q19w 0 0 := by rw [eFL45x]; exact (va_up_ne _ _ n_q19_q44).trans hF_q19
  have ha_q19 : q19 ∈ L45x := by rw [eLL45x]; exact List.mem_append_left _ ha_q19
  have hF_q19w : F45x q19w = arrI (y 0) 100 emp := by rw [eFL45x]; exact (va_up_ne _ _ n_q19w_q44).trans hF_q19w
  have ha_q19w : q19w ∈ L45x := by rw [eLL45x]; exact List.mem_append_left _ ha_q19w
  have hF_q26 : F45x q26 = rowE 0 q26w 0 0 := by rw [eFL45x]; exact (va_up_ne _ _ n_q26_q44).trans hF_q26
  have ha_q26 : q26 ∈ L45x := by rw [eLL45x]; exact List.mem_append_left _ ha_q26
  have hF_q26w : F45x q26w = arrI (y 0) 100 emp := by rw [eFL45x]; exact (va_up_ne _ _ n_q26w_q44).trans hF_q26w
  have ha_q26w : q26w ∈ L45x := by rw [eLL45x]; exact List.mem_append_left _ ha_q26w
  have hF_q33 : F45x q33 = arrQ (y 1) 3 (iu (fun _ => none) 0 (some q37)) := by rw [eFL45x]; exact (va_up_ne _ _ n_q33_q44).trans hF_q33
  have ha_q33 : q33 ∈ L45x := by rw [eLL45x]; exact List.mem_append_left _ ha_q33
  have hF_q37 : F45x q37 = rowE 0 q37w 0 0 := by rw [eFL45x]; exact (va_up_ne _ _ n_q37_q44).trans hF_q37
  have ha_q37 : q37 ∈ L45x := by rw [eLL45x]; exact List.mem_append_left _ ha_q37
  have hF_q37w : F45x q37w = arrI (y 0) 100 emp := by rw [eFL45x]; exact (va_up_ne _ _ n_q37w_q44).trans hF_q37w
  have ha_q37w : q37w ∈ L45x := by rw [eLL45x]; exact List.mem_append_left _ ha_q37w
  have hfr : ∀ a ∈ L, a ≠ h → F45x a = F a := fun a h1 h2 => by rw [eFL45x]; exact (va_up_ne _ _ (fun e : a = q44 => nL_q44 (e ▸ h1))).trans (hfr a h1 h2)
  have hLs : ∀ a ∈ L, a ∈ L45x := fun a h1 => by rw [eLL45x]; exact List.mem_append_left _ (hLs a h1)
  have hF_q44 : F45x q44 = .inr (2, [.int (iI 0), .null, .int (iI 0), .int (iI 0)]) := by rw [eFL45x]; exact va_up_self _ _ _
  have ha_q44 : q44 ∈ L45x := by rw [eLL45x]; exact List.mem_append_right _ List.mem_cons_self
  refine lv_dup hx hb dX3_init_62 rfl ?_
  refine q_iconst hx hb dX3_init_63 ?_
  refine q_iMv C0 lX3_15 (c_X0_init l D y L45x F45x _ q44 0 ha_q44 hF_q44 (by omega)) ⟨rfl, rfl⟩ rfl hP hD hS hA rfl hl rfl (Nat.le_of_ble_eq_true rfl) dX3_init_64 ⟨Nat.le_of_ble_eq_true rfl, Nat.le_of_ble_eq_true rfl⟩ (fun _ H locs L47 F47 hP hD hS hz47 hp47 => ?_)
  refine W.widen (k := 14) (n := 631) (Nat.le_of_ble_eq_true rfl) (Nat.le_of_ble_eq_true rfl) ?_
  obtain ⟨q44w, h0q44w, eLq44w, hRn, hfrq44w⟩ := hp47
  have n_h_q44w : h ≠ q44w := fun e => h0q44w (e ▸ ha_h)
  have n_q1_q44w : q1 ≠ q44w := fun e => h0q44w (e ▸ ha_q1)
  have n_q5_q44w : q5 ≠ q44w := fun e => h0q44w (e ▸ ha_q5)
  have n_q5w_q44w : q5w ≠ q44w := fun e => h0q44w (e ▸ ha_q5w)
  have n_q12_q44w : q12 ≠ q44w := fun e => h0q44w (e ▸ ha_q12)
  have n_q12w_q44w : q12w ≠ q44w := fun e => h0q44w (e ▸ ha_q12w)
  have n_q19_q44w : q19 ≠ q44w := fun e => h0q44w (e ▸ ha_q19)
  have n_q19w_q44w : q19w ≠ q44w := fun e => h0q44w (e ▸ ha_q19w)
  have n_q26_q44w : q26 ≠ q44w := fun e => h0q44w (e ▸ ha_q26)
  have n_q26w_q44w : q26w ≠ q44w := fun e => h0q44w (e ▸ ha_q26w)
  have n_q33_q44w : q33 ≠ q44w := fun e => h0q44w (e ▸ ha_q33)
  have n_q37_q44w : q37 ≠ q44w := fun e => h0q44w (e ▸ ha_q37)
  have n_q37w_q44w : q37w ≠ q44w := fun e => h0q44w (e ▸ ha_q37w)
  have n_q44_q44w : q44 ≠ q44w := fun e => h0q44w (e ▸ ha_q44)
  have nL_q44w : q44w ∉ L := fun z => h0q44w (hLs _ z)
  have hF_h : F47 h = .inr (5, [.ref q1, .ref q33, .null, .null, .int (iI 0), .int (iI 0), .int (iI 0), .int (iI 0)]) := (hfrq44w h ha_h n_h_q44).trans hF_h
  have ha_h : h ∈ L47 := by rw [eLq44w]; exact List.mem_append_left _ ha_h
  have hF_q1 : F47 q1 = arrQ (y 1) 4 (iu (iu (iu (iu (fun _ => none) 0 (some q5)) 1 (some q12)) 2 (some q19)) 3 (some q26)) := (hfrq44w q1 ha_q1 n_q1_q44).trans hF_q1
  have ha_q1 : q1 ∈ L47 := by rw [eLq44w]; exact List.mem_append_left _ ha_q1
  have hF_q5 : F47 q5 = rowE 0 q5w 0 0 := (hfrq44w q5 ha_q5 n_q5_q44).trans hF_q5
  have ha_q5 : q5 ∈ L47 := by rw [eLq44w]; exact List.mem_append_left _ ha_q5
  have hF_q5w : F47 q5w = arrI (y 0) 100 emp := (hfrq44w q5w ha_q5w n_q5w_q44).trans hF_q5w
  have ha_q5w : q5w ∈ L47 := by rw [eLq44w]; exact List.mem_append_left _ ha_q5w
  have hF_q12 : F47 q12 = rowE 0 q12w 0 0 := (hfrq44w q12 ha_q12 n_q12_q44).trans hF_q12
  have ha_q12 : q12 ∈ L47 := by rw [eLq44w]; exact List.mem_append_left _ ha_q12
  have hF_q12w : F47 q12w = arrI (y 0) 100 emp := (hfrq44w q12w ha_q12w n_q12w_q44).trans hF_q12w
  have ha_q12w : q12w ∈ L47 := by rw [eLq44w]; exact List.mem_append_left _ ha_q12w
  have hF_q19 : F47 q19 = rowE 0 q19w 0 0 := (hfrq44w q19 ha_q19 n_q19_q44).trans hF_q19
  have ha_q19 : q19 ∈ L47 := by rw [eLq44w]; exact List.mem_append_left _ ha_q19
  have hF_q19w : F47 q19w = arrI (y 0) 100 emp := (hfrq44w q19w ha_q19w n_q19w_q44).trans hF_q19w
  have ha_q19w : q19w ∈ L47 := by rw [eLq44w]; exact List.mem_append_left _ ha_q19w
  have hF_q26 : F47 q26 = rowE 0 q26w 0 0 := (hfrq44w q26 ha_q26 n_q26_q44).trans hF_q26
  have ha_q26 : q26 ∈ L47 := by rw [eLq44w]; exact List.mem_append_left _ ha_q26
  have hF_q26w : F47 q26w = arrI (y 0) 100 emp := (hfrq44w q26w ha_q26w n_q26w_q44).trans hF_q26w
  have ha_q26w : q26w ∈ L47 := by rw [eLq44w]; exact List.mem_append_left _ ha_q26w
  have hF_q33 : F47 q33 = arrQ (y 1) 3 (iu (fun _ => none) 0 (some q37)) := (hfrq44w q33 ha_q33 n_q33_q44).trans hF_q33
  have ha_q33 : q33 ∈ L47 := by rw [eLq44w]; exact List.mem_append_left _ ha_q33
  have hF_q37 : F47 q37 = rowE 0 q37w 0 0 := (hfrq44w q37 ha_q37 n_q37_q44).trans hF_q37
  have ha_q37 : q37 ∈ L47 := by rw [eLq44w]; exact List.mem_append_left _ ha_q37
  have hF_q37w : F47 q37w = arrI (y 0) 100 emp := (hfrq44w q37w ha_q37w n_q37w_q44).trans hF_q37w
  have ha_q37w : q37w ∈ L47 := by rw [eLq44w]; exact List.mem_append_left _ ha_q37w
  have ha_q44 : q44 ∈ L47 := by rw [eLq44w]; exact List.mem_append_left _ ha_q44
  have hfr : ∀ a ∈ L, a ≠ h → F47 a = F a := fun a h1 h2 => (hfrq44w a (hLs a h1) (fun e : a = q44 => nL_q44 (e ▸ h1))).trans (hfr a h1 h2)
  have hLs : ∀ a ∈ L, a ∈ L47 := fun a h1 => by rw [eLq44w]; exact List.mem_append_left _ (hLs a h1)
  have hF_q44 : F47 q44 = rowE 0 q44w 0 0 := hRn.2.1
  have hF_q44w : F47 q44w = arrI (y 0) 100 emp := hRn.2.2.2.1
  have ha_q44w : q44w ∈ L47 := hRn.2.2.1
  refine q_aast C0 hP hD hS ha_q33 hF_q33 (t := 1) (r := (RX0, TX0, 4)) rfl ha_q44 hF_q44 rfl (by omega) (by decide) dX3_init_67 (fun H locs hP hD hS => ?_)
  obtain ⟨F49x, eF49⟩ : ∃ z, z = va_up F47 q33 (arrQ (y 1) 3 (iu (iu (fun _ => none) 0 (some q37)) 1 (some q44))) := ⟨_, rfl⟩
  have hP : va_P D vwCl (va_pl L47 F49x) H := by rw [eF49]; exact hP
  have hD : va_D (AL L sz) (va_pl L47 F49x) := by rw [eF49]; exact hD
  have hF_h : F49x h = .inr (5, [.ref q1, .ref q33, .null, .null, .int (iI 0), .int (iI 0), .int (iI 0), .int (iI 0)]) := by rw [eF49]; exact (va_up_ne _ _ n_h_q33).trans hF_h
  have hF_q1 : F49x q1 = arrQ (y 1) 4 (iu (iu (iu (iu (fun _ => none) 0 (some q5)) 1 (some q12)) 2 (some q19)) 3 (some q26)) := by rw [eF49]; exact (va_up_ne _ _ n_q1_q33).trans hF_q1
  have hF_q5 : F49x q5 = rowE 0 q5w 0 0 := by rw [eF49]; exact (va_up_ne _ _ n_q5_q33).trans hF_q5
  have hF_q5w : F49x q5w = arrI (y 0) 100 emp := by rw [eF49]; exact (va_up_ne _ _ n_q5w_q33).trans hF_q5w
  have hF_q12 : F49x q12 = rowE 0 q12w 0 0 := by rw [eF49]; exact (va_up_ne _ _ n_q12_q33).trans hF_q12
  have hF_q12w : F49x q12w = arrI (y 0) 100 emp := by rw [eF49]; exact (va_up_ne _ _ n_q12w_q33).trans hF_q12w
  have hF_q19 : F49x q19 = rowE 0 q19w 0 0 := by rw [eF49]; exact (va_up_ne _ _ n_q19_q33).trans hF_q19
  have hF_q19w : F49x q19w = arrI (y 0) 100 emp := by rw [eF49]; exact (va_up_ne _ _ n_q19w_q33).trans hF_q19w
  have hF_q26 : F49x q26 = rowE 0 q26w 0 0 := by rw [eF49]; exact (va_up_ne _ _ n_q26_q33).trans hF_q26
  have hF_q26w : F49x q26w = arrI (y 0) 100 emp := by rw [eF49]; exact (va_up_ne _ _ n_q26w_q33).trans hF_q26w
  have hF_q37 : F49x q37 = rowE 0 q37w 0 0 := by rw [eF49]; exact (va_up_ne _ _ n_q33_q37.symm).trans hF_q37
  have hF_q37w : F49x q37w = arrI (y 0) 100 emp := by rw [eF49]; exact (va_up_ne _ _ n_q33_q37w.symm).trans hF_q37w
  have hF_q44 : F49x q44 = rowE 0 q44w 0 0 := by rw [eF49]; exact (va_up_ne _ _ n_q33_q44.symm).trans hF_q44
  have hF_q44w : F49x q44w = arrI (y 0) 100 emp := by rw [eF49]; exact (va_up_ne _ _ n_q33_q44w.symm).trans hF_q44w
  have hF_q33 : F49x q33 = arrQ (y 1) 3 (iu (iu (fun _ => none) 0 (some q37)) 1 (some q44)) := by rw [eF49]; exact va_up_self _ _ _
  have hfr : ∀ a ∈ L, a ≠ h → F49x a = F a := fun a h1 h2 => by rw [eF49]; exact (va_up_ne _ _ (fun e : a = q33 => nL_q33 (e ▸ h1))).trans (hfr a h1 h2)
  refine q_iinc (x := 1) (n := 1) (lv' := [(1, .int (iI 2)), (0, .ref h)]) hx hb dX3_init_68 hl (k := 0) rfl (by decide) rfl (fun ls hl => ?_)
  refine lv_goto (tgt := 49) hx hb dX3_init_71 (by decide) ?_
  refine lv_iload_n hx hb dX3_init_49 rfl (lv_at hl 0 rfl) ?_
  refine q_iconst hx hb dX3_init_50 ?_
  refine q_icmp_ge hx hb dX3_init_51 (tgt := 74) (by decide) (by omega) (by omega) (fun c50 => absurd c50 (by omega)) (fun c50 => ?_)
  refine lv_aload_n hx hb dX3_init_54 rfl (lv_at hl 1 rfl) ?_
  refine q_get C0 iX3 hP ha_h hF_h rfl 1 (by decide) flX3_18 rfl rfl dX3_init_55 ?_
  refine lv_iload_n hx hb dX3_init_58 rfl (lv_at hl 0 rfl) ?_
  refine q_new C0 iX0 tyX0 tyX0_ok klX3_9 insX0 iniX0 hP hD hS hA (ci := 2) rfl (fs := [.int (iI 0), .null, .int (iI 0), .int (iI 0)]) (fun j hj => by rcases (show j = 0 ∨ j = 1 ∨ j = 2 ∨ j = 3 by omega) with rfl | rfl | rfl | rfl <;> rfl) (Nat.le_of_ble_eq_true rfl) (Nat.le_of_ble_eq_true rfl) dX3_init_59 (fun q51 H h0q51 hP hD hS => ?_)
  refine W.widen (k := 15) (n := 635) (Nat.le_of_ble_eq_true rfl) (Nat.le_of_ble_eq_true rfl) ?_
  have n_h_q51 : h ≠ q51 := fun e => h0q51 (e ▸ ha_h)
  have n_q1_q51 : q1 ≠ q51 := fun e => h0q51 (e ▸ ha_q1)
  have n_q5_q51 : q5 ≠ q51 := fun e => h0q51 (e ▸ ha_q5)
  have n_q5w_q51 : q5w ≠ q51 := fun e => h0q51 (e ▸ ha_q5w)
  have n_q12_q51 : q12 ≠ q51 := fun e => h0q51 (e ▸ ha_q12)
  have n_q12w_q51 : q12w ≠ q51 := fun e => h0q51 (e ▸ ha_q12w)
  have n_q19_q51 : q19 ≠ q51 := fun e => h0q51 (e ▸ ha_q19)
  have n_q19w_q51 : q19w ≠ q51 := fun e => h0q51 (e ▸ ha_q19w)
  have n_q26_q51 : q26 ≠ q51 := fun e => h0q51 (e ▸ ha_q26)
  have n_q26w_q51 : q26w ≠ q51 := fun e => h0q51 (e ▸ ha_q26w)
  have n_q33_q51 : q33 ≠ q51 := fun e => h0q51 (e ▸ ha_q33)
  have n_q37_q51 : q37 ≠ q51 := fun e => h0q51 (e ▸ ha_q37)
  have n_q37w_q51 : q37w ≠ q51 := fun e => h0q51 (e ▸ ha_q37w)
  have n_q44_q51 : q44 ≠ q51 := fun e => h0q51 (e ▸ ha_q44)
  have n_q44w_q51 : q44w ≠ q51 := fun e => h0q51 (e ▸ ha_q44w)
  have nL_q51 : q51 ∉ L := fun z => h0q51 (hLs _ z)
  obtain ⟨L52x, eLL52x⟩ : ∃ z, z = L47 ++ [q51] := ⟨_, rfl⟩
  obtain ⟨F52x, eFL52x⟩ : ∃ z, z = va_up F49x q51 (.inr (2, [.int (iI 0), .null, .int (iI 0), .int (iI 0)])) := ⟨_, rfl⟩
  have hP : va_P D vwCl (va_pl L52x F52x) H := by rw [eLL52x, eFL52x]; exact hP
  have hD : va_D (AL L sz) (va_pl L52x F52x) := by rw [eLL52x, eFL52x]; exact hD
  have hF_h : F52x h = .inr (5, [.ref q1, .ref q33, .null, .null, .int (iI 0), .int (iI 0), .int (iI 0), .int (iI 0)]) := by rw [eFL52x]; exact (va_up_ne _ _ n_h_q51).trans hF_h
  have ha_h : h ∈ L52x := by rw [eLL52x]; exact List.mem_append_left _ ha_h
  have hF_q1 : F52x q1 = arrQ (y 1) 4 (iu (iu (iu (iu (fun _ => none) 0 (some q5)) 1 (some q12)) 2 (some q19)) 3 (some q26)) := by rw [eFL52x]; exact (va_up_ne _ _ n_q1_q51).trans hF_q1
  have ha_q1 : q1 ∈ L52x := by rw [eLL52x]; exact List.mem_append_left _ ha_q1
  have hF_q5 : F52x q5 = rowE 0 q5w 0 0 := by rw [eFL52x]; exact (va_up_ne _ _ n_q5_q51).trans hF_q5
  have ha_q5 : q5 ∈ L52x := by rw [eLL52x]; exact List.mem_append_left _ ha_q5
  have hF_q5w : F52x q5w = arrI (y 0) 100 emp := by rw [eFL52x]; exact (va_up_ne _ _ n_q5w_q51).trans hF_q5w
  have ha_q5w : q5w ∈ L52x := by rw [eLL52x]; exact List.mem_append_left _ ha_q5w
  have hF_q12 : F52x q12 = rowE 0 q12w 0 0 := by rw [eFL52x]; exact (va_up_ne _ _ n_q12_q51).trans hF_q12
  have ha_q12 : q12 ∈ L52x := by rw [eLL52x]; exact List.mem_append_left _ ha_q12
  have hF_q12w : F52x q12w = arrI (y 0) 100 emp := by rw [eFL52x]; exact (va_up_ne _ _ n_q12w_q51).trans hF_q12w
  have ha_q12w : q12w ∈ L52x := by rw [eLL52x]; exact List.mem_append_left _ ha_q12w
  have hF_q19 : F52x q19 = rowE 0 q19w 0 0 := by rw [eFL52x]; exact (va_up_ne _ _ n_q19_q51).trans hF_q19
  have ha_q19 : q19 ∈ L52x := by rw [eLL52x]; exact List.mem_append_left _ ha_q19
  have hF_q19w : F52x q19w = arrI (y 0) 100 emp := by rw [eFL52x]; exact (va_up_ne _ _ n_q19w_q51).trans hF_q19w
  have ha_q19w : q19w ∈ L52x := by rw [eLL52x]; exact List.mem_append_left _ ha_q19w
  have hF_q26 : F52x q26 = rowE 0 q26w 0 0 := by rw [eFL52x]; exact (va_up_ne _ _ n_q26_q51).trans hF_q26
  have ha_q26 : q26 ∈ L52x := by rw [eLL52x]; exact List.mem_append_left _ ha_q26
  have hF_q26w : F52x q26w = arrI (y 0) 100 emp := by rw [eFL52x]; exact (va_up_ne _ _ n_q26w_q51).trans hF_q26w
  have ha_q26w : q26w ∈ L52x := by rw [eLL52x]; exact List.mem_append_left _ ha_q26w
  have hF_q33 : F52x q33 = arrQ (y 1) 3 (iu (iu (fun _ => none) 0 (some q37)) 1 (some q44)) := by rw [eFL52x]; exact (va_up_ne _ _ n_q33_q51).trans hF_q33
  have ha_q33 : q33 ∈ L52x := by rw [eLL52x]; exact List.mem_append_left _ ha_q33
  have hF_q37 : F52x q37 = rowE 0 q37w 0 0 := by rw [eFL52x]; exact (va_up_ne _ _ n_q37_q51).trans hF_q37
  have ha_q37 : q37 ∈ L52x := by rw [eLL52x]; exact List.mem_append_left _ ha_q37
  have hF_q37w : F52x q37w = arrI (y 0) 100 emp := by rw [eFL52x]; exact (va_up_ne _ _ n_q37w_q51).trans hF_q37w
  have ha_q37w : q37w ∈ L52x := by rw [eLL52x]; exact List.mem_append_left _ ha_q37w
  have hF_q44 : F52x q44 = rowE 0 q44w 0 0 := by rw [eFL52x]; exact (va_up_ne _ _ n_q44_q51).trans hF_q44
  have ha_q44 : q44 ∈ L52x := by rw [eLL52x]; exact List.mem_append_left _ ha_q44
  have hF_q44w : F52x q44w = arrI (y 0) 100 emp := by rw [eFL52x]; exact (va_up_ne _ _ n_q44w_q51).trans hF_q44w
  have ha_q44w : q44w ∈ L52x := by rw [eLL52x]; exact List.mem_append_left _ ha_q44w
  have hfr : ∀ a ∈ L, a ≠ h → F52x a = F a := fun a h1 h2 => by rw [eFL52x]; exact (va_up_ne _ _ (fun e : a = q51 => nL_q51 (e ▸ h1))).trans (hfr a h1 h2)
  have hLs : ∀ a ∈ L, a ∈ L52x := fun a h1 => by rw [eLL52x]; exact List.mem_append_left _ (hLs a h1)
  have hF_q51 : F52x q51 = .inr (2, [.int (iI 0), .null, .int (iI 0), .int (iI 0)]) := by rw [eFL52x]; exact va_up_self _ _ _
  have ha_q51 : q51 ∈ L52x := by rw [eLL52x]; exact List.mem_append_right _ List.mem_cons_self
  refine lv_dup hx hb dX3_init_62 rfl ?_
  refine q_iconst hx hb dX3_init_63 ?_
  refine q_iMv C0 lX3_15 (c_X0_init l D y L52x F52x _ q51 0 ha_q51 hF_q51 (by omega)) ⟨rfl, rfl⟩ rfl hP hD hS hA rfl hl rfl (Nat.le_of_ble_eq_true rfl) dX3_init_64 ⟨Nat.le_of_ble_eq_true rfl, Nat.le_of_ble_eq_true rfl⟩ (fun _ H locs L54 F54 hP hD hS hz54 hp54 => ?_)
  refine W.widen (k := 16) (n := 735) (Nat.le_of_ble_eq_true rfl) (Nat.le_of_ble_eq_true rfl) ?_
  obtain ⟨q51w, h0q51w, eLq51w, hRn, hfrq51w⟩ := hp54
  have n_h_q51w : h ≠ q51w := fun e => h0q51w (e ▸ ha_h)
  have n_q1_q51w : q1 ≠ q51w := fun e => h0q51w (e ▸ ha_q1)
  have n_q5_q51w : q5 ≠ q51w := fun e => h0q51w (e ▸ ha_q5)
  have n_q5w_q51w : q5w ≠ q51w := fun e => h0q51w (e ▸ ha_q5w)
  have n_q12_q51w : q12 ≠ q51w := fun e => h0q51w (e ▸ ha_q12)
  have n_q12w_q51w : q12w ≠ q51w := fun e => h0q51w (e ▸ ha_q12w)
  have n_q19_q51w : q19 ≠ q51w := fun e => h0q51w (e ▸ ha_q19)
  have n_q19w_q51w : q19w ≠ q51w := fun e => h0q51w (e ▸ ha_q19w)
  have n_q26_q51w : q26 ≠ q51w := fun e => h0q51w (e ▸ ha_q26)
  have n_q26w_q51w : q26w ≠ q51w := fun e => h0q51w (e ▸ ha_q26w)
  have n_q33_q51w : q33 ≠ q51w := fun e => h0q51w (e ▸ ha_q33)
  have n_q37_q51w : q37 ≠ q51w := fun e => h0q51w (e ▸ ha_q37)
  have n_q37w_q51w : q37w ≠ q51w := fun e => h0q51w (e ▸ ha_q37w)
  have n_q44_q51w : q44 ≠ q51w := fun e => h0q51w (e ▸ ha_q44)
  have n_q44w_q51w : q44w ≠ q51w := fun e => h0q51w (e ▸ ha_q44w)
  have n_q51_q51w : q51 ≠ q51w := fun e => h0q51w (e ▸ ha_q51)
  have nL_q51w : q51w ∉ L := fun z => h0q51w (hLs _ z)
  have hF_h : F54 h = .inr (5, [.ref q1, .ref q33, .null, .null, .int (iI 0), .int (iI 0), .int (iI 0), .int (iI 0)]) := (hfrq51w h ha_h n_h_q51).trans hF_h
  have ha_h : h ∈ L54 := by rw [eLq51w]; exact List.mem_append_left _ ha_h
  have hF_q1 : F54 q1 = arrQ (y 1) 4 (iu (iu (iu (iu (fun _ => none) 0 (some q5)) 1 (some q12)) 2 (some q19)) 3 (some q26)) := (hfrq51w q1 ha_q1 n_q1_q51).trans hF_q1
  have ha_q1 : q1 ∈ L54 := by rw [eLq51w]; exact List.mem_append_left _ ha_q1
  have hF_q5 : F54 q5 = rowE 0 q5w 0 0 := (hfrq51w q5 ha_q5 n_q5_q51).trans hF_q5
  have ha_q5 : q5 ∈ L54 := by rw [eLq51w]; exact List.mem_append_left _ ha_q5
  have hF_q5w : F54 q5w = arrI (y 0) 100 emp := (hfrq51w q5w ha_q5w n_q5w_q51).trans hF_q5w
  have ha_q5w : q5w ∈ L54 := by rw [eLq51w]; exact List.mem_append_left _ ha_q5w
  have hF_q12 : F54 q12 = rowE 0 q12w 0 0 := (hfrq51w q12 ha_q12 n_q12_q51).trans hF_q12
  have ha_q12 : q12 ∈ L54 := by rw [eLq51w]; exact List.mem_append_left _ ha_q12
  have hF_q12w : F54 q12w = arrI (y 0) 100 emp := (hfrq51w q12w ha_q12w n_q12w_q51).trans hF_q12w
  have ha_q12w : q12w ∈ L54 := by rw [eLq51w]; exact List.mem_append_left _ ha_q12w
  have hF_q19 : F54 q19 = rowE 0 q19w 0 0 := (hfrq51w q19 ha_q19 n_q19_q51).trans hF_q19
  have ha_q19 : q19 ∈ L54 := by rw [eLq51w]; exact List.mem_append_left _ ha_q19
  have hF_q19w : F54 q19w = arrI (y 0) 100 emp := (hfrq51w q19w ha_q19w n_q19w_q51).trans hF_q19w
  have ha_q19w : q19w ∈ L54 := by rw [eLq51w]; exact List.mem_append_left _ ha_q19w
  have hF_q26 : F54 q26 = rowE 0 q26w 0 0 := (hfrq51w q26 ha_q26 n_q26_q51).trans hF_q26
  have ha_q26 : q26 ∈ L54 := by rw [eLq51w]; exact List.mem_append_left _ ha_q26
  have hF_q26w : F54 q26w = arrI (y 0) 100 emp := (hfrq51w q26w ha_q26w n_q26w_q51).trans hF_q26w
  have ha_q26w : q26w ∈ L54 := by rw [eLq51w]; exact List.mem_append_left _ ha_q26w
  have hF_q33 : F54 q33 = arrQ (y 1) 3 (iu (iu (fun _ => none) 0 (some q37)) 1 (some q44)) := (hfrq51w q33 ha_q33 n_q33_q51).trans hF_q33
  have ha_q33 : q33 ∈ L54 := by rw [eLq51w]; exact List.mem_append_left _ ha_q33
  have hF_q37 : F54 q37 = rowE 0 q37w 0 0 := (hfrq51w q37 ha_q37 n_q37_q51).trans hF_q37
  have ha_q37 : q37 ∈ L54 := by rw [eLq51w]; exact List.mem_append_left _ ha_q37
  have hF_q37w : F54 q37w = arrI (y 0) 100 emp := (hfrq51w q37w ha_q37w n_q37w_q51).trans hF_q37w
  have ha_q37w : q37w ∈ L54 := by rw [eLq51w]; exact List.mem_append_left _ ha_q37w
  have hF_q44 : F54 q44 = rowE 0 q44w 0 0 := (hfrq51w q44 ha_q44 n_q44_q51).trans hF_q44
  have ha_q44 : q44 ∈ L54 := by rw [eLq51w]; exact List.mem_append_left _ ha_q44
  have hF_q44w : F54 q44w = arrI (y 0) 100 emp := (hfrq51w q44w ha_q44w n_q44w_q51).trans hF_q44w
  have ha_q44w : q44w ∈ L54 := by rw [eLq51w]; exact List.mem_append_left _ ha_q44w
  have ha_q51 : q51 ∈ L54 := by rw [eLq51w]; exact List.mem_append_left _ ha_q51
  have hfr : ∀ a ∈ L, a ≠ h → F54 a = F a := fun a h1 h2 => (hfrq51w a (hLs a h1) (fun e : a = q51 => nL_q51 (e ▸ h1))).trans (hfr a h1 h2)
  have hLs : ∀ a ∈ L, a ∈ L54 := fun a h1 => by rw [eLq51w]; exact List.mem_append_left _ (hLs a h1)
  have hF_q51 : F54 q51 = rowE 0 q51w 0 0 := hRn.2.1
  have hF_q51w : F54 q51w = arrI (y 0) 100 emp := hRn.2.2.2.1
  have ha_q51w : q51w ∈ L54 := hRn.2.2.1
  refine q_aast C0 hP hD hS ha_q33 hF_q33 (t := 1) (r := (RX0, TX0, 4)) rfl ha_q51 hF_q51 rfl (by omega) (by decide) dX3_init_67 (fun H locs hP hD hS => ?_)
  obtain ⟨F56x, eF56⟩ : ∃ z, z = va_up F54 q33 (arrQ (y 1) 3 (iu (iu (iu (fun _ => none) 0 (some q37)) 1 (some q44)) 2 (some q51))) := ⟨_, rfl⟩
  have hP : va_P D vwCl (va_pl L54 F56x) H := by rw [eF56]; exact hP
  have hD : va_D (AL L sz) (va_pl L54 F56x) := by rw [eF56]; exact hD
  have hF_h : F56x h = .inr (5, [.ref q1, .ref q33, .null, .null, .int (iI 0), .int (iI 0), .int (iI 0), .int (iI 0)]) := by rw [eF56]; exact (va_up_ne _ _ n_h_q33).trans hF_h
  have hF_q1 : F56x q1 = arrQ (y 1) 4 (iu (iu (iu (iu (fun _ => none) 0 (some q5)) 1 (some q12)) 2 (some q19)) 3 (some q26)) := by rw [eF56]; exact (va_up_ne _ _ n_q1_q33).trans hF_q1
  have hF_q5 : F56x q5 = rowE 0 q5w 0 0 := by rw [eF56]; exact (va_up_ne _ _ n_q5_q33).trans hF_q5
  have hF_q5w : F56x q5w = arrI (y 0) 100 emp := by rw [eF56]; exact (va_up_ne _ _ n_q5w_q33).trans hF_q5w
  have hF_q12 : F56x q12 = rowE 0 q12w 0 0 := by rw [eF56]; exact (va_up_ne _ _ n_q12_q33).trans hF_q12
  have hF_q12w : F56x q12w = arrI (y 0) 100 emp := by rw [eF56]; exact (va_up_ne _ _ n_q12w_q33).trans hF_q12w
  have hF_q19 : F56x q19 = rowE 0 q19w 0 0 := by rw [eF56]; exact (va_up_ne _ _ n_q19_q33).trans hF_q19
  have hF_q19w : F56x q19w = arrI (y 0) 100 emp := by rw [eF56]; exact (va_up_ne _ _ n_q19w_q33).trans hF_q19w
  have hF_q26 : F56x q26 = rowE 0 q26w 0 0 := by rw [eF56]; exact (va_up_ne _ _ n_q26_q33).trans hF_q26
  have hF_q26w : F56x q26w = arrI (y 0) 100 emp := by rw [eF56]; exact (va_up_ne _ _ n_q26w_q33).trans hF_q26w
  have hF_q37 : F56x q37 = rowE 0 q37w 0 0 := by rw [eF56]; exact (va_up_ne _ _ n_q33_q37.symm).trans hF_q37
  have hF_q37w : F56x q37w = arrI (y 0) 100 emp := by rw [eF56]; exact (va_up_ne _ _ n_q33_q37w.symm).trans hF_q37w
  have hF_q44 : F56x q44 = rowE 0 q44w 0 0 := by rw [eF56]; exact (va_up_ne _ _ n_q33_q44.symm).trans hF_q44
  have hF_q44w : F56x q44w = arrI (y 0) 100 emp := by rw [eF56]; exact (va_up_ne _ _ n_q33_q44w.symm).trans hF_q44w
  have hF_q51 : F56x q51 = rowE 0 q51w 0 0 := by rw [eF56]; exact (va_up_ne _ _ n_q33_q51.symm).trans hF_q51
  have hF_q51w : F56x q51w = arrI (y 0) 100 emp := by rw [eF56]; exact (va_up_ne _ _ n_q33_q51w.symm).trans hF_q51w
  have hF_q33 : F56x q33 = arrQ (y 1) 3 (iu (iu (iu (fun _ => none) 0 (some q37)) 1 (some q44)) 2 (some q51)) := by rw [eF56]; exact va_up_self _ _ _
  have hfr : ∀ a ∈ L, a ≠ h → F56x a = F a := fun a h1 h2 => by rw [eF56]; exact (va_up_ne _ _ (fun e : a = q33 => nL_q33 (e ▸ h1))).trans (hfr a h1 h2)
  refine q_iinc (x := 2) (n := 1) (lv' := [(1, .int (iI 3)), (0, .ref h)]) hx hb dX3_init_68 hl (k := 0) rfl (by decide) rfl (fun ls hl => ?_)
  refine lv_goto (tgt := 49) hx hb dX3_init_71 (by decide) ?_
  refine lv_iload_n hx hb dX3_init_49 rfl (lv_at hl 0 rfl) ?_
  refine q_iconst hx hb dX3_init_50 ?_
  refine q_icmp_ge hx hb dX3_init_51 (tgt := 74) (by decide) (by omega) (by omega) (fun c57 => ?_) (fun c57 => absurd c57 (by omega))
  refine lv_aload_n hx hb dX3_init_74 rfl (lv_at hl 1 rfl) ?_
  refine q_iconst hx hb dX3_init_75 ?_
  refine q_newq C0 (t := 2) klX3_21 C0.2.2.2.1 rfl hP hD hS hA (N := 2) rfl (Nat.le_of_ble_eq_true rfl) (Nat.le_of_ble_eq_true rfl) (Nat.le_of_ble_eq_true rfl) dX3_init_76 (fun q58 H h0q58 hP hD hS => ?_)
  refine W.widen (k := 17) (n := 737) (Nat.le_of_ble_eq_true rfl) (Nat.le_of_ble_eq_true rfl) ?_
  have n_h_q58 : h ≠ q58 := fun e => h0q58 (e ▸ ha_h)
  have n_q1_q58 : q1 ≠ q58 := fun e => h0q58 (e ▸ ha_q1)
  have n_q5_q58 : q5 ≠ q58 := fun e => h0q58 (e ▸ ha_q5)
  have n_q5w_q58 : q5w ≠ q58 := fun e => h0q58 (e ▸ ha_q5w)
  have n_q12_q58 : q12 ≠ q58 := fun e => h0q58 (e ▸ ha_q12)
  have n_q12w_q58 : q12w ≠ q58 := fun e => h0q58 (e ▸ ha_q12w)
  have n_q19_q58 : q19 ≠ q58 := fun e => h0q58 (e ▸ ha_q19)
  have n_q19w_q58 : q19w ≠ q58 := fun e => h0q58 (e ▸ ha_q19w)
  have n_q26_q58 : q26 ≠ q58 := fun e => h0q58 (e ▸ ha_q26)
  have n_q26w_q58 : q26w ≠ q58 := fun e => h0q58 (e ▸ ha_q26w)
  have n_q33_q58 : q33 ≠ q58 := fun e => h0q58 (e ▸ ha_q33)
  have n_q37_q58 : q37 ≠ q58 := fun e => h0q58 (e ▸ ha_q37)
  have n_q37w_q58 : q37w ≠ q58 := fun e => h0q58 (e ▸ ha_q37w)
  have n_q44_q58 : q44 ≠ q58 := fun e => h0q58 (e ▸ ha_q44)
  have n_q44w_q58 : q44w ≠ q58 := fun e => h0q58 (e ▸ ha_q44w)
  have n_q51_q58 : q51 ≠ q58 := fun e => h0q58 (e ▸ ha_q51)
  have n_q51w_q58 : q51w ≠ q58 := fun e => h0q58 (e ▸ ha_q51w)
  have nL_q58 : q58 ∉ L := fun z => h0q58 (hLs _ z)
  obtain ⟨L59x, eLL59x⟩ : ∃ z, z = L54 ++ [q58] := ⟨_, rfl⟩
  obtain ⟨F59x, eFL59x⟩ : ∃ z, z = va_up F56x q58 (arrQ (y 2) 2 (fun _ => none)) := ⟨_, rfl⟩
  have hP : va_P D vwCl (va_pl L59x F59x) H := by rw [eLL59x, eFL59x]; exact hP
  have hD : va_D (AL L sz) (va_pl L59x F59x) := by rw [eLL59x, eFL59x]; exact hD
  have hF_h : F59x h = .inr (5, [.ref q1, .ref q33, .null, .null, .int (iI 0), .int (iI 0), .int (iI 0), .int (iI 0)]) := by rw [eFL59x]; exact (va_up_ne _ _ n_h_q58).trans hF_h
  have ha_h : h ∈ L59x := by rw [eLL59x]; exact List.mem_append_left _ ha_h
  have hF_q1 : F59x q1 = arrQ (y 1) 4 (iu (iu (iu (iu (fun _ => none) 0 (some q5)) 1 (some q12)) 2 (some q19)) 3 (some q26)) := by rw [eFL59x]; exact (va_up_ne _ _ n_q1_q58).trans hF_q1
  have ha_q1 : q1 ∈ L59x := by rw [eLL59x]; exact List.mem_append_left _ ha_q1
  have hF_q5 : F59x q5 = rowE 0 q5w 0 0 := by rw [eFL59x]; exact (va_up_ne _ _ n_q5_q58).trans hF_q5
  have ha_q5 : q5 ∈ L59x := by rw [eLL59x]; exact List.mem_append_left _ ha_q5
  have hF_q5w : F59x q5w = arrI (y 0) 100 emp := by rw [eFL59x]; exact (va_up_ne _ _ n_q5w_q58).trans hF_q5w
  have ha_q5w : q5w ∈ L59x := by rw [eLL59x]; exact List.mem_append_left _ ha_q5w
  have hF_q12 : F59x q12 = rowE 0 q12w 0 0 := by rw [eFL59x]; exact (va_up_ne _ _ n_q12_q58).trans hF_q12
  have ha_q12 : q12 ∈ L59x := by rw [eLL59x]; exact List.mem_append_left _ ha_q12
  have hF_q12w : F59x q12w = arrI (y 0) 100 emp := by rw [eFL59x]; exact (va_up_ne _ _ n_q12w_q58).trans hF_q12w
  have ha_q12w : q12w ∈ L59x := by rw [eLL59x]; exact List.mem_append_left _ ha_q12w
  have hF_q19 : F59x q19 = rowE 0 q19w 0 0 := by rw [eFL59x]; exact (va_up_ne _ _ n_q19_q58).trans hF_q19
  have ha_q19 : q19 ∈ L59x := by rw [eLL59x]; exact List.mem_append_left _ ha_q19
  have hF_q19w : F59x q19w = arrI (y 0) 100 emp := by rw [eFL59x]; exact (va_up_ne _ _ n_q19w_q58).trans hF_q19w
  have ha_q19w : q19w ∈ L59x := by rw [eLL59x]; exact List.mem_append_left _ ha_q19w
  have hF_q26 : F59x q26 = rowE 0 q26w 0 0 := by rw [eFL59x]; exact (va_up_ne _ _ n_q26_q58).trans hF_q26
  have ha_q26 : q26 ∈ L59x := by rw [eLL59x]; exact List.mem_append_left _ ha_q26
  have hF_q26w : F59x q26w = arrI (y 0) 100 emp := by rw [eFL59x]; exact (va_up_ne _ _ n_q26w_q58).trans hF_q26w
  have ha_q26w : q26w ∈ L59x := by rw [eLL59x]; exact List.mem_append_left _ ha_q26w
  have hF_q33 : F59x q33 = arrQ (y 1) 3 (iu (iu (iu (fun _ => none) 0 (some q37)) 1 (some q44)) 2 (some q51)) := by rw [eFL59x]; exact (va_up_ne _ _ n_q33_q58).trans hF_q33
  have ha_q33 : q33 ∈ L59x := by rw [eLL59x]; exact List.mem_append_left _ ha_q33
  have hF_q37 : F59x q37 = rowE 0 q37w 0 0 := by rw [eFL59x]; exact (va_up_ne _ _ n_q37_q58).trans hF_q37
  have ha_q37 : q37 ∈ L59x := by rw [eLL59x]; exact List.mem_append_left _ ha_q37
  have hF_q37w : F59x q37w = arrI (y 0) 100 emp := by rw [eFL59x]; exact (va_up_ne _ _ n_q37w_q58).trans hF_q37w
  have ha_q37w : q37w ∈ L59x := by rw [eLL59x]; exact List.mem_append_left _ ha_q37w
  have hF_q44 : F59x q44 = rowE 0 q44w 0 0 := by rw [eFL59x]; exact (va_up_ne _ _ n_q44_q58).trans hF_q44
  have ha_q44 : q44 ∈ L59x := by rw [eLL59x]; exact List.mem_append_left _ ha_q44
  have hF_q44w : F59x q44w = arrI (y 0) 100 emp := by rw [eFL59x]; exact (va_up_ne _ _ n_q44w_q58).trans hF_q44w
  have ha_q44w : q44w ∈ L59x := by rw [eLL59x]; exact List.mem_append_left _ ha_q44w
  have hF_q51 : F59x q51 = rowE 0 q51w 0 0 := by rw [eFL59x]; exact (va_up_ne _ _ n_q51_q58).trans hF_q51
  have ha_q51 : q51 ∈ L59x := by rw [eLL59x]; exact List.mem_append_left _ ha_q51
  have hF_q51w : F59x q51w = arrI (y 0) 100 emp := by rw [eFL59x]; exact (va_up_ne _ _ n_q51w_q58).trans hF_q51w
  have ha_q51w : q51w ∈ L59x := by rw [eLL59x]; exact List.mem_append_left _ ha_q51w
  have hfr : ∀ a ∈ L, a ≠ h → F59x a = F a := fun a h1 h2 => by rw [eFL59x]; exact (va_up_ne _ _ (fun e : a = q58 => nL_q58 (e ▸ h1))).trans (hfr a h1 h2)
  have hLs : ∀ a ∈ L, a ∈ L59x := fun a h1 => by rw [eLL59x]; exact List.mem_append_left _ (hLs a h1)
  have hF_q58 : F59x q58 = arrQ (y 2) 2 (fun _ => none) := by rw [eFL59x]; exact va_up_self _ _ _
  have ha_q58 : q58 ∈ L59x := by rw [eLL59x]; exact List.mem_append_right _ List.mem_cons_self
  refine q_putF C0 iX3 tyX3 tyX3_ok nmX3 hP hD hS ha_h hF_h rfl 2 (by decide) flX3_23 rfl rfl hnm rfl rfl rfl (Nat.le_of_ble_eq_true rfl) dX3_init_79 (fun H locs hP hD hS => ?_)
  obtain ⟨F60x, eF60⟩ : ∃ z, z = va_up F59x h (.inr (5, [.ref q1, .ref q33, .ref q58, .null, .int (iI 0), .int (iI 0), .int (iI 0), .int (iI 0)])) := ⟨_, rfl⟩
  have hP : va_P D vwCl (va_pl L59x F60x) H := by rw [eF60]; exact hP
  have hD : va_D (AL L sz) (va_pl L59x F60x) := by rw [eF60]; exact hD
  have hF_q1 : F60x q1 = arrQ (y 1) 4 (iu (iu (iu (iu (fun _ => none) 0 (some q5)) 1 (some q12)) 2 (some q19)) 3 (some q26)) := by rw [eF60]; exact (va_up_ne _ _ n_h_q1.symm).trans hF_q1
  have hF_q5 : F60x q5 = rowE 0 q5w 0 0 := by rw [eF60]; exact (va_up_ne _ _ n_h_q5.symm).trans hF_q5
  have hF_q5w : F60x q5w = arrI (y 0) 100 emp := by rw [eF60]; exact (va_up_ne _ _ n_h_q5w.symm).trans hF_q5w
  have hF_q12 : F60x q12 = rowE 0 q12w 0 0 := by rw [eF60]; exact (va_up_ne _ _ n_h_q12.symm).trans hF_q12
  have hF_q12w : F60x q12w = arrI (y 0) 100 emp := by rw [eF60]; exact (va_up_ne _ _ n_h_q12w.symm).trans hF_q12w
  have hF_q19 : F60x q19 = rowE 0 q19w 0 0 := by rw [eF60]; exact (va_up_ne _ _ n_h_q19.symm).trans hF_q19
  have hF_q19w : F60x q19w = arrI (y 0) 100 emp := by rw [eF60]; exact (va_up_ne _ _ n_h_q19w.symm).trans hF_q19w
  have hF_q26 : F60x q26 = rowE 0 q26w 0 0 := by rw [eF60]; exact (va_up_ne _ _ n_h_q26.symm).trans hF_q26
  have hF_q26w : F60x q26w = arrI (y 0) 100 emp := by rw [eF60]; exact (va_up_ne _ _ n_h_q26w.symm).trans hF_q26w
  have hF_q33 : F60x q33 = arrQ (y 1) 3 (iu (iu (iu (fun _ => none) 0 (some q37)) 1 (some q44)) 2 (some q51)) := by rw [eF60]; exact (va_up_ne _ _ n_h_q33.symm).trans hF_q33
  have hF_q37 : F60x q37 = rowE 0 q37w 0 0 := by rw [eF60]; exact (va_up_ne _ _ n_h_q37.symm).trans hF_q37
  have hF_q37w : F60x q37w = arrI (y 0) 100 emp := by rw [eF60]; exact (va_up_ne _ _ n_h_q37w.symm).trans hF_q37w
  have hF_q44 : F60x q44 = rowE 0 q44w 0 0 := by rw [eF60]; exact (va_up_ne _ _ n_h_q44.symm).trans hF_q44
  have hF_q44w : F60x q44w = arrI (y 0) 100 emp := by rw [eF60]; exact (va_up_ne _ _ n_h_q44w.symm).trans hF_q44w
  have hF_q51 : F60x q51 = rowE 0 q51w 0 0 := by rw [eF60]; exact (va_up_ne _ _ n_h_q51.symm).trans hF_q51
  have hF_q51w : F60x q51w = arrI (y 0) 100 emp := by rw [eF60]; exact (va_up_ne _ _ n_h_q51w.symm).trans hF_q51w
  have hF_q58 : F60x q58 = arrQ (y 2) 2 (fun _ => none) := by rw [eF60]; exact (va_up_ne _ _ n_h_q58.symm).trans hF_q58
  have hF_h : F60x h = .inr (5, [.ref q1, .ref q33, .ref q58, .null, .int (iI 0), .int (iI 0), .int (iI 0), .int (iI 0)]) := by rw [eF60]; exact va_up_self _ _ _
  have hfr : ∀ a ∈ L, a ≠ h → F60x a = F a := fun a h1 h2 => by rw [eF60]; exact (va_up_ne _ _ h2).trans (hfr a h1 h2)
  refine q_iconst hx hb dX3_init_82 ?_
  refine lv_istore_n (lv' := [(1, .int (iI 0)), (0, .ref h)]) hx hb dX3_init_83 rfl hl (by decide) rfl (fun ls hl => ?_)
  refine lv_iload_n hx hb dX3_init_84 rfl (lv_at hl 0 rfl) ?_
  refine q_iconst hx hb dX3_init_85 ?_
  refine q_icmp_ge hx hb dX3_init_86 (tgt := 114) (by decide) (by omega) (by omega) (fun c61 => absurd c61 (by omega)) (fun c61 => ?_)
  refine lv_aload_n hx hb dX3_init_89 rfl (lv_at hl 1 rfl) ?_
  refine q_get C0 iX3 hP ha_h hF_h rfl 2 (by decide) flX3_23 rfl rfl dX3_init_90 ?_
  refine lv_iload_n hx hb dX3_init_93 rfl (lv_at hl 0 rfl) ?_
  refine q_new C0 iX1 tyX1 tyX1_ok klX3_21 insX1 iniX1 hP hD hS hA (ci := 3) rfl (fs := [.null, .int (iI 0), .int (iI 0)]) (fun j hj => by rcases (show j = 0 ∨ j = 1 ∨ j = 2 by omega) with rfl | rfl | rfl <;> rfl) (Nat.le_of_ble_eq_true rfl) (Nat.le_of_ble_eq_true rfl) dX3_init_94 (fun q62 H h0q62 hP hD hS => ?_)
  refine W.widen (k := 18) (n := 740) (Nat.le_of_ble_eq_true rfl) (Nat.le_of_ble_eq_true rfl) ?_
  have n_h_q62 : h ≠ q62 := fun e => h0q62 (e ▸ ha_h)
  have n_q1_q62 : q1 ≠ q62 := fun e => h0q62 (e ▸ ha_q1)
  have n_q5_q62 : q5 ≠ q62 := fun e => h0q62 (e ▸ ha_q5)
  have n_q5w_q62 : q5w ≠ q62 := fun e => h0q62 (e ▸ ha_q5w)
  have n_q12_q62 : q12 ≠ q62 := fun e => h0q62 (e ▸ ha_q12)
  have n_q12w_q62 : q12w ≠ q62 := fun e => h0q62 (e ▸ ha_q12w)
  have n_q19_q62 : q19 ≠ q62 := fun e => h0q62 (e ▸ ha_q19)
  have n_q19w_q62 : q19w ≠ q62 := fun e => h0q62 (e ▸ ha_q19w)
  have n_q26_q62 : q26 ≠ q62 := fun e => h0q62 (e ▸ ha_q26)
  have n_q26w_q62 : q26w ≠ q62 := fun e => h0q62 (e ▸ ha_q26w)
  have n_q33_q62 : q33 ≠ q62 := fun e => h0q62 (e ▸ ha_q33)
  have n_q37_q62 : q37 ≠ q62 := fun e => h0q62 (e ▸ ha_q37)
  have n_q37w_q62 : q37w ≠ q62 := fun e => h0q62 (e ▸ ha_q37w)
  have n_q44_q62 : q44 ≠ q62 := fun e => h0q62 (e ▸ ha_q44)
  have n_q44w_q62 : q44w ≠ q62 := fun e => h0q62 (e ▸ ha_q44w)
  have n_q51_q62 : q51 ≠ q62 := fun e => h0q62 (e ▸ ha_q51)
  have n_q51w_q62 : q51w ≠ q62 := fun e => h0q62 (e ▸ ha_q51w)
  have n_q58_q62 : q58 ≠ q62 := fun e => h0q62 (e ▸ ha_q58)
  have nL_q62 : q62 ∉ L := fun z => h0q62 (hLs _ z)
  obtain ⟨L63x, eLL63x⟩ : ∃ z, z = L59x ++ [q62] := ⟨_, rfl⟩
  obtain ⟨F63x, eFL63x⟩ : ∃ z, z = va_up F60x q62 (.inr (3, [.null, .int (iI 0), .int (iI 0)])) := ⟨_, rfl⟩
  have hP : va_P D vwCl (va_pl L63x F63x) H := by rw [eLL63x, eFL63x]; exact hP
  have hD : va_D (AL L sz) (va_pl L63x F63x) := by rw [eLL63x, eFL63x]; exact hD
  have hF_h : F63x h = .inr (5, [.ref q1, .ref q33, .ref q58, .null, .int (iI 0), .int (iI 0), .int (iI 0), .int (iI 0)]) := by rw [eFL63x]; exact (va_up_ne _ _ n_h_q62).trans hF_h
  have ha_h : h ∈ L63x := by rw [eLL63x]; exact List.mem_append_left _ ha_h
  have hF_q1 : F63x q1 = arrQ (y 1) 4 (iu (iu (iu (iu (fun _ => none) 0 (some q5)) 1 (some q12)) 2 (some q19)) 3 (some q26)) := by rw [eFL63x]; exact (va_up_ne _ _ n_q1_q62).trans hF_q1
  have ha_q1 : q1 ∈ L63x := by rw [eLL63x]; exact List.mem_append_left _ ha_q1
  have hF_q5 : F63x q5 = rowE 0 q5w 0 0 := by rw [eFL63x]; exact (va_up_ne _ _ n_q5_q62).trans hF_q5
  have ha_q5 : q5 ∈ L63x := by rw [eLL63x]; exact List.mem_append_left _ ha_q5
  have hF_q5w : F63x q5w = arrI (y 0) 100 emp := by rw [eFL63x]; exact (va_up_ne _ _ n_q5w_q62).trans hF_q5w
  have ha_q5w : q5w ∈ L63x := by rw [eLL63x]; exact List.mem_append_left _ ha_q5w
  have hF_q12 : F63x q12 = rowE 0 q12w 0 0 := by rw [eFL63x]; exact (va_up_ne _ _ n_q12_q62).trans hF_q12
  have ha_q12 : q12 ∈ L63x := by rw [eLL63x]; exact List.mem_append_left _ ha_q12
  have hF_q12w : F63x q12w = arrI (y 0) 100 emp := by rw [eFL63x]; exact (va_up_ne _ _ n_q12w_q62).trans hF_q12w
  have ha_q12w : q12w ∈ L63x := by rw [eLL63x]; exact List.mem_append_left _ ha_q12w
  have hF_q19 : F63x q19 = rowE 0 q19w 0 0 := by rw [eFL63x]; exact (va_up_ne _ _ n_q19_q62).trans hF_q19
  have ha_q19 : q19 ∈ L63x := by rw [eLL63x]; exact List.mem_append_left _ ha_q19
  have hF_q19w : F63x q19w = arrI (y 0) 100 emp := by rw [eFL63x]; exact (va_up_ne _ _ n_q19w_q62).trans hF_q19w
  have ha_q19w : q19w ∈ L63x := by rw [eLL63x]; exact List.mem_append_left _ ha_q19w
  have hF_q26 : F63x q26 = rowE 0 q26w 0 0 := by rw [eFL63x]; exact (va_up_ne _ _ n_q26_q62).trans hF_q26
  have ha_q26 : q26 ∈ L63x := by rw [eLL63x]; exact List.mem_append_left _ ha_q26
  have hF_q26w : F63x q26w = arrI (y 0) 100 emp := by rw [eFL63x]; exact (va_up_ne _ _ n_q26w_q62).trans hF_q26w
  have ha_q26w : q26w ∈ L63x := by rw [eLL63x]; exact List.mem_append_left _ ha_q26w
  have hF_q33 : F63x q33 = arrQ (y 1) 3 (iu (iu (iu (fun _ => none) 0 (some q37)) 1 (some q44)) 2 (some q51)) := by rw [eFL63x]; exact (va_up_ne _ _ n_q33_q62).trans hF_q33
  have ha_q33 : q33 ∈ L63x := by rw [eLL63x]; exact List.mem_append_left _ ha_q33
  have hF_q37 : F63x q37 = rowE 0 q37w 0 0 := by rw [eFL63x]; exact (va_up_ne _ _ n_q37_q62).trans hF_q37
  have ha_q37 : q37 ∈ L63x := by rw [eLL63x]; exact List.mem_append_left _ ha_q37
  have hF_q37w : F63x q37w = arrI (y 0) 100 emp := by rw [eFL63x]; exact (va_up_ne _ _ n_q37w_q62).trans hF_q37w
  have ha_q37w : q37w ∈ L63x := by rw [eLL63x]; exact List.mem_append_left _ ha_q37w
  have hF_q44 : F63x q44 = rowE 0 q44w 0 0 := by rw [eFL63x]; exact (va_up_ne _ _ n_q44_q62).trans hF_q44
  have ha_q44 : q44 ∈ L63x := by rw [eLL63x]; exact List.mem_append_left _ ha_q44
  have hF_q44w : F63x q44w = arrI (y 0) 100 emp := by rw [eFL63x]; exact (va_up_ne _ _ n_q44w_q62).trans hF_q44w
  have ha_q44w : q44w ∈ L63x := by rw [eLL63x]; exact List.mem_append_left _ ha_q44w
  have hF_q51 : F63x q51 = rowE 0 q51w 0 0 := by rw [eFL63x]; exact (va_up_ne _ _ n_q51_q62).trans hF_q51
  have ha_q51 : q51 ∈ L63x := by rw [eLL63x]; exact List.mem_append_left _ ha_q51
  have hF_q51w : F63x q51w = arrI (y 0) 100 emp := by rw [eFL63x]; exact (va_up_ne _ _ n_q51w_q62).trans hF_q51w
  have ha_q51w : q51w ∈ L63x := by rw [eLL63x]; exact List.mem_append_left _ ha_q51w
  have hF_q58 : F63x q58 = arrQ (y 2) 2 (fun _ => none) := by rw [eFL63x]; exact (va_up_ne _ _ n_q58_q62).trans hF_q58
  have ha_q58 : q58 ∈ L63x := by rw [eLL63x]; exact List.mem_append_left _ ha_q58
  have hfr : ∀ a ∈ L, a ≠ h → F63x a = F a := fun a h1 h2 => by rw [eFL63x]; exact (va_up_ne _ _ (fun e : a = q62 => nL_q62 (e ▸ h1))).trans (hfr a h1 h2)
  have hLs : ∀ a ∈ L, a ∈ L63x := fun a h1 => by rw [eLL63x]; exact List.mem_append_left _ (hLs a h1)
  have hF_q62 : F63x q62 = .inr (3, [.null, .int (iI 0), .int (iI 0)]) := by rw [eFL63x]; exact va_up_self _ _ _
  have ha_q62 : q62 ∈ L63x := by rw [eLL63x]; exact List.mem_append_right _ List.mem_cons_self
  refine lv_dup hx hb dX3_init_97 rfl ?_
  refine lv_aload_n hx hb dX3_init_98 rfl (lv_at hl 1 rfl) ?_
  refine q_get C0 iX3 hP ha_h hF_h rfl 0 (by decide) flX3_11 rfl rfl dX3_init_99 ?_
  refine lv_iload_n hx hb dX3_init_102 rfl (lv_at hl 0 rfl) ?_
  refine q_aald C0 hP ha_q1 hF_q1 (t := 1) rfl (by omega) (by decide) (v := .ref q5) rfl dX3_init_103 ?_
  refine q_iMv C0 lX3_27 (c_X1_init l D y L63x F63x _ q62 q5 ha_q62 hF_q62) ⟨rfl, rfl⟩ rfl hP hD hS hA rfl hl rfl (Nat.le_of_ble_eq_true rfl) dX3_init_104 ⟨Nat.le_of_ble_eq_true rfl, Nat.le_of_ble_eq_true rfl⟩ (fun _ H locs L65 F65 hP hD hS hz65 hp65 => ?_)
  obtain ⟨eL66, hF_q62, hfr66⟩ := hp65
  subst eL66
  have hF_h : F65 h = .inr (5, [.ref q1, .ref q33, .ref q58, .null, .int (iI 0), .int (iI 0), .int (iI 0), .int (iI 0)]) := (hfr66 h ha_h n_h_q62).trans hF_h
  have hF_q1 : F65 q1 = arrQ (y 1) 4 (iu (iu (iu (iu (fun _ => none) 0 (some q5)) 1 (some q12)) 2 (some q19)) 3 (some q26)) := (hfr66 q1 ha_q1 n_q1_q62).trans hF_q1
  have hF_q5 : F65 q5 = rowE 0 q5w 0 0 := (hfr66 q5 ha_q5 n_q5_q62).trans hF_q5
  have hF_q5w : F65 q5w = arrI (y 0) 100 emp := (hfr66 q5w ha_q5w n_q5w_q62).trans hF_q5w
  have hF_q12 : F65 q12 = rowE 0 q12w 0 0 := (hfr66 q12 ha_q12 n_q12_q62).trans hF_q12
  have hF_q12w : F65 q12w = arrI (y 0) 100 emp := (hfr66 q12w ha_q12w n_q12w_q62).trans hF_q12w
  have hF_q19 : F65 q19 = rowE 0 q19w 0 0 := (hfr66 q19 ha_q19 n_q19_q62).trans hF_q19
  have hF_q19w : F65 q19w = arrI (y 0) 100 emp := (hfr66 q19w ha_q19w n_q19w_q62).trans hF_q19w
  have hF_q26 : F65 q26 = rowE 0 q26w 0 0 := (hfr66 q26 ha_q26 n_q26_q62).trans hF_q26
  have hF_q26w : F65 q26w = arrI (y 0) 100 emp := (hfr66 q26w ha_q26w n_q26w_q62).trans hF_q26w
  have hF_q33 : F65 q33 = arrQ (y 1) 3 (iu (iu (iu (fun _ => none) 0 (some q37)) 1 (some q44)) 2 (some q51)) := (hfr66 q33 ha_q33 n_q33_q62).trans hF_q33
  have hF_q37 : F65 q37 = rowE 0 q37w 0 0 := (hfr66 q37 ha_q37 n_q37_q62).trans hF_q37
  have hF_q37w : F65 q37w = arrI (y 0) 100 emp := (hfr66 q37w ha_q37w n_q37w_q62).trans hF_q37w
  have hF_q44 : F65 q44 = rowE 0 q44w 0 0 := (hfr66 q44 ha_q44 n_q44_q62).trans hF_q44
  have hF_q44w : F65 q44w = arrI (y 0) 100 emp := (hfr66 q44w ha_q44w n_q44w_q62).trans hF_q44w
  have hF_q51 : F65 q51 = rowE 0 q51w 0 0 := (hfr66 q51 ha_q51 n_q51_q62).trans hF_q51
  have hF_q51w : F65 q51w = arrI (y 0) 100 emp := (hfr66 q51w ha_q51w n_q51w_q62).trans hF_q51w
  have hF_q58 : F65 q58 = arrQ (y 2) 2 (fun _ => none) := (hfr66 q58 ha_q58 n_q58_q62).trans hF_q58
  have hfr : ∀ a ∈ L, a ≠ h → F65 a = F a := fun a h1 h2 => (hfr66 a (hLs a h1) (fun e : a = q62 => nL_q62 (e ▸ h1))).trans (hfr a h1 h2)
  refine q_aast C0 hP hD hS ha_q58 hF_q58 (t := 2) (r := (RX1, TX1, 3)) rfl ha_q62 hF_q62 rfl (by omega) (by decide) dX3_init_107 (fun H locs hP hD hS => ?_)
  obtain ⟨F67x, eF67⟩ : ∃ z, z = va_up F65 q58 (arrQ (y 2) 2 (iu (fun _ => none) 0 (some q62))) := ⟨_, rfl⟩
  have hP : va_P D vwCl (va_pl L63x F67x) H := by rw [eF67]; exact hP
  have hD : va_D (AL L sz) (va_pl L63x F67x) := by rw [eF67]; exact hD
  have hF_h : F67x h = .inr (5, [.ref q1, .ref q33, .ref q58, .null, .int (iI 0), .int (iI 0), .int (iI 0), .int (iI 0)]) := by rw [eF67]; exact (va_up_ne _ _ n_h_q58).trans hF_h
  have hF_q1 : F67x q1 = arrQ (y 1) 4 (iu (iu (iu (iu (fun _ => none) 0 (some q5)) 1 (some q12)) 2 (some q19)) 3 (some q26)) := by rw [eF67]; exact (va_up_ne _ _ n_q1_q58).trans hF_q1
  have hF_q5 : F67x q5 = rowE 0 q5w 0 0 := by rw [eF67]; exact (va_up_ne _ _ n_q5_q58).trans hF_q5
  have hF_q5w : F67x q5w = arrI (y 0) 100 emp := by rw [eF67]; exact (va_up_ne _ _ n_q5w_q58).trans hF_q5w
  have hF_q12 : F67x q12 = rowE 0 q12w 0 0 := by rw [eF67]; exact (va_up_ne _ _ n_q12_q58).trans hF_q12
  have hF_q12w : F67x q12w = arrI (y 0) 100 emp := by rw [eF67]; exact (va_up_ne _ _ n_q12w_q58).trans hF_q12w
  have hF_q19 : F67x q19 = rowE 0 q19w 0 0 := by rw [eF67]; exact (va_up_ne _ _ n_q19_q58).trans hF_q19
  have hF_q19w : F67x q19w = arrI (y 0) 100 emp := by rw [eF67]; exact (va_up_ne _ _ n_q19w_q58).trans hF_q19w
  have hF_q26 : F67x q26 = rowE 0 q26w 0 0 := by rw [eF67]; exact (va_up_ne _ _ n_q26_q58).trans hF_q26
  have hF_q26w : F67x q26w = arrI (y 0) 100 emp := by rw [eF67]; exact (va_up_ne _ _ n_q26w_q58).trans hF_q26w
  have hF_q33 : F67x q33 = arrQ (y 1) 3 (iu (iu (iu (fun _ => none) 0 (some q37)) 1 (some q44)) 2 (some q51)) := by rw [eF67]; exact (va_up_ne _ _ n_q33_q58).trans hF_q33
  have hF_q37 : F67x q37 = rowE 0 q37w 0 0 := by rw [eF67]; exact (va_up_ne _ _ n_q37_q58).trans hF_q37
  have hF_q37w : F67x q37w = arrI (y 0) 100 emp := by rw [eF67]; exact (va_up_ne _ _ n_q37w_q58).trans hF_q37w
  have hF_q44 : F67x q44 = rowE 0 q44w 0 0 := by rw [eF67]; exact (va_up_ne _ _ n_q44_q58).trans hF_q44
  have hF_q44w : F67x q44w = arrI (y 0) 100 emp := by rw [eF67]; exact (va_up_ne _ _ n_q44w_q58).trans hF_q44w
  have hF_q51 : F67x q51 = rowE 0 q51w 0 0 := by rw [eF67]; exact (va_up_ne _ _ n_q51_q58).trans hF_q51
  have hF_q51w : F67x q51w = arrI (y 0) 100 emp := by rw [eF67]; exact (va_up_ne _ _ n_q51w_q58).trans hF_q51w
  have hF_q62 : F67x q62 = vwE q5 0 99 := by rw [eF67]; exact (va_up_ne _ _ n_q58_q62.symm).trans hF_q62
  have hF_q58 : F67x q58 = arrQ (y 2) 2 (iu (fun _ => none) 0 (some q62)) := by rw [eF67]; exact va_up_self _ _ _
  have hfr : ∀ a ∈ L, a ≠ h → F67x a = F a := fun a h1 h2 => by rw [eF67]; exact (va_up_ne _ _ (fun e : a = q58 => nL_q58 (e ▸ h1))).trans (hfr a h1 h2)
  refine q_iinc (x := 0) (n := 1) (lv' := [(1, .int (iI 1)), (0, .ref h)]) hx hb dX3_init_108 hl (k := 0) rfl (by decide) rfl (fun ls hl => ?_)
  refine lv_goto (tgt := 84) hx hb dX3_init_111 (by decide) ?_
  refine lv_iload_n hx hb dX3_init_84 rfl (lv_at hl 0 rfl) ?_
  refine q_iconst hx hb dX3_init_85 ?_
  refine q_icmp_ge hx hb dX3_init_86 (tgt := 114) (by decide) (by omega) (by omega) (fun c68 => absurd c68 (by omega)) (fun c68 => ?_)
  refine lv_aload_n hx hb dX3_init_89 rfl (lv_at hl 1 rfl) ?_
  refine q_get C0 iX3 hP ha_h hF_h rfl 2 (by decide) flX3_23 rfl rfl dX3_init_90 ?_
  refine lv_iload_n hx hb dX3_init_93 rfl (lv_at hl 0 rfl) ?_
  refine q_new C0 iX1 tyX1 tyX1_ok klX3_21 insX1 iniX1 hP hD hS hA (ci := 3) rfl (fs := [.null, .int (iI 0), .int (iI 0)]) (fun j hj => by rcases (show j = 0 ∨ j = 1 ∨ j = 2 by omega) with rfl | rfl | rfl <;> rfl) (Nat.le_of_ble_eq_true rfl) (Nat.le_of_ble_eq_true rfl) dX3_init_94 (fun q69 H h0q69 hP hD hS => ?_)
  refine W.widen (k := 19) (n := 743) (Nat.le_of_ble_eq_true rfl) (Nat.le_of_ble_eq_true rfl) ?_
  have n_h_q69 : h ≠ q69 := fun e => h0q69 (e ▸ ha_h)
  have n_q1_q69 : q1 ≠ q69 := fun e => h0q69 (e ▸ ha_q1)
  have n_q5_q69 : q5 ≠ q69 := fun e => h0q69 (e ▸ ha_q5)
  have n_q5w_q69 : q5w ≠ q69 := fun e => h0q69 (e ▸ ha_q5w)
  have n_q12_q69 : q12 ≠ q69 := fun e => h0q69 (e ▸ ha_q12)
  have n_q12w_q69 : q12w ≠ q69 := fun e => h0q69 (e ▸ ha_q12w)
  have n_q19_q69 : q19 ≠ q69 := fun e => h0q69 (e ▸ ha_q19)
  have n_q19w_q69 : q19w ≠ q69 := fun e => h0q69 (e ▸ ha_q19w)
  have n_q26_q69 : q26 ≠ q69 := fun e => h0q69 (e ▸ ha_q26)
  have n_q26w_q69 : q26w ≠ q69 := fun e => h0q69 (e ▸ ha_q26w)
  have n_q33_q69 : q33 ≠ q69 := fun e => h0q69 (e ▸ ha_q33)
  have n_q37_q69 : q37 ≠ q69 := fun e => h0q69 (e ▸ ha_q37)
  have n_q37w_q69 : q37w ≠ q69 := fun e => h0q69 (e ▸ ha_q37w)
  have n_q44_q69 : q44 ≠ q69 := fun e => h0q69 (e ▸ ha_q44)
  have n_q44w_q69 : q44w ≠ q69 := fun e => h0q69 (e ▸ ha_q44w)
  have n_q51_q69 : q51 ≠ q69 := fun e => h0q69 (e ▸ ha_q51)
  have n_q51w_q69 : q51w ≠ q69 := fun e => h0q69 (e ▸ ha_q51w)
  have n_q58_q69 : q58 ≠ q69 := fun e => h0q69 (e ▸ ha_q58)
  have n_q62_q69 : q62 ≠ q69 := fun e => h0q69 (e ▸ ha_q62)
  have nL_q69 : q69 ∉ L := fun z => h0q69 (hLs _ z)
  obtain ⟨L70x, eLL70x⟩ : ∃ z, z = L63x ++ [q69] := ⟨_, rfl⟩
  obtain ⟨F70x, eFL70x⟩ : ∃ z, z = va_up F67x q69 (.inr (3, [.null, .int (iI 0), .int (iI 0)])) := ⟨_, rfl⟩
  have hP : va_P D vwCl (va_pl L70x F70x) H := by rw [eLL70x, eFL70x]; exact hP
  have hD : va_D (AL L sz) (va_pl L70x F70x) := by rw [eLL70x, eFL70x]; exact hD
  have hF_h : F70x h = .inr (5, [.ref q1, .ref q33, .ref q58, .null, .int (iI 0), .int (iI 0), .int (iI 0), .int (iI 0)]) := by rw [eFL70x]; exact (va_up_ne _ _ n_h_q69).trans hF_h
  have ha_h : h ∈ L70x := by rw [eLL70x]; exact List.mem_append_left _ ha_h
  have hF_q1 : F70x q1 = arrQ (y 1) 4 (iu (iu (iu (iu (fun _ => none) 0 (some q5)) 1 (some q12)) 2 (some q19)) 3 (some q26)) := by rw [eFL70x]; exact (va_up_ne _ _ n_q1_q69).trans hF_q1
  have ha_q1 : q1 ∈ L70x := by rw [eLL70x]; exact List.mem_append_left _ ha_q1
  have hF_q5 : F70x q5 = rowE 0 q5w 0 0 := by rw [eFL70x]; exact (va_up_ne _ _ n_q5_q69).trans hF_q5
  have ha_q5 : q5 ∈ L70x := by rw [eLL70x]; exact List.mem_append_left _ ha_q5
  have hF_q5w : F70x q5w = arrI (y 0) 100 emp := by rw [eFL70x]; exact (va_up_ne _ _ n_q5w_q69).trans hF_q5w
  have ha_q5w : q5w ∈ L70x := by rw [eLL70x]; exact List.mem_append_left _ ha_q5w
  have hF_q12 : F70x q12 = rowE 0 q12w 0 0 := by rw [eFL70x]; exact (va_up_ne _ _ n_q12_q69).trans hF_q12
  have ha_q12 : q12 ∈ L70x := by rw [eLL70x]; exact List.mem_append_left _ ha_q12
  have hF_q12w : F70x q12w = arrI (y 0) 100 emp := by rw [eFL70x]; exact (va_up_ne _ _ n_q12w_q69).trans hF_q12w
  have ha_q12w : q12w ∈ L70x := by rw [eLL70x]; exact List.mem_append_left _ ha_q12w
  have hF_q19 : F70x q19 = rowE 0 q19w 0 0 := by rw [eFL70x]; exact (va_up_ne _ _ n_q19_q69).trans hF_q19
  have ha_q19 : q19 ∈ L70x := by rw [eLL70x]; exact List.mem_append_left _ ha_q19
  have hF_q19w : F70x q19w = arrI (y 0) 100 emp := by rw [eFL70x]; exact (va_up_ne _ _ n_q19w_q69).trans hF_q19w
  have ha_q19w : q19w ∈ L70x := by rw [eLL70x]; exact List.mem_append_left _ ha_q19w
  have hF_q26 : F70x q26 = rowE 0 q26w 0 0 := by rw [eFL70x]; exact (va_up_ne _ _ n_q26_q69).trans hF_q26
  have ha_q26 : q26 ∈ L70x := by rw [eLL70x]; exact List.mem_append_left _ ha_q26
  have hF_q26w : F70x q26w = arrI (y 0) 100 emp := by rw [eFL70x]; exact (va_up_ne _ _ n_q26w_q69).trans hF_q26w
  have ha_q26w : q26w ∈ L70x := by rw [eLL70x]; exact List.mem_append_left _ ha_q26w
  have hF_q33 : F70x q33 = arrQ (y 1) 3 (iu (iu (iu (fun _ => none) 0 (some q37)) 1 (some q44)) 2 (some q51)) := by rw [eFL70x]; exact (va_up_ne _ _ n_q33_q69).trans hF_q33
  have ha_q33 : q33 ∈ L70x := by rw [eLL70x]; exact List.mem_append_left _ ha_q33
  have hF_q37 : F70x q37 = rowE 0 q37w 0 0 := by rw [eFL70x]; exact (va_up_ne _ _ n_q37_q69).trans hF_q37
  have ha_q37 : q37 ∈ L70x := by rw [eLL70x]; exact List.mem_append_left _ ha_q37
  have hF_q37w : F70x q37w = arrI (y 0) 100 emp := by rw [eFL70x]; exact (va_up_ne _ _ n_q37w_q69).trans hF_q37w
  have ha_q37w : q37w ∈ L70x := by rw [eLL70x]; exact List.mem_append_left _ ha_q37w
  have hF_q44 : F70x q44 = rowE 0 q44w 0 0 := by rw [eFL70x]; exact (va_up_ne _ _ n_q44_q69).trans hF_q44
  have ha_q44 : q44 ∈ L70x := by rw [eLL70x]; exact List.mem_append_left _ ha_q44
  have hF_q44w : F70x q44w = arrI (y 0) 100 emp := by rw [eFL70x]; exact (va_up_ne _ _ n_q44w_q69).trans hF_q44w
  have ha_q44w : q44w ∈ L70x := by rw [eLL70x]; exact List.mem_append_left _ ha_q44w
  have hF_q51 : F70x q51 = rowE 0 q51w 0 0 := by rw [eFL70x]; exact (va_up_ne _ _ n_q51_q69).trans hF_q51
  have ha_q51 : q51 ∈ L70x := by rw [eLL70x]; exact List.mem_append_left _ ha_q51
  have hF_q51w : F70x q51w = arrI (y 0) 100 emp := by rw [eFL70x]; exact (va_up_ne _ _ n_q51w_q69).trans hF_q51w
  have ha_q51w : q51w ∈ L70x := by rw [eLL70x]; exact List.mem_append_left _ ha_q51w
  have hF_q58 : F70x q58 = arrQ (y 2) 2 (iu (fun _ => none) 0 (some q62)) := by rw [eFL70x]; exact (va_up_ne _ _ n_q58_q69).trans hF_q58
  have ha_q58 : q58 ∈ L70x := by rw [eLL70x]; exact List.mem_append_left _ ha_q58
  have hF_q62 : F70x q62 = vwE q5 0 99 := by rw [eFL70x]; exact (va_up_ne _ _ n_q62_q69).trans hF_q62
  have ha_q62 : q62 ∈ L70x := by rw [eLL70x]; exact List.mem_append_left _ ha_q62
  have hfr : ∀ a ∈ L, a ≠ h → F70x a = F a := fun a h1 h2 => by rw [eFL70x]; exact (va_up_ne _ _ (fun e : a = q69 => nL_q69 (e ▸ h1))).trans (hfr a h1 h2)
  have hLs : ∀ a ∈ L, a ∈ L70x := fun a h1 => by rw [eLL70x]; exact List.mem_append_left _ (hLs a h1)
  have hF_q69 : F70x q69 = .inr (3, [.null, .int (iI 0), .int (iI 0)]) := by rw [eFL70x]; exact va_up_self _ _ _
  have ha_q69 : q69 ∈ L70x := by rw [eLL70x]; exact List.mem_append_right _ List.mem_cons_self
  refine lv_dup hx hb dX3_init_97 rfl ?_
  refine lv_aload_n hx hb dX3_init_98 rfl (lv_at hl 1 rfl) ?_
  refine q_get C0 iX3 hP ha_h hF_h rfl 0 (by decide) flX3_11 rfl rfl dX3_init_99 ?_
  refine lv_iload_n hx hb dX3_init_102 rfl (lv_at hl 0 rfl) ?_
  refine q_aald C0 hP ha_q1 hF_q1 (t := 1) rfl (by omega) (by decide) (v := .ref q12) rfl dX3_init_103 ?_
  refine q_iMv C0 lX3_27 (c_X1_init l D y L70x F70x _ q69 q12 ha_q69 hF_q69) ⟨rfl, rfl⟩ rfl hP hD hS hA rfl hl rfl (Nat.le_of_ble_eq_true rfl) dX3_init_104 ⟨Nat.le_of_ble_eq_true rfl, Nat.le_of_ble_eq_true rfl⟩ (fun _ H locs L72 F72 hP hD hS hz72 hp72 => ?_)
  obtain ⟨eL73, hF_q69, hfr73⟩ := hp72
  subst eL73
  have hF_h : F72 h = .inr (5, [.ref q1, .ref q33, .ref q58, .null, .int (iI 0), .int (iI 0), .int (iI 0), .int (iI 0)]) := (hfr73 h ha_h n_h_q69).trans hF_h
  have hF_q1 : F72 q1 = arrQ (y 1) 4 (iu (iu (iu (iu (fun _ => none) 0 (some q5)) 1 (some q12)) 2 (some q19)) 3 (some q26)) := (hfr73 q1 ha_q1 n_q1_q69).trans hF_q1
  have hF_q5 : F72 q5 = rowE 0 q5w 0 0 := (hfr73 q5 ha_q5 n_q5_q69).trans hF_q5
  have hF_q5w : F72 q5w = arrI (y 0) 100 emp := (hfr73 q5w ha_q5w n_q5w_q69).trans hF_q5w
  have hF_q12 : F72 q12 = rowE 0 q12w 0 0 := (hfr73 q12 ha_q12 n_q12_q69).trans hF_q12
  have hF_q12w : F72 q12w = arrI (y 0) 100 emp := (hfr73 q12w ha_q12w n_q12w_q69).trans hF_q12w
  have hF_q19 : F72 q19 = rowE 0 q19w 0 0 := (hfr73 q19 ha_q19 n_q19_q69).trans hF_q19
  have hF_q19w : F72 q19w = arrI (y 0) 100 emp := (hfr73 q19w ha_q19w n_q19w_q69).trans hF_q19w
  have hF_q26 : F72 q26 = rowE 0 q26w 0 0 := (hfr73 q26 ha_q26 n_q26_q69).trans hF_q26
  have hF_q26w : F72 q26w = arrI (y 0) 100 emp := (hfr73 q26w ha_q26w n_q26w_q69).trans hF_q26w
  have hF_q33 : F72 q33 = arrQ (y 1) 3 (iu (iu (iu (fun _ => none) 0 (some q37)) 1 (some q44)) 2 (some q51)) := (hfr73 q33 ha_q33 n_q33_q69).trans hF_q33
  have hF_q37 : F72 q37 = rowE 0 q37w 0 0 := (hfr73 q37 ha_q37 n_q37_q69).trans hF_q37
  have hF_q37w : F72 q37w = arrI (y 0) 100 emp := (hfr73 q37w ha_q37w n_q37w_q69).trans hF_q37w
  have hF_q44 : F72 q44 = rowE 0 q44w 0 0 := (hfr73 q44 ha_q44 n_q44_q69).trans hF_q44
  have hF_q44w : F72 q44w = arrI (y 0) 100 emp := (hfr73 q44w ha_q44w n_q44w_q69).trans hF_q44w
  have hF_q51 : F72 q51 = rowE 0 q51w 0 0 := (hfr73 q51 ha_q51 n_q51_q69).trans hF_q51
  have hF_q51w : F72 q51w = arrI (y 0) 100 emp := (hfr73 q51w ha_q51w n_q51w_q69).trans hF_q51w
  have hF_q58 : F72 q58 = arrQ (y 2) 2 (iu (fun _ => none) 0 (some q62)) := (hfr73 q58 ha_q58 n_q58_q69).trans hF_q58
  have hF_q62 : F72 q62 = vwE q5 0 99 := (hfr73 q62 ha_q62 n_q62_q69).trans hF_q62
  have hfr : ∀ a ∈ L, a ≠ h → F72 a = F a := fun a h1 h2 => (hfr73 a (hLs a h1) (fun e : a = q69 => nL_q69 (e ▸ h1))).trans (hfr a h1 h2)
  refine q_aast C0 hP hD hS ha_q58 hF_q58 (t := 2) (r := (RX1, TX1, 3)) rfl ha_q69 hF_q69 rfl (by omega) (by decide) dX3_init_107 (fun H locs hP hD hS => ?_)
  obtain ⟨F74x, eF74⟩ : ∃ z, z = va_up F72 q58 (arrQ (y 2) 2 (iu (iu (fun _ => none) 0 (some q62)) 1 (some q69))) := ⟨_, rfl⟩
  have hP : va_P D vwCl (va_pl L70x F74x) H := by rw [eF74]; exact hP
  have hD : va_D (AL L sz) (va_pl L70x F74x) := by rw [eF74]; exact hD
  have hF_h : F74x h = .inr (5, [.ref q1, .ref q33, .ref q58, .null, .int (iI 0), .int (iI 0), .int (iI 0), .int (iI 0)]) := by rw [eF74]; exact (va_up_ne _ _ n_h_q58).trans hF_h
  have hF_q1 : F74x q1 = arrQ (y 1) 4 (iu (iu (iu (iu (fun _ => none) 0 (some q5)) 1 (some q12)) 2 (some q19)) 3 (some q26)) := by rw [eF74]; exact (va_up_ne _ _ n_q1_q58).trans hF_q1
  have hF_q5 : F74x q5 = rowE 0 q5w 0 0 := by rw [eF74]; exact (va_up_ne _ _ n_q5_q58).trans hF_q5
  have hF_q5w : F74x q5w = arrI (y 0) 100 emp := by rw [eF74]; exact (va_up_ne _ _ n_q5w_q58).trans hF_q5w
  have hF_q12 : F74x q12 = rowE 0 q12w 0 0 := by rw [eF74]; exact (va_up_ne _ _ n_q12_q58).trans hF_q12
  have hF_q12w : F74x q12w = arrI (y 0) 100 emp := by rw [eF74]; exact (va_up_ne _ _ n_q12w_q58).trans hF_q12w
  have hF_q19 : F74x q19 = rowE 0 q19w 0 0 := by rw [eF74]; exact (va_up_ne _ _ n_q19_q58).trans hF_q19
  have hF_q19w : F74x q19w = arrI (y 0) 100 emp := by rw [eF74]; exact (va_up_ne _ _ n_q19w_q58).trans hF_q19w
  have hF_q26 : F74x q26 = rowE 0 q26w 0 0 := by rw [eF74]; exact (va_up_ne _ _ n_q26_q58).trans hF_q26
  have hF_q26w : F74x q26w = arrI (y 0) 100 emp := by rw [eF74]; exact (va_up_ne _ _ n_q26w_q58).trans hF_q26w
  have hF_q33 : F74x q33 = arrQ (y 1) 3 (iu (iu (iu (fun _ => none) 0 (some q37)) 1 (some q44)) 2 (some q51)) := by rw [eF74]; exact (va_up_ne _ _ n_q33_q58).trans hF_q33
  have hF_q37 : F74x q37 = rowE 0 q37w 0 0 := by rw [eF74]; exact (va_up_ne _ _ n_q37_q58).trans hF_q37
  have hF_q37w : F74x q37w = arrI (y 0) 100 emp := by rw [eF74]; exact (va_up_ne _ _ n_q37w_q58).trans hF_q37w
  have hF_q44 : F74x q44 = rowE 0 q44w 0 0 := by rw [eF74]; exact (va_up_ne _ _ n_q44_q58).trans hF_q44
  have hF_q44w : F74x q44w = arrI (y 0) 100 emp := by rw [eF74]; exact (va_up_ne _ _ n_q44w_q58).trans hF_q44w
  have hF_q51 : F74x q51 = rowE 0 q51w 0 0 := by rw [eF74]; exact (va_up_ne _ _ n_q51_q58).trans hF_q51
  have hF_q51w : F74x q51w = arrI (y 0) 100 emp := by rw [eF74]; exact (va_up_ne _ _ n_q51w_q58).trans hF_q51w
  have hF_q62 : F74x q62 = vwE q5 0 99 := by rw [eF74]; exact (va_up_ne _ _ n_q58_q62.symm).trans hF_q62
  have hF_q69 : F74x q69 = vwE q12 0 99 := by rw [eF74]; exact (va_up_ne _ _ n_q58_q69.symm).trans hF_q69
  have hF_q58 : F74x q58 = arrQ (y 2) 2 (iu (iu (fun _ => none) 0 (some q62)) 1 (some q69)) := by rw [eF74]; exact va_up_self _ _ _
  have hfr : ∀ a ∈ L, a ≠ h → F74x a = F a := fun a h1 h2 => by rw [eF74]; exact (va_up_ne _ _ (fun e : a = q58 => nL_q58 (e ▸ h1))).trans (hfr a h1 h2)
  refine q_iinc (x := 1) (n := 1) (lv' := [(1, .int (iI 2)), (0, .ref h)]) hx hb dX3_init_108 hl (k := 0) rfl (by decide) rfl (fun ls hl => ?_)
  refine lv_goto (tgt := 84) hx hb dX3_init_111 (by decide) ?_
  refine lv_iload_n hx hb dX3_init_84 rfl (lv_at hl 0 rfl) ?_
  refine q_iconst hx hb dX3_init_85 ?_
  refine q_icmp_ge hx hb dX3_init_86 (tgt := 114) (by decide) (by omega) (by omega) (fun c75 => ?_) (fun c75 => absurd c75 (by omega))
  refine lv_aload_n hx hb dX3_init_114 rfl (lv_at hl 1 rfl) ?_
  refine q_new C0 iX2 tyX2 tyX2_ok klX3_30 insX2 iniX2 hP hD hS hA (ci := 4) rfl (fs := [.null, .int (iI 0), .int (iI 0), .int (iI 0)]) (fun j hj => by rcases (show j = 0 ∨ j = 1 ∨ j = 2 ∨ j = 3 by omega) with rfl | rfl | rfl | rfl <;> rfl) (Nat.le_of_ble_eq_true rfl) (Nat.le_of_ble_eq_true rfl) dX3_init_115 (fun q76 H h0q76 hP hD hS => ?_)
  refine W.widen (k := 20) (n := 747) (Nat.le_of_ble_eq_true rfl) (Nat.le_of_ble_eq_true rfl) ?_
  have n_h_q76 : h ≠ q76 := fun e => h0q76 (e ▸ ha_h)
  have n_q1_q76 : q1 ≠ q76 := fun e => h0q76 (e ▸ ha_q1)
  have n_q5_q76 : q5 ≠ q76 := fun e => h0q76 (e ▸ ha_q5)
  have n_q5w_q76 : q5w ≠ q76 := fun e => h0q76 (e ▸ ha_q5w)
  have n_q12_q76 : q12 ≠ q76 := fun e => h0q76 (e ▸ ha_q12)
  have n_q12w_q76 : q12w ≠ q76 := fun e => h0q76 (e ▸ ha_q12w)
  have n_q19_q76 : q19 ≠ q76 := fun e => h0q76 (e ▸ ha_q19)
  have n_q19w_q76 : q19w ≠ q76 := fun e => h0q76 (e ▸ ha_q19w)
  have n_q26_q76 : q26 ≠ q76 := fun e => h0q76 (e ▸ ha_q26)
  have n_q26w_q76 : q26w ≠ q76 := fun e => h0q76 (e ▸ ha_q26w)
  have n_q33_q76 : q33 ≠ q76 := fun e => h0q76 (e ▸ ha_q33)
  have n_q37_q76 : q37 ≠ q76 := fun e => h0q76 (e ▸ ha_q37)
  have n_q37w_q76 : q37w ≠ q76 := fun e => h0q76 (e ▸ ha_q37w)
  have n_q44_q76 : q44 ≠ q76 := fun e => h0q76 (e ▸ ha_q44)
  have n_q44w_q76 : q44w ≠ q76 := fun e => h0q76 (e ▸ ha_q44w)
  have n_q51_q76 : q51 ≠ q76 := fun e => h0q76 (e ▸ ha_q51)
  have n_q51w_q76 : q51w ≠ q76 := fun e => h0q76 (e ▸ ha_q51w)
  have n_q58_q76 : q58 ≠ q76 := fun e => h0q76 (e ▸ ha_q58)
  have n_q62_q76 : q62 ≠ q76 := fun e => h0q76 (e ▸ ha_q62)
  have n_q69_q76 : q69 ≠ q76 := fun e => h0q76 (e ▸ ha_q69)
  have nL_q76 : q76 ∉ L := fun z => h0q76 (hLs _ z)
  obtain ⟨L77x, eLL77x⟩ : ∃ z, z = L70x ++ [q76] := ⟨_, rfl⟩
  obtain ⟨F77x, eFL77x⟩ : ∃ z, z = va_up F74x q76 (.inr (4, [.null, .int (iI 0), .int (iI 0), .int (iI 0)])) := ⟨_, rfl⟩
  have hP : va_P D vwCl (va_pl L77x F77x) H := by rw [eLL77x, eFL77x]; exact hP
  have hD : va_D (AL L sz) (va_pl L77x F77x) := by rw [eLL77x, eFL77x]; exact hD
  have hF_h : F77x h = .inr (5, [.ref q1, .ref q33, .ref q58, .null, .int (iI 0), .int (iI 0), .int (iI 0), .int (iI 0)]) := by rw [eFL77x]; exact (va_up_ne _ _ n_h_q76).trans hF_h
  have ha_h : h ∈ L77x := by rw [eLL77x]; exact List.mem_append_left _ ha_h
  have hF_q1 : F77x q1 = arrQ (y 1) 4 (iu (iu (iu (iu (fun _ => none) 0 (some q5)) 1 (some q12)) 2 (some q19)) 3 (some q26)) := by rw [eFL77x]; exact (va_up_ne _ _ n_q1_q76).trans hF_q1
  have ha_q1 : q1 ∈ L77x := by rw [eLL77x]; exact List.mem_append_left _ ha_q1
  have hF_q5 : F77x q5 = rowE 0 q5w 0 0 := by rw [eFL77x]; exact (va_up_ne _ _ n_q5_q76).trans hF_q5
  have ha_q5 : q5 ∈ L77x := by rw [eLL77x]; exact List.mem_append_left _ ha_q5
  have hF_q5w : F77x q5w = arrI (y 0) 100 emp := by rw [eFL77x]; exact (va_up_ne _ _ n_q5w_q76).trans hF_q5w
  have ha_q5w : q5w ∈ L77x := by rw [eLL77x]; exact List.mem_append_left _ ha_q5w
  have hF_q12 : F77x q12 = rowE 0 q12w 0 0 := by rw [eFL77x]; exact (va_up_ne _ _ n_q12_q76).trans hF_q12
  have ha_q12 : q12 ∈ L77x := by rw [eLL77x]; exact List.mem_append_left _ ha_q12
  have hF_q12w : F77x q12w = arrI (y 0) 100 emp := by rw [eFL77x]; exact (va_up_ne _ _ n_q12w_q76).trans hF_q12w
  have ha_q12w : q12w ∈ L77x := by rw [eLL77x]; exact List.mem_append_left _ ha_q12w
  have hF_q19 : F77x q19 = rowE 0 q19w 0 0 := by rw [eFL77x]; exact (va_up_ne _ _ n_q19_q76).trans hF_q19
  have ha_q19 : q19 ∈ L77x := by rw [eLL77x]; exact List.mem_append_left _ ha_q19
  have hF_q19w : F77x q19w = arrI (y 0) 100 emp := by rw [eFL77x]; exact (va_up_ne _ _ n_q19w_q76).trans hF_q19w
  have ha_q19w : q19w ∈ L77x := by rw [eLL77x]; exact List.mem_append_left _ ha_q19w
  have hF_q26 : F77x q26 = rowE 0 q26w 0 0 := by rw [eFL77x]; exact (va_up_ne _ _ n_q26_q76).trans hF_q26
  have ha_q26 : q26 ∈ L77x := by rw [eLL77x]; exact List.mem_append_left _ ha_q26
  have hF_q26w : F77x q26w = arrI (y 0) 100 emp := by rw [eFL77x]; exact (va_up_ne _ _ n_q26w_q76).trans hF_q26w
  have ha_q26w : q26w ∈ L77x := by rw [eLL77x]; exact List.mem_append_left _ ha_q26w
  have hF_q33 : F77x q33 = arrQ (y 1) 3 (iu (iu (iu (fun _ => none) 0 (some q37)) 1 (some q44)) 2 (some q51)) := by rw [eFL77x]; exact (va_up_ne _ _ n_q33_q76).trans hF_q33
  have ha_q33 : q33 ∈ L77x := by rw [eLL77x]; exact List.mem_append_left _ ha_q33
  have hF_q37 : F77x q37 = rowE 0 q37w 0 0 := by rw [eFL77x]; exact (va_up_ne _ _ n_q37_q76).trans hF_q37
  have ha_q37 : q37 ∈ L77x := by rw [eLL77x]; exact List.mem_append_left _ ha_q37
  have hF_q37w : F77x q37w = arrI (y 0) 100 emp := by rw [eFL77x]; exact (va_up_ne _ _ n_q37w_q76).trans hF_q37w
  have ha_q37w : q37w ∈ L77x := by rw [eLL77x]; exact List.mem_append_left _ ha_q37w
  have hF_q44 : F77x q44 = rowE 0 q44w 0 0 := by rw [eFL77x]; exact (va_up_ne _ _ n_q44_q76).trans hF_q44
  have ha_q44 : q44 ∈ L77x := by rw [eLL77x]; exact List.mem_append_left _ ha_q44
  have hF_q44w : F77x q44w = arrI (y 0) 100 emp := by rw [eFL77x]; exact (va_up_ne _ _ n_q44w_q76).trans hF_q44w
  have ha_q44w : q44w ∈ L77x := by rw [eLL77x]; exact List.mem_append_left _ ha_q44w
  have hF_q51 : F77x q51 = rowE 0 q51w 0 0 := by rw [eFL77x]; exact (va_up_ne _ _ n_q51_q76).trans hF_q51
  have ha_q51 : q51 ∈ L77x := by rw [eLL77x]; exact List.mem_append_left _ ha_q51
  have hF_q51w : F77x q51w = arrI (y 0) 100 emp := by rw [eFL77x]; exact (va_up_ne _ _ n_q51w_q76).trans hF_q51w
  have ha_q51w : q51w ∈ L77x := by rw [eLL77x]; exact List.mem_append_left _ ha_q51w
  have hF_q58 : F77x q58 = arrQ (y 2) 2 (iu (iu (fun _ => none) 0 (some q62)) 1 (some q69)) := by rw [eFL77x]; exact (va_up_ne _ _ n_q58_q76).trans hF_q58
  have ha_q58 : q58 ∈ L77x := by rw [eLL77x]; exact List.mem_append_left _ ha_q58
  have hF_q62 : F77x q62 = vwE q5 0 99 := by rw [eFL77x]; exact (va_up_ne _ _ n_q62_q76).trans hF_q62
  have ha_q62 : q62 ∈ L77x := by rw [eLL77x]; exact List.mem_append_left _ ha_q62
  have hF_q69 : F77x q69 = vwE q12 0 99 := by rw [eFL77x]; exact (va_up_ne _ _ n_q69_q76).trans hF_q69
  have ha_q69 : q69 ∈ L77x := by rw [eLL77x]; exact List.mem_append_left _ ha_q69
  have hfr : ∀ a ∈ L, a ≠ h → F77x a = F a := fun a h1 h2 => by rw [eFL77x]; exact (va_up_ne _ _ (fun e : a = q76 => nL_q76 (e ▸ h1))).trans (hfr a h1 h2)
  have hLs : ∀ a ∈ L, a ∈ L77x := fun a h1 => by rw [eLL77x]; exact List.mem_append_left _ (hLs a h1)
  have hF_q76 : F77x q76 = .inr (4, [.null, .int (iI 0), .int (iI 0), .int (iI 0)]) := by rw [eFL77x]; exact va_up_self _ _ _
  have ha_q76 : q76 ∈ L77x := by rw [eLL77x]; exact List.mem_append_right _ List.mem_cons_self
  refine lv_dup hx hb dX3_init_118 rfl ?_
  refine q_inMv C0 ⟨nX2, C0.2.2.2.2.2.1⟩ (c_X2_init l D y L77x F77x _ q76) ⟨rfl, rfl⟩ rfl hP hD hS hA rfl hl rfl (Nat.le_of_ble_eq_true rfl) dX3_init_119 ⟨Nat.le_of_ble_eq_true rfl, Nat.le_of_ble_eq_true rfl⟩ (fun _ H locs L79 F79 hP hD hS hz79 hp79 => ?_)
  obtain ⟨eL80, eF80⟩ := hp79
  subst eL80
  subst eF80
  refine q_putF C0 iX3 tyX3 tyX3_ok nmX3 hP hD hS ha_h hF_h rfl 3 (by decide) flX3_33 rfl rfl hnm rfl rfl rfl (Nat.le_of_ble_eq_true rfl) dX3_init_122 (fun H locs hP hD hS => ?_)
  obtain ⟨F81x, eF81⟩ : ∃ z, z = va_up F77x h (.inr (5, [.ref q1, .ref q33, .ref q58, .ref q76, .int (iI 0), .int (iI 0), .int (iI 0), .int (iI 0)])) := ⟨_, rfl⟩
  have hP : va_P D vwCl (va_pl L77x F81x) H := by rw [eF81]; exact hP
  have hD : va_D (AL L sz) (va_pl L77x F81x) := by rw [eF81]; exact hD
  have hF_q1 : F81x q1 = arrQ (y 1) 4 (iu (iu (iu (iu (fun _ => none) 0 (some q5)) 1 (some q12)) 2 (some q19)) 3 (some q26)) := by rw [eF81]; exact (va_up_ne _ _ n_h_q1.symm).trans hF_q1
  have hF_q5 : F81x q5 = rowE 0 q5w 0 0 := by rw [eF81]; exact (va_up_ne _ _ n_h_q5.symm).trans hF_q5
  have hF_q5w : F81x q5w = arrI (y 0) 100 emp := by rw [eF81]; exact (va_up_ne _ _ n_h_q5w.symm).trans hF_q5w
  have hF_q12 : F81x q12 = rowE 0 q12w 0 0 := by rw [eF81]; exact (va_up_ne _ _ n_h_q12.symm).trans hF_q12
  have hF_q12w : F81x q12w = arrI (y 0) 100 emp := by rw [eF81]; exact (va_up_ne _ _ n_h_q12w.symm).trans hF_q12w
  have hF_q19 : F81x q19 = rowE 0 q19w 0 0 := by rw [eF81]; exact (va_up_ne _ _ n_h_q19.symm).trans hF_q19
  have hF_q19w : F81x q19w = arrI (y 0) 100 emp := by rw [eF81]; exact (va_up_ne _ _ n_h_q19w.symm).trans hF_q19w
  have hF_q26 : F81x q26 = rowE 0 q26w 0 0 := by rw [eF81]; exact (va_up_ne _ _ n_h_q26.symm).trans hF_q26
  have hF_q26w : F81x q26w = arrI (y 0) 100 emp := by rw [eF81]; exact (va_up_ne _ _ n_h_q26w.symm).trans hF_q26w
  have hF_q33 : F81x q33 = arrQ (y 1) 3 (iu (iu (iu (fun _ => none) 0 (some q37)) 1 (some q44)) 2 (some q51)) := by rw [eF81]; exact (va_up_ne _ _ n_h_q33.symm).trans hF_q33
  have hF_q37 : F81x q37 = rowE 0 q37w 0 0 := by rw [eF81]; exact (va_up_ne _ _ n_h_q37.symm).trans hF_q37
  have hF_q37w : F81x q37w = arrI (y 0) 100 emp := by rw [eF81]; exact (va_up_ne _ _ n_h_q37w.symm).trans hF_q37w
  have hF_q44 : F81x q44 = rowE 0 q44w 0 0 := by rw [eF81]; exact (va_up_ne _ _ n_h_q44.symm).trans hF_q44
  have hF_q44w : F81x q44w = arrI (y 0) 100 emp := by rw [eF81]; exact (va_up_ne _ _ n_h_q44w.symm).trans hF_q44w
  have hF_q51 : F81x q51 = rowE 0 q51w 0 0 := by rw [eF81]; exact (va_up_ne _ _ n_h_q51.symm).trans hF_q51
  have hF_q51w : F81x q51w = arrI (y 0) 100 emp := by rw [eF81]; exact (va_up_ne _ _ n_h_q51w.symm).trans hF_q51w
  have hF_q58 : F81x q58 = arrQ (y 2) 2 (iu (iu (fun _ => none) 0 (some q62)) 1 (some q69)) := by rw [eF81]; exact (va_up_ne _ _ n_h_q58.symm).trans hF_q58
  have hF_q62 : F81x q62 = vwE q5 0 99 := by rw [eF81]; exact (va_up_ne _ _ n_h_q62.symm).trans hF_q62
  have hF_q69 : F81x q69 = vwE q12 0 99 := by rw [eF81]; exact (va_up_ne _ _ n_h_q69.symm).trans hF_q69
  have hF_q76 : F81x q76 = .inr (4, [.null, .int (iI 0), .int (iI 0), .int (iI 0)]) := by rw [eF81]; exact (va_up_ne _ _ n_h_q76.symm).trans hF_q76
  have hF_h : F81x h = .inr (5, [.ref q1, .ref q33, .ref q58, .ref q76, .int (iI 0), .int (iI 0), .int (iI 0), .int (iI 0)]) := by rw [eF81]; exact va_up_self _ _ _
  have hfr : ∀ a ∈ L, a ≠ h → F81x a = F a := fun a h1 h2 => by rw [eF81]; exact (va_up_ne _ _ h2).trans (hfr a h1 h2)
  let G0 : CG := (h, q1, q33, q58, q76, fun i => if i = 1 then q69 else q62, fun i => if i = 1 then q12 else if i = 2 then q19 else if i = 3 then q26 else if i = 4 then q37 else if i = 5 then q44 else if i = 6 then q51 else q5, fun i => if i = 1 then q12w else if i = 2 then q19w else if i = 3 then q26w else if i = 4 then q37w else if i = 5 then q44w else if i = 6 then q51w else q5w)
  replace hP := va_P_re (a := q1) (e := arrQ (y 1) 4 (fun j => some (grh G0 (zbk kS_init j)))) hP (fun X z => by rw [hF_q1] at z; exact at_arrQ (by intro i h0 h1; rcases (show i = 0 ∨ i = 1 ∨ i = 2 ∨ i = 3 by omega) with rfl | rfl | rfl | rfl <;> rfl) X z)
  replace hD := va_D_re (F1 := va_up F81x q1 (arrQ (y 1) 4 (fun j => some (grh G0 (zbk kS_init j))))) hD
  obtain ⟨F82x, eF82⟩ : ∃ z, z = va_up F81x q1 (arrQ (y 1) 4 (fun j => some (grh G0 (zbk kS_init j)))) := ⟨_, rfl⟩
  have hP : va_P D vwCl (va_pl L77x F82x) H := by rw [eF82]; exact hP
  have hD : va_D (AL L sz) (va_pl L77x F82x) := by rw [eF82]; exact hD
  have hF_h : F82x h = .inr (5, [.ref q1, .ref q33, .ref q58, .ref q76, .int (iI 0), .int (iI 0), .int (iI 0), .int (iI 0)]) := by rw [eF82]; exact (va_up_ne _ _ n_h_q1).trans hF_h
  have hF_q5 : F82x q5 = rowE 0 q5w 0 0 := by rw [eF82]; exact (va_up_ne _ _ n_q1_q5.symm).trans hF_q5
  have hF_q5w : F82x q5w = arrI (y 0) 100 emp := by rw [eF82]; exact (va_up_ne _ _ n_q1_q5w.symm).trans hF_q5w
  have hF_q12 : F82x q12 = rowE 0 q12w 0 0 := by rw [eF82]; exact (va_up_ne _ _ n_q1_q12.symm).trans hF_q12
  have hF_q12w : F82x q12w = arrI (y 0) 100 emp := by rw [eF82]; exact (va_up_ne _ _ n_q1_q12w.symm).trans hF_q12w
  have hF_q19 : F82x q19 = rowE 0 q19w 0 0 := by rw [eF82]; exact (va_up_ne _ _ n_q1_q19.symm).trans hF_q19
  have hF_q19w : F82x q19w = arrI (y 0) 100 emp := by rw [eF82]; exact (va_up_ne _ _ n_q1_q19w.symm).trans hF_q19w
  have hF_q26 : F82x q26 = rowE 0 q26w 0 0 := by rw [eF82]; exact (va_up_ne _ _ n_q1_q26.symm).trans hF_q26
  have hF_q26w : F82x q26w = arrI (y 0) 100 emp := by rw [eF82]; exact (va_up_ne _ _ n_q1_q26w.symm).trans hF_q26w
  have hF_q33 : F82x q33 = arrQ (y 1) 3 (iu (iu (iu (fun _ => none) 0 (some q37)) 1 (some q44)) 2 (some q51)) := by rw [eF82]; exact (va_up_ne _ _ n_q1_q33.symm).trans hF_q33
  have hF_q37 : F82x q37 = rowE 0 q37w 0 0 := by rw [eF82]; exact (va_up_ne _ _ n_q1_q37.symm).trans hF_q37
  have hF_q37w : F82x q37w = arrI (y 0) 100 emp := by rw [eF82]; exact (va_up_ne _ _ n_q1_q37w.symm).trans hF_q37w
  have hF_q44 : F82x q44 = rowE 0 q44w 0 0 := by rw [eF82]; exact (va_up_ne _ _ n_q1_q44.symm).trans hF_q44
  have hF_q44w : F82x q44w = arrI (y 0) 100 emp := by rw [eF82]; exact (va_up_ne _ _ n_q1_q44w.symm).trans hF_q44w
  have hF_q51 : F82x q51 = rowE 0 q51w 0 0 := by rw [eF82]; exact (va_up_ne _ _ n_q1_q51.symm).trans hF_q51
  have hF_q51w : F82x q51w = arrI (y 0) 100 emp := by rw [eF82]; exact (va_up_ne _ _ n_q1_q51w.symm).trans hF_q51w
  have hF_q58 : F82x q58 = arrQ (y 2) 2 (iu (iu (fun _ => none) 0 (some q62)) 1 (some q69)) := by rw [eF82]; exact (va_up_ne _ _ n_q1_q58.symm).trans hF_q58
  have hF_q62 : F82x q62 = vwE q5 0 99 := by rw [eF82]; exact (va_up_ne _ _ n_q1_q62.symm).trans hF_q62
  have hF_q69 : F82x q69 = vwE q12 0 99 := by rw [eF82]; exact (va_up_ne _ _ n_q1_q69.symm).trans hF_q69
  have hF_q76 : F82x q76 = .inr (4, [.null, .int (iI 0), .int (iI 0), .int (iI 0)]) := by rw [eF82]; exact (va_up_ne _ _ n_q1_q76.symm).trans hF_q76
  have hF_q1 : F82x q1 = arrQ (y 1) 4 (fun j => some (grh G0 (zbk kS_init j))) := by rw [eF82]; exact va_up_self _ _ _
  have hfr : ∀ a ∈ L, a ≠ h → F82x a = F a := fun a h1 h2 => by rw [eF82]; exact (va_up_ne _ _ (fun e : a = q1 => nL_q1 (e ▸ h1))).trans (hfr a h1 h2)
  replace hP := va_P_re (a := q33) (e := arrQ (y 1) 3 (fun j => some (grh G0 (zsh kS_init j)))) hP (fun X z => by rw [hF_q33] at z; exact at_arrQ (by intro i h0 h1; rcases (show i = 0 ∨ i = 1 ∨ i = 2 by omega) with rfl | rfl | rfl <;> rfl) X z)
  replace hD := va_D_re (F1 := va_up F82x q33 (arrQ (y 1) 3 (fun j => some (grh G0 (zsh kS_init j))))) hD
  obtain ⟨F83x, eF83⟩ : ∃ z, z = va_up F82x q33 (arrQ (y 1) 3 (fun j => some (grh G0 (zsh kS_init j)))) := ⟨_, rfl⟩
  have hP : va_P D vwCl (va_pl L77x F83x) H := by rw [eF83]; exact hP
  have hD : va_D (AL L sz) (va_pl L77x F83x) := by rw [eF83]; exact hD
  have hF_h : F83x h = .inr (5, [.ref q1, .ref q33, .ref q58, .ref q76, .int (iI 0), .int (iI 0), .int (iI 0), .int (iI 0)]) := by rw [eF83]; exact (va_up_ne _ _ n_h_q33).trans hF_h
  have hF_q1 : F83x q1 = arrQ (y 1) 4 (fun j => some (grh G0 (zbk kS_init j))) := by rw [eF83]; exact (va_up_ne _ _ n_q1_q33).trans hF_q1
  have hF_q5 : F83x q5 = rowE 0 q5w 0 0 := by rw [eF83]; exact (va_up_ne _ _ n_q5_q33).trans hF_q5
  have hF_q5w : F83x q5w = arrI (y 0) 100 emp := by rw [eF83]; exact (va_up_ne _ _ n_q5w_q33).trans hF_q5w
  have hF_q12 : F83x q12 = rowE 0 q12w 0 0 := by rw [eF83]; exact (va_up_ne _ _ n_q12_q33).trans hF_q12
  have hF_q12w : F83x q12w = arrI (y 0) 100 emp := by rw [eF83]; exact (va_up_ne _ _ n_q12w_q33).trans hF_q12w
  have hF_q19 : F83x q19 = rowE 0 q19w 0 0 := by rw [eF83]; exact (va_up_ne _ _ n_q19_q33).trans hF_q19
  have hF_q19w : F83x q19w = arrI (y 0) 100 emp := by rw [eF83]; exact (va_up_ne _ _ n_q19w_q33).trans hF_q19w
  have hF_q26 : F83x q26 = rowE 0 q26w 0 0 := by rw [eF83]; exact (va_up_ne _ _ n_q26_q33).trans hF_q26
  have hF_q26w : F83x q26w = arrI (y 0) 100 emp := by rw [eF83]; exact (va_up_ne _ _ n_q26w_q33).trans hF_q26w
  have hF_q37 : F83x q37 = rowE 0 q37w 0 0 := by rw [eF83]; exact (va_up_ne _ _ n_q33_q37.symm).trans hF_q37
  have hF_q37w : F83x q37w = arrI (y 0) 100 emp := by rw [eF83]; exact (va_up_ne _ _ n_q33_q37w.symm).trans hF_q37w
  have hF_q44 : F83x q44 = rowE 0 q44w 0 0 := by rw [eF83]; exact (va_up_ne _ _ n_q33_q44.symm).trans hF_q44
  have hF_q44w : F83x q44w = arrI (y 0) 100 emp := by rw [eF83]; exact (va_up_ne _ _ n_q33_q44w.symm).trans hF_q44w
  have hF_q51 : F83x q51 = rowE 0 q51w 0 0 := by rw [eF83]; exact (va_up_ne _ _ n_q33_q51.symm).trans hF_q51
  have hF_q51w : F83x q51w = arrI (y 0) 100 emp := by rw [eF83]; exact (va_up_ne _ _ n_q33_q51w.symm).trans hF_q51w
  have hF_q58 : F83x q58 = arrQ (y 2) 2 (iu (iu (fun _ => none) 0 (some q62)) 1 (some q69)) := by rw [eF83]; exact (va_up_ne _ _ n_q33_q58.symm).trans hF_q58
  have hF_q62 : F83x q62 = vwE q5 0 99 := by rw [eF83]; exact (va_up_ne _ _ n_q33_q62.symm).trans hF_q62
  have hF_q69 : F83x q69 = vwE q12 0 99 := by rw [eF83]; exact (va_up_ne _ _ n_q33_q69.symm).trans hF_q69
  have hF_q76 : F83x q76 = .inr (4, [.null, .int (iI 0), .int (iI 0), .int (iI 0)]) := by rw [eF83]; exact (va_up_ne _ _ n_q33_q76.symm).trans hF_q76
  have hF_q33 : F83x q33 = arrQ (y 1) 3 (fun j => some (grh G0 (zsh kS_init j))) := by rw [eF83]; exact va_up_self _ _ _
  have hfr : ∀ a ∈ L, a ≠ h → F83x a = F a := fun a h1 h2 => by rw [eF83]; exact (va_up_ne _ _ (fun e : a = q33 => nL_q33 (e ▸ h1))).trans (hfr a h1 h2)
  replace hP := va_P_re (a := q58) (e := arrQ (y 2) 2 (fun j => some (gva G0 j))) hP (fun X z => by rw [hF_q58] at z; exact at_arrQ (by intro i h0 h1; rcases (show i = 0 ∨ i = 1 by omega) with rfl | rfl <;> rfl) X z)
  replace hD := va_D_re (F1 := va_up F83x q58 (arrQ (y 2) 2 (fun j => some (gva G0 j)))) hD
  obtain ⟨F84x, eF84⟩ : ∃ z, z = va_up F83x q58 (arrQ (y 2) 2 (fun j => some (gva G0 j))) := ⟨_, rfl⟩
  have hP : va_P D vwCl (va_pl L77x F84x) H := by rw [eF84]; exact hP
  have hD : va_D (AL L sz) (va_pl L77x F84x) := by rw [eF84]; exact hD
  have hF_h : F84x h = .inr (5, [.ref q1, .ref q33, .ref q58, .ref q76, .int (iI 0), .int (iI 0), .int (iI 0), .int (iI 0)]) := by rw [eF84]; exact (va_up_ne _ _ n_h_q58).trans hF_h
  have hF_q1 : F84x q1 = arrQ (y 1) 4 (fun j => some (grh G0 (zbk kS_init j))) := by rw [eF84]; exact (va_up_ne _ _ n_q1_q58).trans hF_q1
  have hF_q5 : F84x q5 = rowE 0 q5w 0 0 := by rw [eF84]; exact (va_up_ne _ _ n_q5_q58).trans hF_q5
  have hF_q5w : F84x q5w = arrI (y 0) 100 emp := by rw [eF84]; exact (va_up_ne _ _ n_q5w_q58).trans hF_q5w
  have hF_q12 : F84x q12 = rowE 0 q12w 0 0 := by rw [eF84]; exact (va_up_ne _ _ n_q12_q58).trans hF_q12
  have hF_q12w : F84x q12w = arrI (y 0) 100 emp := by rw [eF84]; exact (va_up_ne _ _ n_q12w_q58).trans hF_q12w
  have hF_q19 : F84x q19 = rowE 0 q19w 0 0 := by rw [eF84]; exact (va_up_ne _ _ n_q19_q58).trans hF_q19
  have hF_q19w : F84x q19w = arrI (y 0) 100 emp := by rw [eF84]; exact (va_up_ne _ _ n_q19w_q58).trans hF_q19w
  have hF_q26 : F84x q26 = rowE 0 q26w 0 0 := by rw [eF84]; exact (va_up_ne _ _ n_q26_q58).trans hF_q26
  have hF_q26w : F84x q26w = arrI (y 0) 100 emp := by rw [eF84]; exact (va_up_ne _ _ n_q26w_q58).trans hF_q26w
  have hF_q33 : F84x q33 = arrQ (y 1) 3 (fun j => some (grh G0 (zsh kS_init j))) := by rw [eF84]; exact (va_up_ne _ _ n_q33_q58).trans hF_q33
  have hF_q37 : F84x q37 = rowE 0 q37w 0 0 := by rw [eF84]; exact (va_up_ne _ _ n_q37_q58).trans hF_q37
  have hF_q37w : F84x q37w = arrI (y 0) 100 emp := by rw [eF84]; exact (va_up_ne _ _ n_q37w_q58).trans hF_q37w
  have hF_q44 : F84x q44 = rowE 0 q44w 0 0 := by rw [eF84]; exact (va_up_ne _ _ n_q44_q58).trans hF_q44
  have hF_q44w : F84x q44w = arrI (y 0) 100 emp := by rw [eF84]; exact (va_up_ne _ _ n_q44w_q58).trans hF_q44w
  have hF_q51 : F84x q51 = rowE 0 q51w 0 0 := by rw [eF84]; exact (va_up_ne _ _ n_q51_q58).trans hF_q51
  have hF_q51w : F84x q51w = arrI (y 0) 100 emp := by rw [eF84]; exact (va_up_ne _ _ n_q51w_q58).trans hF_q51w
  have hF_q62 : F84x q62 = vwE q5 0 99 := by rw [eF84]; exact (va_up_ne _ _ n_q58_q62.symm).trans hF_q62
  have hF_q69 : F84x q69 = vwE q12 0 99 := by rw [eF84]; exact (va_up_ne _ _ n_q58_q69.symm).trans hF_q69
  have hF_q76 : F84x q76 = .inr (4, [.null, .int (iI 0), .int (iI 0), .int (iI 0)]) := by rw [eF84]; exact (va_up_ne _ _ n_q58_q76.symm).trans hF_q76
  have hF_q58 : F84x q58 = arrQ (y 2) 2 (fun j => some (gva G0 j)) := by rw [eF84]; exact va_up_self _ _ _
  have hfr : ∀ a ∈ L, a ≠ h → F84x a = F a := fun a h1 h2 => by rw [eF84]; exact (va_up_ne _ _ (fun e : a = q58 => nL_q58 (e ▸ h1))).trans (hfr a h1 h2)
  have hR0 : RwS y L77x F84x q5 q5w 0 R0 := ⟨ha_q5, hF_q5, ha_q5w, hF_q5w, by omega, emp_b⟩
  have hR1 : RwS y L77x F84x q12 q12w 0 R0 := ⟨ha_q12, hF_q12, ha_q12w, hF_q12w, by omega, emp_b⟩
  have hR2 : RwS y L77x F84x q19 q19w 0 R0 := ⟨ha_q19, hF_q19, ha_q19w, hF_q19w, by omega, emp_b⟩
  have hR3 : RwS y L77x F84x q26 q26w 0 R0 := ⟨ha_q26, hF_q26, ha_q26w, hF_q26w, by omega, emp_b⟩
  have hR4 : RwS y L77x F84x q37 q37w 0 R0 := ⟨ha_q37, hF_q37, ha_q37w, hF_q37w, by omega, emp_b⟩
  have hR5 : RwS y L77x F84x q44 q44w 0 R0 := ⟨ha_q44, hF_q44, ha_q44w, hF_q44w, by omega, emp_b⟩
  have hR6 : RwS y L77x F84x q51 q51w 0 R0 := ⟨ha_q51, hF_q51, ha_q51w, hF_q51w, by omega, emp_b⟩
  have inj : ∀ i j, i < 7 → j < 7 → (grh G0 i = grh G0 j ∨ grw G0 i = grw G0 j) → i = j := by
    intro i j hi hj e
    rcases (show i = 0 ∨ i = 1 ∨ i = 2 ∨ i = 3 ∨ i = 4 ∨ i = 5 ∨ i = 6 by omega) with rfl | rfl | rfl | rfl | rfl | rfl | rfl
    · rcases (show j = 0 ∨ j = 1 ∨ j = 2 ∨ j = 3 ∨ j = 4 ∨ j = 5 ∨ j = 6 by omega) with rfl | rfl | rfl | rfl | rfl | rfl | rfl
      · rfl
      · exact e.elim (fun z => absurd z n_q5_q12) (fun z => absurd z n_q5w_q12w)
      · exact e.elim (fun z => absurd z n_q5_q19) (fun z => absurd z n_q5w_q19w)
      · exact e.elim (fun z => absurd z n_q5_q26) (fun z => absurd z n_q5w_q26w)
      · exact e.elim (fun z => absurd z n_q5_q37) (fun z => absurd z n_q5w_q37w)
      · exact e.elim (fun z => absurd z n_q5_q44) (fun z => absurd z n_q5w_q44w)
      · exact e.elim (fun z => absurd z n_q5_q51) (fun z => absurd z n_q5w_q51w)
    · rcases (show j = 0 ∨ j = 1 ∨ j = 2 ∨ j = 3 ∨ j = 4 ∨ j = 5 ∨ j = 6 by omega) with rfl | rfl | rfl | rfl | rfl | rfl | rfl
      · exact e.elim (fun z => absurd z n_q5_q12.symm) (fun z => absurd z n_q5w_q12w.symm)
      · rfl
      · exact e.elim (fun z => absurd z n_q12_q19) (fun z => absurd z n_q12w_q19w)
      · exact e.elim (fun z => absurd z n_q12_q26) (fun z => absurd z n_q12w_q26w)
      · exact e.elim (fun z => absurd z n_q12_q37) (fun z => absurd z n_q12w_q37w)
      · exact e.elim (fun z => absurd z n_q12_q44) (fun z => absurd z n_q12w_q44w)
      · exact e.elim (fun z => absurd z n_q12_q51) (fun z => absurd z n_q12w_q51w)
    · rcases (show j = 0 ∨ j = 1 ∨ j = 2 ∨ j = 3 ∨ j = 4 ∨ j = 5 ∨ j = 6 by omega) with rfl | rfl | rfl | rfl | rfl | rfl | rfl
      · exact e.elim (fun z => absurd z n_q5_q19.symm) (fun z => absurd z n_q5w_q19w.symm)
      · exact e.elim (fun z => absurd z n_q12_q19.symm) (fun z => absurd z n_q12w_q19w.symm)
      · rfl
      · exact e.elim (fun z => absurd z n_q19_q26) (fun z => absurd z n_q19w_q26w)
      · exact e.elim (fun z => absurd z n_q19_q37) (fun z => absurd z n_q19w_q37w)
      · exact e.elim (fun z => absurd z n_q19_q44) (fun z => absurd z n_q19w_q44w)
      · exact e.elim (fun z => absurd z n_q19_q51) (fun z => absurd z n_q19w_q51w)
    · rcases (show j = 0 ∨ j = 1 ∨ j = 2 ∨ j = 3 ∨ j = 4 ∨ j = 5 ∨ j = 6 by omega) with rfl | rfl | rfl | rfl | rfl | rfl | rfl
      · exact e.elim (fun z => absurd z n_q5_q26.symm) (fun z => absurd z n_q5w_q26w.symm)
      · exact e.elim (fun z => absurd z n_q12_q26.symm) (fun z => absurd z n_q12w_q26w.symm)
      · exact e.elim (fun z => absurd z n_q19_q26.symm) (fun z => absurd z n_q19w_q26w.symm)
      · rfl
      · exact e.elim (fun z => absurd z n_q26_q37) (fun z => absurd z n_q26w_q37w)
      · exact e.elim (fun z => absurd z n_q26_q44) (fun z => absurd z n_q26w_q44w)
      · exact e.elim (fun z => absurd z n_q26_q51) (fun z => absurd z n_q26w_q51w)
    · rcases (show j = 0 ∨ j = 1 ∨ j = 2 ∨ j = 3 ∨ j = 4 ∨ j = 5 ∨ j = 6 by omega) with rfl | rfl | rfl | rfl | rfl | rfl | rfl
      · exact e.elim (fun z => absurd z n_q5_q37.symm) (fun z => absurd z n_q5w_q37w.symm)
      · exact e.elim (fun z => absurd z n_q12_q37.symm) (fun z => absurd z n_q12w_q37w.symm)
      · exact e.elim (fun z => absurd z n_q19_q37.symm) (fun z => absurd z n_q19w_q37w.symm)
      · exact e.elim (fun z => absurd z n_q26_q37.symm) (fun z => absurd z n_q26w_q37w.symm)
      · rfl
      · exact e.elim (fun z => absurd z n_q37_q44) (fun z => absurd z n_q37w_q44w)
      · exact e.elim (fun z => absurd z n_q37_q51) (fun z => absurd z n_q37w_q51w)
    · rcases (show j = 0 ∨ j = 1 ∨ j = 2 ∨ j = 3 ∨ j = 4 ∨ j = 5 ∨ j = 6 by omega) with rfl | rfl | rfl | rfl | rfl | rfl | rfl
      · exact e.elim (fun z => absurd z n_q5_q44.symm) (fun z => absurd z n_q5w_q44w.symm)
      · exact e.elim (fun z => absurd z n_q12_q44.symm) (fun z => absurd z n_q12w_q44w.symm)
      · exact e.elim (fun z => absurd z n_q19_q44.symm) (fun z => absurd z n_q19w_q44w.symm)
      · exact e.elim (fun z => absurd z n_q26_q44.symm) (fun z => absurd z n_q26w_q44w.symm)
      · exact e.elim (fun z => absurd z n_q37_q44.symm) (fun z => absurd z n_q37w_q44w.symm)
      · rfl
      · exact e.elim (fun z => absurd z n_q44_q51) (fun z => absurd z n_q44w_q51w)
    · rcases (show j = 0 ∨ j = 1 ∨ j = 2 ∨ j = 3 ∨ j = 4 ∨ j = 5 ∨ j = 6 by omega) with rfl | rfl | rfl | rfl | rfl | rfl | rfl
      · exact e.elim (fun z => absurd z n_q5_q51.symm) (fun z => absurd z n_q5w_q51w.symm)
      · exact e.elim (fun z => absurd z n_q12_q51.symm) (fun z => absurd z n_q12w_q51w.symm)
      · exact e.elim (fun z => absurd z n_q19_q51.symm) (fun z => absurd z n_q19w_q51w.symm)
      · exact e.elim (fun z => absurd z n_q26_q51.symm) (fun z => absurd z n_q26w_q51w.symm)
      · exact e.elim (fun z => absurd z n_q37_q51.symm) (fun z => absurd z n_q37w_q51w.symm)
      · exact e.elim (fun z => absurd z n_q44_q51.symm) (fun z => absurd z n_q44w_q51w.symm)
      · rfl
  have hC : CP y L77x F84x (fun a => a = h ∨ a ∉ L) G0 kS_init := by
    refine ⟨⟨ha_h, hF_h⟩, ⟨ha_q1, hF_q1⟩, ⟨ha_q33, hF_q33⟩, ⟨ha_q58, hF_q58⟩, fun i h0 h1 => ?_, ⟨ha_q76, hF_q76⟩, fun i hi => ?_, ⟨n_q62_q69, inj⟩, Or.inl rfl, Or.inr nL_q1, Or.inr nL_q33, Or.inr nL_q58, Or.inr nL_q76, fun i h0 h1 => ?_, fun i hi => ?_⟩
    · rcases (show i = 0 ∨ i = 1 by omega) with rfl | rfl
      · exact ⟨ha_q62, hF_q62⟩
      · exact ⟨ha_q69, hF_q69⟩
    · have hi : i < 7 := hi
      rcases (show i = 0 ∨ i = 1 ∨ i = 2 ∨ i = 3 ∨ i = 4 ∨ i = 5 ∨ i = 6 by omega) with rfl | rfl | rfl | rfl | rfl | rfl | rfl
      · exact hR0
      · exact hR1
      · exact hR2
      · exact hR3
      · exact hR4
      · exact hR5
      · exact hR6
    · rcases (show i = 0 ∨ i = 1 by omega) with rfl | rfl
      · exact Or.inr nL_q62
      · exact Or.inr nL_q69
    · have hi : i < 7 := hi
      rcases (show i = 0 ∨ i = 1 ∨ i = 2 ∨ i = 3 ∨ i = 4 ∨ i = 5 ∨ i = 6 by omega) with rfl | rfl | rfl | rfl | rfl | rfl | rfl
      · exact ⟨Or.inr nL_q5, Or.inr nL_q5w⟩
      · exact ⟨Or.inr nL_q12, Or.inr nL_q12w⟩
      · exact ⟨Or.inr nL_q19, Or.inr nL_q19w⟩
      · exact ⟨Or.inr nL_q26, Or.inr nL_q26w⟩
      · exact ⟨Or.inr nL_q37, Or.inr nL_q37w⟩
      · exact ⟨Or.inr nL_q44, Or.inr nL_q44w⟩
      · exact ⟨Or.inr nL_q51, Or.inr nL_q51w⟩
  exact q_retMv C0 hret hlk dX3_init_125 hP hD hS (⟨_, G0, hC, rfl, hLs, hfr, fun a z => z⟩)
