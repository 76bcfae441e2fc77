set_option maxHeartbeats 800000 in
set_option maxRecDepth 100000 in
theorem c_X6_init (l : Launch) (D : va_G) (y : Nat → ClassId) (L : List Nat) (F : Nat → va_E) (sz : Nat) (h : Nat) (ha_h : h ∈ L) (hF_h : F h = .inr (8, [.null, .null, .null, .null, .null, .null, .int (iI 0), .int (iI 0), .int (iI 0), .null, .int (iI 0)])) : Met l yX6_init (.code yX6_init cX6_init 2 none :: Tt) ({ frames := 2, cells := 20, slots := 731, locals := 34 }) (PcM D y L F sz [.ref h]) (cMv D (AL L sz) (fun _ L1 F1 => ∃ (O1 : Nat → Prop) (G1 : MG), MP y L1 F1 O1 G1 jS_init ∧ ubg G1 = h ∧ (∀ a ∈ L, a ∈ L1) ∧ (∀ a ∈ L, a ≠ h → F1 a = F a) ∧ ∀ a, O1 a → a = h ∨ a ∉ L)) 20 731 (AL L sz) := by
  have hfr : ∀ a ∈ L, a ≠ h → F a = F a := fun _ _ _ => rfl
  have hLs : ∀ a ∈ L, a ∈ L := fun _ z => z
  refine q_ofM (lv := [(0, .ref h)]) (by decide) (Nat.le_of_ble_eq_true rfl) rfl (fun p e s m below meth c C0 hret hlk hnm hA hP hD hS ls hl => ?_)
  have hx := C0.1.1
  have hb := C0.1.2.1
  have hts := C0.1.2.2.2.2
  refine lv_aload_n hx hb dX6_init_0 rfl (lv_at hl 0 rfl) ?_
  refine W.objInit hx hb C0.1.2.2.2.1 (hts (.methodLink RX6 3 objectInit) (List.mem_cons_of_mem _ mlX6_3)) (hts (.instanceMethod objectInit) (List.mem_cons_of_mem _ imObj)) (hts _ (List.mem_cons_of_mem _ cdObj)) rfl (by rw [C0.1.2.2.1]; exact hl.1) rfl dX6_init_1 (Nat.le_of_ble_eq_true rfl) (Nat.le_of_ble_eq_true rfl) ?_
  refine W.eq (g2 := F0 m 4 ls []) rfl ?_
  refine lv_aload_n hx hb dX6_init_4 rfl (lv_at hl 0 rfl) ?_
  refine q_iconst hx hb dX6_init_5 ?_
  refine q_newq C0 (t := 3) klX6_9 C0.2.2.2.2.1 rfl hP hD hS hA (N := 4) rfl (Nat.le_of_ble_eq_true rfl) (Nat.le_of_ble_eq_true rfl) (Nat.le_of_ble_eq_true rfl) dX6_init_6 (fun q1 H h0q1 hP hD hS => ?_)
  refine W.widen (k := 1) (n := 4) (Nat.le_of_ble_eq_true rfl) (Nat.le_of_ble_eq_true rfl) ?_
  have n_h_q1 : h ≠ q1 := fun e => h0q1 (e ▸ ha_h)
  have nL_q1 : q1 ∉ L := fun z => h0q1 (hLs _ z)
  obtain ⟨L2x, eLL2x⟩ : ∃ z, z = L ++ [q1] := ⟨_, rfl⟩
  obtain ⟨F2x, eFL2x⟩ : ∃ z, z = va_up F q1 (arrQ (y 3) 4 (fun _ => none)) := ⟨_, rfl⟩
  have hP : va_P D vwCl (va_pl L2x F2x) H := by rw [eLL2x, eFL2x]; exact hP
  have hD : va_D (AL L sz) (va_pl L2x F2x) := by rw [eLL2x, eFL2x]; exact hD
  have hF_h : F2x h = .inr (8, [.null, .null, .null, .null, .null, .null, .int (iI 0), .int (iI 0), .int (iI 0), .null, .int (iI 0)]) := by rw [eFL2x]; exact (va_up_ne _ _ n_h_q1).trans hF_h
  have ha_h : h ∈ L2x := by rw [eLL2x]; exact List.mem_append_left _ ha_h
  have hfr : ∀ a ∈ L, a ≠ h → F2x a = F a := fun a h1 h2 => by rw [eFL2x]; exact (va_up_ne _ _ (fun e : a = q1 => nL_q1 (e ▸ h1))).trans (hfr a h1 h2)
  have hLs : ∀ a ∈ L, a ∈ L2x := fun a h1 => by rw [eLL2x]; exact List.mem_append_left _ (hLs a h1)
  have hF_q1 : F2x q1 = arrQ (y 3) 4 (fun _ => none) := by rw [eFL2x]; exact va_up_self _ _ _
  have ha_q1 : q1 ∈ L2x := by rw [eLL2x]; exact List.mem_append_right _ List.mem_cons_self
  refine q_putF C0 iX6 tyX6 tyX6_ok nmX6 hP hD hS ha_h hF_h rfl 0 (by decide) flX6_11 rfl rfl hnm rfl rfl rfl (Nat.le_of_ble_eq_true rfl) dX6_init_9 (fun H locs hP hD hS => ?_)
  obtain ⟨F3x, eF3⟩ : ∃ z, z = va_up F2x h (.inr (8, [.ref q1, .null, .null, .null, .null, .null, .int (iI 0), .int (iI 0), .int (iI 0), .null, .int (iI 0)])) := ⟨_, rfl⟩
  have hP : va_P D vwCl (va_pl L2x F3x) H := by rw [eF3]; exact hP
  have hD : va_D (AL L sz) (va_pl L2x F3x) := by rw [eF3]; exact hD
  have hF_q1 : F3x q1 = arrQ (y 3) 4 (fun _ => none) := by rw [eF3]; exact (va_up_ne _ _ n_h_q1.symm).trans hF_q1
  have hF_h : F3x h = .inr (8, [.ref q1, .null, .null, .null, .null, .null, .int (iI 0), .int (iI 0), .int (iI 0), .null, .int (iI 0)]) := by rw [eF3]; exact va_up_self _ _ _
  have hfr : ∀ a ∈ L, a ≠ h → F3x a = F a := fun a h1 h2 => by rw [eF3]; exact (va_up_ne _ _ h2).trans (hfr a h1 h2)
  refine lv_aload_n hx hb dX6_init_12 rfl (lv_at hl 0 rfl) ?_
  refine q_iconst hx hb dX6_init_13 ?_
  refine q_newq C0 (t := 3) klX6_9 C0.2.2.2.2.1 rfl hP hD hS hA (N := 3) rfl (Nat.le_of_ble_eq_true rfl) (Nat.le_of_ble_eq_true rfl) (Nat.le_of_ble_eq_true rfl) dX6_init_14 (fun q4 H h0q4 hP hD hS => ?_)
  refine W.widen (k := 2) (n := 7) (Nat.le_of_ble_eq_true rfl) (Nat.le_of_ble_eq_true rfl) ?_
  have n_h_q4 : h ≠ q4 := fun e => h0q4 (e ▸ ha_h)
  have n_q1_q4 : q1 ≠ q4 := fun e => h0q4 (e ▸ ha_q1)
  have nL_q4 : q4 ∉ L := fun z => h0q4 (hLs _ z)
  obtain ⟨L5x, eLL5x⟩ : ∃ z, z = L2x ++ [q4] := ⟨_, rfl⟩
  obtain ⟨F5x, eFL5x⟩ : ∃ z, z = va_up F3x q4 (arrQ (y 3) 3 (fun _ => none)) := ⟨_, rfl⟩
  have hP : va_P D vwCl (va_pl L5x F5x) H := by rw [eLL5x, eFL5x]; exact hP
  have hD : va_D (AL L sz) (va_pl L5x F5x) := by rw [eLL5x, eFL5x]; exact hD
  have hF_h : F5x h = .inr (8, [.ref q1, .null, .null, .null, .null, .null, .int (iI 0), .int (iI 0), .int (iI 0), .null, .int (iI 0)]) := by rw [eFL5x]; exact (va_up_ne _ _ n_h_q4).trans hF_h
  have ha_h : h ∈ L5x := by rw [eLL5x]; exact List.mem_append_left _ ha_h
  have hF_q1 : F5x q1 = arrQ (y 3) 4 (fun _ => none) := by rw [eFL5x]; exact (va_up_ne _ _ n_q1_q4).trans hF_q1
  have ha_q1 : q1 ∈ L5x := by rw [eLL5x]; exact List.mem_append_left _ ha_q1
  have hfr : ∀ a ∈ L, a ≠ h → F5x a = F a := fun a h1 h2 => by rw [eFL5x]; exact (va_up_ne _ _ (fun e : a = q4 => nL_q4 (e ▸ h1))).trans (hfr a h1 h2)
  have hLs : ∀ a ∈ L, a ∈ L5x := fun a h1 => by rw [eLL5x]; exact List.mem_append_left _ (hLs a h1)
  have hF_q4 : F5x q4 = arrQ (y 3) 3 (fun _ => none) := by rw [eFL5x]; exact va_up_self _ _ _
  have ha_q4 : q4 ∈ L5x := by rw [eLL5x]; exact List.mem_append_right _ List.mem_cons_self
  refine q_putF C0 iX6 tyX6 tyX6_ok nmX6 hP hD hS ha_h hF_h rfl 1 (by decide) flX6_15 rfl rfl hnm rfl rfl rfl (Nat.le_of_ble_eq_true rfl) dX6_init_17 (fun H locs hP hD hS => ?_)
  obtain ⟨F6x, eF6⟩ : ∃ z, z = va_up F5x h (.inr (8, [.ref q1, .ref q4, .null, .null, .null, .null, .int (iI 0), .int (iI 0), .int (iI 0), .null, .int (iI 0)])) := ⟨_, rfl⟩
  have hP : va_P D vwCl (va_pl L5x F6x) H := by rw [eF6]; exact hP
  have hD : va_D (AL L sz) (va_pl L5x F6x) := by rw [eF6]; exact hD
  have hF_q1 : F6x q1 = arrQ (y 3) 4 (fun _ => none) := by rw [eF6]; exact (va_up_ne _ _ n_h_q1.symm).trans hF_q1
  have hF_q4 : F6x q4 = arrQ (y 3) 3 (fun _ => none) := by rw [eF6]; exact (va_up_ne _ _ n_h_q4.symm).trans hF_q4
  have hF_h : F6x h = .inr (8, [.ref q1, .ref q4, .null, .null, .null, .null, .int (iI 0), .int (iI 0), .int (iI 0), .null, .int (iI 0)]) := by rw [eF6]; exact va_up_self _ _ _
  have hfr : ∀ a ∈ L, a ≠ h → F6x a = F a := fun a h1 h2 => by rw [eF6]; exact (va_up_ne _ _ h2).trans (hfr a h1 h2)
  refine lv_aload_n hx hb dX6_init_20 rfl (lv_at hl 0 rfl) ?_
  refine q_iconst hx hb dX6_init_21 ?_
  refine q_newq C0 (t := 3) klX6_9 C0.2.2.2.2.1 rfl hP hD hS hA (N := 2) rfl (Nat.le_of_ble_eq_true rfl) (Nat.le_of_ble_eq_true rfl) (Nat.le_of_ble_eq_true rfl) dX6_init_22 (fun q7 H h0q7 hP hD hS => ?_)
  refine W.widen (k := 3) (n := 9) (Nat.le_of_ble_eq_true rfl) (Nat.le_of_ble_eq_true rfl) ?_
  have n_h_q7 : h ≠ q7 := fun e => h0q7 (e ▸ ha_h)
  have n_q1_q7 : q1 ≠ q7 := fun e => h0q7 (e ▸ ha_q1)
  have n_q4_q7 : q4 ≠ q7 := fun e => h0q7 (e ▸ ha_q4)
  have nL_q7 : q7 ∉ L := fun z => h0q7 (hLs _ z)
  obtain ⟨L8x, eLL8x⟩ : ∃ z, z = L5x ++ [q7] := ⟨_, rfl⟩
  obtain ⟨F8x, eFL8x⟩ : ∃ z, z = va_up F6x q7 (arrQ (y 3) 2 (fun _ => none)) := ⟨_, rfl⟩
  have hP : va_P D vwCl (va_pl L8x F8x) H := by rw [eLL8x, eFL8x]; exact hP
  have hD : va_D (AL L sz) (va_pl L8x F8x) := by rw [eLL8x, eFL8x]; exact hD
  have hF_h : F8x h = .inr (8, [.ref q1, .ref q4, .null, .null, .null, .null, .int (iI 0), .int (iI 0), .int (iI 0), .null, .int (iI 0)]) := by rw [eFL8x]; exact (va_up_ne _ _ n_h_q7).trans hF_h
  have ha_h : h ∈ L8x := by rw [eLL8x]; exact List.mem_append_left _ ha_h
  have hF_q1 : F8x q1 = arrQ (y 3) 4 (fun _ => none) := by rw [eFL8x]; exact (va_up_ne _ _ n_q1_q7).trans hF_q1
  have ha_q1 : q1 ∈ L8x := by rw [eLL8x]; exact List.mem_append_left _ ha_q1
  have hF_q4 : F8x q4 = arrQ (y 3) 3 (fun _ => none) := by rw [eFL8x]; exact (va_up_ne _ _ n_q4_q7).trans hF_q4
  have ha_q4 : q4 ∈ L8x := by rw [eLL8x]; exact List.mem_append_left _ ha_q4
  have hfr : ∀ a ∈ L, a ≠ h → F8x a = F a := fun a h1 h2 => by rw [eFL8x]; exact (va_up_ne _ _ (fun e : a = q7 => nL_q7 (e ▸ h1))).trans (hfr a h1 h2)
  have hLs : ∀ a ∈ L, a ∈ L8x := fun a h1 => by rw [eLL8x]; exact List.mem_append_left _ (hLs a h1)
  have hF_q7 : F8x q7 = arrQ (y 3) 2 (fun _ => none) := by rw [eFL8x]; exact va_up_self _ _ _
  have ha_q7 : q7 ∈ L8x := by rw [eLL8x]; exact List.mem_append_right _ List.mem_cons_self
  refine q_putF C0 iX6 tyX6 tyX6_ok nmX6 hP hD hS ha_h hF_h rfl 2 (by decide) flX6_18 rfl rfl hnm rfl rfl rfl (Nat.le_of_ble_eq_true rfl) dX6_init_25 (fun H locs hP hD hS => ?_)
  obtain ⟨F9x, eF9⟩ : ∃ z, z = va_up F8x h (.inr (8, [.ref q1, .ref q4, .ref q7, .null, .null, .null, .int (iI 0), .int (iI 0), .int (iI 0), .null, .int (iI 0)])) := ⟨_, rfl⟩
  have hP : va_P D vwCl (va_pl L8x F9x) H := by rw [eF9]; exact hP
  have hD : va_D (AL L sz) (va_pl L8x F9x) := by rw [eF9]; exact hD
  have hF_q1 : F9x q1 = arrQ (y 3) 4 (fun _ => none) := by rw [eF9]; exact (va_up_ne _ _ n_h_q1.symm).trans hF_q1
  have hF_q4 : F9x q4 = arrQ (y 3) 3 (fun _ => none) := by rw [eF9]; exact (va_up_ne _ _ n_h_q4.symm).trans hF_q4
  have hF_q7 : F9x q7 = arrQ (y 3) 2 (fun _ => none) := by rw [eF9]; exact (va_up_ne _ _ n_h_q7.symm).trans hF_q7
  have hF_h : F9x h = .inr (8, [.ref q1, .ref q4, .ref q7, .null, .null, .null, .int (iI 0), .int (iI 0), .int (iI 0), .null, .int (iI 0)]) := by rw [eF9]; exact va_up_self _ _ _
  have hfr : ∀ a ∈ L, a ≠ h → F9x a = F a := fun a h1 h2 => by rw [eF9]; exact (va_up_ne _ _ h2).trans (hfr a h1 h2)
  refine lv_aload_n hx hb dX6_init_28 rfl (lv_at hl 0 rfl) ?_
  refine q_iconst hx hb dX6_init_29 ?_
  refine q_newi C0 hP hD hS hA (N := 2) rfl (Nat.le_of_ble_eq_true rfl) (Nat.le_of_ble_eq_true rfl) (Nat.le_of_ble_eq_true rfl) dX6_init_30 (fun q10 H h0q10 hP hD hS => ?_)
  refine W.widen (k := 4) (n := 11) (Nat.le_of_ble_eq_true rfl) (Nat.le_of_ble_eq_true rfl) ?_
  have n_h_q10 : h ≠ q10 := fun e => h0q10 (e ▸ ha_h)
  have n_q1_q10 : q1 ≠ q10 := fun e => h0q10 (e ▸ ha_q1)
  have n_q4_q10 : q4 ≠ q10 := fun e => h0q10 (e ▸ ha_q4)
  have n_q7_q10 : q7 ≠ q10 := fun e => h0q10 (e ▸ ha_q7)
  have nL_q10 : q10 ∉ L := fun z => h0q10 (hLs _ z)
  obtain ⟨L11x, eLL11x⟩ : ∃ z, z = L8x ++ [q10] := ⟨_, rfl⟩
  obtain ⟨F11x, eFL11x⟩ : ∃ z, z = va_up F9x q10 (arrI (y 0) 2 (fun _ => 0)) := ⟨_, rfl⟩
  have hP : va_P D vwCl (va_pl L11x F11x) H := by rw [eLL11x, eFL11x]; exact hP
  have hD : va_D (AL L sz) (va_pl L11x F11x) := by rw [eLL11x, eFL11x]; exact hD
  have hF_h : F11x h = .inr (8, [.ref q1, .ref q4, .ref q7, .null, .null, .null, .int (iI 0), .int (iI 0), .int (iI 0), .null, .int (iI 0)]) := by rw [eFL11x]; exact (va_up_ne _ _ n_h_q10).trans hF_h
  have ha_h : h ∈ L11x := by rw [eLL11x]; exact List.mem_append_left _ ha_h
  have hF_q1 : F11x q1 = arrQ (y 3) 4 (fun _ => none) := by rw [eFL11x]; exact (va_up_ne _ _ n_q1_q10).trans hF_q1
  have ha_q1 : q1 ∈ L11x := by rw [eLL11x]; exact List.mem_append_left _ ha_q1
  have hF_q4 : F11x q4 = arrQ (y 3) 3 (fun _ => none) := by rw [eFL11x]; exact (va_up_ne _ _ n_q4_q10).trans hF_q4
  have ha_q4 : q4 ∈ L11x := by rw [eLL11x]; exact List.mem_append_left _ ha_q4
  have hF_q7 : F11x q7 = arrQ (y 3) 2 (fun _ => none) := by rw [eFL11x]; exact (va_up_ne _ _ n_q7_q10).trans hF_q7
  have ha_q7 : q7 ∈ L11x := by rw [eLL11x]; exact List.mem_append_left _ ha_q7
  have hfr : ∀ a ∈ L, a ≠ h → F11x a = F a := fun a h1 h2 => by rw [eFL11x]; exact (va_up_ne _ _ (fun e : a = q10 => nL_q10 (e ▸ h1))).trans (hfr a h1 h2)
  have hLs : ∀ a ∈ L, a ∈ L11x := fun a h1 => by rw [eLL11x]; exact List.mem_append_left _ (hLs a h1)
  have hF_q10 : F11x q10 = arrI (y 0) 2 (fun _ => 0) := by rw [eFL11x]; exact va_up_self _ _ _
  have ha_q10 : q10 ∈ L11x := by rw [eLL11x]; exact List.mem_append_right _ List.mem_cons_self
  refine q_putF C0 iX6 tyX6 tyX6_ok nmX6 hP hD hS ha_h hF_h rfl 3 (by decide) flX6_21 rfl rfl hnm rfl rfl rfl (Nat.le_of_ble_eq_true rfl) dX6_init_32 (fun H locs hP hD hS => ?_)
  obtain ⟨F12x, eF12⟩ : ∃ z, z = va_up F11x h (.inr (8, [.ref q1, .ref q4, .ref q7, .ref q10, .null, .null, .int (iI 0), .int (iI 0), .int (iI 0), .null, .int (iI 0)])) := ⟨_, rfl⟩
  have hP : va_P D vwCl (va_pl L11x F12x) H := by rw [eF12]; exact hP
  have hD : va_D (AL L sz) (va_pl L11x F12x) := by rw [eF12]; exact hD
  have hF_q1 : F12x q1 = arrQ (y 3) 4 (fun _ => none) := by rw [eF12]; exact (va_up_ne _ _ n_h_q1.symm).trans hF_q1
  have hF_q4 : F12x q4 = arrQ (y 3) 3 (fun _ => none) := by rw [eF12]; exact (va_up_ne _ _ n_h_q4.symm).trans hF_q4
  have hF_q7 : F12x q7 = arrQ (y 3) 2 (fun _ => none) := by rw [eF12]; exact (va_up_ne _ _ n_h_q7.symm).trans hF_q7
  have hF_q10 : F12x q10 = arrI (y 0) 2 (fun _ => 0) := by rw [eF12]; exact (va_up_ne _ _ n_h_q10.symm).trans hF_q10
  have hF_h : F12x h = .inr (8, [.ref q1, .ref q4, .ref q7, .ref q10, .null, .null, .int (iI 0), .int (iI 0), .int (iI 0), .null, .int (iI 0)]) := by rw [eF12]; exact va_up_self _ _ _
  have hfr : ∀ a ∈ L, a ≠ h → F12x a = F a := fun a h1 h2 => by rw [eF12]; exact (va_up_ne _ _ h2).trans (hfr a h1 h2)
  refine lv_aload_n hx hb dX6_init_35 rfl (lv_at hl 0 rfl) ?_
  refine q_iconst hx hb dX6_init_36 ?_
  refine q_newi C0 hP hD hS hA (N := 2) rfl (Nat.le_of_ble_eq_true rfl) (Nat.le_of_ble_eq_true rfl) (Nat.le_of_ble_eq_true rfl) dX6_init_37 (fun q13 H h0q13 hP hD hS => ?_)
  refine W.widen (k := 5) (n := 13) (Nat.le_of_ble_eq_true rfl) (Nat.le_of_ble_eq_true rfl) ?_
  have n_h_q13 : h ≠ q13 := fun e => h0q13 (e ▸ ha_h)
  have n_q1_q13 : q1 ≠ q13 := fun e => h0q13 (e ▸ ha_q1)
  have n_q4_q13 : q4 ≠ q13 := fun e => h0q13 (e ▸ ha_q4)
  have n_q7_q13 : q7 ≠ q13 := fun e => h0q13 (e ▸ ha_q7)
  have n_q10_q13 : q10 ≠ q13 := fun e => h0q13 (e ▸ ha_q10)
  have nL_q13 : q13 ∉ L := fun z => h0q13 (hLs _ z)
  obtain ⟨L14x, eLL14x⟩ : ∃ z, z = L11x ++ [q13] := ⟨_, rfl⟩
  obtain ⟨F14x, eFL14x⟩ : ∃ z, z = va_up F12x q13 (arrI (y 0) 2 (fun _ => 0)) := ⟨_, rfl⟩
  have hP : va_P D vwCl (va_pl L14x F14x) H := by rw [eLL14x, eFL14x]; exact hP
  have hD : va_D (AL L sz) (va_pl L14x F14x) := by rw [eLL14x, eFL14x]; exact hD
  have hF_h : F14x h = .inr (8, [.ref q1, .ref q4, .ref q7, .ref q10, .null, .null, .int (iI 0), .int (iI 0), .int (iI 0), .null, .int (iI 0)]) := by rw [eFL14x]; exact (va_up_ne _ _ n_h_q13).trans hF_h
  have ha_h : h ∈ L14x := by rw [eLL14x]; exact List.mem_append_left _ ha_h
  have hF_q1 : F14x q1 = arrQ (y 3) 4 (fun _ => none) := by rw [eFL14x]; exact (va_up_ne _ _ n_q1_q13).trans hF_q1
  have ha_q1 : q1 ∈ L14x := by rw [eLL14x]; exact List.mem_append_left _ ha_q1
  have hF_q4 : F14x q4 = arrQ (y 3) 3 (fun _ => none) := by rw [eFL14x]; exact (va_up_ne _ _ n_q4_q13).trans hF_q4
  have ha_q4 : q4 ∈ L14x := by rw [eLL14x]; exact List.mem_append_left _ ha_q4
  have hF_q7 : F14x q7 = arrQ (y 3) 2 (fun _ => none) := by rw [eFL14x]; exact (va_up_ne _ _ n_q7_q13).trans hF_q7
  have ha_q7 : q7 ∈ L14x := by rw [eLL14x]; exact List.mem_append_left _ ha_q7
  have hF_q10 : F14x q10 = arrI (y 0) 2 (fun _ => 0) := by rw [eFL14x]; exact (va_up_ne _ _ n_q10_q13).trans hF_q10
  have ha_q10 : q10 ∈ L14x := by rw [eLL14x]; exact List.mem_append_left _ ha_q10
  have hfr : ∀ a ∈ L, a ≠ h → F14x a = F a := fun a h1 h2 => by rw [eFL14x]; exact (va_up_ne _ _ (fun e : a = q13 => nL_q13 (e ▸ h1))).trans (hfr a h1 h2)
  have hLs : ∀ a ∈ L, a ∈ L14x := fun a h1 => by rw [eLL14x]; exact List.mem_append_left _ (hLs a h1)
  have hF_q13 : F14x q13 = arrI (y 0) 2 (fun _ => 0) := by rw [eFL14x]; exact va_up_self _ _ _
  have ha_q13 : q13 ∈ L14x := by rw [eLL14x]; exact List.mem_append_right _ List.mem_cons_self
  refine lv_dup hx hb dX6_init_39 rfl ?_
  refine q_iconst hx hb dX6_init_40 ?_
  refine q_bipush hx hb dX6_init_41 (by decide) ?_
  refine q_iast C0 hP hD hS ha_q13 hF_q13 (i := 0) (v := 99) (by omega) (by decide) dX6_init_43 (fun H locs hP hD hS => ?_)
  obtain ⟨F15x, eF15⟩ : ∃ z, z = va_up F14x q13 (arrI (y 0) 2 (iu (fun _ => 0) 0 99)) := ⟨_, rfl⟩
  have hP : va_P D vwCl (va_pl L14x F15x) H := by rw [eF15]; exact hP
  have hD : va_D (AL L sz) (va_pl L14x F15x) := by rw [eF15]; exact hD
  have hF_h : F15x h = .inr (8, [.ref q1, .ref q4, .ref q7, .ref q10, .null, .null, .int (iI 0), .int (iI 0), .int (iI 0), .null, .int (iI 0)]) := by rw [eF15]; exact (va_up_ne _ _ n_h_q13).trans hF_h
  have hF_q1 : F15x q1 = arrQ (y 3) 4 (fun _ => none) := by rw [eF15]; exact (va_up_ne _ _ n_q1_q13).trans hF_q1
  have hF_q4 : F15x q4 = arrQ (y 3) 3 (fun _ => none) := by rw [eF15]; exact (va_up_ne _ _ n_q4_q13).trans hF_q4
  have hF_q7 : F15x q7 = arrQ (y 3) 2 (fun _ => none) := by rw [eF15]; exact (va_up_ne _ _ n_q7_q13).trans hF_q7
  have hF_q10 : F15x q10 = arrI (y 0) 2 (fun _ => 0) := by rw [eF15]; exact (va_up_ne _ _ n_q10_q13).trans hF_q10
  have hF_q13 : F15x q13 = arrI (y 0) 2 (iu (fun _ => 0) 0 99) := by rw [eF15]; exact va_up_self _ _ _
  have hfr : ∀ a ∈ L, a ≠ h → F15x a = F a := fun a h1 h2 => by rw [eF15]; exact (va_up_ne _ _ (fun e : a = q13 => nL_q13 (e ▸ h1))).trans (hfr a h1 h2)
  refine lv_dup hx hb dX6_init_44 rfl ?_
  refine q_iconst hx hb dX6_init_45 ?_
  refine q_bipush hx hb dX6_init_46 (by decide) ?_
  refine q_iast C0 hP hD hS ha_q13 hF_q13 (i := 1) (v := 99) (by omega) (by decide) dX6_init_48 (fun H locs hP hD hS => ?_)
  obtain ⟨F16x, eF16⟩ : ∃ z, z = va_up F15x q13 (arrI (y 0) 2 (iu (iu (fun _ => 0) 0 99) 1 99)) := ⟨_, rfl⟩
  have hP : va_P D vwCl (va_pl L14x F16x) H := by rw [eF16]; exact hP
  have hD : va_D (AL L sz) (va_pl L14x F16x) := by rw [eF16]; exact hD
  have hF_h : F16x h = .inr (8, [.ref q1, .ref q4, .ref q7, .ref q10, .null, .null, .int (iI 0), .int (iI 0), .int (iI 0), .null, .int (iI 0)]) := by rw [eF16]; exact (va_up_ne _ _ n_h_q13).trans hF_h
  have hF_q1 : F16x q1 = arrQ (y 3) 4 (fun _ => none) := by rw [eF16]; exact (va_up_ne _ _ n_q1_q13).trans hF_q1
  have hF_q4 : F16x q4 = arrQ (y 3) 3 (fun _ => none) := by rw [eF16]; exact (va_up_ne _ _ n_q4_q13).trans hF_q4
  have hF_q7 : F16x q7 = arrQ (y 3) 2 (fun _ => none) := by rw [eF16]; exact (va_up_ne _ _ n_q7_q13).trans hF_q7
  have hF_q10 : F16x q10 = arrI (y 0) 2 (fun _ => 0) := by rw [eF16]; exact (va_up_ne _ _ n_q10_q13).trans hF_q10
  have hF_q13 : F16x q13 = arrI (y 0) 2 (iu (iu (fun _ => 0) 0 99) 1 99) := by rw [eF16]; exact va_up_self _ _ _
  have hfr : ∀ a ∈ L, a ≠ h → F16x a = F a := fun a h1 h2 => by rw [eF16]; exact (va_up_ne _ _ (fun e : a = q13 => nL_q13 (e ▸ h1))).trans (hfr a h1 h2)
  refine q_putF C0 iX6 tyX6 tyX6_ok nmX6 hP hD hS ha_h hF_h rfl 4 (by decide) flX6_25 rfl rfl hnm rfl rfl rfl (Nat.le_of_ble_eq_true rfl) dX6_init_49 (fun H locs hP hD hS => ?_)
  obtain ⟨F17x, eF17⟩ : ∃ z, z = va_up F16x h (.inr (8, [.ref q1, .ref q4, .ref q7, .ref q10, .ref q13, .null, .int (iI 0), .int (iI 0), .int (iI 0), .null, .int (iI 0)])) := ⟨_, rfl⟩
  have hP : va_P D vwCl (va_pl L14x F17x) H := by rw [eF17]; exact hP
  have hD : va_D (AL L sz) (va_pl L14x F17x) := by rw [eF17]; exact hD
  have hF_q1 : F17x q1 = arrQ (y 3) 4 (fun _ => none) := by rw [eF17]; exact (va_up_ne _ _ n_h_q1.symm).trans hF_q1
  have hF_q4 : F17x q4 = arrQ (y 3) 3 (fun _ => none) := by rw [eF17]; exact (va_up_ne _ _ n_h_q4.symm).trans hF_q4
  have hF_q7 : F17x q7 = arrQ (y 3) 2 (fun _ => none) := by rw [eF17]; exact (va_up_ne _ _ n_h_q7.symm).trans hF_q7
  have hF_q10 : F17x q10 = arrI (y 0) 2 (fun _ => 0) := by rw [eF17]; exact (va_up_ne _ _ n_h_q10.symm).trans hF_q10
  have hF_q13 : F17x q13 = arrI (y 0) 2 (iu (iu (fun _ => 0) 0 99) 1 99) := by rw [eF17]; exact (va_up_ne _ _ n_h_q13.symm).trans hF_q13
  have hF_h : F17x h = .inr (8, [.ref q1, .ref q4, .ref q7, .ref q10, .ref q13, .null, .int (iI 0), .int (iI 0), .int (iI 0), .null, .int (iI 0)]) := by rw [eF17]; exact va_up_self _ _ _
  have hfr : ∀ a ∈ L, a ≠ h → F17x a = F a := fun a h1 h2 => by rw [eF17]; exact (va_up_ne _ _ h2).trans (hfr a h1 h2)
  refine lv_aload_n hx hb dX6_init_52 rfl (lv_at hl 0 rfl) ?_
  refine q_iconst hx hb dX6_init_53 ?_
  refine q_put C0 iX6 tyX6 tyX6_ok nmX6 hP hD hS ha_h hF_h rfl 7 (by decide) flX6_28 rfl rfl rfl rfl (Nat.le_of_ble_eq_true rfl) dX6_init_54 (fun H locs hP hD hS => ?_)
  obtain ⟨F18x, eF18⟩ : ∃ z, z = va_up F17x h (.inr (8, [.ref q1, .ref q4, .ref q7, .ref q10, .ref q13, .null, .int (iI 0), .int (iI ((-1))), .int (iI 0), .null, .int (iI 0)])) := ⟨_, rfl⟩
  have hP : va_P D vwCl (va_pl L14x F18x) H := by rw [eF18]; exact hP
  have hD : va_D (AL L sz) (va_pl L14x F18x) := by rw [eF18]; exact hD
  have hF_q1 : F18x q1 = arrQ (y 3) 4 (fun _ => none) := by rw [eF18]; exact (va_up_ne _ _ n_h_q1.symm).trans hF_q1
  have hF_q4 : F18x q4 = arrQ (y 3) 3 (fun _ => none) := by rw [eF18]; exact (va_up_ne _ _ n_h_q4.symm).trans hF_q4
  have hF_q7 : F18x q7 = arrQ (y 3) 2 (fun _ => none) := by rw [eF18]; exact (va_up_ne _ _ n_h_q7.symm).trans hF_q7
  have hF_q10 : F18x q10 = arrI (y 0) 2 (fun _ => 0) := by rw [eF18]; exact (va_up_ne _ _ n_h_q10.symm).trans hF_q10
  have hF_q13 : F18x q13 = arrI (y 0) 2 (iu (iu (fun _ => 0) 0 99) 1 99) := by rw [eF18]; exact (va_up_ne _ _ n_h_q13.symm).trans hF_q13
  have hF_h : F18x h = .inr (8, [.ref q1, .ref q4, .ref q7, .ref q10, .ref q13, .null, .int (iI 0), .int (iI ((-1))), .int (iI 0), .null, .int (iI 0)]) := by rw [eF18]; exact va_up_self _ _ _
  have hfr : ∀ a ∈ L, a ≠ h → F18x a = F a := fun a h1 h2 => by rw [eF18]; exact (va_up_ne _ _ h2).trans (hfr a h1 h2)
  refine lv_aload_n hx hb dX6_init_57 rfl (lv_at hl 0 rfl) ?_
  refine q_iconst hx hb dX6_init_58 ?_
  refine q_newi C0 hP hD hS hA (N := 4) rfl (Nat.le_of_ble_eq_true rfl) (Nat.le_of_ble_eq_true rfl) (Nat.le_of_ble_eq_true rfl) dX6_init_59 (fun q19 H h0q19 hP hD hS => ?_)
  refine W.widen (k := 6) (n := 17) (Nat.le_of_ble_eq_true rfl) (Nat.le_of_ble_eq_true rfl) ?_
  have n_h_q19 : h ≠ q19 := fun e => h0q19 (e ▸ ha_h)
  have n_q1_q19 : q1 ≠ q19 := fun e => h0q19 (e ▸ ha_q1)
  have n_q4_q19 : q4 ≠ q19 := fun e => h0q19 (e ▸ ha_q4)
  have n_q7_q19 : q7 ≠ q19 := fun e => h0q19 (e ▸ ha_q7)
  have n_q10_q19 : q10 ≠ q19 := fun e => h0q19 (e ▸ ha_q10)
  have n_q13_q19 : q13 ≠ q19 := fun e => h0q19 (e ▸ ha_q13)
  have nL_q19 : q19 ∉ L := fun z => h0q19 (hLs _ z)
  obtain ⟨L20x, eLL20x⟩ : ∃ z, z = L14x ++ [q19] := ⟨_, rfl⟩
  obtain ⟨F20x, eFL20x⟩ : ∃ z, z = va_up F18x q19 (arrI (y 0) 4 (fun _ => 0)) := ⟨_, rfl⟩
  have hP : va_P D vwCl (va_pl L20x F20x) H := by rw [eLL20x, eFL20x]; exact hP
  have hD : va_D (AL L sz) (va_pl L20x F20x) := by rw [eLL20x, eFL20x]; exact hD
  have hF_h : F20x h = .inr (8, [.ref q1, .ref q4, .ref q7, .ref q10, .ref q13, .null, .int (iI 0), .int (iI ((-1))), .int (iI 0), .null, .int (iI 0)]) := by rw [eFL20x]; exact (va_up_ne _ _ n_h_q19).trans hF_h
  have ha_h : h ∈ L20x := by rw [eLL20x]; exact List.mem_append_left _ ha_h
  have hF_q1 : F20x q1 = arrQ (y 3) 4 (fun _ => none) := by rw [eFL20x]; exact (va_up_ne _ _ n_q1_q19).trans hF_q1
  have ha_q1 : q1 ∈ L20x := by rw [eLL20x]; exact List.mem_append_left _ ha_q1
  have hF_q4 : F20x q4 = arrQ (y 3) 3 (fun _ => none) := by rw [eFL20x]; exact (va_up_ne _ _ n_q4_q19).trans hF_q4
  have ha_q4 : q4 ∈ L20x := by rw [eLL20x]; exact List.mem_append_left _ ha_q4
  have hF_q7 : F20x q7 = arrQ (y 3) 2 (fun _ => none) := by rw [eFL20x]; exact (va_up_ne _ _ n_q7_q19).trans hF_q7
  have ha_q7 : q7 ∈ L20x := by rw [eLL20x]; exact List.mem_append_left _ ha_q7
  have hF_q10 : F20x q10 = arrI (y 0) 2 (fun _ => 0) := by rw [eFL20x]; exact (va_up_ne _ _ n_q10_q19).trans hF_q10
  have ha_q10 : q10 ∈ L20x := by rw [eLL20x]; exact List.mem_append_left _ ha_q10
  have hF_q13 : F20x q13 = arrI (y 0) 2 (iu (iu (fun _ => 0) 0 99) 1 99) := by rw [eFL20x]; exact (va_up_ne _ _ n_q13_q19).trans hF_q13
  have ha_q13 : q13 ∈ L20x := by rw [eLL20x]; exact List.mem_append_left _ ha_q13
  have hfr : ∀ a ∈ L, a ≠ h → F20x a = F a := fun a h1 h2 => by rw [eFL20x]; exact (va_up_ne _ _ (fun e : a = q19 => nL_q19 (e ▸ h1))).trans (hfr a h1 h2)
  have hLs : ∀ a ∈ L, a ∈ L20x := fun a h1 => by rw [eLL20x]; exact List.mem_append_left _ (hLs a h1)
  have hF_q19 : F20x q19 = arrI (y 0) 4 (fun _ => 0) := by rw [eFL20x]; exact va_up_self _ _ _
  have ha_q19 : q19 ∈ L20x := by rw [eLL20x]; exact List.mem_append_right _ List.mem_cons_self
  refine q_putF C0 iX6 tyX6 tyX6_ok nmX6 hP hD hS ha_h hF_h rfl 9 (by decide) flX6_32 rfl rfl hnm rfl rfl rfl (Nat.le_of_ble_eq_true rfl) dX6_init_61 (fun H locs hP hD hS => ?_)
  obtain ⟨F21x, eF21⟩ : ∃ z, z = va_up F20x h (.inr (8, [.ref q1, .ref q4, .ref q7, .ref q10, .ref q13, .null, .int (iI 0), .int (iI ((-1))), .int (iI 0), .ref q19, .int (iI 0)])) := ⟨_, rfl⟩
  have hP : va_P D vwCl (va_pl L20x F21x) H := by rw [eF21]; exact hP
  have hD : va_D (AL L sz) (va_pl L20x F21x) := by rw [eF21]; exact hD
  have hF_q1 : F21x q1 = arrQ (y 3) 4 (fun _ => none) := by rw [eF21]; exact (va_up_ne _ _ n_h_q1.symm).trans hF_q1
  have hF_q4 : F21x q4 = arrQ (y 3) 3 (fun _ => none) := by rw [eF21]; exact (va_up_ne _ _ n_h_q4.symm).trans hF_q4
  have hF_q7 : F21x q7 = arrQ (y 3) 2 (fun _ => none) := by rw [eF21]; exact (va_up_ne _ _ n_h_q7.symm).trans hF_q7
  have hF_q10 : F21x q10 = arrI (y 0) 2 (fun _ => 0) := by rw [eF21]; exact (va_up_ne _ _ n_h_q10.symm).trans hF_q10
  have hF_q13 : F21x q13 = arrI (y 0) 2 (iu (iu (fun _ => 0) 0 99) 1 99) := by rw [eF21]; exact (va_up_ne _ _ n_h_q13.symm).trans hF_q13
  have hF_q19 : F21x q19 = arrI (y 0) 4 (fun _ => 0) := by rw [eF21]; exact (va_up_ne _ _ n_h_q19.symm).trans hF_q19
  have hF_h : F21x h = .inr (8, [.ref q1, .ref q4, .ref q7, .ref q10, .ref q13, .null, .int (iI 0), .int (iI ((-1))), .int (iI 0), .ref q19, .int (iI 0)]) := by rw [eF21]; exact va_up_self _ _ _
  have hfr : ∀ a ∈ L, a ≠ h → F21x a = F a := fun a h1 h2 => by rw [eF21]; exact (va_up_ne _ _ h2).trans (hfr a h1 h2)
  refine q_iconst hx hb dX6_init_64 ?_
  refine lv_istore_n (lv' := [(1, .int (iI 0)), (0, .ref h)]) hx hb dX6_init_65 rfl hl (by decide) rfl (fun ls hl => ?_)
  refine lv_iload_n hx hb dX6_init_66 rfl (lv_at hl 0 rfl) ?_
  refine q_iconst hx hb dX6_init_67 ?_
  refine q_icmp_ge hx hb dX6_init_68 (tgt := 91) (by decide) (by omega) (by omega) (fun c22 => absurd c22 (by omega)) (fun c22 => ?_)
  refine lv_aload_n hx hb dX6_init_71 rfl (lv_at hl 1 rfl) ?_
  refine q_get C0 iX6 hP ha_h hF_h rfl 0 (by decide) flX6_11 rfl rfl dX6_init_72 ?_
  refine lv_iload_n hx hb dX6_init_75 rfl (lv_at hl 0 rfl) ?_
  refine q_new C0 iX5 tyX5 tyX5_ok klX6_9 insX5 iniX5 hP hD hS hA (ci := 7) rfl (fs := [.int (iI 0), .null]) (fun j hj => by rcases (show j = 0 ∨ j = 1 by omega) with rfl | rfl <;> rfl) (Nat.le_of_ble_eq_true rfl) (Nat.le_of_ble_eq_true rfl) dX6_init_76 (fun q23 H h0q23 hP hD hS => ?_)
  refine W.widen (k := 7) (n := 19) (Nat.le_of_ble_eq_true rfl) (Nat.le_of_ble_eq_true rfl) ?_
  have n_h_q23 : h ≠ q23 := fun e => h0q23 (e ▸ ha_h)
  have n_q1_q23 : q1 ≠ q23 := fun e => h0q23 (e ▸ ha_q1)
  have n_q4_q23 : q4 ≠ q23 := fun e => h0q23 (e ▸ ha_q4)
  have n_q7_q23 : q7 ≠ q23 := fun e => h0q23 (e ▸ ha_q7)
  have n_q10_q23 : q10 ≠ q23 := fun e => h0q23 (e ▸ ha_q10)
  have n_q13_q23 : q13 ≠ q23 := fun e => h0q23 (e ▸ ha_q13)
  have n_q19_q23 : q19 ≠ q23 := fun e => h0q23 (e ▸ ha_q19)
  have nL_q23 : q23 ∉ L := fun z => h0q23 (hLs _ z)
  obtain ⟨L24x, eLL24x⟩ : ∃ z, z = L20x ++ [q23] := ⟨_, rfl⟩
  obtain ⟨F24x, eFL24x⟩ : ∃ z, z = va_up F21x q23 (.inr (7, [.int (iI 0), .null])) := ⟨_, rfl⟩
  have hP : va_P D vwCl (va_pl L24x F24x) H := by rw [eLL24x, eFL24x]; exact hP
  have hD : va_D (AL L sz) (va_pl L24x F24x) := by rw [eLL24x, eFL24x]; exact hD
  have hF_h : F24x h = .inr (8, [.ref q1, .ref q4, .ref q7, .ref q10, .ref q13, .null, .int (iI 0), .int (iI ((-1))), .int (iI 0), .ref q19, .int (iI 0)]) := by rw [eFL24x]; exact (va_up_ne _ _ n_h_q23).trans hF_h
  have ha_h : h ∈ L24x := by rw [eLL24x]; exact List.mem_append_left _ ha_h
  have hF_q1 : F24x q1 = arrQ (y 3) 4 (fun _ => none) := by rw [eFL24x]; exact (va_up_ne _ _ n_q1_q23).trans hF_q1
  have ha_q1 : q1 ∈ L24x := by rw [eLL24x]; exact List.mem_append_left _ ha_q1
  have hF_q4 : F24x q4 = arrQ (y 3) 3 (fun _ => none) := by rw [eFL24x]; exact (va_up_ne _ _ n_q4_q23).trans hF_q4
  have ha_q4 : q4 ∈ L24x := by rw [eLL24x]; exact List.mem_append_left _ ha_q4
  have hF_q7 : F24x q7 = arrQ (y 3) 2 (fun _ => none) := by rw [eFL24x]; exact (va_up_ne _ _ n_q7_q23).trans hF_q7
  have ha_q7 : q7 ∈ L24x := by rw [eLL24x]; exact List.mem_append_left _ ha_q7
  have hF_q10 : F24x q10 = arrI (y 0) 2 (fun _ => 0) := by rw [eFL24x]; exact (va_up_ne _ _ n_q10_q23).trans hF_q10
  have ha_q10 : q10 ∈ L24x := by rw [eLL24x]; exact List.mem_append_left _ ha_q10
  have hF_q13 : F24x q13 = arrI (y 0) 2 (iu (iu (fun _ => 0) 0 99) 1 99) := by rw [eFL24x]; exact (va_up_ne _ _ n_q13_q23).trans hF_q13
  have ha_q13 : q13 ∈ L24x := by rw [eLL24x]; exact List.mem_append_left _ ha_q13
  have hF_q19 : F24x q19 = arrI (y 0) 4 (fun _ => 0) := by rw [eFL24x]; exact (va_up_ne _ _ n_q19_q23).trans hF_q19
  have ha_q19 : q19 ∈ L24x := by rw [eLL24x]; exact List.mem_append_left _ ha_q19
  have hfr : ∀ a ∈ L, a ≠ h → F24x a = F a := fun a h1 h2 => by rw [eFL24x]; exact (va_up_ne _ _ (fun e : a = q23 => nL_q23 (e ▸ h1))).trans (hfr a h1 h2)
  have hLs : ∀ a ∈ L, a ∈ L24x := fun a h1 => by rw [eLL24x]; exact List.mem_append_left _ (hLs a h1)
  have hF_q23 : F24x q23 = .inr (7, [.int (iI 0), .null]) := by rw [eFL24x]; exact va_up_self _ _ _
  have ha_q23 : q23 ∈ L24x := by rw [eLL24x]; exact List.mem_append_right _ List.mem_cons_self
  refine lv_dup hx hb dX6_init_79 rfl ?_
  refine q_iconst hx hb dX6_init_80 ?_
  refine q_iMv C0 lX6_35 (c_X5_init l D y L24x F24x _ q23 0 ha_q23 hF_q23 (by omega)) ⟨rfl, rfl⟩ rfl hP hD hS hA rfl hl rfl (Nat.le_of_ble_eq_true rfl) dX6_init_81 ⟨Nat.le_of_ble_eq_true rfl, Nat.le_of_ble_eq_true rfl⟩ (fun _ H locs L26 F26 hP hD hS hz26 hp26 => ?_)
  refine W.widen (k := 8) (n := 119) (Nat.le_of_ble_eq_true rfl) (Nat.le_of_ble_eq_true rfl) ?_
  obtain ⟨q23w, h0q23w, eLq23w, hRn, hfrq23w⟩ := hp26
  have n_h_q23w : h ≠ q23w := fun e => h0q23w (e ▸ ha_h)
  have n_q1_q23w : q1 ≠ q23w := fun e => h0q23w (e ▸ ha_q1)
  have n_q4_q23w : q4 ≠ q23w := fun e => h0q23w (e ▸ ha_q4)
  have n_q7_q23w : q7 ≠ q23w := fun e => h0q23w (e ▸ ha_q7)
  have n_q10_q23w : q10 ≠ q23w := fun e => h0q23w (e ▸ ha_q10)
  have n_q13_q23w : q13 ≠ q23w := fun e => h0q23w (e ▸ ha_q13)
  have n_q19_q23w : q19 ≠ q23w := fun e => h0q23w (e ▸ ha_q19)
  have n_q23_q23w : q23 ≠ q23w := fun e => h0q23w (e ▸ ha_q23)
  have nL_q23w : q23w ∉ L := fun z => h0q23w (hLs _ z)
  have hF_h : F26 h = .inr (8, [.ref q1, .ref q4, .ref q7, .ref q10, .ref q13, .null, .int (iI 0), .int (iI ((-1))), .int (iI 0), .ref q19, .int (iI 0)]) := (hfrq23w h ha_h n_h_q23).trans hF_h
  have ha_h : h ∈ L26 := by rw [eLq23w]; exact List.mem_append_left _ ha_h
  have hF_q1 : F26 q1 = arrQ (y 3) 4 (fun _ => none) := (hfrq23w q1 ha_q1 n_q1_q23).trans hF_q1
  have ha_q1 : q1 ∈ L26 := by rw [eLq23w]; exact List.mem_append_left _ ha_q1
  have hF_q4 : F26 q4 = arrQ (y 3) 3 (fun _ => none) := (hfrq23w q4 ha_q4 n_q4_q23).trans hF_q4
  have ha_q4 : q4 ∈ L26 := by rw [eLq23w]; exact List.mem_append_left _ ha_q4
  have hF_q7 : F26 q7 = arrQ (y 3) 2 (fun _ => none) := (hfrq23w q7 ha_q7 n_q7_q23).trans hF_q7
  have ha_q7 : q7 ∈ L26 := by rw [eLq23w]; exact List.mem_append_left _ ha_q7
  have hF_q10 : F26 q10 = arrI (y 0) 2 (fun _ => 0) := (hfrq23w q10 ha_q10 n_q10_q23).trans hF_q10
  have ha_q10 : q10 ∈ L26 := by rw [eLq23w]; exact List.mem_append_left _ ha_q10
  have hF_q13 : F26 q13 = arrI (y 0) 2 (iu (iu (fun _ => 0) 0 99) 1 99) := (hfrq23w q13 ha_q13 n_q13_q23).trans hF_q13
  have ha_q13 : q13 ∈ L26 := by rw [eLq23w]; exact List.mem_append_left _ ha_q13
  have hF_q19 : F26 q19 = arrI (y 0) 4 (fun _ => 0) := (hfrq23w q19 ha_q19 n_q19_q23).trans hF_q19
  have ha_q19 : q19 ∈ L26 := by rw [eLq23w]; exact List.mem_append_left _ ha_q19
  have ha_q23 : q23 ∈ L26 := by rw [eLq23w]; exact List.mem_append_left _ ha_q23
  have hfr : ∀ a ∈ L, a ≠ h → F26 a = F a := fun a h1 h2 => (hfrq23w a (hLs a h1) (fun e : a = q23 => nL_q23 (e ▸ h1))).trans (hfr a h1 h2)
  have hLs : ∀ a ∈ L, a ∈ L26 := fun a h1 => by rw [eLq23w]; exact List.mem_append_left _ (hLs a h1)
  have hF_q23 : F26 q23 = .inr (7, [.int (iI 0), .ref q23w]) := hRn.2.1
  have hF_q23w : F26 q23w = arrI (y 0) 100 (mwd 0 emp) := hRn.2.2.2.1
  have ha_q23w : q23w ∈ L26 := hRn.2.2.1
  refine q_aast C0 hP hD hS ha_q1 hF_q1 (t := 3) (r := (RX5, TX5, 2)) rfl ha_q23 hF_q23 rfl (by omega) (by decide) dX6_init_84 (fun H locs hP hD hS => ?_)
  obtain ⟨F28x, eF28⟩ : ∃ z, z = va_up F26 q1 (arrQ (y 3) 4 (iu (fun _ => none) 0 (some q23))) := ⟨_, rfl⟩
  have hP : va_P D vwCl (va_pl L26 F28x) H := by rw [eF28]; exact hP
  have hD : va_D (AL L sz) (va_pl L26 F28x) := by rw [eF28]; exact hD
  have hF_h : F28x h = .inr (8, [.ref q1, .ref q4, .ref q7, .ref q10, .ref q13, .null, .int (iI 0), .int (iI ((-1))), .int (iI 0), .ref q19, .int (iI 0)]) := by rw [eF28]; exact (va_up_ne _ _ n_h_q1).trans hF_h
  have hF_q4 : F28x q4 = arrQ (y 3) 3 (fun _ => none) := by rw [eF28]; exact (va_up_ne _ _ n_q1_q4.symm).trans hF_q4
  have hF_q7 : F28x q7 = arrQ (y 3) 2 (fun _ => none) := by rw [eF28]; exact (va_up_ne _ _ n_q1_q7.symm).trans hF_q7
  have hF_q10 : F28x q10 = arrI (y 0) 2 (fun _ => 0) := by rw [eF28]; exact (va_up_ne _ _ n_q1_q10.symm).trans hF_q10
  have hF_q13 : F28x q13 = arrI (y 0) 2 (iu (iu (fun _ => 0) 0 99) 1 99) := by rw [eF28]; exact (va_up_ne _ _ n_q1_q13.symm).trans hF_q13
  have hF_q19 : F28x q19 = arrI (y 0) 4 (fun _ => 0) := by rw [eF28]; exact (va_up_ne _ _ n_q1_q19.symm).trans hF_q19
  have hF_q23 : F28x q23 = .inr (7, [.int (iI 0), .ref q23w]) := by rw [eF28]; exact (va_up_ne _ _ n_q1_q23.symm).trans hF_q23
  have hF_q23w : F28x q23w = arrI (y 0) 100 (mwd 0 emp) := by rw [eF28]; exact (va_up_ne _ _ n_q1_q23w.symm).trans hF_q23w
  have hF_q1 : F28x q1 = arrQ (y 3) 4 (iu (fun _ => none) 0 (some q23)) := by rw [eF28]; exact va_up_self _ _ _
  have hfr : ∀ a ∈ L, a ≠ h → F28x a = F a := fun a h1 h2 => by rw [eF28]; exact (va_up_ne _ _ (fun e : a = q1 => nL_q1 (e ▸ h1))).trans (hfr a h1 h2)
  refine q_iinc (x := 0) (n := 1) (lv' := [(1, .int (iI 1)), (0, .ref h)]) hx hb dX6_init_85 hl (k := 0) rfl (by decide) rfl (fun ls hl => ?_)
  refine lv_goto (tgt := 66) hx hb dX6_init_88 (by decide) ?_
  refine lv_iload_n hx hb dX6_init_66 rfl (lv_at hl 0 rfl) ?_
  refine q_iconst hx hb dX6_init_67 ?_
  refine q_icmp_ge hx hb dX6_init_68 (tgt := 91) (by decide) (by omega) (by omega) (fun c29 => absurd c29 (by omega)) (fun c29 => ?_)
  refine lv_aload_n hx hb dX6_init_71 rfl (lv_at hl 1 rfl) ?_
  refine q_get C0 iX6 hP ha_h hF_h rfl 0 (by decide) flX6_11 rfl rfl dX6_init_72 ?_
  refine lv_iload_n hx hb dX6_init_75 rfl (lv_at hl 0 rfl) ?_
  refine q_new C0 iX5 tyX5 tyX5_ok klX6_9 insX5 iniX5 hP hD hS hA (ci := 7) rfl (fs := [.int (iI 0), .null]) (fun j hj => by rcases (show j = 0 ∨ j = 1 by omega) with rfl | rfl <;> rfl) (Nat.le_of_ble_eq_true rfl) (Nat.le_of_ble_eq_true rfl) dX6_init_76 (fun q30 H h0q30 hP hD hS => ?_)
  refine W.widen (k := 9) (n := 121) (Nat.le_of_ble_eq_true rfl) (Nat.le_of_ble_eq_true rfl) ?_
  have n_h_q30 : h ≠ q30 := fun e => h0q30 (e ▸ ha_h)
  have n_q1_q30 : q1 ≠ q30 := fun e => h0q30 (e ▸ ha_q1)
  have n_q4_q30 : q4 ≠ q30 := fun e => h0q30 (e ▸ ha_q4)
  have n_q7_q30 : q7 ≠ q30 := fun e => h0q30 (e ▸ ha_q7)
  have n_q10_q30 : q10 ≠ q30 := fun e => h0q30 (e ▸ ha_q10)
  have n_q13_q30 : q13 ≠ q30 := fun e => h0q30 (e ▸ ha_q13)
  have n_q19_q30 : q19 ≠ q30 := fun e => h0q30 (e ▸ ha_q19)
  have n_q23_q30 : q23 ≠ q30 := fun e => h0q30 (e ▸ ha_q23)
  have n_q23w_q30 : q23w ≠ q30 := fun e => h0q30 (e ▸ ha_q23w)
  have nL_q30 : q30 ∉ L := fun z => h0q30 (hLs _ z)
  obtain ⟨L31x, eLL31x⟩ : ∃ z, z = L26 ++ [q30] := ⟨_, rfl⟩
  obtain ⟨F31x, eFL31x⟩ : ∃ z, z = va_up F28x q30 (.inr (7, [.int (iI 0), .null])) := ⟨_, rfl⟩
  have hP : va_P D vwCl (va_pl L31x F31x) H := by rw [eLL31x, eFL31x]; exact hP
  have hD : va_D (AL L sz) (va_pl L31x F31x) := by rw [eLL31x, eFL31x]; exact hD
  have hF_h : F31x h = .inr (8, [.ref q1, .ref q4, .ref q7, .ref q10, .ref q13, .null, .int (iI 0), .int (iI ((-1))), .int (iI 0), .ref q19, .int (iI 0)]) := by rw [eFL31x]; exact (va_up_ne _ _ n_h_q30).trans hF_h
  have ha_h : h ∈ L31x := by rw [eLL31x]; exact List.mem_append_left _ ha_h
  have hF_q1 : F31x q1 = arrQ (y 3) 4 (iu (fun _ => none) 0 (some q23)) := by rw [eFL31x]; exact (va_up_ne _ _ n_q1_q30).trans hF_q1
  have ha_q1 : q1 ∈ L31x := by rw [eLL31x]; exact List.mem_append_left _ ha_q1
  have hF_q4 : F31x q4 = arrQ (y 3) 3 (fun _ => none) := by rw [eFL31x]; exact (va_up_ne _ _ n_q4_q30).trans hF_q4
  have ha_q4 : q4 ∈ L31x := by rw [eLL31x]; exact List.mem_append_left _ ha_q4
  have hF_q7 : F31x q7 = arrQ (y 3) 2 (fun _ => none) := by rw [eFL31x]; exact (va_up_ne _ _ n_q7_q30).trans hF_q7
  have ha_q7 : q7 ∈ L31x := by rw [eLL31x]; exact List.mem_append_left _ ha_q7
  have hF_q10 : F31x q10 = arrI (y 0) 2 (fun _ => 0) := by rw [eFL31x]; exact (va_up_ne _ _ n_q10_q30).trans hF_q10
  have ha_q10 : q10 ∈ L31x := by rw [eLL31x]; exact List.mem_append_left _ ha_q10
  have hF_q13 : F31x q13 = arrI (y 0) 2 (iu (iu (fun _ => 0) 0 99) 1 99) := by rw [eFL31x]; exact (va_up_ne _ _ n_q13_q30).trans hF_q13
  have ha_q13 : q13 ∈ L31x := by rw [eLL31x]; exact List.mem_append_left _ ha_q13
  have hF_q19 : F31x q19 = arrI (y 0) 4 (fun _ => 0) := by rw [eFL31x]; exact (va_up_ne _ _ n_q19_q30).trans hF_q19
  have ha_q19 : q19 ∈ L31x := by rw [eLL31x]; exact List.mem_append_left _ ha_q19
  have hF_q23 : F31x q23 = .inr (7, [.int (iI 0), .ref q23w]) := by rw [eFL31x]; exact (va_up_ne _ _ n_q23_q30).trans hF_q23
  have ha_q23 : q23 ∈ L31x := by rw [eLL31x]; exact List.mem_append_left _ ha_q23
  have hF_q23w : F31x q23w = arrI (y 0) 100 (mwd 0 emp) := by rw [eFL31x]; exact (va_up_ne _ _ n_q23w_q30).trans hF_q23w
  have ha_q23w : q23w ∈ L31x := by rw [eLL31x]; exact List.mem_append_left _ ha_q23w
  have hfr : ∀ a ∈ L, a ≠ h → F31x a = F a := fun a h1 h2 => by rw [eFL31x]; exact (va_up_ne _ _ (fun e : a = q30 => nL_q30 (e ▸ h1))).trans (hfr a h1 h2)
  have hLs : ∀ a ∈ L, a ∈ L31x := fun a h1 => by rw [eLL31x]; exact List.mem_append_left _ (hLs a h1)
  have hF_q30 : F31x q30 = .inr (7, [.int (iI 0), .null]) := by rw [eFL31x]; exact va_up_self _ _ _
  have ha_q30 : q30 ∈ L31x := by rw [eLL31x]; exact List.mem_append_right _ List.mem_cons_self
  refine lv_dup hx hb dX6_init_79 rfl ?_
  refine q_iconst hx hb dX6_init_80 ?_
  refine q_iMv C0 lX6_35 (c_X5_init l D y L31x F31x _ q30 0 ha_q30 hF_q30 (by omega)) ⟨rfl, rfl⟩ rfl hP hD hS hA rfl hl rfl (Nat.le_of_ble_eq_true rfl) dX6_init_81 ⟨Nat.le_of_ble_eq_true rfl, Nat.le_of_ble_eq_true rfl⟩ (fun _ H locs L33 F33 hP hD hS hz33 hp33 => ?_)
  refine W.widen (k := 10) (n := 221) (Nat.le_of_ble_eq_true rfl) (Nat.le_of_ble_eq_true rfl) ?_
  obtain ⟨q30w, h0q30w, eLq30w, hRn, hfrq30w⟩ := hp33
  have n_h_q30w : h ≠ q30w := fun e => h0q30w (e ▸ ha_h)
  have n_q1_q30w : q1 ≠ q30w := fun e => h0q30w (e ▸ ha_q1)
  have n_q4_q30w : q4 ≠ q30w := fun e => h0q30w (e ▸ ha_q4)
  have n_q7_q30w : q7 ≠ q30w := fun e => h0q30w (e ▸ ha_q7)
  have n_q10_q30w : q10 ≠ q30w := fun e => h0q30w (e ▸ ha_q10)
  have n_q13_q30w : q13 ≠ q30w := fun e => h0q30w (e ▸ ha_q13)
  have n_q19_q30w : q19 ≠ q30w := fun e => h0q30w (e ▸ ha_q19)
  have n_q23_q30w : q23 ≠ q30w := fun e => h0q30w (e ▸ ha_q23)
  have n_q23w_q30w : q23w ≠ q30w := fun e => h0q30w (e ▸ ha_q23w)
  have n_q30_q30w : q30 ≠ q30w := fun e => h0q30w (e ▸ ha_q30)
  have nL_q30w : q30w ∉ L := fun z => h0q30w (hLs _ z)
  have hF_h : F33 h = .inr (8, [.ref q1, .ref q4, .ref q7, .ref q10, .ref q13, .null, .int (iI 0), .int (iI ((-1))), .int (iI 0), .ref q19, .int (iI 0)]) := (hfrq30w h ha_h n_h_q30).trans hF_h
  have ha_h : h ∈ L33 := by rw [eLq30w]; exact List.mem_append_left _ ha_h
  have hF_q1 : F33 q1 = arrQ (y 3) 4 (iu (fun _ => none) 0 (some q23)) := (hfrq30w q1 ha_q1 n_q1_q30).trans hF_q1
  have ha_q1 : q1 ∈ L33 := by rw [eLq30w]; exact List.mem_append_left _ ha_q1
  have hF_q4 : F33 q4 = arrQ (y 3) 3 (fun _ => none) := (hfrq30w q4 ha_q4 n_q4_q30).trans hF_q4
  have ha_q4 : q4 ∈ L33 := by rw [eLq30w]; exact List.mem_append_left _ ha_q4
  have hF_q7 : F33 q7 = arrQ (y 3) 2 (fun _ => none) := (hfrq30w q7 ha_q7 n_q7_q30).trans hF_q7
  have ha_q7 : q7 ∈ L33 := by rw [eLq30w]; exact List.mem_append_left _ ha_q7
  have hF_q10 : F33 q10 = arrI (y 0) 2 (fun _ => 0) := (hfrq30w q10 ha_q10 n_q10_q30).trans hF_q10
  have ha_q10 : q10 ∈ L33 := by rw [eLq30w]; exact List.mem_append_left _ ha_q10
  have hF_q13 : F33 q13 = arrI (y 0) 2 (iu (iu (fun _ => 0) 0 99) 1 99) := (hfrq30w q13 ha_q13 n_q13_q30).trans hF_q13
  have ha_q13 : q13 ∈ L33 := by rw [eLq30w]; exact List.mem_append_left _ ha_q13
  have hF_q19 : F33 q19 = arrI (y 0) 4 (fun _ => 0) := (hfrq30w q19 ha_q19 n_q19_q30).trans hF_q19
  have ha_q19 : q19 ∈ L33 := by rw [eLq30w]; exact List.mem_append_left _ ha_q19
  have hF_q23 : F33 q23 = .inr (7, [.int (iI 0), .ref q23w]) := (hfrq30w q23 ha_q23 n_q23_q30).trans hF_q23
  have ha_q23 : q23 ∈ L33 := by rw [eLq30w]; exact List.mem_append_left _ ha_q23
  have hF_q23w : F33 q23w = arrI (y 0) 100 (mwd 0 emp) := (hfrq30w q23w ha_q23w n_q23w_q30).trans hF_q23w
  have ha_q23w : q23w ∈ L33 := by rw [eLq30w]; exact List.mem_append_left _ ha_q23w
  have ha_q30 : q30 ∈ L33 := by rw [eLq30w]; exact List.mem_append_left _ ha_q30
  have hfr : ∀ a ∈ L, a ≠ h → F33 a = F a := fun a h1 h2 => (hfrq30w a (hLs a h1) (fun e : a = q30 => nL_q30 (e ▸ h1))).trans (hfr a h1 h2)
  have hLs : ∀ a ∈ L, a ∈ L33 := fun a h1 => by rw [eLq30w]; exact List.mem_append_left _ (hLs a h1)
  have hF_q30 : F33 q30 = .inr (7, [.int (iI 0), .ref q30w]) := hRn.2.1
  have hF_q30w : F33 q30w = arrI (y 0) 100 (mwd 0 emp) := hRn.2.2.2.1
  have ha_q30w : q30w ∈ L33 := hRn.2.2.1
  refine q_aast C0 hP hD hS ha_q1 hF_q1 (t := 3) (r := (RX5, TX5, 2)) rfl ha_q30 hF_q30 rfl (by omega) (by decide) dX6_init_84 (fun H locs hP hD hS => ?_)
  obtain ⟨F35x, eF35⟩ : ∃ z, z = va_up F33 q1 (arrQ (y 3) 4 (iu (iu (fun _ => none) 0 (some q23)) 1 (some q30))) := ⟨_, rfl⟩
  have hP : va_P D vwCl (va_pl L33 F35x) H := by rw [eF35]; exact hP
  have hD : va_D (AL L sz) (va_pl L33 F35x) := by rw [eF35]; exact hD
  have hF_h : F35x h = .inr (8, [.ref q1, .ref q4, .ref q7, .ref q10, .ref q13, .null, .int (iI 0), .int (iI ((-1))), .int (iI 0), .ref q19, .int (iI 0)]) := by rw [eF35]; exact (va_up_ne _ _ n_h_q1).trans hF_h
  have hF_q4 : F35x q4 = arrQ (y 3) 3 (fun _ => none) := by rw [eF35]; exact (va_up_ne _ _ n_q1_q4.symm).trans hF_q4
  have hF_q7 : F35x q7 = arrQ (y 3) 2 (fun _ => none) := by rw [eF35]; exact (va_up_ne _ _ n_q1_q7.symm).trans hF_q7
  have hF_q10 : F35x q10 = arrI (y 0) 2 (fun _ => 0) := by rw [eF35]; exact (va_up_ne _ _ n_q1_q10.symm).trans hF_q10
  have hF_q13 : F35x q13 = arrI (y 0) 2 (iu (iu (fun _ => 0) 0 99) 1 99) := by rw [eF35]; exact (va_up_ne _ _ n_q1_q13.symm).trans hF_q13
  have hF_q19 : F35x q19 = arrI (y 0) 4 (fun _ => 0) := by rw [eF35]; exact (va_up_ne _ _ n_q1_q19.symm).trans hF_q19
  have hF_q23 : F35x q23 = .inr (7, [.int (iI 0), .ref q23w]) := by rw [eF35]; exact (va_up_ne _ _ n_q1_q23.symm).trans hF_q23
  have hF_q23w : F35x q23w = arrI (y 0) 100 (mwd 0 emp) := by rw [eF35]; exact (va_up_ne _ _ n_q1_q23w.symm).trans hF_q23w
  have hF_q30 : F35x q30 = .inr (7, [.int (iI 0), .ref q30w]) := by rw [eF35]; exact (va_up_ne _ _ n_q1_q30.symm).trans hF_q30
  have hF_q30w : F35x q30w = arrI (y 0) 100 (mwd 0 emp) := by rw [eF35]; exact (va_up_ne _ _ n_q1_q30w.symm).trans hF_q30w
  have hF_q1 : F35x q1 = arrQ (y 3) 4 (iu (iu (fun _ => none) 0 (some q23)) 1 (some q30)) := by rw [eF35]; exact va_up_self _ _ _
  have hfr : ∀ a ∈ L, a ≠ h → F35x a = F a := fun a h1 h2 => by rw [eF35]; exact (va_up_ne _ _ (fun e : a = q1 => nL_q1 (e ▸ h1))).trans (hfr a h1 h2)
  refine q_iinc (x := 1) (n := 1) (lv' := [(1, .int (iI 2)), (0, .ref h)]) hx hb dX6_init_85 hl (k := 0) rfl (by decide) rfl (fun ls hl => ?_)
  refine lv_goto (tgt := 66) hx hb dX6_init_88 (by decide) ?_
  refine lv_iload_n hx hb dX6_init_66 rfl (lv_at hl 0 rfl) ?_
  refine q_iconst hx hb dX6_init_67 ?_
  refine q_icmp_ge hx hb dX6_init_68 (tgt := 91) (by decide) (by omega) (by omega) (fun c36 => absurd c36 (by omega)) (fun c36 => ?_)
  refine lv_aload_n hx hb dX6_init_71 rfl (lv_at hl 1 rfl) ?_
  refine q_get C0 iX6 hP ha_h hF_h rfl 0 (by decide) flX6_11 rfl rfl dX6_init_72 ?_
  refine lv_iload_n hx hb dX6_init_75 rfl (lv_at hl 0 rfl) ?_
  refine q_new C0 iX5 tyX5 tyX5_ok klX6_9 insX5 iniX5 hP hD hS hA (ci := 7) rfl (fs := [.int (iI 0), .null]) (fun j hj => by rcases (show j = 0 ∨ j = 1 by omega) with rfl | rfl <;> rfl) (Nat.le_of_ble_eq_true rfl) (Nat.le_of_ble_eq_true rfl) dX6_init_76 (fun q37 H h0q37 hP hD hS => ?_)
  refine W.widen (k := 11) (n := 223) (Nat.le_of_ble_eq_true rfl) (Nat.le_of_ble_eq_true rfl) ?_
  have n_h_q37 : h ≠ q37 := fun e => h0q37 (e ▸ ha_h)
  have n_q1_q37 : q1 ≠ q37 := fun e => h0q37 (e ▸ ha_q1)
  have n_q4_q37 : q4 ≠ q37 := fun e => h0q37 (e ▸ ha_q4)
  have n_q7_q37 : q7 ≠ q37 := fun e => h0q37 (e ▸ ha_q7)
  have n_q10_q37 : q10 ≠ q37 := fun e => h0q37 (e ▸ ha_q10)
  have n_q13_q37 : q13 ≠ q37 := fun e => h0q37 (e ▸ ha_q13)
  have n_q19_q37 : q19 ≠ q37 := fun e => h0q37 (e ▸ ha_q19)
  have n_q23_q37 : q23 ≠ q37 := fun e => h0q37 (e ▸ ha_q23)
  have n_q23w_q37 : q23w ≠ q37 := fun e => h0q37 (e ▸ ha_q23w)
  have n_q30_q37 : q30 ≠ q37 := fun e => h0q37 (e ▸ ha_q30)
  have n_q30w_q37 : q30w ≠ q37 := fun e => h0q37 (e ▸ ha_q30w)
  have nL_q37 : q37 ∉ L := fun z => h0q37 (hLs _ z)
  obtain ⟨L38x, eLL38x⟩ : ∃ z, z = L33 ++ [q37] := ⟨_, rfl⟩
  obtain ⟨F38x, eFL38x⟩ : ∃ z, z = va_up F35x q37 (.inr (7, [.int (iI 0), .null])) := ⟨_, rfl⟩
  have hP : va_P D vwCl (va_pl L38x F38x) H := by rw [eLL38x, eFL38x]; exact hP
  have hD : va_D (AL L sz) (va_pl L38x F38x) := by rw [eLL38x, eFL38x]; exact hD
  have hF_h : F38x h = .inr (8, [.ref q1, .ref q4, .ref q7, .ref q10, .ref q13, .null, .int (iI 0), .int (iI ((-1))), .int (iI 0), .ref q19, .int (iI 0)]) := by rw [eFL38x]; exact (va_up_ne _ _ n_h_q37).trans hF_h
  have ha_h : h ∈ L38x := by rw [eLL38x]; exact List.mem_append_left _ ha_h
  have hF_q1 : F38x q1 = arrQ (y 3) 4 (iu (iu (fun _ => none) 0 (some q23)) 1 (some q30)) := by rw [eFL38x]; exact (va_up_ne _ _ n_q1_q37).trans hF_q1
  have ha_q1 : q1 ∈ L38x := by rw [eLL38x]; exact List.mem_append_left _ ha_q1
  have hF_q4 : F38x q4 = arrQ (y 3) 3 (fun _ => none) := by rw [eFL38x]; exact (va_up_ne _ _ n_q4_q37).trans hF_q4
  have ha_q4 : q4 ∈ L38x := by rw [eLL38x]; exact List.mem_append_left _ ha_q4
  have hF_q7 : F38x q7 = arrQ (y 3) 2 (fun _ => none) := by rw [eFL38x]; exact (va_up_ne _ _ n_q7_q37).trans hF_q7
  have ha_q7 : q7 ∈ L38x := by rw [eLL38x]; exact List.mem_append_left _ ha_q7
  have hF_q10 : F38x q10 = arrI (y 0) 2 (fun _ => 0) := by rw [eFL38x]; exact (va_up_ne _ _ n_q10_q37).trans hF_q10
  have ha_q10 : q10 ∈ L38x := by rw [eLL38x]; exact List.mem_append_left _ ha_q10
  have hF_q13 : F38x q13 = arrI (y 0) 2 (iu (iu (fun _ => 0) 0 99) 1 99) := by rw [eFL38x]; exact (va_up_ne _ _ n_q13_q37).trans hF_q13
  have ha_q13 : q13 ∈ L38x := by rw [eLL38x]; exact List.mem_append_left _ ha_q13
  have hF_q19 : F38x q19 = arrI (y 0) 4 (fun _ => 0) := by rw [eFL38x]; exact (va_up_ne _ _ n_q19_q37).trans hF_q19
  have ha_q19 : q19 ∈ L38x := by rw [eLL38x]; exact List.mem_append_left _ ha_q19
  have hF_q23 : F38x q23 = .inr (7, [.int (iI 0), .ref q23w]) := by rw [eFL38x]; exact (va_up_ne _ _ n_q23_q37).trans hF_q23
  have ha_q23 : q23 ∈ L38x := by rw [eLL38x]; exact List.mem_append_left _ ha_q23
  have hF_q23w : F38x q23w = arrI (y 0) 100 (mwd 0 emp) := by rw [eFL38x]; exact (va_up_ne _ _ n_q23w_q37).trans hF_q23w
  have ha_q23w : q23w ∈ L38x := by rw [eLL38x]; exact List.mem_append_left _ ha_q23w
  have hF_q30 : F38x q30 = .inr (7, [.int (iI 0), .ref q30w]) := by rw [eFL38x]; exact (va_up_ne _ _ n_q30_q37).trans hF_q30
  have ha_q30 : q30 ∈ L38x := by rw [eLL38x]; exact List.mem_append_left _ ha_q30
  have hF_q30w : F38x q30w = arrI (y 0) 100 (mwd 0 emp) := by rw [eFL38x]; exact (va_up_ne _ _ n_q30w_q37).trans hF_q30w
  have ha_q30w : q30w ∈ L38x := by rw [eLL38x]; exact List.mem_append_left _ ha_q30w
  have hfr : ∀ a ∈ L, a ≠ h → F38x a = F a := fun a h1 h2 => by rw [eFL38x]; exact (va_up_ne _ _ (fun e : a = q37 => nL_q37 (e ▸ h1))).trans (hfr a h1 h2)
  have hLs : ∀ a ∈ L, a ∈ L38x := fun a h1 => by rw [eLL38x]; exact List.mem_append_left _ (hLs a h1)
  have hF_q37 : F38x q37 = .inr (7, [.int (iI 0), .null]) := by rw [eFL38x]; exact va_up_self _ _ _
  have ha_q37 : q37 ∈ L38x := by rw [eLL38x]; exact List.mem_append_right _ List.mem_cons_self
  refine lv_dup hx hb dX6_init_79 rfl ?_
  refine q_iconst hx hb dX6_init_80 ?_
  refine q_iMv C0 lX6_35 (c_X5_init l D y L38x F38x _ q37 0 ha_q37 hF_q37 (by omega)) ⟨rfl, rfl⟩ rfl hP hD hS hA rfl hl rfl (Nat.le_of_ble_eq_true rfl) dX6_init_81 ⟨Nat.le_of_ble_eq_true rfl, Nat.le_of_ble_eq_true rfl⟩ (fun _ H locs L40 F40 hP hD hS hz40 hp40 => ?_)
  refine W.widen (k := 12) (n := 323) (Nat.le_of_ble_eq_true rfl) (Nat.le_of_ble_eq_true rfl) ?_
  obtain ⟨q37w, h0q37w, eLq37w, hRn, hfrq37w⟩ := hp40
  have n_h_q37w : h ≠ q37w := fun e => h0q37w (e ▸ ha_h)
  have n_q1_q37w : q1 ≠ q37w := fun e => h0q37w (e ▸ ha_q1)
  have n_q4_q37w : q4 ≠ q37w := fun e => h0q37w (e ▸ ha_q4)
  have n_q7_q37w : q7 ≠ q37w := fun e => h0q37w (e ▸ ha_q7)
  have n_q10_q37w : q10 ≠ q37w := fun e => h0q37w (e ▸ ha_q10)
  have n_q13_q37w : q13 ≠ q37w := fun e => h0q37w (e ▸ ha_q13)
  have n_q19_q37w : q19 ≠ q37w := fun e => h0q37w (e ▸ ha_q19)
  have n_q23_q37w : q23 ≠ q37w := fun e => h0q37w (e ▸ ha_q23)
  have n_q23w_q37w : q23w ≠ q37w := fun e => h0q37w (e ▸ ha_q23w)
  have n_q30_q37w : q30 ≠ q37w := fun e => h0q37w (e ▸ ha_q30)
  have n_q30w_q37w : q30w ≠ q37w := fun e => h0q37w (e ▸ ha_q30w)
  have n_q37_q37w : q37 ≠ q37w := fun e => h0q37w (e ▸ ha_q37)
  have nL_q37w : q37w ∉ L := fun z => h0q37w (hLs _ z)
  have hF_h : F40 h = .inr (8, [.ref q1, .ref q4, .ref q7, .ref q10, .ref q13, .null, .int (iI 0), .int (iI ((-1))), .int (iI 0), .ref q19, .int (iI 0)]) := (hfrq37w h ha_h n_h_q37).trans hF_h
  have ha_h : h ∈ L40 := by rw [eLq37w]; exact List.mem_append_left _ ha_h
  have hF_q1 : F40 q1 = arrQ (y 3) 4 (iu (iu (fun _ => none) 0 (some q23)) 1 (some q30)) := (hfrq37w q1 ha_q1 n_q1_q37).trans hF_q1
  have ha_q1 : q1 ∈ L40 := by rw [eLq37w]; exact List.mem_append_left _ ha_q1
  have hF_q4 : F40 q4 = arrQ (y 3) 3 (fun _ => none) := (hfrq37w q4 ha_q4 n_q4_q37).trans hF_q4
  have ha_q4 : q4 ∈ L40 := by rw [eLq37w]; exact List.mem_append_left _ ha_q4
  have hF_q7 : F40 q7 = arrQ (y 3) 2 (fun _ => none) := (hfrq37w q7 ha_q7 n_q7_q37).trans hF_q7
  have ha_q7 : q7 ∈ L40 := by rw [eLq37w]; exact List.mem_append_left _ ha_q7
  have hF_q10 : F40 q10 = arrI (y 0) 2 (fun _ => 0) := (hfrq37w q10 ha_q10 n_q10_q37).trans hF_q10
  have ha_q10 : q10 ∈ L40 := by rw [eLq37w]; exact List.mem_append_left _ ha_q10
  have hF_q13 : F40 q13 = arrI (y 0) 2 (iu (iu (fun _ => 0) 0 99) 1 99) := (hfrq37w q13 ha_q13 n_q13_q37).trans hF_q13
  have ha_q13 : q13 ∈ L40 := by rw [eLq37w]; exact List.mem_append_left _ ha_q13
  have hF_q19 : F40 q19 = arrI (y 0) 4 (fun _ => 0) := (hfrq37w q19 ha_q19 n_q19_q37).trans hF_q19
  have ha_q19 : q19 ∈ L40 := by rw [eLq37w]; exact List.mem_append_left _ ha_q19
  have hF_q23 : F40 q23 = .inr (7, [.int (iI 0), .ref q23w]) := (hfrq37w q23 ha_q23 n_q23_q37).trans hF_q23
  have ha_q23 : q23 ∈ L40 := by rw [eLq37w]; exact List.mem_append_left _ ha_q23
  have hF_q23w : F40 q23w = arrI (y 0) 100 (mwd 0 emp) := (hfrq37w q23w ha_q23w n_q23w_q37).trans hF_q23w
  have ha_q23w : q23w ∈ L40 := by rw [eLq37w]; exact List.mem_append_left _ ha_q23w
  have hF_q30 : F40 q30 = .inr (7, [.int (iI 0), .ref q30w]) := (hfrq37w q30 ha_q30 n_q30_q37).trans hF_q30
  have ha_q30 : q30 ∈ L40 := by rw [eLq37w]; exact List.mem_append_left _ ha_q30
  have hF_q30w : F40 q30w = arrI (y 0) 100 (mwd 0 emp) := (hfrq37w q30w ha_q30w n_q30w_q37).trans hF_q30w
  have ha_q30w : q30w ∈ L40 := by rw [eLq37w]; exact List.mem_append_left _ ha_q30w
  have ha_q37 : q37 ∈ L40 := by rw [eLq37w]; exact List.mem_append_left _ ha_q37
  have hfr : ∀ a ∈ L, a ≠ h → F40 a = F a := fun a h1 h2 => (hfrq37w a (hLs a h1) (fun e : a = q37 => nL_q37 (e ▸ h1))).trans (hfr a h1 h2)
  have hLs : ∀ a ∈ L, a ∈ L40 := fun a h1 => by rw [eLq37w]; exact List.mem_append_left _ (hLs a h1)
  have hF_q37 : F40 q37 = .inr (7, [.int (iI 0), .ref q37w]) := hRn.2.1
  have hF_q37w : F40 q37w = arrI (y 0) 100 (mwd 0 emp) := hRn.2.2.2.1
  have ha_q37w : q37w ∈ L40 := hRn.2.2.1
  refine q_aast C0 hP hD hS ha_q1 hF_q1 (t := 3) (r := (RX5, TX5, 2)) rfl ha_q37 hF_q37 rfl (by omega) (by decide) dX6_init_84 (fun H locs hP hD hS => ?_)
  obtain ⟨F42x, eF42⟩ : ∃ z, z = va_up F40 q1 (arrQ (y 3) 4 (iu (iu (iu (fun _ => none) 0 (some q23)) 1 (some q30)) 2 (some q37))) := ⟨_, rfl⟩
  have hP : va_P D vwCl (va_pl L40 F42x) H := by rw [eF42]; exact hP
  have hD : va_D (AL L sz) (va_pl L40 F42x) := by rw [eF42]; exact hD
  have hF_h : F42x h = .inr (8, [.ref q1, .ref q4, .ref q7, .ref q10, .ref q13, .null, .int (iI 0), .int (iI ((-1))), .int (iI 0), .ref q19, .int (iI 0)]) := by rw [eF42]; exact (va_up_ne _ _ n_h_q1).trans hF_h
  have hF_q4 : F42x q4 = arrQ (y 3) 3 (fun _ => none) := by rw [eF42]; exact (va_up_ne _ _ n_q1_q4.symm).trans hF_q4
  have hF_q7 : F42x q7 = arrQ (y 3) 2 (fun _ => none) := by rw [eF42]; exact (va_up_ne _ _ n_q1_q7.symm).trans hF_q7
  have hF_q10 : F42x q10 = arrI (y 0) 2 (fun _ => 0) := by rw [eF42]; exact (va_up_ne _ _ n_q1_q10.symm).trans hF_q10
  have hF_q13 : F42x q13 = arrI (y 0) 2 (iu (iu (fun _ => 0) 0 99) 1 99) := by rw [eF42]; exact (va_up_ne _ _ n_q1_q13.symm).trans hF_q13
  have hF_q19 : F42x q19 = arrI (y 0) 4 (fun _ => 0) := by rw [eF42]; exact (va_up_ne _ _ n_q1_q19.symm).trans hF_q19
  have hF_q23 : F42x q23 = .inr (7, [.int (iI 0), .ref q23w]) := by rw [eF42]; exact (va_up_ne _ _ n_q1_q23.symm).trans hF_q23
  have hF_q23w : F42x q23w = arrI (y 0) 100 (mwd 0 emp) := by rw [eF42]; exact (va_up_ne _ _ n_q1_q23w.symm).trans hF_q23w
  have hF_q30 : F42x q30 = .inr (7, [.int (iI 0), .ref q30w]) := by rw [eF42]; exact (va_up_ne _ _ n_q1_q30.symm).trans hF_q30
  have hF_q30w : F42x q30w = arrI (y 0) 100 (mwd 0 emp) := by rw [eF42]; exact (va_up_ne _ _ n_q1_q30w.symm).trans hF_q30w
  have hF_q37 : F42x q37 = .inr (7, [.int (iI 0), .ref q37w]) := by rw [eF42]; exact (va_up_ne _ _ n_q1_q37.symm).trans hF_q37
  have hF_q37w : F42x q37w = arrI (y 0) 100 (mwd 0 emp) := by rw [eF42]; exact (va_up_ne _ _ n_q1_q37w.symm).trans hF_q37w
  have hF_q1 : F42x q1 = arrQ (y 3) 4 (iu (iu (iu (fun _ => none) 0 (some q23)) 1 (some q30)) 2 (some q37)) := by rw [eF42]; exact va_up_self _ _ _
  have hfr : ∀ a ∈ L, a ≠ h → F42x a = F a := fun a h1 h2 => by rw [eF42]; exact (va_up_ne _ _ (fun e : a = q1 => nL_q1 (e ▸ h1))).trans (hfr a h1 h2)
  refine q_iinc (x := 2) (n := 1) (lv' := [(1, .int (iI 3)), (0, .ref h)]) hx hb dX6_init_85 hl (k := 0) rfl (by decide) rfl (fun ls hl => ?_)
  refine lv_goto (tgt := 66) hx hb dX6_init_88 (by decide) ?_
  refine lv_iload_n hx hb dX6_init_66 rfl (lv_at hl 0 rfl) ?_
  refine q_iconst hx hb dX6_init_67 ?_
  refine q_icmp_ge hx hb dX6_init_68 (tgt := 91) (by decide) (by omega) (by omega) (fun c43 => absurd c43 (by omega)) (fun c43 => ?_)
  refine lv_aload_n hx hb dX6_init_71 rfl (lv_at hl 1 rfl) ?_
  refine q_get C0 iX6 hP ha_h hF_h rfl 0 (by decide) flX6_11 rfl rfl dX6_init_72 ?_
  refine lv_iload_n hx hb dX6_init_75 rfl (lv_at hl 0 rfl) ?_
  refine q_new C0 iX5 tyX5 tyX5_ok klX6_9 insX5 iniX5 hP hD hS hA (ci := 7) rfl (fs := [.int (iI 0), .null]) (fun j hj => by rcases (show j = 0 ∨ j = 1 by omega) with rfl | rfl <;> rfl) (Nat.le_of_ble_eq_true rfl) (Nat.le_of_ble_eq_true rfl) dX6_init_76 (fun q44 H h0q44 hP hD hS => ?_)
  refine W.widen (k := 13) (n := 325) (Nat.le_of_ble_eq_true rfl) (Nat.le_of_ble_eq_true rfl) ?_
  have n_h_q44 : h ≠ q44 := fun e => h0q44 (e ▸ ha_h)
  have n_q1_q44 : q1 ≠ q44 := fun e => h0q44 (e ▸ ha_q1)
  have n_q4_q44 : q4 ≠ q44 := fun e => h0q44 (e ▸ ha_q4)
  have n_q7_q44 : q7 ≠ q44 := fun e => h0q44 (e ▸ ha_q7)
  have n_q10_q44 : q10 ≠ q44 := fun e => h0q44 (e ▸ ha_q10)
  have n_q13_q44 : q13 ≠ q44 := fun e => h0q44 (e ▸ ha_q13)
  have n_q19_q44 : q19 ≠ q44 := fun e => h0q44 (e ▸ ha_q19)
  have n_q23_q44 : q23 ≠ q44 := fun e => h0q44 (e ▸ ha_q23)
  have n_q23w_q44 : q23w ≠ q44 := fun e => h0q44 (e ▸ ha_q23w)
  have n_q30_q44 : q30 ≠ q44 := fun e => h0q44 (e ▸ ha_q30)
  have n_q30w_q44 : q30w ≠ q44 := fun e => h0q44 (e ▸ ha_q30w)
  have n_q37_q44 : q37 ≠ q44 := fun e => h0q44 (e ▸ ha_q37)
  have n_q37w_q44 : q37w ≠ q44 := fun e => h0q44 (e ▸ ha_q37w)
  have nL_q44 : q44 ∉ L := fun z => h0q44 (hLs _ z)
  obtain ⟨L45x, eLL45x⟩ : ∃ z, z = L40 ++ [q44] := ⟨_, rfl⟩
  obtain ⟨F45x, eFL45x⟩ : ∃ z, z = va_up F42x q44 (.inr (7, [.int (iI 0), .null])) := ⟨_, rfl⟩
  have hP : va_P D vwCl (va_pl L45x F45x) H := by rw [eLL45x, eFL45x]; exact hP
  have hD : va_D (AL L sz) (va_pl L45x F45x) := by rw [eLL45x, eFL45x]; exact hD
  have hF_h : F45x h = .inr (8, [.ref q1, .ref q4, .ref q7, .ref q10, .ref q13, .null, .int (iI 0), .int (iI ((-1))), .int (iI 0), .ref q19, .int (iI 0)]) := by rw [eFL45x]; exact (va_up_ne _ _ n_h_q44).trans hF_h
  have ha_h : h ∈ L45x := by rw [eLL45x]; exact List.mem_append_left _ ha_h
  have hF_q1 : F45x q1 = arrQ (y 3) 4 (iu (iu (iu (fun _ => none) 0 (some q23)) 1 (some q30)) 2 (some q37)) := by rw [eFL45x]; exact (va_up_ne _ _ n_q1_q44).trans hF_q1
  have ha_q1 : q1 ∈ L45x := by rw [eLL45x]; exact List.mem_append_left _ ha_q1
  have hF_q4 : F45x q4 = arrQ (y 3) 3 (fun _ => none) := by rw [eFL45x]; exact (va_up_ne _ _ n_q4_q44).trans hF_q4
  have ha_q4 : q4 ∈ L45x := by rw [eLL45x]; exact List.mem_append_left _ ha_q4
  have hF_q7 : F45x q7 = arrQ (y 3) 2 (fun _ => none) := by rw [eFL45x]; exact (va_up_ne _ _ n_q7_q44).trans hF_q7
  have ha_q7 : q7 ∈ L45x := by rw [eLL45x]; exact List.mem_append_left _ ha_q7
  have hF_q10 : F45x q10 = arrI (y 0) 2 (fun _ => 0) := by rw [eFL45x]; exact (va_up_ne _ _ n_q10_q44).trans hF_q10
  have ha_q10 : q10 ∈ L45x := by rw [eLL45x]; exact List.mem_append_left _ ha_q10
  have hF_q13 : F45x q13 = arrI (y 0) 2 (iu (iu (fun _ => 0) 0 99) 1 99) := by rw [eFL45x]; exact (va_up_ne _ _ n_q13_q44).trans hF_q13
  have ha_q13 : q13 ∈ L45x := by rw [eLL45x]; exact List.mem_append_left _ ha_q13
  have hF_q19 : F45x q19 = arrI (y 0) 4 (fun _ => 0) := by rw [eFL45x]; exact (va_up_ne _ _ n_q19_q44).trans hF_q19
  have ha_q19 : q19 ∈ L45x := by rw [eLL45x]; exact List.mem_append_left _ ha_q19
  have hF_q23 : F45x q23 = .inr (7, [.int (iI 0), .ref q23w]) := by rw [eFL45x]; exact (va_up_ne _ _ n_q23_q44).trans hF_q23
  have ha_q23 : q23 ∈ L45x := by rw [eLL45x]; exact List.mem_append_left _ ha_q23
  have hF_q23w : F45x q23w = arrI (y 0) 100 (mwd 0 emp) := by rw [eFL45x]; exact (va_up_ne _ _ n_q23w_q44).trans hF_q23w
  have ha_q23w : q23w ∈ L45x := by rw [eLL45x]; exact List.mem_append_left _ ha_q23w
  have hF_q30 : F45x q30 = .inr (7, [.int (iI 0), .ref q30w]) := by rw [eFL45x]; exact (va_up_ne _ _ n_q30_q44).trans hF_q30
  have ha_q30 : q30 ∈ L45x := by rw [eLL45x]; exact List.mem_append_left _ ha_q30
  have hF_q30w : F45x q30w = arrI (y 0) 100 (mwd 0 emp) := by rw [eFL45x]; exact (va_up_ne _ _ n_q30w_q44).trans hF_q30w
  have ha_q30w : q30w ∈ L45x := by rw [eLL45x]; exact List.mem_append_left _ ha_q30w
  have hF_q37 : F45x q37 = .inr (7, [.int (iI 0), .ref q37w]) := by rw [eFL45x]; exact (va_up_ne _ _ n_q37_q44).trans hF_q37
  have ha_q37 : q37 ∈ L45x := by rw [eLL45x]; exact List.mem_append_left _ ha_q37
  have hF_q37w : F45x q37w = arrI (y 0) 100 (mwd 0 emp) := by rw [eFL45x]; exact (va_up_ne _ _ n_q37w_q44).trans hF_q37w
  have ha_q37w : q37w ∈ L45x := by rw [eLL45x]; exact List.mem_append_left _ ha_q37w
  have hfr : ∀ a ∈ L, a ≠ h → F45x a = F a := fun a h1 h2 => by rw [eFL45x]; exact (va_up_ne _ _ (fun e : a = q44 => nL_q44 (e ▸ h1))).trans (hfr a h1 h2)
  have hLs : ∀ a ∈ L, a ∈ L45x := fun a h1 => by rw [eLL45x]; exact List.mem_append_left _ (hLs a h1)
  have hF_q44 : F45x q44 = .inr (7, [.int (iI 0), .null]) := by rw [eFL45x]; exact va_up_self _ _ _
  have ha_q44 : q44 ∈ L45x := by rw [eLL45x]; exact List.mem_append_right _ List.mem_cons_self
  refine lv_dup hx hb dX6_init_79 rfl ?_
  refine q_iconst hx hb dX6_init_80 ?_
  refine q_iMv C0 lX6_35 (c_X5_init l D y L45x F45x _ q44 0 ha_q44 hF_q44 (by omega)) ⟨rfl, rfl⟩ rfl hP hD hS hA rfl hl rfl (Nat.le_of_ble_eq_true rfl) dX6_init_81 ⟨Nat.le_of_ble_eq_true rfl, Nat.le_of_ble_eq_true rfl⟩ (fun _ H locs L47 F47 hP hD hS hz47 hp47 => ?_)
  refine W.widen (k := 14) (n := 425) (Nat.le_of_ble_eq_true rfl) (Nat.le_of_ble_eq_true rfl) ?_
  obtain ⟨q44w, h0q44w, eLq44w, hRn, hfrq44w⟩ := hp47
  have n_h_q44w : h ≠ q44w := fun e => h0q44w (e ▸ ha_h)
  have n_q1_q44w : q1 ≠ q44w := fun e => h0q44w (e ▸ ha_q1)
  have n_q4_q44w : q4 ≠ q44w := fun e => h0q44w (e ▸ ha_q4)
  have n_q7_q44w : q7 ≠ q44w := fun e => h0q44w (e ▸ ha_q7)
  have n_q10_q44w : q10 ≠ q44w := fun e => h0q44w (e ▸ ha_q10)
  have n_q13_q44w : q13 ≠ q44w := fun e => h0q44w (e ▸ ha_q13)
  have n_q19_q44w : q19 ≠ q44w := fun e => h0q44w (e ▸ ha_q19)
  have n_q23_q44w : q23 ≠ q44w := fun e => h0q44w (e ▸ ha_q23)
  have n_q23w_q44w : q23w ≠ q44w := fun e => h0q44w (e ▸ ha_q23w)
  have n_q30_q44w : q30 ≠ q44w := fun e => h0q44w (e ▸ ha_q30)
  have n_q30w_q44w : q30w ≠ q44w := fun e => h0q44w (e ▸ ha_q30w)
  have n_q37_q44w : q37 ≠ q44w := fun e => h0q44w (e ▸ ha_q37)
  have n_q37w_q44w : q37w ≠ q44w := fun e => h0q44w (e ▸ ha_q37w)
  have n_q44_q44w : q44 ≠ q44w := fun e => h0q44w (e ▸ ha_q44)
  have nL_q44w : q44w ∉ L := fun z => h0q44w (hLs _ z)
  have hF_h : F47 h = .inr (8, [.ref q1, .ref q4, .ref q7, .ref q10, .ref q13, .null, .int (iI 0), .int (iI ((-1))), .int (iI 0), .ref q19, .int (iI 0)]) := (hfrq44w h ha_h n_h_q44).trans hF_h
  have ha_h : h ∈ L47 := by rw [eLq44w]; exact List.mem_append_left _ ha_h
  have hF_q1 : F47 q1 = arrQ (y 3) 4 (iu (iu (iu (fun _ => none) 0 (some q23)) 1 (some q30)) 2 (some q37)) := (hfrq44w q1 ha_q1 n_q1_q44).trans hF_q1
  have ha_q1 : q1 ∈ L47 := by rw [eLq44w]; exact List.mem_append_left _ ha_q1
  have hF_q4 : F47 q4 = arrQ (y 3) 3 (fun _ => none) := (hfrq44w q4 ha_q4 n_q4_q44).trans hF_q4
  have ha_q4 : q4 ∈ L47 := by rw [eLq44w]; exact List.mem_append_left _ ha_q4
  have hF_q7 : F47 q7 = arrQ (y 3) 2 (fun _ => none) := (hfrq44w q7 ha_q7 n_q7_q44).trans hF_q7
  have ha_q7 : q7 ∈ L47 := by rw [eLq44w]; exact List.mem_append_left _ ha_q7
  have hF_q10 : F47 q10 = arrI (y 0) 2 (fun _ => 0) := (hfrq44w q10 ha_q10 n_q10_q44).trans hF_q10
  have ha_q10 : q10 ∈ L47 := by rw [eLq44w]; exact List.mem_append_left _ ha_q10
  have hF_q13 : F47 q13 = arrI (y 0) 2 (iu (iu (fun _ => 0) 0 99) 1 99) := (hfrq44w q13 ha_q13 n_q13_q44).trans hF_q13
  have ha_q13 : q13 ∈ L47 := by rw [eLq44w]; exact List.mem_append_left _ ha_q13
  have hF_q19 : F47 q19 = arrI (y 0) 4 (fun _ => 0) := (hfrq44w q19 ha_q19 n_q19_q44).trans hF_q19
  have ha_q19 : q19 ∈ L47 := by rw [eLq44w]; exact List.mem_append_left _ ha_q19
  have hF_q23 : F47 q23 = .inr (7, [.int (iI 0), .ref q23w]) := (hfrq44w q23 ha_q23 n_q23_q44).trans hF_q23
  have ha_q23 : q23 ∈ L47 := by rw [eLq44w]; exact List.mem_append_left _ ha_q23
  have hF_q23w : F47 q23w = arrI (y 0) 100 (mwd 0 emp) := (hfrq44w q23w ha_q23w n_q23w_q44).trans hF_q23w
  have ha_q23w : q23w ∈ L47 := by rw [eLq44w]; exact List.mem_append_left _ ha_q23w
  have hF_q30 : F47 q30 = .inr (7, [.int (iI 0), .ref q30w]) := (hfrq44w q30 ha_q30 n_q30_q44).trans hF_q30
  have ha_q30 : q30 ∈ L47 := by rw [eLq44w]; exact List.mem_append_left _ ha_q30
  have hF_q30w : F47 q30w = arrI (y 0) 100 (mwd 0 emp) := (hfrq44w q30w ha_q30w n_q30w_q44).trans hF_q30w
  have ha_q30w : q30w ∈ L47 := by rw [eLq44w]; exact List.mem_append_left _ ha_q30w
  have hF_q37 : F47 q37 = .inr (7, [.int (iI 0), .ref q37w]) := (hfrq44w q37 ha_q37 n_q37_q44).trans hF_q37
  have ha_q37 : q37 ∈ L47 := by rw [eLq44w]; exact List.mem_append_left _ ha_q37
  have hF_q37w : F47 q37w = arrI (y 0) 100 (mwd 0 emp) := (hfrq44w q37w ha_q37w n_q37w_q44).trans hF_q37w
  have ha_q37w : q37w ∈ L47 := by rw [eLq44w]; exact List.mem_append_left _ ha_q37w
  have ha_q44 : q44 ∈ L47 := by rw [eLq44w]; exact List.mem_append_left _ ha_q44
  have hfr : ∀ a ∈ L, a ≠ h → F47 a = F a := fun a h1 h2 => (hfrq44w a (hLs a h1) (fun e : a = q44 => nL_q44 (e ▸ h1))).trans (hfr a h1 h2)
  have hLs : ∀ a ∈ L, a ∈ L47 := fun a h1 => by rw [eLq44w]; exact List.mem_append_left _ (hLs a h1)
  have hF_q44 : F47 q44 = .inr (7, [.int (iI 0), .ref q44w]) := hRn.2.1
  have hF_q44w : F47 q44w = arrI (y 0) 100 (mwd 0 emp) := hRn.2.2.2.1
  have ha_q44w : q44w ∈ L47 := hRn.2.2.1
  refine q_aast C0 hP hD hS ha_q1 hF_q1 (t := 3) (r := (RX5, TX5, 2)) rfl ha_q44 hF_q44 rfl (by omega) (by decide) dX6_init_84 (fun H locs hP hD hS => ?_)
  obtain ⟨F49x, eF49⟩ : ∃ z, z = va_up F47 q1 (arrQ (y 3) 4 (iu (iu (iu (iu (fun _ => none) 0 (some q23)) 1 (some q30)) 2 (some q37)) 3 (some q44))) := ⟨_, rfl⟩
  have hP : va_P D vwCl (va_pl L47 F49x) H := by rw [eF49]; exact hP
  have hD : va_D (AL L sz) (va_pl L47 F49x) := by rw [eF49]; exact hD
  have hF_h : F49x h = .inr (8, [.ref q1, .ref q4, .ref q7, .ref q10, .ref q13, .null, .int (iI 0), .int (iI ((-1))), .int (iI 0), .ref q19, .int (iI 0)]) := by rw [eF49]; exact (va_up_ne _ _ n_h_q1).trans hF_h
  have hF_q4 : F49x q4 = arrQ (y 3) 3 (fun _ => none) := by rw [eF49]; exact (va_up_ne _ _ n_q1_q4.symm).trans hF_q4
  have hF_q7 : F49x q7 = arrQ (y 3) 2 (fun _ => none) := by rw [eF49]; exact (va_up_ne _ _ n_q1_q7.symm).trans hF_q7
  have hF_q10 : F49x q10 = arrI (y 0) 2 (fun _ => 0) := by rw [eF49]; exact (va_up_ne _ _ n_q1_q10.symm).trans hF_q10
  have hF_q13 : F49x q13 = arrI (y 0) 2 (iu (iu (fun _ => 0) 0 99) 1 99) := by rw [eF49]; exact (va_up_ne _ _ n_q1_q13.symm).trans hF_q13
  have hF_q19 : F49x q19 = arrI (y 0) 4 (fun _ => 0) := by rw [eF49]; exact (va_up_ne _ _ n_q1_q19.symm).trans hF_q19
  have hF_q23 : F49x q23 = .inr (7, [.int (iI 0), .ref q23w]) := by rw [eF49]; exact (va_up_ne _ _ n_q1_q23.symm).trans hF_q23
  have hF_q23w : F49x q23w = arrI (y 0) 100 (mwd 0 emp) := by rw [eF49]; exact (va_up_ne _ _ n_q1_q23w.symm).trans hF_q23w
  have hF_q30 : F49x q30 = .inr (7, [.int (iI 0), .ref q30w]) := by rw [eF49]; exact (va_up_ne _ _ n_q1_q30.symm).trans hF_q30
  have hF_q30w : F49x q30w = arrI (y 0) 100 (mwd 0 emp) := by rw [eF49]; exact (va_up_ne _ _ n_q1_q30w.symm).trans hF_q30w
  have hF_q37 : F49x q37 = .inr (7, [.int (iI 0), .ref q37w]) := by rw [eF49]; exact (va_up_ne _ _ n_q1_q37.symm).trans hF_q37
  have hF_q37w : F49x q37w = arrI (y 0) 100 (mwd 0 emp) := by rw [eF49]; exact (va_up_ne _ _ n_q1_q37w.symm).trans hF_q37w
  have hF_q44 : F49x q44 = .inr (7, [.int (iI 0), .ref q44w]) := by rw [eF49]; exact (va_up_ne _ _ n_q1_q44.symm).trans hF_q44
  have hF_q44w : F49x q44w = arrI (y 0) 100 (mwd 0 emp) := by rw [eF49]; exact (va_up_ne _ _ n_q1_q44w.symm).trans hF_q44w
  have hF_q1 : F49x q1 = arrQ (y 3) 4 (iu (iu (iu (iu (fun _ => none) 0 (some q23)) 1 (some q30)) 2 (some q37)) 3 (some q44)) := by rw [eF49]; exact va_up_self _ _ _
  have hfr : ∀ a ∈ L, a ≠ h → F49x a = F a := fun a h1 h2 => by rw [eF49]; exact (va_up_ne _ _ (fun e : a = q1 => nL_q1 (e ▸ h1))).trans (hfr a h1 h2)
  refine q_iinc (x := 3) (n := 1) (lv' := [(1, .int (iI 4)), (0, .ref h)]) hx hb dX6_init_85 hl (k := 0) rfl (by decide) rfl (fun ls hl => ?_)
  refine lv_goto (tgt := 66) hx hb dX6_init_88 (by decide) ?_
  refine lv_iload_n hx hb dX6_init_66 rfl (lv_at hl 0 rfl) ?_
  refine q_iconst hx hb dX6_init_67 ?_
  refine q_icmp_ge hx hb dX6_init_68 (tgt := 91) (by decide) (by omega) (by omega) (fun c50 => ?_) (fun c50 => absurd c50 (by omega))
  refine q_iconst hx hb dX6_init_91 ?_
  refine lv_istore_n (lv' := [(1, .int (iI 0)), (0, .ref h)]) hx hb dX6_init_92 rfl hl (by decide) rfl (fun ls hl => ?_)
  refine lv_iload_n hx hb dX6_init_93 rfl (lv_at hl 0 rfl) ?_
  refine q_iconst hx hb dX6_init_94 ?_
  refine q_icmp_ge hx hb dX6_init_95 (tgt := 118) (by decide) (by omega) (by omega) (fun c51 => absurd c51 (by omega)) (fun c51 => ?_)
  refine lv_aload_n hx hb dX6_init_98 rfl (lv_at hl 1 rfl) ?_
  refine q_get C0 iX6 hP ha_h hF_h rfl 1 (by decide) flX6_15 rfl rfl dX6_init_99 ?_
  refine lv_iload_n hx hb dX6_init_102 rfl (lv_at hl 0 rfl) ?_
  refine q_new C0 iX5 tyX5 tyX5_ok klX6_9 insX5 iniX5 hP hD hS hA (ci := 7) rfl (fs := [.int (iI 0), .null]) (fun j hj => by rcases (show j = 0 ∨ j = 1 by omega) with rfl | rfl <;> rfl) (Nat.le_of_ble_eq_true rfl) (Nat.le_of_ble_eq_true rfl) dX6_init_103 (fun q52 H h0q52 hP hD hS => ?_)
  refine W.widen (k := 15) (n := 427) (Nat.le_of_ble_eq_true rfl) (Nat.le_of_ble_eq_true rfl) ?_
  have n_h_q52 : h ≠ q52 := fun e => h0q52 (e ▸ ha_h)
  have n_q1_q52 : q1 ≠ q52 := fun e => h0q52 (e ▸ ha_q1)
  have n_q4_q52 : q4 ≠ q52 := fun e => h0q52 (e ▸ ha_q4)
  have n_q7_q52 : q7 ≠ q52 := fun e => h0q52 (e ▸ ha_q7)
  have n_q10_q52 : q10 ≠ q52 := fun e => h0q52 (e ▸ ha_q10)
  have n_q13_q52 : q13 ≠ q52 := fun e => h0q52 (e ▸ ha_q13)
  have n_q19_q52 : q19 ≠ q52 := fun e => h0q52 (e ▸ ha_q19)
  have n_q23_q52 : q23 ≠ q52 := fun e => h0q52 (e ▸ ha_q23)
  have n_q23w_q52 : q23w ≠ q52 := fun e => h0q52 (e ▸ ha_q23w)
  have n_q30_q52 : q30 ≠ q52 := fun e => h0q52 (e ▸ ha_q30)
  have n_q30w_q52 : q30w ≠ q52 := fun e => h0q52 (e ▸ ha_q30w)
  have n_q37_q52 : q37 ≠ q52 := fun e => h0q52 (e ▸ ha_q37)
  have n_q37w_q52 : q37w ≠ q52 := fun e => h0q52 (e ▸ ha_q37w)
  have n_q44_q52 : q44 ≠ q52 := fun e => h0q52 (e ▸ ha_q44)
  have n_q44w_q52 : q44w ≠ q52 := fun e => h0q52 (e ▸ ha_q44w)
  have nL_q52 : q52 ∉ L := fun z => h0q52 (hLs _ z)
  obtain ⟨L53x, eLL53x⟩ : ∃ z, z = L47 ++ [q52] := ⟨_, rfl⟩
  obtain ⟨F53x, eFL53x⟩ : ∃ z, z = va_up F49x q52 (.inr (7, [.int (iI 0), .null])) := ⟨_, rfl⟩
  have hP : va_P D vwCl (va_pl L53x F53x) H := by rw [eLL53x, eFL53x]; exact hP
  have hD : va_D (AL L sz) (va_pl L53x F53x) := by rw [eLL53x, eFL53x]; exact hD
  have hF_h : F53x h = .inr (8, [.ref q1, .ref q4, .ref q7, .ref q10, .ref q13, .null, .int (iI 0), .int (iI ((-1))), .int (iI 0), .ref q19, .int (iI 0)]) := by rw [eFL53x]; exact (va_up_ne _ _ n_h_q52).trans hF_h
  have ha_h : h ∈ L53x := by rw [eLL53x]; exact List.mem_append_left _ ha_h
  have hF_q1 : F53x q1 = arrQ (y 3) 4 (iu (iu (iu (iu (fun _ => none) 0 (some q23)) 1 (some q30)) 2 (some q37)) 3 (some q44)) := by rw [eFL53x]; exact (va_up_ne _ _ n_q1_q52).trans hF_q1
  have ha_q1 : q1 ∈ L53x := by rw [eLL53x]; exact List.mem_append_left _ ha_q1
  have hF_q4 : F53x q4 = arrQ (y 3) 3 (fun _ => none) := by rw [eFL53x]; exact (va_up_ne _ _ n_q4_q52).trans hF_q4
  have ha_q4 : q4 ∈ L53x := by rw [eLL53x]; exact List.mem_append_left _ ha_q4
  have hF_q7 : F53x q7 = arrQ (y 3) 2 (fun _ => none) := by rw [eFL53x]; exact (va_up_ne _ _ n_q7_q52).trans hF_q7
  have ha_q7 : q7 ∈ L53x := by rw [eLL53x]; exact List.mem_append_left _ ha_q7
  have hF_q10 : F53x q10 = arrI (y 0) 2 (fun _ => 0) := by rw [eFL53x]; exact (va_up_ne _ _ n_q10_q52).trans hF_q10
  have ha_q10 : q10 ∈ L53x := by rw [eLL53x]; exact List.mem_append_left _ ha_q10
  have hF_q13 : F53x q13 = arrI (y 0) 2 (iu (iu (fun _ => 0) 0 99) 1 99) := by rw [eFL53x]; exact (va_up_ne _ _ n_q13_q52).trans hF_q13
  have ha_q13 : q13 ∈ L53x := by rw [eLL53x]; exact List.mem_append_left _ ha_q13
  have hF_q19 : F53x q19 = arrI (y 0) 4 (fun _ => 0) := by rw [eFL53x]; exact (va_up_ne _ _ n_q19_q52).trans hF_q19
  have ha_q19 : q19 ∈ L53x := by rw [eLL53x]; exact List.mem_append_left _ ha_q19
  have hF_q23 : F53x q23 = .inr (7, [.int (iI 0), .ref q23w]) := by rw [eFL53x]; exact (va_up_ne _ _ n_q23_q52).trans hF_q23
  have ha_q23 : q23 ∈ L53x := by rw [eLL53x]; exact List.mem_append_left _ ha_q23
  have hF_q23w : F53x q23w = arrI (y 0) 100 (mwd 0 emp) := by rw [eFL53x]; exact (va_up_ne _ _ n_q23w_q52).trans hF_q23w
  have ha_q23w : q23w ∈ L53x := by rw [eLL53x]; exact List.mem_append_left _ ha_q23w
  have hF_q30 : F53x q30 = .inr (7, [.int (iI 0), .ref q30w]) := by rw [eFL53x]; exact (va_up_ne _ _ n_q30_q52).trans hF_q30
  have ha_q30 : q30 ∈ L53x := by rw [eLL53x]; exact List.mem_append_left _ ha_q30
  have hF_q30w : F53x q30w = arrI (y 0) 100 (mwd 0 emp) := by rw [eFL53x]; exact (va_up_ne _ _ n_q30w_q52).trans hF_q30w
  have ha_q30w : q30w ∈ L53x := by rw [eLL53x]; exact List.mem_append_left _ ha_q30w
  have hF_q37 : F53x q37 = .inr (7, [.int (iI 0), .ref q37w]) := by rw [eFL53x]; exact (va_up_ne _ _ n_q37_q52).trans hF_q37
  have ha_q37 : q37 ∈ L53x := by rw [eLL53x]; exact List.mem_append_left _ ha_q37
  have hF_q37w : F53x q37w = arrI (y 0) 100 (mwd 0 emp) := by rw [eFL53x]; exact (va_up_ne _ _ n_q37w_q52).trans hF_q37w
  have ha_q37w : q37w ∈ L53x := by rw [eLL53x]; exact List.mem_append_left _ ha_q37w
  have hF_q44 : F53x q44 = .inr (7, [.int (iI 0), .ref q44w]) := by rw [eFL53x]; exact (va_up_ne _ _ n_q44_q52).trans hF_q44
  have ha_q44 : q44 ∈ L53x := by rw [eLL53x]; exact List.mem_append_left _ ha_q44
  have hF_q44w : F53x q44w = arrI (y 0) 100 (mwd 0 emp) := by rw [eFL53x]; exact (va_up_ne _ _ n_q44w_q52).trans hF_q44w
  have ha_q44w : q44w ∈ L53x := by rw [eLL53x]; exact List.mem_append_left _ ha_q44w
  have hfr : ∀ a ∈ L, a ≠ h → F53x a = F a := fun a h1 h2 => by rw [eFL53x]; exact (va_up_ne _ _ (fun e : a = q52 => nL_q52 (e ▸ h1))).trans (hfr a h1 h2)
  have hLs : ∀ a ∈ L, a ∈ L53x := fun a h1 => by rw [eLL53x]; exact List.mem_append_left _ (hLs a h1)
  have hF_q52 : F53x q52 = .inr (7, [.int (iI 0), .null]) := by rw [eFL53x]; exact va_up_self _ _ _
  have ha_q52 : q52 ∈ L53x := by rw [eLL53x]; exact List.mem_append_right _ List.mem_cons_self
  refine lv_dup hx hb dX6_init_106 rfl ?_
  refine q_iconst hx hb dX6_init_107 ?_
  refine q_iMv C0 lX6_35 (c_X5_init l D y L53x F53x _ q52 0 ha_q52 hF_q52 (by omega)) ⟨rfl, rfl⟩ rfl hP hD hS hA rfl hl rfl (Nat.le_of_ble_eq_true rfl) dX6_init_108 ⟨Nat.le_of_ble_eq_true rfl, Nat.le_of_ble_eq_true rfl⟩ (fun _ H locs L55 F55 hP hD hS hz55 hp55 => ?_)
  refine W.widen (k := 16) (n := 527) (Nat.le_of_ble_eq_true rfl) (Nat.le_of_ble_eq_true rfl) ?_
  obtain ⟨q52w, h0q52w, eLq52w, hRn, hfrq52w⟩ := hp55
  have n_h_q52w : h ≠ q52w := fun e => h0q52w (e ▸ ha_h)
  have n_q1_q52w : q1 ≠ q52w := fun e => h0q52w (e ▸ ha_q1)
  have n_q4_q52w : q4 ≠ q52w := fun e => h0q52w (e ▸ ha_q4)
  have n_q7_q52w : q7 ≠ q52w := fun e => h0q52w (e ▸ ha_q7)
  have n_q10_q52w : q10 ≠ q52w := fun e => h0q52w (e ▸ ha_q10)
  have n_q13_q52w : q13 ≠ q52w := fun e => h0q52w (e ▸ ha_q13)
  have n_q19_q52w : q19 ≠ q52w := fun e => h0q52w (e ▸ ha_q19)
  have n_q23_q52w : q23 ≠ q52w := fun e => h0q52w (e ▸ ha_q23)
  have n_q23w_q52w : q23w ≠ q52w := fun e => h0q52w (e ▸ ha_q23w)
  have n_q30_q52w : q30 ≠ q52w := fun e => h0q52w (e ▸ ha_q30)
  have n_q30w_q52w : q30w ≠ q52w := fun e => h0q52w (e ▸ ha_q30w)
  have n_q37_q52w : q37 ≠ q52w := fun e => h0q52w (e ▸ ha_q37)
  have n_q37w_q52w : q37w ≠ q52w := fun e => h0q52w (e ▸ ha_q37w)
  have n_q44_q52w : q44 ≠ q52w := fun e => h0q52w (e ▸ ha_q44)
  have n_q44w_q52w : q44w ≠ q52w := fun e => h0q52w (e ▸ ha_q44w)
  have n_q52_q52w : q52 ≠ q52w := fun e => h0q52w (e ▸ ha_q52)
  have nL_q52w : q52w ∉ L := fun z => h0q52w (hLs _ z)
  have hF_h : F55 h = .inr (8, [.ref q1, .ref q4, .ref q7, .ref q10, .ref q13, .null, .int (iI 0), .int (iI ((-1))), .int (iI 0), .ref q19, .int (iI 0)]) := (hfrq52w h ha_h n_h_q52).trans hF_h
  have ha_h : h ∈ L55 := by rw [eLq52w]; exact List.mem_append_left _ ha_h
  have hF_q1 : F55 q1 = arrQ (y 3) 4 (iu (iu (iu (iu (fun _ => none) 0 (some q23)) 1 (some q30)) 2 (some q37)) 3 (some q44)) := (hfrq52w q1 ha_q1 n_q1_q52).trans hF_q1
  have ha_q1 : q1 ∈ L55 := by rw [eLq52w]; exact List.mem_append_left _ ha_q1
  have hF_q4 : F55 q4 = arrQ (y 3) 3 (fun _ => none) := (hfrq52w q4 ha_q4 n_q4_q52).trans hF_q4
  have ha_q4 : q4 ∈ L55 := by rw [eLq52w]; exact List.mem_append_left _ ha_q4
  have hF_q7 : F55 q7 = arrQ (y 3) 2 (fun _ => none) := (hfrq52w q7 ha_q7 n_q7_q52).trans hF_q7
  have ha_q7 : q7 ∈ L55 := by rw [eLq52w]; exact List.mem_append_left _ ha_q7
  have hF_q10 : F55 q10 = arrI (y 0) 2 (fun _ => 0) := (hfrq52w q10 ha_q10 n_q10_q52).trans hF_q10
  have ha_q10 : q10 ∈ L55 := by rw [eLq52w]; exact List.mem_append_left _ ha_q10
  have hF_q13 : F55 q13 = arrI (y 0) 2 (iu (iu (fun _ => 0) 0 99) 1 99) := (hfrq52w q13 ha_q13 n_q13_q52).trans hF_q13
  have ha_q13 : q13 ∈ L55 := by rw [eLq52w]; exact List.mem_append_left _ ha_q13
  have hF_q19 : F55 q19 = arrI (y 0) 4 (fun _ => 0) := (hfrq52w q19 ha_q19 n_q19_q52).trans hF_q19
  have ha_q19 : q19 ∈ L55 := by rw [eLq52w]; exact List.mem_append_left _ ha_q19
  have hF_q23 : F55 q23 = .inr (7, [.int (iI 0), .ref q23w]) := (hfrq52w q23 ha_q23 n_q23_q52).trans hF_q23
  have ha_q23 : q23 ∈ L55 := by rw [eLq52w]; exact List.mem_append_left _ ha_q23
  have hF_q23w : F55 q23w = arrI (y 0) 100 (mwd 0 emp) := (hfrq52w q23w ha_q23w n_q23w_q52).trans hF_q23w
  have ha_q23w : q23w ∈ L55 := by rw [eLq52w]; exact List.mem_append_left _ ha_q23w
  have hF_q30 : F55 q30 = .inr (7, [.int (iI 0), .ref q30w]) := (hfrq52w q30 ha_q30 n_q30_q52).trans hF_q30
  have ha_q30 : q30 ∈ L55 := by rw [eLq52w]; exact List.mem_append_left _ ha_q30
  have hF_q30w : F55 q30w = arrI (y 0) 100 (mwd 0 emp) := (hfrq52w q30w ha_q30w n_q30w_q52).trans hF_q30w
  have ha_q30w : q30w ∈ L55 := by rw [eLq52w]; exact List.mem_append_left _ ha_q30w
  have hF_q37 : F55 q37 = .inr (7, [.int (iI 0), .ref q37w]) := (hfrq52w q37 ha_q37 n_q37_q52).trans hF_q37
  have ha_q37 : q37 ∈ L55 := by rw [eLq52w]; exact List.mem_append_left _ ha_q37
  have hF_q37w : F55 q37w = arrI (y 0) 100 (mwd 0 emp) := (hfrq52w q37w ha_q37w n_q37w_q52).trans hF_q37w
  have ha_q37w : q37w ∈ L55 := by rw [eLq52w]; exact List.mem_append_left _ ha_q37w
  have hF_q44 : F55 q44 = .inr (7, [.int (iI 0), .ref q44w]) := (hfrq52w q44 ha_q44 n_q44_q52).trans hF_q44
  have ha_q44 : q44 ∈ L55 := by rw [eLq52w]; exact List.mem_append_left _ ha_q44
  have hF_q44w : F55 q44w = arrI (y 0) 100 (mwd 0 emp) := (hfrq52w q44w ha_q44w n_q44w_q52).trans hF_q44w
  have ha_q44w : q44w ∈ L55 := by rw [eLq52w]; exact List.mem_append_left _ ha_q44w
  have ha_q52 : q52 ∈ L55 := by rw [eLq52w]; exact List.mem_append_left _ ha_q52
  have hfr : ∀ a ∈ L, a ≠ h → F55 a = F a := fun a h1 h2 => (hfrq52w a (hLs a h1) (fun e : a = q52 => nL_q52 (e ▸ h1))).trans (hfr a h1 h2)
  have hLs : ∀ a ∈ L, a ∈ L55 := fun a h1 => by rw [eLq52w]; exact List.mem_append_left _ (hLs a h1)
  have hF_q52 : F55 q52 = .inr (7, [.int (iI 0), .ref q52w]) := hRn.2.1
  have hF_q52w : F55 q52w = arrI (y 0) 100 (mwd 0 emp) := hRn.2.2.2.1
  have ha_q52w : q52w ∈ L55 := hRn.2.2.1
  refine q_aast C0 hP hD hS ha_q4 hF_q4 (t := 3) (r := (RX5, TX5, 2)) rfl ha_q52 hF_q52 rfl (by omega) (by decide) dX6_init_111 (fun H locs hP hD hS => ?_)
  obtain ⟨F57x, eF57⟩ : ∃ z, z = va_up F55 q4 (arrQ (y 3) 3 (iu (fun _ => none) 0 (some q52))) := ⟨_, rfl⟩
  have hP : va_P D vwCl (va_pl L55 F57x) H := by rw [eF57]; exact hP
  have hD : va_D (AL L sz) (va_pl L55 F57x) := by rw [eF57]; exact hD
  have hF_h : F57x h = .inr (8, [.ref q1, .ref q4, .ref q7, .ref q10, .ref q13, .null, .int (iI 0), .int (iI ((-1))), .int (iI 0), .ref q19, .int (iI 0)]) := by rw [eF57]; exact (va_up_ne _ _ n_h_q4).trans hF_h
  have hF_q1 : F57x q1 = arrQ (y 3) 4 (iu (iu (iu (iu (fun _ => none) 0 (some q23)) 1 (some q30)) 2 (some q37)) 3 (some q44)) := by rw [eF57]; exact (va_up_ne _ _ n_q1_q4).trans hF_q1
  have hF_q7 : F57x q7 = arrQ (y 3) 2 (fun _ => none) := by rw [eF57]; exact (va_up_ne _ _ n_q4_q7.symm).trans hF_q7
  have hF_q10 : F57x q10 = arrI (y 0) 2 (fun _ => 0) := by rw [eF57]; exact (va_up_ne _ _ n_q4_q10.symm).trans hF_q10
  have hF_q13 : F57x q13 = arrI (y 0) 2 (iu (iu (fun _ => 0) 0 99) 1 99) := by rw [eF57]; exact (va_up_ne _ _ n_q4_q13.symm).trans hF_q13
  have hF_q19 : F57x q19 = arrI (y 0) 4 (fun _ => 0) := by rw [eF57]; exact (va_up_ne _ _ n_q4_q19.symm).trans hF_q19
  have hF_q23 : F57x q23 = .inr (7, [.int (iI 0), .ref q23w]) := by rw [eF57]; exact (va_up_ne _ _ n_q4_q23.symm).trans hF_q23
  have hF_q23w : F57x q23w = arrI (y 0) 100 (mwd 0 emp) := by rw [eF57]; exact (va_up_ne _ _ n_q4_q23w.symm).trans hF_q23w
  have hF_q30 : F57x q30 = .inr (7, [.int (iI 0), .ref q30w]) := by rw [eF57]; exact (va_up_ne _ _ n_q4_q30.symm).trans hF_q30
  have hF_q30w : F57x q30w = arrI (y 0) 100 (mwd 0 emp) := by rw [eF57]; exact (va_up_ne _ _ n_q4_q30w.symm).trans hF_q30w
  have hF_q37 : F57x q37 = .inr (7, [.int (iI 0), .ref q37w]) := by rw [eF57]; exact (va_up_ne _ _ n_q4_q37.symm).trans hF_q37
  have hF_q37w : F57x q37w = arrI (y 0) 100 (mwd 0 emp) := by rw [eF57]; exact (va_up_ne _ _ n_q4_q37w.symm).trans hF_q37w
  have hF_q44 : F57x q44 = .inr (7, [.int (iI 0), .ref q44w]) := by rw [eF57]; exact (va_up_ne _ _ n_q4_q44.symm).trans hF_q44
  have hF_q44w : F57x q44w = arrI (y 0) 100 (mwd 0 emp) := by rw [eF57]; exact (va_up_ne _ _ n_q4_q44w.symm).trans hF_q44w
  have hF_q52 : F57x q52 = .inr (7, [.int (iI 0), .ref q52w]) := by rw [eF57]; exact (va_up_ne _ _ n_q4_q52.symm).trans hF_q52
  have hF_q52w : F57x q52w = arrI (y 0) 100 (mwd 0 emp) := by rw [eF57]; exact (va_up_ne _ _ n_q4_q52w.symm).trans hF_q52w
  have hF_q4 : F57x q4 = arrQ (y 3) 3 (iu (fun _ => none) 0 (some q52)) := by rw [eF57]; exact va_up_self _ _ _
  have hfr : ∀ a ∈ L, a ≠ h → F57x a = F a := fun a h1 h2 => by rw [eF57]; exact (va_up_ne _ _ (fun e : a = q4 => nL_q4 (e ▸ h1))).trans (hfr a h1 h2)
  refine q_iinc (x := 0) (n := 1) (lv' := [(1, .int (iI 1)), (0, .ref h)]) hx hb dX6_init_112 hl (k := 0) rfl (by decide) rfl (fun ls hl => ?_)
  refine lv_goto (tgt := 93) hx hb dX6_init_115 (by decide) ?_
  refine lv_iload_n hx hb dX6_init_93 rfl (lv_at hl 0 rfl) ?_
  refine q_iconst hx hb dX6_init_94 ?_
  refine q_icmp_ge hx hb dX6_init_95 (tgt := 118) (by decide) (by omega) (by omega) (fun c58 => absurd c58 (by omega)) (fun c58 => ?_)
  refine lv_aload_n hx hb dX6_init_98 rfl (lv_at hl 1 rfl) ?_
  refine q_get C0 iX6 hP ha_h hF_h rfl 1 (by decide) flX6_15 rfl rfl dX6_init_99 ?_
  refine lv_iload_n hx hb dX6_init_102 rfl (lv_at hl 0 rfl) ?_
  refine q_new C0 iX5 tyX5 tyX5_ok klX6_9 insX5 iniX5 hP hD hS hA (ci := 7) rfl (fs := [.int (iI 0), .null]) (fun j hj => by rcases (show j = 0 ∨ j = 1 by omega) with rfl | rfl <;> rfl) (Nat.le_of_ble_eq_true rfl) (Nat.le_of_ble_eq_true rfl) dX6_init_103 (fun q59 H h0q59 hP hD hS => ?_)
  refine W.widen (k := 17) (n := 529) (Nat.le_of_ble_eq_true rfl) (Nat.le_of_ble_eq_true rfl) ?_
  have n_h_q59 : h ≠ q59 := fun e => h0q59 (e ▸ ha_h)
  have n_q1_q59 : q1 ≠ q59 := fun e => h0q59 (e ▸ ha_q1)
  have n_q4_q59 : q4 ≠ q59 := fun e => h0q59 (e ▸ ha_q4)
  have n_q7_q59 : q7 ≠ q59 := fun e => h0q59 (e ▸ ha_q7)
  have n_q10_q59 : q10 ≠ q59 := fun e => h0q59 (e ▸ ha_q10)
  have n_q13_q59 : q13 ≠ q59 := fun e => h0q59 (e ▸ ha_q13)
  have n_q19_q59 : q19 ≠ q59 := fun e => h0q59 (e ▸ ha_q19)
  have n_q23_q59 : q23 ≠ q59 := fun e => h0q59 (e ▸ ha_q23)
  have n_q23w_q59 : q23w ≠ q59 := fun e => h0q59 (e ▸ ha_q23w)
  have n_q30_q59 : q30 ≠ q59 := fun e => h0q59 (e ▸ ha_q30)
  have n_q30w_q59 : q30w ≠ q59 := fun e => h0q59 (e ▸ ha_q30w)
  have n_q37_q59 : q37 ≠ q59 := fun e => h0q59 (e ▸ ha_q37)
  have n_q37w_q59 : q37w ≠ q59 := fun e => h0q59 (e ▸ ha_q37w)
  have n_q44_q59 : q44 ≠ q59 := fun e => h0q59 (e ▸ ha_q44)
  have n_q44w_q59 : q44w ≠ q59 := fun e => h0q59 (e ▸ ha_q44w)
  have n_q52_q59 : q52 ≠ q59 := fun e => h0q59 (e ▸ ha_q52)
  have n_q52w_q59 : q52w ≠ q59 := fun e => h0q59 (e ▸ ha_q52w)
  have nL_q59 : q59 ∉ L := fun z => h0q59 (hLs _ z)
  obtain ⟨L60x, eLL60x⟩ : ∃ z, z = L55 ++ [q59] := ⟨_, rfl⟩
  obtain ⟨F60x, eFL60x⟩ : ∃ z, z = va_up F57x q59 (.inr (7, [.int (iI 0), .null])) := ⟨_, rfl⟩
  have hP : va_P D vwCl (va_pl L60x F60x) H := by rw [eLL60x, eFL60x]; exact hP
  have hD : va_D (AL L sz) (va_pl L60x F60x) := by rw [eLL60x, eFL60x]; exact hD
  have hF_h : F60x h = .inr (8, [.ref q1, .ref q4, .ref q7, .ref q10, .ref q13, .null, .int (iI 0), .int (iI ((-1))), .int (iI 0), .ref q19, .int (iI 0)]) := by rw [eFL60x]; exact (va_up_ne _ _ n_h_q59).trans hF_h
  have ha_h : h ∈ L60x := by rw [eLL60x]; exact List.mem_append_left _ ha_h
  have hF_q1 : F60x q1 = arrQ (y 3) 4 (iu (iu (iu (iu (fun _ => none) 0 (some q23)) 1 (some q30)) 2 (some q37)) 3 (some q44)) := by rw [eFL60x]; exact (va_up_ne _ _ n_q1_q59).trans hF_q1
  have ha_q1 : q1 ∈ L60x := by rw [eLL60x]; exact List.mem_append_left _ ha_q1
  have hF_q4 : F60x q4 = arrQ (y 3) 3 (iu (fun _ => none) 0 (some q52)) := by rw [eFL60x]; exact (va_up_ne _ _ n_q4_q59).trans hF_q4
  have ha_q4 : q4 ∈ L60x := by rw [eLL60x]; exact List.mem_append_left _ ha_q4
  have hF_q7 : F60x q7 = arrQ (y 3) 2 (fun _ => none) := by rw [eFL60x]; exact (va_up_ne _ _ n_q7_q59).trans hF_q7
  have ha_q7 : q7 ∈ L60x := by rw [eLL60x]; exact List.mem_append_left _ ha_q7
  have hF_q10 : F60x q10 = arrI (y 0) 2 (fun _ => 0) := by rw [eFL60x]; exact (va_up_ne _ _ n_q10_q59).trans hF_q10
  have ha_q10 : q10 ∈ L60x := by rw [eLL60x]; exact List.mem_append_left _ ha_q10
  have hF_q13 : F60x q13 = arrI (y 0) 2 (iu (iu (fun _ => 0) 0 99) 1 99) := by rw [eFL60x]; exact (va_up_ne _ _ n_q13_q59).trans hF_q13
  have ha_q13 : q13 ∈ L60x := by rw [eLL60x]; exact List.mem_append_left _ ha_q13
  have hF_q19 : F60x q19 = arrI (y 0) 4 (fun _ => 0) := by rw [eFL60x]; exact (va_up_ne _ _ n_q19_q59).trans hF_q19
  have ha_q19 : q19 ∈ L60x := by rw [eLL60x]; exact List.mem_append_left _ ha_q19
  have hF_q23 : F60x q23 = .inr (7, [.int (iI 0), .ref q23w]) := by rw [eFL60x]; exact (va_up_ne _ _ n_q23_q59).trans hF_q23
  have ha_q23 : q23 ∈ L60x := by rw [eLL60x]; exact List.mem_append_left _ ha_q23
  have hF_q23w : F60x q23w = arrI (y 0) 100 (mwd 0 emp) := by rw [eFL60x]; exact (va_up_ne _ _ n_q23w_q59).trans hF_q23w
  have ha_q23w : q23w ∈ L60x := by rw [eLL60x]; exact List.mem_append_left _ ha_q23w
  have hF_q30 : F60x q30 = .inr (7, [.int (iI 0), .ref q30w]) := by rw [eFL60x]; exact (va_up_ne _ _ n_q30_q59).trans hF_q30
  have ha_q30 : q30 ∈ L60x := by rw [eLL60x]; exact List.mem_append_left _ ha_q30
  have hF_q30w : F60x q30w = arrI (y 0) 100 (mwd 0 emp) := by rw [eFL60x]; exact (va_up_ne _ _ n_q30w_q59).trans hF_q30w
  have ha_q30w : q30w ∈ L60x := by rw [eLL60x]; exact List.mem_append_left _ ha_q30w
  have hF_q37 : F60x q37 = .inr (7, [.int (iI 0), .ref q37w]) := by rw [eFL60x]; exact (va_up_ne _ _ n_q37_q59).trans hF_q37
  have ha_q37 : q37 ∈ L60x := by rw [eLL60x]; exact List.mem_append_left _ ha_q37
  have hF_q37w : F60x q37w = arrI (y 0) 100 (mwd 0 emp) := by rw [eFL60x]; exact (va_up_ne _ _ n_q37w_q59).trans hF_q37w
  have ha_q37w : q37w ∈ L60x := by rw [eLL60x]; exact List.mem_append_left _ ha_q37w
  have hF_q44 : F60x q44 = .inr (7, [.int (iI 0), .ref q44w]) := by rw [eFL60x]; exact (va_up_ne _ _ n_q44_q59).trans hF_q44
  have ha_q44 : q44 ∈ L60x := by rw [eLL60x]; exact List.mem_append_left _ ha_q44
  have hF_q44w : F60x q44w = arrI (y 0) 100 (mwd 0 emp) := by rw [eFL60x]; exact (va_up_ne _ _ n_q44w_q59).trans hF_q44w
  have ha_q44w : q44w ∈ L60x := by rw [eLL60x]; exact List.mem_append_left _ ha_q44w
  have hF_q52 : F60x q52 = .inr (7, [.int (iI 0), .ref q52w]) := by rw [eFL60x]; exact (va_up_ne _ _ n_q52_q59).trans hF_q52
  have ha_q52 : q52 ∈ L60x := by rw [eLL60x]; exact List.mem_append_left _ ha_q52
  have hF_q52w : F60x q52w = arrI (y 0) 100 (mwd 0 emp) := by rw [eFL60x]; exact (va_up_ne _ _ n_q52w_q59).trans hF_q52w
  have ha_q52w : q52w ∈ L60x := by rw [eLL60x]; exact List.mem_append_left _ ha_q52w
  have hfr : ∀ a ∈ L, a ≠ h → F60x a = F a := fun a h1 h2 => by rw [eFL60x]; exact (va_up_ne _ _ (fun e : a = q59 => nL_q59 (e ▸ h1))).trans (hfr a h1 h2)
  have hLs : ∀ a ∈ L, a ∈ L60x := fun a h1 => by rw [eLL60x]; exact List.mem_append_left _ (hLs a h1)
  have hF_q59 : F60x q59 = .inr (7, [.int (iI 0), .null]) := by rw [eFL60x]; exact va_up_self _ _ _
  have ha_q59 : q59 ∈ L60x := by rw [eLL60x]; exact List.mem_append_right _ List.mem_cons_self
  refine lv_dup hx hb dX6_init_106 rfl ?_
  refine q_iconst hx hb dX6_init_107 ?_
  refine q_iMv C0 lX6_35 (c_X5_init l D y L60x F60x _ q59 0 ha_q59 hF_q59 (by omega)) ⟨rfl, rfl⟩ rfl hP hD hS hA rfl hl rfl (Nat.le_of_ble_eq_true rfl) dX6_init_108 ⟨Nat.le_of_ble_eq_true rfl, Nat.le_of_ble_eq_true rfl⟩ (fun _ H locs L62 F62 hP hD hS hz62 hp62 => ?_)
  refine W.widen (k := 18) (n := 629) (Nat.le_of_ble_eq_true rfl) (Nat.le_of_ble_eq_true rfl) ?_
  obtain ⟨q59w, h0q59w, eLq59w, hRn, hfrq59w⟩ := hp62
  have n_h_q59w : h ≠ q59w := fun e => h0q59w (e ▸ ha_h)
  have n_q1_q59w : q1 ≠ q59w := fun e => h0q59w (e ▸ ha_q1)
  have n_q4_q59w : q4 ≠ q59w := fun e => h0q59w (e ▸ ha_q4)
  have n_q7_q59w : q7 ≠ q59w := fun e => h0q59w (e ▸ ha_q7)
  have n_q10_q59w : q10 ≠ q59w := fun e => h0q59w (e ▸ ha_q10)
  have n_q13_q59w : q13 ≠ q59w := fun e => h0q59w (e ▸ ha_q13)
  have n_q19_q59w : q19 ≠ q59w := fun e => h0q59w (e ▸ ha_q19)
  have n_q23_q59w : q23 ≠ q59w := fun e => h0q59w (e ▸ ha_q23)
  have n_q23w_q59w : q23w ≠ q59w := fun e => h0q59w (e ▸ ha_q23w)
  have n_q30_q59w : q30 ≠ q59w := fun e => h0q59w (e ▸ ha_q30)
  have n_q30w_q59w : q30w ≠ q59w := fun e => h0q59w (e ▸ ha_q30w)
  have n_q37_q59w : q37 ≠ q59w := fun e => h0q59w (e ▸ ha_q37)
  have n_q37w_q59w : q37w ≠ q59w := fun e => h0q59w (e ▸ ha_q37w)
  have n_q44_q59w : q44 ≠ q59w := fun e => h0q59w (e ▸ ha_q44)
  have n_q44w_q59w : q44w ≠ q59w := fun e => h0q59w (e ▸ ha_q44w)
  have n_q52_q59w : q52 ≠ q59w := fun e => h0q59w (e ▸ ha_q52)
  have n_q52w_q59w : q52w ≠ q59w := fun e => h0q59w (e ▸ ha_q52w)
  have n_q59_q59w : q59 ≠ q59w := fun e => h0q59w (e ▸ ha_q59)
  have nL_q59w : q59w ∉ L := fun z => h0q59w (hLs _ z)
  have hF_h : F62 h = .inr (8, [.ref q1, .ref q4, .ref q7, .ref q10, .ref q13, .null, .int (iI 0), .int (iI ((-1))), .int (iI 0), .ref q19, .int (iI 0)]) := (hfrq59w h ha_h n_h_q59).trans hF_h
  have ha_h : h ∈ L62 := by rw [eLq59w]; exact List.mem_append_left _ ha_h
  have hF_q1 : F62 q1 = arrQ (y 3) 4 (iu (iu (iu (iu (fun _ => none) 0 (some q23)) 1 (some q30)) 2 (some q37)) 3 (some q44)) := (hfrq59w q1 ha_q1 n_q1_q59).trans hF_q1
  have ha_q1 : q1 ∈ L62 := by rw [eLq59w]; exact List.mem_append_left _ ha_q1
  have hF_q4 : F62 q4 = arrQ (y 3) 3 (iu (fun _ => none) 0 (some q52)) := (hfrq59w q4 ha_q4 n_q4_q59).trans hF_q4
  have ha_q4 : q4 ∈ L62 := by rw [eLq59w]; exact List.mem_append_left _ ha_q4
  have hF_q7 : F62 q7 = arrQ (y 3) 2 (fun _ => none) := (hfrq59w q7 ha_q7 n_q7_q59).trans hF_q7
  have ha_q7 : q7 ∈ L62 := by rw [eLq59w]; exact List.mem_append_left _ ha_q7
  have hF_q10 : F62 q10 = arrI (y 0) 2 (fun _ => 0) := (hfrq59w q10 ha_q10 n_q10_q59).trans hF_q10
  have ha_q10 : q10 ∈ L62 := by rw [eLq59w]; exact List.mem_append_left _ ha_q10
  have hF_q13 : F62 q13 = arrI (y 0) 2 (iu (iu (fun _ => 0) 0 99) 1 99) := (hfrq59w q13 ha_q13 n_q13_q59).trans hF_q13
  have ha_q13 : q13 ∈ L62 := by rw [eLq59w]; exact List.mem_append_left _ ha_q13
  have hF_q19 : F62 q19 = arrI (y 0) 4 (fun _ => 0) := (hfrq59w q19 ha_q19 n_q19_q59).trans hF_q19
  have ha_q19 : q19 ∈ L62 := by rw [eLq59w]; exact List.mem_append_left _ ha_q19
  have hF_q23 : F62 q23 = .inr (7, [.int (iI 0), .ref q23w]) := (hfrq59w q23 ha_q23 n_q23_q59).trans hF_q23
  have ha_q23 : q23 ∈ L62 := by rw [eLq59w]; exact List.mem_append_left _ ha_q23
  have hF_q23w : F62 q23w = arrI (y 0) 100 (mwd 0 emp) := (hfrq59w q23w ha_q23w n_q23w_q59).trans hF_q23w
  have ha_q23w : q23w ∈ L62 := by rw [eLq59w]; exact List.mem_append_left _ ha_q23w
  have hF_q30 : F62 q30 = .inr (7, [.int (iI 0), .ref q30w]) := (hfrq59w q30 ha_q30 n_q30_q59).trans hF_q30
  have ha_q30 : q30 ∈ L62 := by rw [eLq59w]; exact List.mem_append_left _ ha_q30
  have hF_q30w : F62 q30w = arrI (y 0) 100 (mwd 0 emp) := (hfrq59w q30w ha_q30w n_q30w_q59).trans hF_q30w
  have ha_q30w : q30w ∈ L62 := by rw [eLq59w]; exact List.mem_append_left _ ha_q30w
  have hF_q37 : F62 q37 = .inr (7, [.int (iI 0), .ref q37w]) := (hfrq59w q37 ha_q37 n_q37_q59).trans hF_q37
  have ha_q37 : q37 ∈ L62 := by rw [eLq59w]; exact List.mem_append_left _ ha_q37
  have hF_q37w : F62 q37w = arrI (y 0) 100 (mwd 0 emp) := (hfrq59w q37w ha_q37w n_q37w_q59).trans hF_q37w
  have ha_q37w : q37w ∈ L62 := by rw [eLq59w]; exact List.mem_append_left _ ha_q37w
  have hF_q44 : F62 q44 = .inr (7, [.int (iI 0), .ref q44w]) := (hfrq59w q44 ha_q44 n_q44_q59).trans hF_q44
  have ha_q44 : q44 ∈ L62 := by rw [eLq59w]; exact List.mem_append_left _ ha_q44
  have hF_q44w : F62 q44w = arrI (y 0) 100 (mwd 0 emp) := (hfrq59w q44w ha_q44w n_q44w_q59).trans hF_q44w
  have ha_q44w : q44w ∈ L62 := by rw [eLq59w]; exact List.mem_append_left _ ha_q44w
  have hF_q52 : F62 q52 = .inr (7, [.int (iI 0), .ref q52w]) := (hfrq59w q52 ha_q52 n_q52_q59).trans hF_q52
  have ha_q52 : q52 ∈ L62 := by rw [eLq59w]; exact List.mem_append_left _ ha_q52
  have hF_q52w : F62 q52w = arrI (y 0) 100 (mwd 0 emp) := (hfrq59w q52w ha_q52w n_q52w_q59).trans hF_q52w
  have ha_q52w : q52w ∈ L62 := by rw [eLq59w]; exact List.mem_append_left _ ha_q52w
  have ha_q59 : q59 ∈ L62 := by rw [eLq59w]; exact List.mem_append_left _ ha_q59
  have hfr : ∀ a ∈ L, a ≠ h → F62 a = F a := fun a h1 h2 => (hfrq59w a (hLs a h1) (fun e : a = q59 => nL_q59 (e ▸ h1))).trans (hfr a h1 h2)
  have hLs : ∀ a ∈ L, a ∈ L62 := fun a h1 => by rw [eLq59w]; exact List.mem_append_left _ (hLs a h1)
  have hF_q59 : F62 q59 = .inr (7, [.int (iI 0), .ref q59w]) := hRn.2.1
  have hF_q59w : F62 q59w = arrI (y 0) 100 (mwd 0 emp) := hRn.2.2.2.1
  have ha_q59w : q59w ∈ L62 := hRn.2.2.1
  refine q_aast C0 hP hD hS ha_q4 hF_q4 (t := 3) (r := (RX5, TX5, 2)) rfl ha_q59 hF_q59 rfl (by omega) (by decide) dX6_init_111 (fun H locs hP hD hS => ?_)
  obtain ⟨F64x, eF64⟩ : ∃ z, z = va_up F62 q4 (arrQ (y 3) 3 (iu (iu (fun _ => none) 0 (some q52)) 1 (some q59))) := ⟨_, rfl⟩
  have hP : va_P D vwCl (va_pl L62 F64x) H := by rw [eF64]; exact hP
  have hD : va_D (AL L sz) (va_pl L62 F64x) := by rw [eF64]; exact hD
  have hF_h : F64x h = .inr (8, [.ref q1, .ref q4, .ref q7, .ref q10, .ref q13, .null, .int (iI 0), .int (iI ((-1))), .int (iI 0), .ref q19, .int (iI 0)]) := by rw [eF64]; exact (va_up_ne _ _ n_h_q4).trans hF_h
  have hF_q1 : F64x q1 = arrQ (y 3) 4 (iu (iu (iu (iu (fun _ => none) 0 (some q23)) 1 (some q30)) 2 (some q37)) 3 (some q44)) := by rw [eF64]; exact (va_up_ne _ _ n_q1_q4).trans hF_q1
  have hF_q7 : F64x q7 = arrQ (y 3) 2 (fun _ => none) := by rw [eF64]; exact (va_up_ne _ _ n_q4_q7.symm).trans hF_q7
  have hF_q10 : F64x q10 = arrI (y 0) 2 (fun _ => 0) := by rw [eF64]; exact (va_up_ne _ _ n_q4_q10.symm).trans hF_q10
  have hF_q13 : F64x q13 = arrI (y 0) 2 (iu (iu (fun _ => 0) 0 99) 1 99) := by rw [eF64]; exact (va_up_ne _ _ n_q4_q13.symm).trans hF_q13
  have hF_q19 : F64x q19 = arrI (y 0) 4 (fun _ => 0) := by rw [eF64]; exact (va_up_ne _ _ n_q4_q19.symm).trans hF_q19
  have hF_q23 : F64x q23 = .inr (7, [.int (iI 0), .ref q23w]) := by rw [eF64]; exact (va_up_ne _ _ n_q4_q23.symm).trans hF_q23
  have hF_q23w : F64x q23w = arrI (y 0) 100 (mwd 0 emp) := by rw [eF64]; exact (va_up_ne _ _ n_q4_q23w.symm).trans hF_q23w
  have hF_q30 : F64x q30 = .inr (7, [.int (iI 0), .ref q30w]) := by rw [eF64]; exact (va_up_ne _ _ n_q4_q30.symm).trans hF_q30
  have hF_q30w : F64x q30w = arrI (y 0) 100 (mwd 0 emp) := by rw [eF64]; exact (va_up_ne _ _ n_q4_q30w.symm).trans hF_q30w
  have hF_q37 : F64x q37 = .inr (7, [.int (iI 0), .ref q37w]) := by rw [eF64]; exact (va_up_ne _ _ n_q4_q37.symm).trans hF_q37
  have hF_q37w : F64x q37w = arrI (y 0) 100 (mwd 0 emp) := by rw [eF64]; exact (va_up_ne _ _ n_q4_q37w.symm).trans hF_q37w
  have hF_q44 : F64x q44 = .inr (7, [.int (iI 0), .ref q44w]) := by rw [eF64]; exact (va_up_ne _ _ n_q4_q44.symm).trans hF_q44
  have hF_q44w : F64x q44w = arrI (y 0) 100 (mwd 0 emp) := by rw [eF64]; exact (va_up_ne _ _ n_q4_q44w.symm).trans hF_q44w
  have hF_q52 : F64x q52 = .inr (7, [.int (iI 0), .ref q52w]) := by rw [eF64]; exact (va_up_ne _ _ n_q4_q52.symm).trans hF_q52
  have hF_q52w : F64x q52w = arrI (y 0) 100 (mwd 0 emp) := by rw [eF64]; exact (va_up_ne _ _ n_q4_q52w.symm).trans hF_q52w
  have hF_q59 : F64x q59 = .inr (7, [.int (iI 0), .ref q59w]) := by rw [eF64]; exact (va_up_ne _ _ n_q4_q59.symm).trans hF_q59
  have hF_q59w : F64x q59w = arrI (y 0) 100 (mwd 0 emp) := by rw [eF64]; exact (va_up_ne _ _ n_q4_q59w.symm).trans hF_q59w
  have hF_q4 : F64x q4 = arrQ (y 3) 3 (iu (iu (fun _ => none) 0 (some q52)) 1 (some q59)) := by rw [eF64]; exact va_up_self _ _ _
  have hfr : ∀ a ∈ L, a ≠ h → F64x a = F a := fun a h1 h2 => by rw [eF64]; exact (va_up_ne _ _ (fun e : a = q4 => nL_q4 (e ▸ h1))).trans (hfr a h1 h2)
  refine q_iinc (x := 1) (n := 1) (lv' := [(1, .int (iI 2)), (0, .ref h)]) hx hb dX6_init_112 hl (k := 0) rfl (by decide) rfl (fun ls hl => ?_)
  refine lv_goto (tgt := 93) hx hb dX6_init_115 (by decide) ?_
  refine lv_iload_n hx hb dX6_init_93 rfl (lv_at hl 0 rfl) ?_
  refine q_iconst hx hb dX6_init_94 ?_
  refine q_icmp_ge hx hb dX6_init_95 (tgt := 118) (by decide) (by omega) (by omega) (fun c65 => absurd c65 (by omega)) (fun c65 => ?_)
  refine lv_aload_n hx hb dX6_init_98 rfl (lv_at hl 1 rfl) ?_
  refine q_get C0 iX6 hP ha_h hF_h rfl 1 (by decide) flX6_15 rfl rfl dX6_init_99 ?_
  refine lv_iload_n hx hb dX6_init_102 rfl (lv_at hl 0 rfl) ?_
  refine q_new C0 iX5 tyX5 tyX5_ok klX6_9 insX5 iniX5 hP hD hS hA (ci := 7) rfl (fs := [.int (iI 0), .null]) (fun j hj => by rcases (show j = 0 ∨ j = 1 by omega) with rfl | rfl <;> rfl) (Nat.le_of_ble_eq_true rfl) (Nat.le_of_ble_eq_true rfl) dX6_init_103 (fun q66 H h0q66 hP hD hS => ?_)
  refine W.widen (k := 19) (n := 631) (Nat.le_of_ble_eq_true rfl) (Nat.le_of_ble_eq_true rfl) ?_
  have n_h_q66 : h ≠ q66 := fun e => h0q66 (e ▸ ha_h)
  have n_q1_q66 : q1 ≠ q66 := fun e => h0q66 (e ▸ ha_q1)
  have n_q4_q66 : q4 ≠ q66 := fun e => h0q66 (e ▸ ha_q4)
  have n_q7_q66 : q7 ≠ q66 := fun e => h0q66 (e ▸ ha_q7)
  have n_q10_q66 : q10 ≠ q66 := fun e => h0q66 (e ▸ ha_q10)
  have n_q13_q66 : q13 ≠ q66 := fun e => h0q66 (e ▸ ha_q13)
  have n_q19_q66 : q19 ≠ q66 := fun e => h0q66 (e ▸ ha_q19)
  have n_q23_q66 : q23 ≠ q66 := fun e => h0q66 (e ▸ ha_q23)
  have n_q23w_q66 : q23w ≠ q66 := fun e => h0q66 (e ▸ ha_q23w)
  have n_q30_q66 : q30 ≠ q66 := fun e => h0q66 (e ▸ ha_q30)
  have n_q30w_q66 : q30w ≠ q66 := fun e => h0q66 (e ▸ ha_q30w)
  have n_q37_q66 : q37 ≠ q66 := fun e => h0q66 (e ▸ ha_q37)
  have n_q37w_q66 : q37w ≠ q66 := fun e => h0q66 (e ▸ ha_q37w)
  have n_q44_q66 : q44 ≠ q66 := fun e => h0q66 (e ▸ ha_q44)
  have n_q44w_q66 : q44w ≠ q66 := fun e => h0q66 (e ▸ ha_q44w)
  have n_q52_q66 : q52 ≠ q66 := fun e => h0q66 (e ▸ ha_q52)
  have n_q52w_q66 : q52w ≠ q66 := fun e => h0q66 (e ▸ ha_q52w)
  have n_q59_q66 : q59 ≠ q66 := fun e => h0q66 (e ▸ ha_q59)
  have n_q59w_q66 : q59w ≠ q66 := fun e => h0q66 (e ▸ ha_q59w)
  have nL_q66 : q66 ∉ L := fun z => h0q66 (hLs _ z)
  obtain ⟨L67x, eLL67x⟩ : ∃ z, z = L62 ++ [q66] := ⟨_, rfl⟩
  obtain ⟨F67x, eFL67x⟩ : ∃ z, z = va_up F64x q66 (.inr (7, [.int (iI 0), .null])) := ⟨_, rfl⟩
  have hP : va_P D vwCl (va_pl L67x F67x) H := by rw [eLL67x, eFL67x]; exact hP
  have hD : va_D (AL L sz) (va_pl L67x F67x) := by rw [eLL67x, eFL67x]; exact hD
  have hF_h : F67x h = .inr (8, [.ref q1, .ref q4, .ref q7, .ref q10, .ref q13, .null, .int (iI 0), .int (iI ((-1))), .int (iI 0), .ref q19, .int (iI 0)]) := by rw [eFL67x]; exact (va_up_ne _ _ n_h_q66).trans hF_h
  have ha_h : h ∈ L67x := by rw [eLL67x]; exact List.mem_append_left _ ha_h
  have hF_q1 : F67x q1 = arrQ (y 3) 4 (iu (iu (iu (iu (fun _ => none) 0 (some q23)) 1 (some q30)) 2 (some q37)) 3 (some q44)) := by rw [eFL67x]; exact (va_up_ne _ _ n_q1_q66).trans hF_q1
  have ha_q1 : q1 ∈ L67x := by rw [eLL67x]; exact List.mem_append_left _ ha_q1
  have hF_q4 : F67x q4 = arrQ (y 3) 3 (iu (iu (fun _ => none) 0 (some q52)) 1 (some q59)) := by rw [eFL67x]; exact (va_up_ne _ _ n_q4_q66).trans hF_q4
  have ha_q4 : q4 ∈ L67x := by rw [eLL67x]; exact List.mem_append_left _ ha_q4
  have hF_q7 : F67x q7 = arrQ (y 3) 2 (fun _ => none) := by rw [eFL67x]; exact (va_up_ne _ _ n_q7_q66).trans hF_q7
  have ha_q7 : q7 ∈ L67x := by rw [eLL67x]; exact List.mem_append_left _ ha_q7
  have hF_q10 : F67x q10 = arrI (y 0) 2 (fun _ => 0) := by rw [eFL67x]; exact (va_up_ne _ _ n_q10_q66).trans hF_q10
  have ha_q10 : q10 ∈ L67x := by rw [eLL67x]; exact List.mem_append_left _ ha_q10
  have hF_q13 : F67x q13 = arrI (y 0) 2 (iu (iu (fun _ => 0) 0 99) 1 99) := by rw [eFL67x]; exact (va_up_ne _ _ n_q13_q66).trans hF_q13
  have ha_q13 : q13 ∈ L67x := by rw [eLL67x]; exact List.mem_append_left _ ha_q13
  have hF_q19 : F67x q19 = arrI (y 0) 4 (fun _ => 0) := by rw [eFL67x]; exact (va_up_ne _ _ n_q19_q66).trans hF_q19
  have ha_q19 : q19 ∈ L67x := by rw [eLL67x]; exact List.mem_append_left _ ha_q19
  have hF_q23 : F67x q23 = .inr (7, [.int (iI 0), .ref q23w]) := by rw [eFL67x]; exact (va_up_ne _ _ n_q23_q66).trans hF_q23
  have ha_q23 : q23 ∈ L67x := by rw [eLL67x]; exact List.mem_append_left _ ha_q23
  have hF_q23w : F67x q23w = arrI (y 0) 100 (mwd 0 emp) := by rw [eFL67x]; exact (va_up_ne _ _ n_q23w_q66).trans hF_q23w
  have ha_q23w : q23w ∈ L67x := by rw [eLL67x]; exact List.mem_append_left _ ha_q23w
  have hF_q30 : F67x q30 = .inr (7, [.int (iI 0), .ref q30w]) := by rw [eFL67x]; exact (va_up_ne _ _ n_q30_q66).trans hF_q30
  have ha_q30 : q30 ∈ L67x := by rw [eLL67x]; exact List.mem_append_left _ ha_q30
  have hF_q30w : F67x q30w = arrI (y 0) 100 (mwd 0 emp) := by rw [eFL67x]; exact (va_up_ne _ _ n_q30w_q66).trans hF_q30w
  have ha_q30w : q30w ∈ L67x := by rw [eLL67x]; exact List.mem_append_left _ ha_q30w
  have hF_q37 : F67x q37 = .inr (7, [.int (iI 0), .ref q37w]) := by rw [eFL67x]; exact (va_up_ne _ _ n_q37_q66).trans hF_q37
  have ha_q37 : q37 ∈ L67x := by rw [eLL67x]; exact List.mem_append_left _ ha_q37
  have hF_q37w : F67x q37w = arrI (y 0) 100 (mwd 0 emp) := by rw [eFL67x]; exact (va_up_ne _ _ n_q37w_q66).trans hF_q37w
  have ha_q37w : q37w ∈ L67x := by rw [eLL67x]; exact List.mem_append_left _ ha_q37w
  have hF_q44 : F67x q44 = .inr (7, [.int (iI 0), .ref q44w]) := by rw [eFL67x]; exact (va_up_ne _ _ n_q44_q66).trans hF_q44
  have ha_q44 : q44 ∈ L67x := by rw [eLL67x]; exact List.mem_append_left _ ha_q44
  have hF_q44w : F67x q44w = arrI (y 0) 100 (mwd 0 emp) := by rw [eFL67x]; exact (va_up_ne _ _ n_q44w_q66).trans hF_q44w
  have ha_q44w : q44w ∈ L67x := by rw [eLL67x]; exact List.mem_append_left _ ha_q44w
  have hF_q52 : F67x q52 = .inr (7, [.int (iI 0), .ref q52w]) := by rw [eFL67x]; exact (va_up_ne _ _ n_q52_q66).trans hF_q52
  have ha_q52 : q52 ∈ L67x := by rw [eLL67x]; exact List.mem_append_left _ ha_q52
  have hF_q52w : F67x q52w = arrI (y 0) 100 (mwd 0 emp) := by rw [eFL67x]; exact (va_up_ne _ _ n_q52w_q66).trans hF_q52w
  have ha_q52w : q52w ∈ L67x := by rw [eLL67x]; exact List.mem_append_left _ ha_q52w
  have hF_q59 : F67x q59 = .inr (7, [.int (iI 0), .ref q59w]) := by rw [eFL67x]; exact (va_up_ne _ _ n_q59_q66).trans hF_q59
  have ha_q59 : q59 ∈ L67x := by rw [eLL67x]; exact List.mem_append_left _ ha_q59
  have hF_q59w : F67x q59w = arrI (y 0) 100 (mwd 0 emp) := by rw [eFL67x]; exact (va_up_ne _ _ n_q59w_q66).trans hF_q59w
  have ha_q59w : q59w ∈ L67x := by rw [eLL67x]; exact List.mem_append_left _ ha_q59w
  have hfr : ∀ a ∈ L, a ≠ h → F67x a = F a := fun a h1 h2 => by rw [eFL67x]; exact (va_up_ne _ _ (fun e : a = q66 => nL_q66 (e ▸ h1))).trans (hfr a h1 h2)
  have hLs : ∀ a ∈ L, a ∈ L67x := fun a h1 => by rw [eLL67x]; exact List.mem_append_left _ (hLs a h1)
  have hF_q66 : F67x q66 = .inr (7, [.int (iI 0), .null]) := by rw [eFL67x]; exact va_up_self _ _ _
  have ha_q66 : q66 ∈ L67x := by rw [eLL67x]; exact List.mem_append_right _ List.mem_cons_self
  refine lv_dup hx hb dX6_init_106 rfl ?_
  refine q_iconst hx hb dX6_init_107 ?_
  refine q_iMv C0 lX6_35 (c_X5_init l D y L67x F67x _ q66 0 ha_q66 hF_q66 (by omega)) ⟨rfl, rfl⟩ rfl hP hD hS hA rfl hl rfl (Nat.le_of_ble_eq_true rfl) dX6_init_108 ⟨Nat.le_of_ble_eq_true rfl, Nat.le_of_ble_eq_true rfl⟩ (fun _ H locs L69 F69 hP hD hS hz69 hp69 => ?_)
  refine W.widen (k := 20) (n := 731) (Nat.le_of_ble_eq_true rfl) (Nat.le_of_ble_eq_true rfl) ?_
  obtain ⟨q66w, h0q66w, eLq66w, hRn, hfrq66w⟩ := hp69
  have n_h_q66w : h ≠ q66w := fun e => h0q66w (e ▸ ha_h)
  have n_q1_q66w : q1 ≠ q66w := fun e => h0q66w (e ▸ ha_q1)
  have n_q4_q66w : q4 ≠ q66w := fun e => h0q66w (e ▸ ha_q4)
  have n_q7_q66w : q7 ≠ q66w := fun e => h0q66w (e ▸ ha_q7)
  have n_q10_q66w : q10 ≠ q66w := fun e => h0q66w (e ▸ ha_q10)
  have n_q13_q66w : q13 ≠ q66w := fun e => h0q66w (e ▸ ha_q13)
  have n_q19_q66w : q19 ≠ q66w := fun e => h0q66w (e ▸ ha_q19)
  have n_q23_q66w : q23 ≠ q66w := fun e => h0q66w (e ▸ ha_q23)
  have n_q23w_q66w : q23w ≠ q66w := fun e => h0q66w (e ▸ ha_q23w)
  have n_q30_q66w : q30 ≠ q66w := fun e => h0q66w (e ▸ ha_q30)
  have n_q30w_q66w : q30w ≠ q66w := fun e => h0q66w (e ▸ ha_q30w)
  have n_q37_q66w : q37 ≠ q66w := fun e => h0q66w (e ▸ ha_q37)
  have n_q37w_q66w : q37w ≠ q66w := fun e => h0q66w (e ▸ ha_q37w)
  have n_q44_q66w : q44 ≠ q66w := fun e => h0q66w (e ▸ ha_q44)
  have n_q44w_q66w : q44w ≠ q66w := fun e => h0q66w (e ▸ ha_q44w)
  have n_q52_q66w : q52 ≠ q66w := fun e => h0q66w (e ▸ ha_q52)
  have n_q52w_q66w : q52w ≠ q66w := fun e => h0q66w (e ▸ ha_q52w)
  have n_q59_q66w : q59 ≠ q66w := fun e => h0q66w (e ▸ ha_q59)
  have n_q59w_q66w : q59w ≠ q66w := fun e => h0q66w (e ▸ ha_q59w)
  have n_q66_q66w : q66 ≠ q66w := fun e => h0q66w (e ▸ ha_q66)
  have nL_q66w : q66w ∉ L := fun z => h0q66w (hLs _ z)
  have hF_h : F69 h = .inr (8, [.ref q1, .ref q4, .ref q7, .ref q10, .ref q13, .null, .int (iI 0), .int (iI ((-1))), .int (iI 0), .ref q19, .int (iI 0)]) := (hfrq66w h ha_h n_h_q66).trans hF_h
  have ha_h : h ∈ L69 := by rw [eLq66w]; exact List.mem_append_left _ ha_h
  have hF_q1 : F69 q1 = arrQ (y 3) 4 (iu (iu (iu (iu (fun _ => none) 0 (some q23)) 1 (some q30)) 2 (some q37)) 3 (some q44)) := (hfrq66w q1 ha_q1 n_q1_q66).trans hF_q1
  have ha_q1 : q1 ∈ L69 := by rw [eLq66w]; exact List.mem_append_left _ ha_q1
  have hF_q4 : F69 q4 = arrQ (y 3) 3 (iu (iu (fun _ => none) 0 (some q52)) 1 (some q59)) := (hfrq66w q4 ha_q4 n_q4_q66).trans hF_q4
  have ha_q4 : q4 ∈ L69 := by rw [eLq66w]; exact List.mem_append_left _ ha_q4
  have hF_q7 : F69 q7 = arrQ (y 3) 2 (fun _ => none) := (hfrq66w q7 ha_q7 n_q7_q66).trans hF_q7
  have ha_q7 : q7 ∈ L69 := by rw [eLq66w]; exact List.mem_append_left _ ha_q7
  have hF_q10 : F69 q10 = arrI (y 0) 2 (fun _ => 0) := (hfrq66w q10 ha_q10 n_q10_q66).trans hF_q10
  have ha_q10 : q10 ∈ L69 := by rw [eLq66w]; exact List.mem_append_left _ ha_q10
  have hF_q13 : F69 q13 = arrI (y 0) 2 (iu (iu (fun _ => 0) 0 99) 1 99) := (hfrq66w q13 ha_q13 n_q13_q66).trans hF_q13
  have ha_q13 : q13 ∈ L69 := by rw [eLq66w]; exact List.mem_append_left _ ha_q13
  have hF_q19 : F69 q19 = arrI (y 0) 4 (fun _ => 0) := (hfrq66w q19 ha_q19 n_q19_q66).trans hF_q19
  have ha_q19 : q19 ∈ L69 := by rw [eLq66w]; exact List.mem_append_left _ ha_q19
  have hF_q23 : F69 q23 = .inr (7, [.int (iI 0), .ref q23w]) := (hfrq66w q23 ha_q23 n_q23_q66).trans hF_q23
  have ha_q23 : q23 ∈ L69 := by rw [eLq66w]; exact List.mem_append_left _ ha_q23
  have hF_q23w : F69 q23w = arrI (y 0) 100 (mwd 0 emp) := (hfrq66w q23w ha_q23w n_q23w_q66).trans hF_q23w
  have ha_q23w : q23w ∈ L69 := by rw [eLq66w]; exact List.mem_append_left _ ha_q23w
  have hF_q30 : F69 q30 = .inr (7, [.int (iI 0), .ref q30w]) := (hfrq66w q30 ha_q30 n_q30_q66).trans hF_q30
  have ha_q30 : q30 ∈ L69 := by rw [eLq66w]; exact List.mem_append_left _ ha_q30
  have hF_q30w : F69 q30w = arrI (y 0) 100 (mwd 0 emp) := (hfrq66w q30w ha_q30w n_q30w_q66).trans hF_q30w
  have ha_q30w : q30w ∈ L69 := by rw [eLq66w]; exact List.mem_append_left _ ha_q30w
  have hF_q37 : F69 q37 = .inr (7, [.int (iI 0), .ref q37w]) := (hfrq66w q37 ha_q37 n_q37_q66).trans hF_q37
  have ha_q37 : q37 ∈ L69 := by rw [eLq66w]; exact List.mem_append_left _ ha_q37
  have hF_q37w : F69 q37w = arrI (y 0) 100 (mwd 0 emp) := (hfrq66w q37w ha_q37w n_q37w_q66).trans hF_q37w
  have ha_q37w : q37w ∈ L69 := by rw [eLq66w]; exact List.mem_append_left _ ha_q37w
  have hF_q44 : F69 q44 = .inr (7, [.int (iI 0), .ref q44w]) := (hfrq66w q44 ha_q44 n_q44_q66).trans hF_q44
  have ha_q44 : q44 ∈ L69 := by rw [eLq66w]; exact List.mem_append_left _ ha_q44
  have hF_q44w : F69 q44w = arrI (y 0) 100 (mwd 0 emp) := (hfrq66w q44w ha_q44w n_q44w_q66).trans hF_q44w
  have ha_q44w : q44w ∈ L69 := by rw [eLq66w]; exact List.mem_append_left _ ha_q44w
  have hF_q52 : F69 q52 = .inr (7, [.int (iI 0), .ref q52w]) := (hfrq66w q52 ha_q52 n_q52_q66).trans hF_q52
  have ha_q52 : q52 ∈ L69 := by rw [eLq66w]; exact List.mem_append_left _ ha_q52
  have hF_q52w : F69 q52w = arrI (y 0) 100 (mwd 0 emp) := (hfrq66w q52w ha_q52w n_q52w_q66).trans hF_q52w
  have ha_q52w : q52w ∈ L69 := by rw [eLq66w]; exact List.mem_append_left _ ha_q52w
  have hF_q59 : F69 q59 = .inr (7, [.int (iI 0), .ref q59w]) := (hfrq66w q59 ha_q59 n_q59_q66).trans hF_q59
  have ha_q59 : q59 ∈ L69 := by rw [eLq66w]; exact List.mem_append_left _ ha_q59
  have hF_q59w : F69 q59w = arrI (y 0) 100 (mwd 0 emp) := (hfrq66w q59w ha_q59w n_q59w_q66).trans hF_q59w
  have ha_q59w : q59w ∈ L69 := by rw [eLq66w]; exact List.mem_append_left _ ha_q59w
  have ha_q66 : q66 ∈ L69 := by rw [eLq66w]; exact List.mem_append_left _ ha_q66
  have hfr : ∀ a ∈ L, a ≠ h → F69 a = F a := fun a h1 h2 => (hfrq66w a (hLs a h1) (fun e : a = q66 => nL_q66 (e ▸ h1))).trans (hfr a h1 h2)
  have hLs : ∀ a ∈ L, a ∈ L69 := fun a h1 => by rw [eLq66w]; exact List.mem_append_left _ (hLs a h1)
  have hF_q66 : F69 q66 = .inr (7, [.int (iI 0), .ref q66w]) := hRn.2.1
  have hF_q66w : F69 q66w = arrI (y 0) 100 (mwd 0 emp) := hRn.2.2.2.1
  have ha_q66w : q66w ∈ L69 := hRn.2.2.1
  refine q_aast C0 hP hD hS ha_q4 hF_q4 (t := 3) (r := (RX5, TX5, 2)) rfl ha_q66 hF_q66 rfl (by omega) (by decide) dX6_init_111 (fun H locs hP hD hS => ?_)
  obtain ⟨F71x, eF71⟩ : ∃ z, z = va_up F69 q4 (arrQ (y 3) 3 (iu (iu (iu (fun _ => none) 0 (some q52)) 1 (some q59)) 2 (some q66))) := ⟨_, rfl⟩
  have hP : va_P D vwCl (va_pl L69 F71x) H := by rw [eF71]; exact hP
  have hD : va_D (AL L sz) (va_pl L69 F71x) := by rw [eF71]; exact hD
  have hF_h : F71x h = .inr (8, [.ref q1, .ref q4, .ref q7, .ref q10, .ref q13, .null, .int (iI 0), .int (iI ((-1))), .int (iI 0), .ref q19, .int (iI 0)]) := by rw [eF71]; exact (va_up_ne _ _ n_h_q4).trans hF_h
  have hF_q1 : F71x q1 = arrQ (y 3) 4 (iu (iu (iu (iu (fun _ => none) 0 (some q23)) 1 (some q30)) 2 (some q37)) 3 (some q44)) := by rw [eF71]; exact (va_up_ne _ _ n_q1_q4).trans hF_q1
  have hF_q7 : F71x q7 = arrQ (y 3) 2 (fun _ => none) := by rw [eF71]; exact (va_up_ne _ _ n_q4_q7.symm).trans hF_q7
  have hF_q10 : F71x q10 = arrI (y 0) 2 (fun _ => 0) := by rw [eF71]; exact (va_up_ne _ _ n_q4_q10.symm).trans hF_q10
  have hF_q13 : F71x q13 = arrI (y 0) 2 (iu (iu (fun _ => 0) 0 99) 1 99) := by rw [eF71]; exact (va_up_ne _ _ n_q4_q13.symm).trans hF_q13
  have hF_q19 : F71x q19 = arrI (y 0) 4 (fun _ => 0) := by rw [eF71]; exact (va_up_ne _ _ n_q4_q19.symm).trans hF_q19
  have hF_q23 : F71x q23 = .inr (7, [.int (iI 0), .ref q23w]) := by rw [eF71]; exact (va_up_ne _ _ n_q4_q23.symm).trans hF_q23
  have hF_q23w : F71x q23w = arrI (y 0) 100 (mwd 0 emp) := by rw [eF71]; exact (va_up_ne _ _ n_q4_q23w.symm).trans hF_q23w
  have hF_q30 : F71x q30 = .inr (7, [.int (iI 0), .ref q30w]) := by rw [eF71]; exact (va_up_ne _ _ n_q4_q30.symm).trans hF_q30
  have hF_q30w : F71x q30w = arrI (y 0) 100 (mwd 0 emp) := by rw [eF71]; exact (va_up_ne _ _ n_q4_q30w.symm).trans hF_q30w
  have hF_q37 : F71x q37 = .inr (7, [.int (iI 0), .ref q37w]) := by rw [eF71]; exact (va_up_ne _ _ n_q4_q37.symm).trans hF_q37
  have hF_q37w : F71x q37w = arrI (y 0) 100 (mwd 0 emp) := by rw [eF71]; exact (va_up_ne _ _ n_q4_q37w.symm).trans hF_q37w
  have hF_q44 : F71x q44 = .inr (7, [.int (iI 0), .ref q44w]) := by rw [eF71]; exact (va_up_ne _ _ n_q4_q44.symm).trans hF_q44
  have hF_q44w : F71x q44w = arrI (y 0) 100 (mwd 0 emp) := by rw [eF71]; exact (va_up_ne _ _ n_q4_q44w.symm).trans hF_q44w
  have hF_q52 : F71x q52 = .inr (7, [.int (iI 0), .ref q52w]) := by rw [eF71]; exact (va_up_ne _ _ n_q4_q52.symm).trans hF_q52
  have hF_q52w : F71x q52w = arrI (y 0) 100 (mwd 0 emp) := by rw [eF71]; exact (va_up_ne _ _ n_q4_q52w.symm).trans hF_q52w
  have hF_q59 : F71x q59 = .inr (7, [.int (iI 0), .ref q59w]) := by rw [eF71]; exact (va_up_ne _ _ n_q4_q59.symm).trans hF_q59
  have hF_q59w : F71x q59w = arrI (y 0) 100 (mwd 0 emp) := by rw [eF71]; exact (va_up_ne _ _ n_q4_q59w.symm).trans hF_q59w
  have hF_q66 : F71x q66 = .inr (7, [.int (iI 0), .ref q66w]) := by rw [eF71]; exact (va_up_ne _ _ n_q4_q66.symm).trans hF_q66
  have hF_q66w : F71x q66w = arrI (y 0) 100 (mwd 0 emp) := by rw [eF71]; exact (va_up_ne _ _ n_q4_q66w.symm).trans hF_q66w
  have hF_q4 : F71x q4 = arrQ (y 3) 3 (iu (iu (iu (fun _ => none) 0 (some q52)) 1 (some q59)) 2 (some q66)) := by rw [eF71]; exact va_up_self _ _ _
  have hfr : ∀ a ∈ L, a ≠ h → F71x a = F a := fun a h1 h2 => by rw [eF71]; exact (va_up_ne _ _ (fun e : a = q4 => nL_q4 (e ▸ h1))).trans (hfr a h1 h2)
  refine q_iinc (x := 2) (n := 1) (lv' := [(1, .int (iI 3)), (0, .ref h)]) hx hb dX6_init_112 hl (k := 0) rfl (by decide) rfl (fun ls hl => ?_)
  refine lv_goto (tgt := 93) hx hb dX6_init_115 (by decide) ?_
  refine lv_iload_n hx hb dX6_init_93 rfl (lv_at hl 0 rfl) ?_
  refine q_iconst hx hb dX6_init_94 ?_
  refine q_icmp_ge hx hb dX6_init_95 (tgt := 118) (by decide) (by omega) (by omega) (fun c72 => ?_) (fun c72 => absurd c72 (by omega))
  refine q_iconst hx hb dX6_init_118 ?_
  refine lv_istore_n (lv' := [(1, .int (iI 0)), (0, .ref h)]) hx hb dX6_init_119 rfl hl (by decide) rfl (fun ls hl => ?_)
  refine lv_iload_n hx hb dX6_init_120 rfl (lv_at hl 0 rfl) ?_
  refine q_iconst hx hb dX6_init_121 ?_
  refine q_icmp_ge hx hb dX6_init_122 (tgt := 143) (by decide) (by omega) (by omega) (fun c73 => absurd c73 (by omega)) (fun c73 => ?_)
  refine lv_aload_n hx hb dX6_init_125 rfl (lv_at hl 1 rfl) ?_
  refine q_get C0 iX6 hP ha_h hF_h rfl 2 (by decide) flX6_18 rfl rfl dX6_init_126 ?_
  refine lv_iload_n hx hb dX6_init_129 rfl (lv_at hl 0 rfl) ?_
  refine lv_aload_n hx hb dX6_init_130 rfl (lv_at hl 1 rfl) ?_
  refine q_get C0 iX6 hP ha_h hF_h rfl 0 (by decide) flX6_11 rfl rfl dX6_init_131 ?_
  refine lv_iload_n hx hb dX6_init_134 rfl (lv_at hl 0 rfl) ?_
  refine q_aald C0 hP ha_q1 hF_q1 (t := 3) rfl (by omega) (by decide) (v := .ref q23) rfl dX6_init_135 ?_
  refine q_aast C0 hP hD hS ha_q7 hF_q7 (t := 3) (r := (RX5, TX5, 2)) rfl ha_q23 hF_q23 rfl (by omega) (by decide) dX6_init_136 (fun H locs hP hD hS => ?_)
  obtain ⟨F74x, eF74⟩ : ∃ z, z = va_up F71x q7 (arrQ (y 3) 2 (iu (fun _ => none) 0 (some q23))) := ⟨_, rfl⟩
  have hP : va_P D vwCl (va_pl L69 F74x) H := by rw [eF74]; exact hP
  have hD : va_D (AL L sz) (va_pl L69 F74x) := by rw [eF74]; exact hD
  have hF_h : F74x h = .inr (8, [.ref q1, .ref q4, .ref q7, .ref q10, .ref q13, .null, .int (iI 0), .int (iI ((-1))), .int (iI 0), .ref q19, .int (iI 0)]) := by rw [eF74]; exact (va_up_ne _ _ n_h_q7).trans hF_h
  have hF_q1 : F74x q1 = arrQ (y 3) 4 (iu (iu (iu (iu (fun _ => none) 0 (some q23)) 1 (some q30)) 2 (some q37)) 3 (some q44)) := by rw [eF74]; exact (va_up_ne _ _ n_q1_q7).trans hF_q1
  have hF_q4 : F74x q4 = arrQ (y 3) 3 (iu (iu (iu (fun _ => none) 0 (some q52)) 1 (some q59)) 2 (some q66)) := by rw [eF74]; exact (va_up_ne _ _ n_q4_q7).trans hF_q4
  have hF_q10 : F74x q10 = arrI (y 0) 2 (fun _ => 0) := by rw [eF74]; exact (va_up_ne _ _ n_q7_q10.symm).trans hF_q10
  have hF_q13 : F74x q13 = arrI (y 0) 2 (iu (iu (fun _ => 0) 0 99) 1 99) := by rw [eF74]; exact (va_up_ne _ _ n_q7_q13.symm).trans hF_q13
  have hF_q19 : F74x q19 = arrI (y 0) 4 (fun _ => 0) := by rw [eF74]; exact (va_up_ne _ _ n_q7_q19.symm).trans hF_q19
  have hF_q23 : F74x q23 = .inr (7, [.int (iI 0), .ref q23w]) := by rw [eF74]; exact (va_up_ne _ _ n_q7_q23.symm).trans hF_q23
  have hF_q23w : F74x q23w = arrI (y 0) 100 (mwd 0 emp) := by rw [eF74]; exact (va_up_ne _ _ n_q7_q23w.symm).trans hF_q23w
  have hF_q30 : F74x q30 = .inr (7, [.int (iI 0), .ref q30w]) := by rw [eF74]; exact (va_up_ne _ _ n_q7_q30.symm).trans hF_q30
  have hF_q30w : F74x q30w = arrI (y 0) 100 (mwd 0 emp) := by rw [eF74]; exact (va_up_ne _ _ n_q7_q30w.symm).trans hF_q30w
  have hF_q37 : F74x q37 = .inr (7, [.int (iI 0), .ref q37w]) := by rw [eF74]; exact (va_up_ne _ _ n_q7_q37.symm).trans hF_q37
  have hF_q37w : F74x q37w = arrI (y 0) 100 (mwd 0 emp) := by rw [eF74]; exact (va_up_ne _ _ n_q7_q37w.symm).trans hF_q37w
  have hF_q44 : F74x q44 = .inr (7, [.int (iI 0), .ref q44w]) := by rw [eF74]; exact (va_up_ne _ _ n_q7_q44.symm).trans hF_q44
  have hF_q44w : F74x q44w = arrI (y 0) 100 (mwd 0 emp) := by rw [eF74]; exact (va_up_ne _ _ n_q7_q44w.symm).trans hF_q44w
  have hF_q52 : F74x q52 = .inr (7, [.int (iI 0), .ref q52w]) := by rw [eF74]; exact (va_up_ne _ _ n_q7_q52.symm).trans hF_q52
  have hF_q52w : F74x q52w = arrI (y 0) 100 (mwd 0 emp) := by rw [eF74]; exact (va_up_ne _ _ n_q7_q52w.symm).trans hF_q52w
  have hF_q59 : F74x q59 = .inr (7, [.int (iI 0), .ref q59w]) := by rw [eF74]; exact (va_up_ne _ _ n_q7_q59.symm).trans hF_q59
  have hF_q59w : F74x q59w = arrI (y 0) 100 (mwd 0 emp) := by rw [eF74]; exact (va_up_ne _ _ n_q7_q59w.symm).trans hF_q59w
  have hF_q66 : F74x q66 = .inr (7, [.int (iI 0), .ref q66w]) := by rw [eF74]; exact (va_up_ne _ _ n_q7_q66.symm).trans hF_q66
  have hF_q66w : F74x q66w = arrI (y 0) 100 (mwd 0 emp) := by rw [eF74]; exact (va_up_ne _ _ n_q7_q66w.symm).trans hF_q66w
  have hF_q7 : F74x q7 = arrQ (y 3) 2 (iu (fun _ => none) 0 (some q23)) := by rw [eF74]; exact va_up_self _ _ _
  have hfr : ∀ a ∈ L, a ≠ h → F74x a = F a := fun a h1 h2 => by rw [eF74]; exact (va_up_ne _ _ (fun e : a = q7 => nL_q7 (e ▸ h1))).trans (hfr a h1 h2)
  refine q_iinc (x := 0) (n := 1) (lv' := [(1, .int (iI 1)), (0, .ref h)]) hx hb dX6_init_137 hl (k := 0) rfl (by decide) rfl (fun ls hl => ?_)
  refine lv_goto (tgt := 120) hx hb dX6_init_140 (by decide) ?_
  refine lv_iload_n hx hb dX6_init_120 rfl (lv_at hl 0 rfl) ?_
  refine q_iconst hx hb dX6_init_121 ?_
  refine q_icmp_ge hx hb dX6_init_122 (tgt := 143) (by decide) (by omega) (by omega) (fun c75 => absurd c75 (by omega)) (fun c75 => ?_)
  refine lv_aload_n hx hb dX6_init_125 rfl (lv_at hl 1 rfl) ?_
  refine q_get C0 iX6 hP ha_h hF_h rfl 2 (by decide) flX6_18 rfl rfl dX6_init_126 ?_
  refine lv_iload_n hx hb dX6_init_129 rfl (lv_at hl 0 rfl) ?_
  refine lv_aload_n hx hb dX6_init_130 rfl (lv_at hl 1 rfl) ?_
  refine q_get C0 iX6 hP ha_h hF_h rfl 0 (by decide) flX6_11 rfl rfl dX6_init_131 ?_
  refine lv_iload_n hx hb dX6_init_134 rfl (lv_at hl 0 rfl) ?_
  refine q_aald C0 hP ha_q1 hF_q1 (t := 3) rfl (by omega) (by decide) (v := .ref q30) rfl dX6_init_135 ?_
  refine q_aast C0 hP hD hS ha_q7 hF_q7 (t := 3) (r := (RX5, TX5, 2)) rfl ha_q30 hF_q30 rfl (by omega) (by decide) dX6_init_136 (fun H locs hP hD hS => ?_)
  obtain ⟨F76x, eF76⟩ : ∃ z, z = va_up F74x q7 (arrQ (y 3) 2 (iu (iu (fun _ => none) 0 (some q23)) 1 (some q30))) := ⟨_, rfl⟩
  have hP : va_P D vwCl (va_pl L69 F76x) H := by rw [eF76]; exact hP
  have hD : va_D (AL L sz) (va_pl L69 F76x) := by rw [eF76]; exact hD
  have hF_h : F76x h = .inr (8, [.ref q1, .ref q4, .ref q7, .ref q10, .ref q13, .null, .int (iI 0), .int (iI ((-1))), .int (iI 0), .ref q19, .int (iI 0)]) := by rw [eF76]; exact (va_up_ne _ _ n_h_q7).trans hF_h
  have hF_q1 : F76x q1 = arrQ (y 3) 4 (iu (iu (iu (iu (fun _ => none) 0 (some q23)) 1 (some q30)) 2 (some q37)) 3 (some q44)) := by rw [eF76]; exact (va_up_ne _ _ n_q1_q7).trans hF_q1
  have hF_q4 : F76x q4 = arrQ (y 3) 3 (iu (iu (iu (fun _ => none) 0 (some q52)) 1 (some q59)) 2 (some q66)) := by rw [eF76]; exact (va_up_ne _ _ n_q4_q7).trans hF_q4
  have hF_q10 : F76x q10 = arrI (y 0) 2 (fun _ => 0) := by rw [eF76]; exact (va_up_ne _ _ n_q7_q10.symm).trans hF_q10
  have hF_q13 : F76x q13 = arrI (y 0) 2 (iu (iu (fun _ => 0) 0 99) 1 99) := by rw [eF76]; exact (va_up_ne _ _ n_q7_q13.symm).trans hF_q13
  have hF_q19 : F76x q19 = arrI (y 0) 4 (fun _ => 0) := by rw [eF76]; exact (va_up_ne _ _ n_q7_q19.symm).trans hF_q19
  have hF_q23 : F76x q23 = .inr (7, [.int (iI 0), .ref q23w]) := by rw [eF76]; exact (va_up_ne _ _ n_q7_q23.symm).trans hF_q23
  have hF_q23w : F76x q23w = arrI (y 0) 100 (mwd 0 emp) := by rw [eF76]; exact (va_up_ne _ _ n_q7_q23w.symm).trans hF_q23w
  have hF_q30 : F76x q30 = .inr (7, [.int (iI 0), .ref q30w]) := by rw [eF76]; exact (va_up_ne _ _ n_q7_q30.symm).trans hF_q30
  have hF_q30w : F76x q30w = arrI (y 0) 100 (mwd 0 emp) := by rw [eF76]; exact (va_up_ne _ _ n_q7_q30w.symm).trans hF_q30w
  have hF_q37 : F76x q37 = .inr (7, [.int (iI 0), .ref q37w]) := by rw [eF76]; exact (va_up_ne _ _ n_q7_q37.symm).trans hF_q37
  have hF_q37w : F76x q37w = arrI (y 0) 100 (mwd 0 emp) := by rw [eF76]; exact (va_up_ne _ _ n_q7_q37w.symm).trans hF_q37w
  have hF_q44 : F76x q44 = .inr (7, [.int (iI 0), .ref q44w]) := by rw [eF76]; exact (va_up_ne _ _ n_q7_q44.symm).trans hF_q44
  have hF_q44w : F76x q44w = arrI (y 0) 100 (mwd 0 emp) := by rw [eF76]; exact (va_up_ne _ _ n_q7_q44w.symm).trans hF_q44w
  have hF_q52 : F76x q52 = .inr (7, [.int (iI 0), .ref q52w]) := by rw [eF76]; exact (va_up_ne _ _ n_q7_q52.symm).trans hF_q52
  have hF_q52w : F76x q52w = arrI (y 0) 100 (mwd 0 emp) := by rw [eF76]; exact (va_up_ne _ _ n_q7_q52w.symm).trans hF_q52w
  have hF_q59 : F76x q59 = .inr (7, [.int (iI 0), .ref q59w]) := by rw [eF76]; exact (va_up_ne _ _ n_q7_q59.symm).trans hF_q59
  have hF_q59w : F76x q59w = arrI (y 0) 100 (mwd 0 emp) := by rw [eF76]; exact (va_up_ne _ _ n_q7_q59w.symm).trans hF_q59w
  have hF_q66 : F76x q66 = .inr (7, [.int (iI 0), .ref q66w]) := by rw [eF76]; exact (va_up_ne _ _ n_q7_q66.symm).trans hF_q66
  have hF_q66w : F76x q66w = arrI (y 0) 100 (mwd 0 emp) := by rw [eF76]; exact (va_up_ne _ _ n_q7_q66w.symm).trans hF_q66w
  have hF_q7 : F76x q7 = arrQ (y 3) 2 (iu (iu (fun _ => none) 0 (some q23)) 1 (some q30)) := by rw [eF76]; exact va_up_self _ _ _
  have hfr : ∀ a ∈ L, a ≠ h → F76x a = F a := fun a h1 h2 => by rw [eF76]; exact (va_up_ne _ _ (fun e : a = q7 => nL_q7 (e ▸ h1))).trans (hfr a h1 h2)
  refine q_iinc (x := 1) (n := 1) (lv' := [(1, .int (iI 2)), (0, .ref h)]) hx hb dX6_init_137 hl (k := 0) rfl (by decide) rfl (fun ls hl => ?_)
  refine lv_goto (tgt := 120) hx hb dX6_init_140 (by decide) ?_
  refine lv_iload_n hx hb dX6_init_120 rfl (lv_at hl 0 rfl) ?_
  refine q_iconst hx hb dX6_init_121 ?_
  refine q_icmp_ge hx hb dX6_init_122 (tgt := 143) (by decide) (by omega) (by omega) (fun c77 => ?_) (fun c77 => absurd c77 (by omega))
  let G0 : MG := (h, q1, q4, q7, q10, q13, q19, fun i => if i = 1 then q30 else if i = 2 then q37 else if i = 3 then q44 else if i = 4 then q52 else if i = 5 then q59 else if i = 6 then q66 else q23, fun i => if i = 1 then q30w else if i = 2 then q37w else if i = 3 then q44w else if i = 4 then q52w else if i = 5 then q59w else if i = 6 then q66w else q23w)
  replace hP := va_P_re (a := q1) (e := arrQ (y 3) 4 (fun j => some (urh G0 (vbk jS_init j)))) hP (fun X z => by rw [hF_q1] at z; exact at_arrQ (by intro i h0 h1; rcases (show i = 0 ∨ i = 1 ∨ i = 2 ∨ i = 3 by omega) with rfl | rfl | rfl | rfl <;> rfl) X z)
  replace hD := va_D_re (F1 := va_up F76x q1 (arrQ (y 3) 4 (fun j => some (urh G0 (vbk jS_init j))))) hD
  obtain ⟨F78x, eF78⟩ : ∃ z, z = va_up F76x q1 (arrQ (y 3) 4 (fun j => some (urh G0 (vbk jS_init j)))) := ⟨_, rfl⟩
  have hP : va_P D vwCl (va_pl L69 F78x) H := by rw [eF78]; exact hP
  have hD : va_D (AL L sz) (va_pl L69 F78x) := by rw [eF78]; exact hD
  have hF_h : F78x h = .inr (8, [.ref q1, .ref q4, .ref q7, .ref q10, .ref q13, .null, .int (iI 0), .int (iI ((-1))), .int (iI 0), .ref q19, .int (iI 0)]) := by rw [eF78]; exact (va_up_ne _ _ n_h_q1).trans hF_h
  have hF_q4 : F78x q4 = arrQ (y 3) 3 (iu (iu (iu (fun _ => none) 0 (some q52)) 1 (some q59)) 2 (some q66)) := by rw [eF78]; exact (va_up_ne _ _ n_q1_q4.symm).trans hF_q4
  have hF_q7 : F78x q7 = arrQ (y 3) 2 (iu (iu (fun _ => none) 0 (some q23)) 1 (some q30)) := by rw [eF78]; exact (va_up_ne _ _ n_q1_q7.symm).trans hF_q7
  have hF_q10 : F78x q10 = arrI (y 0) 2 (fun _ => 0) := by rw [eF78]; exact (va_up_ne _ _ n_q1_q10.symm).trans hF_q10
  have hF_q13 : F78x q13 = arrI (y 0) 2 (iu (iu (fun _ => 0) 0 99) 1 99) := by rw [eF78]; exact (va_up_ne _ _ n_q1_q13.symm).trans hF_q13
  have hF_q19 : F78x q19 = arrI (y 0) 4 (fun _ => 0) := by rw [eF78]; exact (va_up_ne _ _ n_q1_q19.symm).trans hF_q19
  have hF_q23 : F78x q23 = .inr (7, [.int (iI 0), .ref q23w]) := by rw [eF78]; exact (va_up_ne _ _ n_q1_q23.symm).trans hF_q23
  have hF_q23w : F78x q23w = arrI (y 0) 100 (mwd 0 emp) := by rw [eF78]; exact (va_up_ne _ _ n_q1_q23w.symm).trans hF_q23w
  have hF_q30 : F78x q30 = .inr (7, [.int (iI 0), .ref q30w]) := by rw [eF78]; exact (va_up_ne _ _ n_q1_q30.symm).trans hF_q30
  have hF_q30w : F78x q30w = arrI (y 0) 100 (mwd 0 emp) := by rw [eF78]; exact (va_up_ne _ _ n_q1_q30w.symm).trans hF_q30w
  have hF_q37 : F78x q37 = .inr (7, [.int (iI 0), .ref q37w]) := by rw [eF78]; exact (va_up_ne _ _ n_q1_q37.symm).trans hF_q37
  have hF_q37w : F78x q37w = arrI (y 0) 100 (mwd 0 emp) := by rw [eF78]; exact (va_up_ne _ _ n_q1_q37w.symm).trans hF_q37w
  have hF_q44 : F78x q44 = .inr (7, [.int (iI 0), .ref q44w]) := by rw [eF78]; exact (va_up_ne _ _ n_q1_q44.symm).trans hF_q44
  have hF_q44w : F78x q44w = arrI (y 0) 100 (mwd 0 emp) := by rw [eF78]; exact (va_up_ne _ _ n_q1_q44w.symm).trans hF_q44w
  have hF_q52 : F78x q52 = .inr (7, [.int (iI 0), .ref q52w]) := by rw [eF78]; exact (va_up_ne _ _ n_q1_q52.symm).trans hF_q52
  have hF_q52w : F78x q52w = arrI (y 0) 100 (mwd 0 emp) := by rw [eF78]; exact (va_up_ne _ _ n_q1_q52w.symm).trans hF_q52w
  have hF_q59 : F78x q59 = .inr (7, [.int (iI 0), .ref q59w]) := by rw [eF78]; exact (va_up_ne _ _ n_q1_q59.symm).trans hF_q59
  have hF_q59w : F78x q59w = arrI (y 0) 100 (mwd 0 emp) := by rw [eF78]; exact (va_up_ne _ _ n_q1_q59w.symm).trans hF_q59w
  have hF_q66 : F78x q66 = .inr (7, [.int (iI 0), .ref q66w]) := by rw [eF78]; exact (va_up_ne _ _ n_q1_q66.symm).trans hF_q66
  have hF_q66w : F78x q66w = arrI (y 0) 100 (mwd 0 emp) := by rw [eF78]; exact (va_up_ne _ _ n_q1_q66w.symm).trans hF_q66w
  have hF_q1 : F78x q1 = arrQ (y 3) 4 (fun j => some (urh G0 (vbk jS_init j))) := by rw [eF78]; exact va_up_self _ _ _
  have hfr : ∀ a ∈ L, a ≠ h → F78x a = F a := fun a h1 h2 => by rw [eF78]; exact (va_up_ne _ _ (fun e : a = q1 => nL_q1 (e ▸ h1))).trans (hfr a h1 h2)
  replace hP := va_P_re (a := q4) (e := arrQ (y 3) 3 (fun j => some (urh G0 (vsh jS_init j)))) hP (fun X z => by rw [hF_q4] at z; exact at_arrQ (by intro i h0 h1; rcases (show i = 0 ∨ i = 1 ∨ i = 2 by omega) with rfl | rfl | rfl <;> rfl) X z)
  replace hD := va_D_re (F1 := va_up F78x q4 (arrQ (y 3) 3 (fun j => some (urh G0 (vsh jS_init j))))) hD
  obtain ⟨F79x, eF79⟩ : ∃ z, z = va_up F78x q4 (arrQ (y 3) 3 (fun j => some (urh G0 (vsh jS_init j)))) := ⟨_, rfl⟩
  have hP : va_P D vwCl (va_pl L69 F79x) H := by rw [eF79]; exact hP
  have hD : va_D (AL L sz) (va_pl L69 F79x) := by rw [eF79]; exact hD
  have hF_h : F79x h = .inr (8, [.ref q1, .ref q4, .ref q7, .ref q10, .ref q13, .null, .int (iI 0), .int (iI ((-1))), .int (iI 0), .ref q19, .int (iI 0)]) := by rw [eF79]; exact (va_up_ne _ _ n_h_q4).trans hF_h
  have hF_q1 : F79x q1 = arrQ (y 3) 4 (fun j => some (urh G0 (vbk jS_init j))) := by rw [eF79]; exact (va_up_ne _ _ n_q1_q4).trans hF_q1
  have hF_q7 : F79x q7 = arrQ (y 3) 2 (iu (iu (fun _ => none) 0 (some q23)) 1 (some q30)) := by rw [eF79]; exact (va_up_ne _ _ n_q4_q7.symm).trans hF_q7
  have hF_q10 : F79x q10 = arrI (y 0) 2 (fun _ => 0) := by rw [eF79]; exact (va_up_ne _ _ n_q4_q10.symm).trans hF_q10
  have hF_q13 : F79x q13 = arrI (y 0) 2 (iu (iu (fun _ => 0) 0 99) 1 99) := by rw [eF79]; exact (va_up_ne _ _ n_q4_q13.symm).trans hF_q13
  have hF_q19 : F79x q19 = arrI (y 0) 4 (fun _ => 0) := by rw [eF79]; exact (va_up_ne _ _ n_q4_q19.symm).trans hF_q19
  have hF_q23 : F79x q23 = .inr (7, [.int (iI 0), .ref q23w]) := by rw [eF79]; exact (va_up_ne _ _ n_q4_q23.symm).trans hF_q23
  have hF_q23w : F79x q23w = arrI (y 0) 100 (mwd 0 emp) := by rw [eF79]; exact (va_up_ne _ _ n_q4_q23w.symm).trans hF_q23w
  have hF_q30 : F79x q30 = .inr (7, [.int (iI 0), .ref q30w]) := by rw [eF79]; exact (va_up_ne _ _ n_q4_q30.symm).trans hF_q30
  have hF_q30w : F79x q30w = arrI (y 0) 100 (mwd 0 emp) := by rw [eF79]; exact (va_up_ne _ _ n_q4_q30w.symm).trans hF_q30w
  have hF_q37 : F79x q37 = .inr (7, [.int (iI 0), .ref q37w]) := by rw [eF79]; exact (va_up_ne _ _ n_q4_q37.symm).trans hF_q37
  have hF_q37w : F79x q37w = arrI (y 0) 100 (mwd 0 emp) := by rw [eF79]; exact (va_up_ne _ _ n_q4_q37w.symm).trans hF_q37w
  have hF_q44 : F79x q44 = .inr (7, [.int (iI 0), .ref q44w]) := by rw [eF79]; exact (va_up_ne _ _ n_q4_q44.symm).trans hF_q44
  have hF_q44w : F79x q44w = arrI (y 0) 100 (mwd 0 emp) := by rw [eF79]; exact (va_up_ne _ _ n_q4_q44w.symm).trans hF_q44w
  have hF_q52 : F79x q52 = .inr (7, [.int (iI 0), .ref q52w]) := by rw [eF79]; exact (va_up_ne _ _ n_q4_q52.symm).trans hF_q52
  have hF_q52w : F79x q52w = arrI (y 0) 100 (mwd 0 emp) := by rw [eF79]; exact (va_up_ne _ _ n_q4_q52w.symm).trans hF_q52w
  have hF_q59 : F79x q59 = .inr (7, [.int (iI 0), .ref q59w]) := by rw [eF79]; exact (va_up_ne _ _ n_q4_q59.symm).trans hF_q59
  have hF_q59w : F79x q59w = arrI (y 0) 100 (mwd 0 emp) := by rw [eF79]; exact (va_up_ne _ _ n_q4_q59w.symm).trans hF_q59w
  have hF_q66 : F79x q66 = .inr (7, [.int (iI 0), .ref q66w]) := by rw [eF79]; exact (va_up_ne _ _ n_q4_q66.symm).trans hF_q66
  have hF_q66w : F79x q66w = arrI (y 0) 100 (mwd 0 emp) := by rw [eF79]; exact (va_up_ne _ _ n_q4_q66w.symm).trans hF_q66w
  have hF_q4 : F79x q4 = arrQ (y 3) 3 (fun j => some (urh G0 (vsh jS_init j))) := by rw [eF79]; exact va_up_self _ _ _
  have hfr : ∀ a ∈ L, a ≠ h → F79x a = F a := fun a h1 h2 => by rw [eF79]; exact (va_up_ne _ _ (fun e : a = q4 => nL_q4 (e ▸ h1))).trans (hfr a h1 h2)
  replace hP := va_P_re (a := q7) (e := arrQ (y 3) 2 (fun j => some (urh G0 (vvw jS_init j)))) hP (fun X z => by rw [hF_q7] at z; exact at_arrQ (by intro i h0 h1; rcases (show i = 0 ∨ i = 1 by omega) with rfl | rfl <;> rfl) X z)
  replace hD := va_D_re (F1 := va_up F79x q7 (arrQ (y 3) 2 (fun j => some (urh G0 (vvw jS_init j))))) hD
  obtain ⟨F80x, eF80⟩ : ∃ z, z = va_up F79x q7 (arrQ (y 3) 2 (fun j => some (urh G0 (vvw jS_init j)))) := ⟨_, rfl⟩
  have hP : va_P D vwCl (va_pl L69 F80x) H := by rw [eF80]; exact hP
  have hD : va_D (AL L sz) (va_pl L69 F80x) := by rw [eF80]; exact hD
  have hF_h : F80x h = .inr (8, [.ref q1, .ref q4, .ref q7, .ref q10, .ref q13, .null, .int (iI 0), .int (iI ((-1))), .int (iI 0), .ref q19, .int (iI 0)]) := by rw [eF80]; exact (va_up_ne _ _ n_h_q7).trans hF_h
  have hF_q1 : F80x q1 = arrQ (y 3) 4 (fun j => some (urh G0 (vbk jS_init j))) := by rw [eF80]; exact (va_up_ne _ _ n_q1_q7).trans hF_q1
  have hF_q4 : F80x q4 = arrQ (y 3) 3 (fun j => some (urh G0 (vsh jS_init j))) := by rw [eF80]; exact (va_up_ne _ _ n_q4_q7).trans hF_q4
  have hF_q10 : F80x q10 = arrI (y 0) 2 (fun _ => 0) := by rw [eF80]; exact (va_up_ne _ _ n_q7_q10.symm).trans hF_q10
  have hF_q13 : F80x q13 = arrI (y 0) 2 (iu (iu (fun _ => 0) 0 99) 1 99) := by rw [eF80]; exact (va_up_ne _ _ n_q7_q13.symm).trans hF_q13
  have hF_q19 : F80x q19 = arrI (y 0) 4 (fun _ => 0) := by rw [eF80]; exact (va_up_ne _ _ n_q7_q19.symm).trans hF_q19
  have hF_q23 : F80x q23 = .inr (7, [.int (iI 0), .ref q23w]) := by rw [eF80]; exact (va_up_ne _ _ n_q7_q23.symm).trans hF_q23
  have hF_q23w : F80x q23w = arrI (y 0) 100 (mwd 0 emp) := by rw [eF80]; exact (va_up_ne _ _ n_q7_q23w.symm).trans hF_q23w
  have hF_q30 : F80x q30 = .inr (7, [.int (iI 0), .ref q30w]) := by rw [eF80]; exact (va_up_ne _ _ n_q7_q30.symm).trans hF_q30
  have hF_q30w : F80x q30w = arrI (y 0) 100 (mwd 0 emp) := by rw [eF80]; exact (va_up_ne _ _ n_q7_q30w.symm).trans hF_q30w
  have hF_q37 : F80x q37 = .inr (7, [.int (iI 0), .ref q37w]) := by rw [eF80]; exact (va_up_ne _ _ n_q7_q37.symm).trans hF_q37
  have hF_q37w : F80x q37w = arrI (y 0) 100 (mwd 0 emp) := by rw [eF80]; exact (va_up_ne _ _ n_q7_q37w.symm).trans hF_q37w
  have hF_q44 : F80x q44 = .inr (7, [.int (iI 0), .ref q44w]) := by rw [eF80]; exact (va_up_ne _ _ n_q7_q44.symm).trans hF_q44
  have hF_q44w : F80x q44w = arrI (y 0) 100 (mwd 0 emp) := by rw [eF80]; exact (va_up_ne _ _ n_q7_q44w.symm).trans hF_q44w
  have hF_q52 : F80x q52 = .inr (7, [.int (iI 0), .ref q52w]) := by rw [eF80]; exact (va_up_ne _ _ n_q7_q52.symm).trans hF_q52
  have hF_q52w : F80x q52w = arrI (y 0) 100 (mwd 0 emp) := by rw [eF80]; exact (va_up_ne _ _ n_q7_q52w.symm).trans hF_q52w
  have hF_q59 : F80x q59 = .inr (7, [.int (iI 0), .ref q59w]) := by rw [eF80]; exact (va_up_ne _ _ n_q7_q59.symm).trans hF_q59
  have hF_q59w : F80x q59w = arrI (y 0) 100 (mwd 0 emp) := by rw [eF80]; exact (va_up_ne _ _ n_q7_q59w.symm).trans hF_q59w
  have hF_q66 : F80x q66 = .inr (7, [.int (iI 0), .ref q66w]) := by rw [eF80]; exact (va_up_ne _ _ n_q7_q66.symm).trans hF_q66
  have hF_q66w : F80x q66w = arrI (y 0) 100 (mwd 0 emp) := by rw [eF80]; exact (va_up_ne _ _ n_q7_q66w.symm).trans hF_q66w
  have hF_q7 : F80x q7 = arrQ (y 3) 2 (fun j => some (urh G0 (vvw jS_init j))) := by rw [eF80]; exact va_up_self _ _ _
  have hfr : ∀ a ∈ L, a ≠ h → F80x a = F a := fun a h1 h2 => by rw [eF80]; exact (va_up_ne _ _ (fun e : a = q7 => nL_q7 (e ▸ h1))).trans (hfr a h1 h2)
  replace hP := va_P_re (a := q13) (e := arrI (y 0) 2 (vvh jS_init)) hP (fun X z => by rw [hF_q13] at z; exact at_arrI (by intro i h0 h1; rcases (show i = 0 ∨ i = 1 by omega) with rfl | rfl <;> rfl) X z)
  replace hD := va_D_re (F1 := va_up F80x q13 (arrI (y 0) 2 (vvh jS_init))) hD
  obtain ⟨F81x, eF81⟩ : ∃ z, z = va_up F80x q13 (arrI (y 0) 2 (vvh jS_init)) := ⟨_, rfl⟩
  have hP : va_P D vwCl (va_pl L69 F81x) H := by rw [eF81]; exact hP
  have hD : va_D (AL L sz) (va_pl L69 F81x) := by rw [eF81]; exact hD
  have hF_h : F81x h = .inr (8, [.ref q1, .ref q4, .ref q7, .ref q10, .ref q13, .null, .int (iI 0), .int (iI ((-1))), .int (iI 0), .ref q19, .int (iI 0)]) := by rw [eF81]; exact (va_up_ne _ _ n_h_q13).trans hF_h
  have hF_q1 : F81x q1 = arrQ (y 3) 4 (fun j => some (urh G0 (vbk jS_init j))) := by rw [eF81]; exact (va_up_ne _ _ n_q1_q13).trans hF_q1
  have hF_q4 : F81x q4 = arrQ (y 3) 3 (fun j => some (urh G0 (vsh jS_init j))) := by rw [eF81]; exact (va_up_ne _ _ n_q4_q13).trans hF_q4
  have hF_q7 : F81x q7 = arrQ (y 3) 2 (fun j => some (urh G0 (vvw jS_init j))) := by rw [eF81]; exact (va_up_ne _ _ n_q7_q13).trans hF_q7
  have hF_q10 : F81x q10 = arrI (y 0) 2 (fun _ => 0) := by rw [eF81]; exact (va_up_ne _ _ n_q10_q13).trans hF_q10
  have hF_q19 : F81x q19 = arrI (y 0) 4 (fun _ => 0) := by rw [eF81]; exact (va_up_ne _ _ n_q13_q19.symm).trans hF_q19
  have hF_q23 : F81x q23 = .inr (7, [.int (iI 0), .ref q23w]) := by rw [eF81]; exact (va_up_ne _ _ n_q13_q23.symm).trans hF_q23
  have hF_q23w : F81x q23w = arrI (y 0) 100 (mwd 0 emp) := by rw [eF81]; exact (va_up_ne _ _ n_q13_q23w.symm).trans hF_q23w
  have hF_q30 : F81x q30 = .inr (7, [.int (iI 0), .ref q30w]) := by rw [eF81]; exact (va_up_ne _ _ n_q13_q30.symm).trans hF_q30
  have hF_q30w : F81x q30w = arrI (y 0) 100 (mwd 0 emp) := by rw [eF81]; exact (va_up_ne _ _ n_q13_q30w.symm).trans hF_q30w
  have hF_q37 : F81x q37 = .inr (7, [.int (iI 0), .ref q37w]) := by rw [eF81]; exact (va_up_ne _ _ n_q13_q37.symm).trans hF_q37
  have hF_q37w : F81x q37w = arrI (y 0) 100 (mwd 0 emp) := by rw [eF81]; exact (va_up_ne _ _ n_q13_q37w.symm).trans hF_q37w
  have hF_q44 : F81x q44 = .inr (7, [.int (iI 0), .ref q44w]) := by rw [eF81]; exact (va_up_ne _ _ n_q13_q44.symm).trans hF_q44
  have hF_q44w : F81x q44w = arrI (y 0) 100 (mwd 0 emp) := by rw [eF81]; exact (va_up_ne _ _ n_q13_q44w.symm).trans hF_q44w
  have hF_q52 : F81x q52 = .inr (7, [.int (iI 0), .ref q52w]) := by rw [eF81]; exact (va_up_ne _ _ n_q13_q52.symm).trans hF_q52
  have hF_q52w : F81x q52w = arrI (y 0) 100 (mwd 0 emp) := by rw [eF81]; exact (va_up_ne _ _ n_q13_q52w.symm).trans hF_q52w
  have hF_q59 : F81x q59 = .inr (7, [.int (iI 0), .ref q59w]) := by rw [eF81]; exact (va_up_ne _ _ n_q13_q59.symm).trans hF_q59
  have hF_q59w : F81x q59w = arrI (y 0) 100 (mwd 0 emp) := by rw [eF81]; exact (va_up_ne _ _ n_q13_q59w.symm).trans hF_q59w
  have hF_q66 : F81x q66 = .inr (7, [.int (iI 0), .ref q66w]) := by rw [eF81]; exact (va_up_ne _ _ n_q13_q66.symm).trans hF_q66
  have hF_q66w : F81x q66w = arrI (y 0) 100 (mwd 0 emp) := by rw [eF81]; exact (va_up_ne _ _ n_q13_q66w.symm).trans hF_q66w
  have hF_q13 : F81x q13 = arrI (y 0) 2 (vvh jS_init) := by rw [eF81]; exact va_up_self _ _ _
  have hfr : ∀ a ∈ L, a ≠ h → F81x a = F a := fun a h1 h2 => by rw [eF81]; exact (va_up_ne _ _ (fun e : a = q13 => nL_q13 (e ▸ h1))).trans (hfr a h1 h2)
  have hR0 : MB y L69 F81x q23 q23w 0 emp := ⟨ha_q23, hF_q23, ha_q23w, hF_q23w, by omega, emp_b⟩
  have hR1 : MB y L69 F81x q30 q30w 0 emp := ⟨ha_q30, hF_q30, ha_q30w, hF_q30w, by omega, emp_b⟩
  have hR2 : MB y L69 F81x q37 q37w 0 emp := ⟨ha_q37, hF_q37, ha_q37w, hF_q37w, by omega, emp_b⟩
  have hR3 : MB y L69 F81x q44 q44w 0 emp := ⟨ha_q44, hF_q44, ha_q44w, hF_q44w, by omega, emp_b⟩
  have hR4 : MB y L69 F81x q52 q52w 0 emp := ⟨ha_q52, hF_q52, ha_q52w, hF_q52w, by omega, emp_b⟩
  have hR5 : MB y L69 F81x q59 q59w 0 emp := ⟨ha_q59, hF_q59, ha_q59w, hF_q59w, by omega, emp_b⟩
  have hR6 : MB y L69 F81x q66 q66w 0 emp := ⟨ha_q66, hF_q66, ha_q66w, hF_q66w, by omega, emp_b⟩
  have inj : ∀ i j, i < 7 → j < 7 → (urh G0 i = urh G0 j ∨ urw G0 i = urw G0 j) → i = j := by
    intro i j hi hj e
    rcases (show i = 0 ∨ i = 1 ∨ i = 2 ∨ i = 3 ∨ i = 4 ∨ i = 5 ∨ i = 6 by omega) with rfl | rfl | rfl | rfl | rfl | rfl | rfl
    · rcases (show j = 0 ∨ j = 1 ∨ j = 2 ∨ j = 3 ∨ j = 4 ∨ j = 5 ∨ j = 6 by omega) with rfl | rfl | rfl | rfl | rfl | rfl | rfl
      · rfl
      · exact e.elim (fun z => absurd z n_q23_q30) (fun z => absurd z n_q23w_q30w)
      · exact e.elim (fun z => absurd z n_q23_q37) (fun z => absurd z n_q23w_q37w)
      · exact e.elim (fun z => absurd z n_q23_q44) (fun z => absurd z n_q23w_q44w)
      · exact e.elim (fun z => absurd z n_q23_q52) (fun z => absurd z n_q23w_q52w)
      · exact e.elim (fun z => absurd z n_q23_q59) (fun z => absurd z n_q23w_q59w)
      · exact e.elim (fun z => absurd z n_q23_q66) (fun z => absurd z n_q23w_q66w)
    · rcases (show j = 0 ∨ j = 1 ∨ j = 2 ∨ j = 3 ∨ j = 4 ∨ j = 5 ∨ j = 6 by omega) with rfl | rfl | rfl | rfl | rfl | rfl | rfl
      · exact e.elim (fun z => absurd z n_q23_q30.symm) (fun z => absurd z n_q23w_q30w.symm)
      · rfl
      · exact e.elim (fun z => absurd z n_q30_q37) (fun z => absurd z n_q30w_q37w)
      · exact e.elim (fun z => absurd z n_q30_q44) (fun z => absurd z n_q30w_q44w)
      · exact e.elim (fun z => absurd z n_q30_q52) (fun z => absurd z n_q30w_q52w)
      · exact e.elim (fun z => absurd z n_q30_q59) (fun z => absurd z n_q30w_q59w)
      · exact e.elim (fun z => absurd z n_q30_q66) (fun z => absurd z n_q30w_q66w)
    · rcases (show j = 0 ∨ j = 1 ∨ j = 2 ∨ j = 3 ∨ j = 4 ∨ j = 5 ∨ j = 6 by omega) with rfl | rfl | rfl | rfl | rfl | rfl | rfl
      · exact e.elim (fun z => absurd z n_q23_q37.symm) (fun z => absurd z n_q23w_q37w.symm)
      · exact e.elim (fun z => absurd z n_q30_q37.symm) (fun z => absurd z n_q30w_q37w.symm)
      · rfl
      · exact e.elim (fun z => absurd z n_q37_q44) (fun z => absurd z n_q37w_q44w)
      · exact e.elim (fun z => absurd z n_q37_q52) (fun z => absurd z n_q37w_q52w)
      · exact e.elim (fun z => absurd z n_q37_q59) (fun z => absurd z n_q37w_q59w)
      · exact e.elim (fun z => absurd z n_q37_q66) (fun z => absurd z n_q37w_q66w)
    · rcases (show j = 0 ∨ j = 1 ∨ j = 2 ∨ j = 3 ∨ j = 4 ∨ j = 5 ∨ j = 6 by omega) with rfl | rfl | rfl | rfl | rfl | rfl | rfl
      · exact e.elim (fun z => absurd z n_q23_q44.symm) (fun z => absurd z n_q23w_q44w.symm)
      · exact e.elim (fun z => absurd z n_q30_q44.symm) (fun z => absurd z n_q30w_q44w.symm)
      · exact e.elim (fun z => absurd z n_q37_q44.symm) (fun z => absurd z n_q37w_q44w.symm)
      · rfl
      · exact e.elim (fun z => absurd z n_q44_q52) (fun z => absurd z n_q44w_q52w)
      · exact e.elim (fun z => absurd z n_q44_q59) (fun z => absurd z n_q44w_q59w)
      · exact e.elim (fun z => absurd z n_q44_q66) (fun z => absurd z n_q44w_q66w)
    · rcases (show j = 0 ∨ j = 1 ∨ j = 2 ∨ j = 3 ∨ j = 4 ∨ j = 5 ∨ j = 6 by omega) with rfl | rfl | rfl | rfl | rfl | rfl | rfl
      · exact e.elim (fun z => absurd z n_q23_q52.symm) (fun z => absurd z n_q23w_q52w.symm)
      · exact e.elim (fun z => absurd z n_q30_q52.symm) (fun z => absurd z n_q30w_q52w.symm)
      · exact e.elim (fun z => absurd z n_q37_q52.symm) (fun z => absurd z n_q37w_q52w.symm)
      · exact e.elim (fun z => absurd z n_q44_q52.symm) (fun z => absurd z n_q44w_q52w.symm)
      · rfl
      · exact e.elim (fun z => absurd z n_q52_q59) (fun z => absurd z n_q52w_q59w)
      · exact e.elim (fun z => absurd z n_q52_q66) (fun z => absurd z n_q52w_q66w)
    · rcases (show j = 0 ∨ j = 1 ∨ j = 2 ∨ j = 3 ∨ j = 4 ∨ j = 5 ∨ j = 6 by omega) with rfl | rfl | rfl | rfl | rfl | rfl | rfl
      · exact e.elim (fun z => absurd z n_q23_q59.symm) (fun z => absurd z n_q23w_q59w.symm)
      · exact e.elim (fun z => absurd z n_q30_q59.symm) (fun z => absurd z n_q30w_q59w.symm)
      · exact e.elim (fun z => absurd z n_q37_q59.symm) (fun z => absurd z n_q37w_q59w.symm)
      · exact e.elim (fun z => absurd z n_q44_q59.symm) (fun z => absurd z n_q44w_q59w.symm)
      · exact e.elim (fun z => absurd z n_q52_q59.symm) (fun z => absurd z n_q52w_q59w.symm)
      · rfl
      · exact e.elim (fun z => absurd z n_q59_q66) (fun z => absurd z n_q59w_q66w)
    · rcases (show j = 0 ∨ j = 1 ∨ j = 2 ∨ j = 3 ∨ j = 4 ∨ j = 5 ∨ j = 6 by omega) with rfl | rfl | rfl | rfl | rfl | rfl | rfl
      · exact e.elim (fun z => absurd z n_q23_q66.symm) (fun z => absurd z n_q23w_q66w.symm)
      · exact e.elim (fun z => absurd z n_q30_q66.symm) (fun z => absurd z n_q30w_q66w.symm)
      · exact e.elim (fun z => absurd z n_q37_q66.symm) (fun z => absurd z n_q37w_q66w.symm)
      · exact e.elim (fun z => absurd z n_q44_q66.symm) (fun z => absurd z n_q44w_q66w.symm)
      · exact e.elim (fun z => absurd z n_q52_q66.symm) (fun z => absurd z n_q52w_q66w.symm)
      · exact e.elim (fun z => absurd z n_q59_q66.symm) (fun z => absurd z n_q59w_q66w.symm)
      · rfl
  have hC : MP y L69 F81x (fun a => a = h ∨ a ∉ L) G0 jS_init := by
    refine ⟨⟨ha_h, hF_h⟩, ⟨ha_q1, hF_q1⟩, ⟨ha_q4, hF_q4⟩, ⟨ha_q7, hF_q7⟩, ⟨ha_q10, hF_q10⟩, ⟨ha_q13, hF_q13⟩, ⟨ha_q19, hF_q19⟩, fun i hi => ?_, ⟨n_q10_q13, inj⟩, Or.inl rfl, Or.inr nL_q1, Or.inr nL_q4, Or.inr nL_q7, Or.inr nL_q10, Or.inr nL_q13, Or.inr nL_q19, fun i hi => ?_⟩
    · have hi : i < 7 := hi
      rcases (show i = 0 ∨ i = 1 ∨ i = 2 ∨ i = 3 ∨ i = 4 ∨ i = 5 ∨ i = 6 by omega) with rfl | rfl | rfl | rfl | rfl | rfl | rfl
      · exact hR0
      · exact hR1
      · exact hR2
      · exact hR3
      · exact hR4
      · exact hR5
      · exact hR6
    · have hi : i < 7 := hi
      rcases (show i = 0 ∨ i = 1 ∨ i = 2 ∨ i = 3 ∨ i = 4 ∨ i = 5 ∨ i = 6 by omega) with rfl | rfl | rfl | rfl | rfl | rfl | rfl
      · exact ⟨Or.inr nL_q23, Or.inr nL_q23w⟩
      · exact ⟨Or.inr nL_q30, Or.inr nL_q30w⟩
      · exact ⟨Or.inr nL_q37, Or.inr nL_q37w⟩
      · exact ⟨Or.inr nL_q44, Or.inr nL_q44w⟩
      · exact ⟨Or.inr nL_q52, Or.inr nL_q52w⟩
      · exact ⟨Or.inr nL_q59, Or.inr nL_q59w⟩
      · exact ⟨Or.inr nL_q66, Or.inr nL_q66w⟩
  exact q_retMv C0 hret hlk dX6_init_143 hP hD hS (⟨_, G0, hC, rfl, hLs, hfr, fun a z => z⟩)
