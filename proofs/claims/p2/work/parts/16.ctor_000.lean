def kS_init : CS := (7, fun _ => 0, fun _ => R0, fun b => if b = 1 then 1 else if b = 2 then 2 else if b = 3 then 3 else 0, fun b => if b = 1 then 5 else if b = 2 then 6 else 4, fun v => if v = 1 then 1 else 0, fun _ => 0, fun _ => 99, none, 0, 0, 0, 0, 0, 0, 0)
set_option maxHeartbeats 800000 in
set_option maxRecDepth 100000 in
theorem c_X1_init (l : Launch) (D : va_G) (y : Nat → ClassId) (L : List Nat) (F : Nat → va_E) (sz : Nat) (h : Nat) (r : Nat) (ha_h : h ∈ L) (hF_h : F h = .inr (3, [.null, .int (iI 0), .int (iI 0)])) : Met l yX1_init (.code yX1_init cX1_init 2 none :: Tt) ({ frames := 1, cells := 0, slots := 0, locals := 12 }) (PcM D y L F sz [.ref h, .ref r]) (cMv D (AL L sz) (fun _ L1 F1 => L = L1 ∧ F1 h = vwE r 0 99 ∧ ∀ a ∈ L, a ≠ h → F1 a = F a)) 0 0 (AL L sz) := by
  have hfr : ∀ a ∈ L, a ≠ h → F a = F a := fun _ _ _ => rfl
  have hLs : ∀ a ∈ L, a ∈ L := fun _ z => z
  refine q_ofM (lv := [(0, .ref h), (1, .ref r)]) (by decide) (Nat.le_of_ble_eq_true rfl) rfl (fun p e s m below meth c C0 hret hlk hnm hA hP hD hS ls hl => ?_)
  have hx := C0.1.1
  have hb := C0.1.2.1
  have hts := C0.1.2.2.2.2
  refine lv_aload_n hx hb dX1_init_0 rfl (lv_at hl 0 rfl) ?_
  refine W.objInit hx hb C0.1.2.2.2.1 (hts (.methodLink RX1 3 objectInit) (List.mem_cons_of_mem _ mlX1_3)) (hts (.instanceMethod objectInit) (List.mem_cons_of_mem _ imObj)) (hts _ (List.mem_cons_of_mem _ cdObj)) rfl (by rw [C0.1.2.2.1]; exact hl.1) rfl dX1_init_1 (Nat.le_of_ble_eq_true rfl) (Nat.le_of_ble_eq_true rfl) ?_
  refine W.eq (g2 := F0 m 4 ls []) rfl ?_
  refine lv_aload_n hx hb dX1_init_4 rfl (lv_at hl 0 rfl) ?_
  refine lv_aload_n hx hb dX1_init_5 rfl (lv_at hl 1 rfl) ?_
  refine q_put C0 iX1 tyX1 tyX1_ok nmX1 hP hD hS ha_h hF_h rfl 0 (by decide) flX1_9 rfl rfl rfl rfl (Nat.le_of_ble_eq_true rfl) dX1_init_6 (fun H locs hP hD hS => ?_)
  obtain ⟨F1x, eF1⟩ : ∃ z, z = va_up F h (.inr (3, [.ref r, .int (iI 0), .int (iI 0)])) := ⟨_, rfl⟩
  have hP : va_P D vwCl (va_pl L F1x) H := by rw [eF1]; exact hP
  have hD : va_D (AL L sz) (va_pl L F1x) := by rw [eF1]; exact hD
  have hF_h : F1x h = .inr (3, [.ref r, .int (iI 0), .int (iI 0)]) := by rw [eF1]; exact va_up_self _ _ _
  have hfr : ∀ a ∈ L, a ≠ h → F1x a = F a := fun a h1 h2 => by rw [eF1]; exact (va_up_ne _ _ h2).trans (hfr a h1 h2)
  refine lv_aload_n hx hb dX1_init_9 rfl (lv_at hl 0 rfl) ?_
  refine q_bipush hx hb dX1_init_10 (by decide) ?_
  refine q_put C0 iX1 tyX1 tyX1_ok nmX1 hP hD hS ha_h hF_h rfl 2 (by decide) flX1_15 rfl rfl rfl rfl (Nat.le_of_ble_eq_true rfl) dX1_init_12 (fun H locs hP hD hS => ?_)
  obtain ⟨F2x, eF2⟩ : ∃ z, z = va_up F1x h (.inr (3, [.ref r, .int (iI 0), .int (iI 99)])) := ⟨_, rfl⟩
  have hP : va_P D vwCl (va_pl L F2x) H := by rw [eF2]; exact hP
  have hD : va_D (AL L sz) (va_pl L F2x) := by rw [eF2]; exact hD
  have hF_h : F2x h = .inr (3, [.ref r, .int (iI 0), .int (iI 99)]) := by rw [eF2]; exact va_up_self _ _ _
  have hfr : ∀ a ∈ L, a ≠ h → F2x a = F a := fun a h1 h2 => by rw [eF2]; exact (va_up_ne _ _ h2).trans (hfr a h1 h2)
  exact q_retMv C0 hret hlk dX1_init_15 hP hD hS (⟨rfl, hF_h, hfr⟩)
set_option maxHeartbeats 800000 in
set_option maxRecDepth 100000 in
theorem c_X2_init (l : Launch) (D : va_G) (y : Nat → ClassId) (L : List Nat) (F : Nat → va_E) (sz : Nat) (h : Nat)  : Met l yX2_init (.code yX2_init cX2_init 1 none :: Tt) ({ frames := 1, cells := 0, slots := 0, locals := 12 }) (PcM D y L F sz [.ref h]) (cMv D (AL L sz) (fun _ L1 F1 => L = L1 ∧ F = F1)) 0 0 (AL L sz) := by
  refine q_ofM (lv := [(0, .ref h)]) (by decide) (Nat.le_of_ble_eq_true rfl) rfl (fun p e s m below meth c C0 hret hlk hnm hA hP hD hS ls hl => ?_)
  have hx := C0.1.1
  have hb := C0.1.2.1
  have hts := C0.1.2.2.2.2
  refine lv_aload_n hx hb dX2_init_0 rfl (lv_at hl 0 rfl) ?_
  refine W.objInit hx hb C0.1.2.2.2.1 (hts (.methodLink RX2 3 objectInit) (List.mem_cons_of_mem _ mlX2_3)) (hts (.instanceMethod objectInit) (List.mem_cons_of_mem _ imObj)) (hts _ (List.mem_cons_of_mem _ cdObj)) rfl (by rw [C0.1.2.2.1]; exact hl.1) rfl dX2_init_1 (Nat.le_of_ble_eq_true rfl) (Nat.le_of_ble_eq_true rfl) ?_
  refine W.eq (g2 := F0 m 4 ls []) rfl ?_
  exact q_retMv C0 hret hlk dX2_init_4 hP hD hS (⟨rfl, rfl⟩)
