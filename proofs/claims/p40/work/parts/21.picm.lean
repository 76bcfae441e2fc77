-- what the reference's helpers do
def inR (n a b : Int) : Int := if a ≤ n ∧ n ≤ b then 1 else 0
theorem inR_b (n a b : Int) : 0 ≤ inR n a b ∧ inR n a b ≤ 1 := by
  unfold inR
  split <;> omega
def ltR (p g : Int) : Int := if p = 0 then 1 else if g = 0 then 2 else 0
def okR (p g : Int) : Int := if ltR p g = 0 then 1 else 0
theorem okR_b (p g : Int) : 0 ≤ okR p g ∧ okR p g ≤ 1 := by
  unfold okR
  split <;> omega
def tTh (μ : MS) (k : Int) : MS := tOb μ (vwk μ) (vbr μ) (vtd μ) (vbh μ) k
def tDi (μ : MS) (k : Int) : MS := tCt μ k (vct μ k + 1)
def tWr (μ : MS) (i : Nat) : MS := tOb μ (vwk μ) (vbr μ) (if vwk μ = some i then -1 else vtd μ) (vbh μ) (vth μ)
/-- 1, if a worth w at the rank r comes or goes -/
def seC (f : Int → Int) (r w : Int) : Int := if isT f r = (if w = -1 then 0 else 1) then 0 else 1
theorem seC_b (f : Int → Int) (r w : Int) : 0 ≤ seC f r w ∧ seC f r w ≤ 1 := by
  unfold seC
  split <;> omega
def tSe (μ : MS) (i : Nat) (r w : Int) : MS := tOb (tRw μ i (iu (vst μ i) r w)) (vwk μ) (if seC (vst μ i) r w = 1 ∧ vwk μ = some i then 1 else vbr μ) (vtd μ) (vbh μ) (vth μ)
def goM (μ : MS) : Int := if vwk μ ≠ none ∧ vbr μ = 0 then 1 else 0
theorem goM_b (μ : MS) : 0 ≤ goM μ ∧ goM μ ≤ 1 := by
  unfold goM
  split <;> omega
theorem inR_d (n a b : Int) : (inR n a b = 1 ∧ a ≤ n ∧ n ≤ b) ∨ (inR n a b = 0 ∧ ¬ (a ≤ n ∧ n ≤ b)) := by
  unfold inR
  split
  · exact Or.inl ⟨rfl, by omega⟩
  · exact Or.inr ⟨rfl, by omega⟩
theorem okR_d (p g : Int) : (okR p g = 1 ∧ p ≠ 0 ∧ g ≠ 0) ∨ (okR p g = 0 ∧ (p = 0 ∨ g = 0)) := by
  by_cases hp : p = 0
  · exact Or.inr ⟨by unfold okR ltR; rw [if_pos hp]; rfl, Or.inl hp⟩
  · by_cases hg : g = 0
    · exact Or.inr ⟨by unfold okR ltR; rw [if_neg hp, if_pos hg]; rfl, Or.inr hg⟩
    · exact Or.inl ⟨by unfold okR ltR; rw [if_neg hp, if_neg hg]; rfl, hp, hg⟩
theorem okR_z (p : Int) : okR p 0 = 0 := by
  rcases okR_d p 0 with h | h
  · exact absurd rfl h.2.2
  · exact h.1
theorem va_up_up {α : Type} (f : Nat → α) (k : Nat) (a b : α) : va_up (va_up f k a) k b = va_up f k b := by
  funext j
  by_cases h : j = k
  · subst h
    rw [va_up_self, va_up_self]
  · rw [va_up_ne _ _ h, va_up_ne _ _ h, va_up_ne _ _ h]
theorem MP_O {y : Nat → ClassId} {L : List Nat} {F : Nat → va_E} {O : Nat → Prop} {G : MG} {μ : MS} (h : MP y L F O G μ) : O (ubg G) ∧ O (uab G) ∧ O (uas G) ∧ O (uav G) ∧ O (uaf G) ∧ O (uat G) ∧ O (uac G) ∧ ∀ i, i < vn μ → O (urh G i) ∧ O (urw G i) := h.2.2.2.2.2.2.2.2.2
theorem MP_o0 {y : Nat → ClassId} {L : List Nat} {F : Nat → va_E} {O : Nat → Prop} {G : MG} {μ : MS} (h : MP y L F O G μ) (hw : vwk μ = none) : ubg G ∈ L ∧ F (ubg G) = .inr (8, [.ref (uab G), .ref (uas G), .ref (uav G), .ref (uaf G), .ref (uat G), .null, .int (iI (vbr μ)), .int (iI (vtd μ)), .int (iI (vbh μ)), .ref (uac G), .int (iI (vth μ))]) := ⟨h.1.1, by rw [h.1.2]; unfold mE; rw [hw]; rfl⟩
theorem MP_o1 {y : Nat → ClassId} {L : List Nat} {F : Nat → va_E} {O : Nat → Prop} {G : MG} {μ : MS} (h : MP y L F O G μ) {j : Nat} (hw : vwk μ = some j) : ubg G ∈ L ∧ F (ubg G) = .inr (8, [.ref (uab G), .ref (uas G), .ref (uav G), .ref (uaf G), .ref (uat G), .ref (urh G j), .int (iI (vbr μ)), .int (iI (vtd μ)), .int (iI (vbh μ)), .ref (uac G), .int (iI (vth μ))]) := ⟨h.1.1, by rw [h.1.2]; unfold mE; rw [hw]; rfl⟩
set_option maxHeartbeats 800000 in
set_option maxRecDepth 100000 in
theorem c_X6_isIn (l : Launch) (D : va_G) (y : Nat → ClassId) (L : List Nat) (F : Nat → va_E) (n : Int) (a : Int) (b : Int) (h1 : -2147483648 ≤ n ∧ n ≤ 2147483647) (h2 : -2147483648 ≤ a ∧ a ≤ 2147483647) (h3 : -2147483648 ≤ b ∧ b ≤ 2147483647) : Met l yX6_isIn (.code yX6_isIn cX6_isIn 3 (some .boolean) :: Tt) ({ frames := 0, cells := 0, slots := 0, locals := 0 }) (PcR D y L F [.int (iI n), .int (iI a), .int (iI b)]) (cS (fun r => r = inR n a b)) 0 0 (fun _ => False) := by
  refine q_ofR (lv := [(0, .int (iI n)), (1, .int (iI a)), (2, .int (iI b))]) (by decide) (Nat.le_of_ble_eq_true rfl) rfl (fun p e s m below meth c C0 hret hlk hP ls hl => ?_)
  have hx := C0.1.1
  have hb := C0.1.2.1
  have hts := C0.1.2.2.2.2
  refine lv_iload_n hx hb dX6_isIn_0 rfl (lv_at hl 0 rfl) ?_
  refine lv_iload_n hx hb dX6_isIn_1 rfl (lv_at hl 1 rfl) ?_
  refine q_icmp_lt hx hb dX6_isIn_2 (tgt := 14) (by decide) (by omega) (by omega) (fun c1 => ?_) (fun c1 => ?_)
  · refine q_iconst hx hb dX6_isIn_14 ?_
    exact q_iretS C0 hret hlk dX6_isIn_15 (by decide) (by unfold inR; split <;> omega)
  · refine lv_iload_n hx hb dX6_isIn_5 rfl (lv_at hl 0 rfl) ?_
    refine lv_iload_n hx hb dX6_isIn_6 rfl (lv_at hl 2 rfl) ?_
    refine q_icmp_gt hx hb dX6_isIn_7 (tgt := 14) (by decide) (by omega) (by omega) (fun c2 => ?_) (fun c2 => ?_)
    · refine q_iconst hx hb dX6_isIn_14 ?_
      exact q_iretS C0 hret hlk dX6_isIn_15 (by decide) (by unfold inR; split <;> omega)
    · refine q_iconst hx hb dX6_isIn_10 ?_
      refine lv_goto (tgt := 15) hx hb dX6_isIn_11 (by decide) ?_
      exact q_iretS C0 hret hlk dX6_isIn_15 (by decide) (by unfold inR; split <;> omega)
set_option maxHeartbeats 800000 in
set_option maxRecDepth 100000 in
theorem c_X6_isKey (l : Launch) (D : va_G) (y : Nat → ClassId) (L : List Nat) (F : Nat → va_E) (n : Int) (h1 : -2147483648 ≤ n ∧ n ≤ 2147483647) : Met l yX6_isKey (.code yX6_isKey cX6_isKey 1 (some .boolean) :: Tt) ({ frames := 1, cells := 0, slots := 0, locals := 22 }) (PcR D y L F [.int (iI n)]) (cS (fun r => r = inR n 0 99)) 0 0 (fun _ => False) := by
  refine q_ofR (lv := [(0, .int (iI n))]) (by decide) (Nat.le_of_ble_eq_true rfl) rfl (fun p e s m below meth c C0 hret hlk hP ls hl => ?_)
  have hx := C0.1.1
  have hb := C0.1.2.1
  have hts := C0.1.2.2.2.2
  refine lv_iload_n hx hb dX6_isKey_0 rfl (lv_at hl 0 rfl) ?_
  refine q_iconst hx hb dX6_isKey_1 ?_
  refine q_bipush hx hb dX6_isKey_2 (by decide) ?_
  refine q_sS C0 lX6_41 (c_X6_isIn l D y L F n 0 99 (by omega) (by omega) (by omega)) ⟨rfl, rfl⟩ rfl hP rfl hl rfl (Nat.le_of_ble_eq_true rfl) dX6_isKey_4 ⟨Nat.zero_le _, Nat.zero_le _⟩ (fun r1 e_r1 => ?_)
  subst e_r1
  have b_2 := inR_d n 0 99
  exact q_iretS C0 hret hlk dX6_isKey_7 (narB (by omega)) (rfl)
set_option maxHeartbeats 800000 in
set_option maxRecDepth 100000 in
theorem c_X6_isBook (l : Launch) (D : va_G) (y : Nat → ClassId) (L : List Nat) (F : Nat → va_E) (n : Int) (h1 : -2147483648 ≤ n ∧ n ≤ 2147483647) : Met l yX6_isBook (.code yX6_isBook cX6_isBook 1 (some .boolean) :: Tt) ({ frames := 1, cells := 0, slots := 0, locals := 22 }) (PcR D y L F [.int (iI n)]) (cS (fun r => r = inR n 0 3)) 0 0 (fun _ => False) := by
  refine q_ofR (lv := [(0, .int (iI n))]) (by decide) (Nat.le_of_ble_eq_true rfl) rfl (fun p e s m below meth c C0 hret hlk hP ls hl => ?_)
  have hx := C0.1.1
  have hb := C0.1.2.1
  have hts := C0.1.2.2.2.2
  refine lv_iload_n hx hb dX6_isBook_0 rfl (lv_at hl 0 rfl) ?_
  refine q_iconst hx hb dX6_isBook_1 ?_
  refine q_iconst hx hb dX6_isBook_2 ?_
  refine q_sS C0 lX6_41 (c_X6_isIn l D y L F n 0 3 (by omega) (by omega) (by omega)) ⟨rfl, rfl⟩ rfl hP rfl hl rfl (Nat.le_of_ble_eq_true rfl) dX6_isBook_3 ⟨Nat.zero_le _, Nat.zero_le _⟩ (fun r1 e_r1 => ?_)
  subst e_r1
  have b_2 := inR_d n 0 3
  exact q_iretS C0 hret hlk dX6_isBook_6 (narB (by omega)) (rfl)
set_option maxHeartbeats 800000 in
set_option maxRecDepth 100000 in
theorem c_X6_isView (l : Launch) (D : va_G) (y : Nat → ClassId) (L : List Nat) (F : Nat → va_E) (n : Int) (h1 : -2147483648 ≤ n ∧ n ≤ 2147483647) : Met l yX6_isView (.code yX6_isView cX6_isView 1 (some .boolean) :: Tt) ({ frames := 1, cells := 0, slots := 0, locals := 22 }) (PcR D y L F [.int (iI n)]) (cS (fun r => r = inR n 0 1)) 0 0 (fun _ => False) := by
  refine q_ofR (lv := [(0, .int (iI n))]) (by decide) (Nat.le_of_ble_eq_true rfl) rfl (fun p e s m below meth c C0 hret hlk hP ls hl => ?_)
  have hx := C0.1.1
  have hb := C0.1.2.1
  have hts := C0.1.2.2.2.2
  refine lv_iload_n hx hb dX6_isView_0 rfl (lv_at hl 0 rfl) ?_
  refine q_iconst hx hb dX6_isView_1 ?_
  refine q_iconst hx hb dX6_isView_2 ?_
  refine q_sS C0 lX6_41 (c_X6_isIn l D y L F n 0 1 (by omega) (by omega) (by omega)) ⟨rfl, rfl⟩ rfl hP rfl hl rfl (Nat.le_of_ble_eq_true rfl) dX6_isView_3 ⟨Nat.zero_le _, Nat.zero_le _⟩ (fun r1 e_r1 => ?_)
  subst e_r1
  have b_2 := inR_d n 0 1
  exact q_iretS C0 hret hlk dX6_isView_6 (narB (by omega)) (rfl)
set_option maxHeartbeats 800000 in
set_option maxRecDepth 100000 in
theorem c_X6_isShelf (l : Launch) (D : va_G) (y : Nat → ClassId) (L : List Nat) (F : Nat → va_E) (n : Int) (h1 : -2147483648 ≤ n ∧ n ≤ 2147483647) : Met l yX6_isShelf (.code yX6_isShelf cX6_isShelf 1 (some .boolean) :: Tt) ({ frames := 1, cells := 0, slots := 0, locals := 22 }) (PcR D y L F [.int (iI n)]) (cS (fun r => r = inR n 0 2)) 0 0 (fun _ => False) := by
  refine q_ofR (lv := [(0, .int (iI n))]) (by decide) (Nat.le_of_ble_eq_true rfl) rfl (fun p e s m below meth c C0 hret hlk hP ls hl => ?_)
  have hx := C0.1.1
  have hb := C0.1.2.1
  have hts := C0.1.2.2.2.2
  refine lv_iload_n hx hb dX6_isShelf_0 rfl (lv_at hl 0 rfl) ?_
  refine q_iconst hx hb dX6_isShelf_1 ?_
  refine q_iconst hx hb dX6_isShelf_2 ?_
  refine q_sS C0 lX6_41 (c_X6_isIn l D y L F n 0 2 (by omega) (by omega) (by omega)) ⟨rfl, rfl⟩ rfl hP rfl hl rfl (Nat.le_of_ble_eq_true rfl) dX6_isShelf_3 ⟨Nat.zero_le _, Nat.zero_le _⟩ (fun r1 e_r1 => ?_)
  subst e_r1
  have b_2 := inR_d n 0 2
  exact q_iretS C0 hret hlk dX6_isShelf_6 (narB (by omega)) (rfl)
set_option maxHeartbeats 800000 in
set_option maxRecDepth 100000 in
theorem c_X6_isLet (l : Launch) (D : va_G) (y : Nat → ClassId) (L : List Nat) (F : Nat → va_E) (sz : Nat) (O : Nat → Prop) (G : MG) (μ : MS) (p : Int) (q : Int) (hC : MP y L F O G μ) (h_p : 0 ≤ p ∧ p ≤ 1) (h_q : 0 ≤ q ∧ q ≤ 1) : Met l yX6_isLet (.code yX6_isLet cX6_isLet 3 (some .boolean) :: Tt) ({ frames := 0, cells := 0, slots := 0, locals := 0 }) (PcM D y L F sz [.ref ((ubg G)), .int (iI p), .int (iI q)]) (cMi D (AL L sz) (fun r L1 F1 => L = L1 ∧ MP y L1 F1 O G (tTh μ (ltR p q)) ∧ r = okR p q ∧ OE O F F1)) 0 0 (AL L sz) := by
  have hO : OE O F F := fun _ _ => rfl
  refine q_ofM (lv := [(0, .ref ((ubg G))), (1, .int (iI p)), (2, .int (iI q))]) (by decide) (Nat.le_of_ble_eq_true rfl) rfl (fun p e s m below meth c C0 hret hlk hnm hA hP hD hS ls hl => ?_)
  have hx := C0.1.1
  have hb := C0.1.2.1
  have hts := C0.1.2.2.2.2
  refine lv_aload_n hx hb dX6_isLet_0 rfl (lv_at hl 0 rfl) ?_
  refine lv_iload_n hx hb dX6_isLet_1 rfl (lv_at hl 1 rfl) ?_
  refine q_if_ne hx hb dX6_isLet_2 (tgt := 9) (by decide) (by omega) (fun c1 => ?_) (fun c1 => ?_)
  · refine lv_iload_n hx hb dX6_isLet_9 rfl (lv_at hl 2 rfl) ?_
    refine q_if_ne hx hb dX6_isLet_10 (tgt := 17) (by decide) (by omega) (fun c2 => ?_) (fun c2 => ?_)
    · refine q_iconst hx hb dX6_isLet_17 ?_
      refine q_put C0 iX6 tyX6 tyX6_ok nmX6 hP hD hS hC.1.1 hC.1.2 rfl 10 (by decide) flX6_38 rfl rfl rfl rfl (Nat.le_of_ble_eq_true rfl) dX6_isLet_18 (fun H locs hP hD hS => ?_)
      obtain ⟨F3, eF3⟩ : ∃ z, z = va_up F (ubg G) (.inr (8, [.ref ((uab G)), .ref ((uas G)), .ref ((uav G)), .ref ((uaf G)), .ref ((uat G)), va_rf (Option.map (urh G) (vwk μ)), .int (iI (vbr μ)), .int (iI (vtd μ)), .int (iI (vbh μ)), .ref ((uac G)), .int (iI 0)])) := ⟨_, rfl⟩
      have hP : va_P D vwCl (va_pl L F3) H := by rw [eF3]; exact hP
      have hD : va_D (AL L sz) (va_pl L F3) := by rw [eF3]; exact hD
      have hO : OE O F F3 := by rw [eF3]; exact hO.tr (OE1 (MP_O hC).1)
      have hC : MP y L F3 O G (tOb μ (vwk μ) (vbr μ) (vtd μ) (vbh μ) 0) := by rw [eF3]; exact MP_ob hC (va_up_self _ _ _) (fun q hq => va_up_ne _ _ hq)
      refine lv_aload_n hx hb dX6_isLet_21 rfl (lv_at hl 0 rfl) ?_
      refine q_get C0 iX6 hP hC.1.1 hC.1.2 rfl 10 (by decide) flX6_38 rfl (v := .int (iI 0)) rfl dX6_isLet_22 ?_
      refine q_if_ne hx hb dX6_isLet_25 (tgt := 32) (by decide) (by omega) (fun c4 => absurd c4 (by omega)) (fun c4 => ?_)
      refine q_iconst hx hb dX6_isLet_28 ?_
      refine lv_goto (tgt := 33) hx hb dX6_isLet_29 (by decide) ?_
      exact q_retMi C0 hret (by decide) hlk dX6_isLet_33 hP hD hS (⟨rfl, MP_eq hC (by unfold tTh ltR; (repeat' split) <;> first | rfl | (exfalso; omega)), (by unfold okR ltR; (repeat' split) <;> first | rfl | (exfalso; omega)), hO⟩)
    · refine q_iconst hx hb dX6_isLet_13 ?_
      refine lv_goto (tgt := 18) hx hb dX6_isLet_14 (by decide) ?_
      refine q_put C0 iX6 tyX6 tyX6_ok nmX6 hP hD hS hC.1.1 hC.1.2 rfl 10 (by decide) flX6_38 rfl rfl rfl rfl (Nat.le_of_ble_eq_true rfl) dX6_isLet_18 (fun H locs hP hD hS => ?_)
      obtain ⟨F5, eF5⟩ : ∃ z, z = va_up F (ubg G) (.inr (8, [.ref ((uab G)), .ref ((uas G)), .ref ((uav G)), .ref ((uaf G)), .ref ((uat G)), va_rf (Option.map (urh G) (vwk μ)), .int (iI (vbr μ)), .int (iI (vtd μ)), .int (iI (vbh μ)), .ref ((uac G)), .int (iI 2)])) := ⟨_, rfl⟩
      have hP : va_P D vwCl (va_pl L F5) H := by rw [eF5]; exact hP
      have hD : va_D (AL L sz) (va_pl L F5) := by rw [eF5]; exact hD
      have hO : OE O F F5 := by rw [eF5]; exact hO.tr (OE1 (MP_O hC).1)
      have hC : MP y L F5 O G (tOb μ (vwk μ) (vbr μ) (vtd μ) (vbh μ) 2) := by rw [eF5]; exact MP_ob hC (va_up_self _ _ _) (fun q hq => va_up_ne _ _ hq)
      refine lv_aload_n hx hb dX6_isLet_21 rfl (lv_at hl 0 rfl) ?_
      refine q_get C0 iX6 hP hC.1.1 hC.1.2 rfl 10 (by decide) flX6_38 rfl (v := .int (iI 2)) rfl dX6_isLet_22 ?_
      refine q_if_ne hx hb dX6_isLet_25 (tgt := 32) (by decide) (by omega) (fun c6 => ?_) (fun c6 => absurd c6 (by omega))
      refine q_iconst hx hb dX6_isLet_32 ?_
      exact q_retMi C0 hret (by decide) hlk dX6_isLet_33 hP hD hS (⟨rfl, MP_eq hC (by unfold tTh ltR; (repeat' split) <;> first | rfl | (exfalso; omega)), (by unfold okR ltR; (repeat' split) <;> first | rfl | (exfalso; omega)), hO⟩)
  · refine q_iconst hx hb dX6_isLet_5 ?_
    refine lv_goto (tgt := 18) hx hb dX6_isLet_6 (by decide) ?_
    refine q_put C0 iX6 tyX6 tyX6_ok nmX6 hP hD hS hC.1.1 hC.1.2 rfl 10 (by decide) flX6_38 rfl rfl rfl rfl (Nat.le_of_ble_eq_true rfl) dX6_isLet_18 (fun H locs hP hD hS => ?_)
    obtain ⟨F7, eF7⟩ : ∃ z, z = va_up F (ubg G) (.inr (8, [.ref ((uab G)), .ref ((uas G)), .ref ((uav G)), .ref ((uaf G)), .ref ((uat G)), va_rf (Option.map (urh G) (vwk μ)), .int (iI (vbr μ)), .int (iI (vtd μ)), .int (iI (vbh μ)), .ref ((uac G)), .int (iI 1)])) := ⟨_, rfl⟩
    have hP : va_P D vwCl (va_pl L F7) H := by rw [eF7]; exact hP
    have hD : va_D (AL L sz) (va_pl L F7) := by rw [eF7]; exact hD
    have hO : OE O F F7 := by rw [eF7]; exact hO.tr (OE1 (MP_O hC).1)
    have hC : MP y L F7 O G (tOb μ (vwk μ) (vbr μ) (vtd μ) (vbh μ) 1) := by rw [eF7]; exact MP_ob hC (va_up_self _ _ _) (fun q hq => va_up_ne _ _ hq)
    refine lv_aload_n hx hb dX6_isLet_21 rfl (lv_at hl 0 rfl) ?_
    refine q_get C0 iX6 hP hC.1.1 hC.1.2 rfl 10 (by decide) flX6_38 rfl (v := .int (iI 1)) rfl dX6_isLet_22 ?_
    refine q_if_ne hx hb dX6_isLet_25 (tgt := 32) (by decide) (by omega) (fun c8 => ?_) (fun c8 => absurd c8 (by omega))
    refine q_iconst hx hb dX6_isLet_32 ?_
    exact q_retMi C0 hret (by decide) hlk dX6_isLet_33 hP hD hS (⟨rfl, MP_eq hC (by unfold tTh ltR; (repeat' split) <;> first | rfl | (exfalso; omega)), (by unfold okR ltR; (repeat' split) <;> first | rfl | (exfalso; omega)), hO⟩)
set_option maxHeartbeats 800000 in
set_option maxRecDepth 100000 in
theorem c_X6_did (l : Launch) (D : va_G) (y : Nat → ClassId) (L : List Nat) (F : Nat → va_E) (sz : Nat) (O : Nat → Prop) (G : MG) (μ : MS) (n : Int) (hC : MP y L F O G μ) : Met l yX6_did (.code yX6_did cX6_did 2 (some .int) :: Tt) ({ frames := 0, cells := 0, slots := 0, locals := 0 }) (PcM D y L F sz [.ref ((ubg G)), .int (iI n)]) (cMi D (AL L sz) (fun r L1 F1 => L = L1 ∧ MP y L1 F1 O G (tDi μ 0) ∧ r = n ∧ OE O F F1)) 0 0 (AL L sz) := by
  have hO : OE O F F := fun _ _ => rfl
  refine q_ofM (lv := [(0, .ref ((ubg G))), (1, .int (iI n))]) (by decide) (Nat.le_of_ble_eq_true rfl) rfl (fun p e s m below meth c C0 hret hlk hnm hA hP hD hS ls hl => ?_)
  have hx := C0.1.1
  have hb := C0.1.2.1
  have hts := C0.1.2.2.2.2
  refine lv_aload_n hx hb dX6_did_0 rfl (lv_at hl 0 rfl) ?_
  refine q_get C0 iX6 hP hC.1.1 hC.1.2 rfl 9 (by decide) flX6_32 rfl (v := .ref ((uac G))) rfl dX6_did_1 ?_
  refine q_iconst hx hb dX6_did_4 ?_
  refine lv_dup2_11 hx hb dX6_did_5 rfl rfl ?_
  refine q_iald C0 hP (f := (vct μ)) hC.2.2.2.2.2.2.1.1 hC.2.2.2.2.2.2.1.2 (by omega) (by decide) dX6_did_6 ?_
  refine q_iconst hx hb dX6_did_7 ?_
  refine q_iadd hx hb dX6_did_8 ?_
  refine q_iast C0 hP hD hS hC.2.2.2.2.2.2.1.1 hC.2.2.2.2.2.2.1.2 (i := 0) (v := (((vct μ) 0) + 1)) (by omega) (by decide) dX6_did_9 (fun H locs hP hD hS => ?_)
  obtain ⟨F1, eF1⟩ : ∃ z, z = va_up F (uac G) (arrI (y 0) 4 (iu (vct μ) 0 (((vct μ) 0) + 1))) := ⟨_, rfl⟩
  have hP : va_P D vwCl (va_pl L F1) H := by rw [eF1]; exact hP
  have hD : va_D (AL L sz) (va_pl L F1) := by rw [eF1]; exact hD
  have hO : OE O F F1 := by rw [eF1]; exact hO.tr (OE1 (MP_O hC).2.2.2.2.2.2.1)
  have hC : MP y L F1 O G (tCt μ 0 (((vct μ) 0) + 1)) := by rw [eF1]; exact MP_ct hC (va_up_self _ _ _) (fun q hq => va_up_ne _ _ hq)
  refine lv_iload_n hx hb dX6_did_10 rfl (lv_at hl 1 rfl) ?_
  exact q_retMi C0 hret rfl hlk dX6_did_11 hP hD hS (⟨rfl, hC, rfl, hO⟩)
set_option maxHeartbeats 800000 in
set_option maxRecDepth 100000 in
theorem c_X6_laid (l : Launch) (D : va_G) (y : Nat → ClassId) (L : List Nat) (F : Nat → va_E) (sz : Nat) (O : Nat → Prop) (G : MG) (μ : MS) (n : Int) (hC : MP y L F O G μ) : Met l yX6_laid (.code yX6_laid cX6_laid 2 (some .int) :: Tt) ({ frames := 0, cells := 0, slots := 0, locals := 0 }) (PcM D y L F sz [.ref ((ubg G)), .int (iI n)]) (cMi D (AL L sz) (fun r L1 F1 => L = L1 ∧ MP y L1 F1 O G (tDi μ 1) ∧ r = n ∧ OE O F F1)) 0 0 (AL L sz) := by
  have hO : OE O F F := fun _ _ => rfl
  refine q_ofM (lv := [(0, .ref ((ubg G))), (1, .int (iI n))]) (by decide) (Nat.le_of_ble_eq_true rfl) rfl (fun p e s m below meth c C0 hret hlk hnm hA hP hD hS ls hl => ?_)
  have hx := C0.1.1
  have hb := C0.1.2.1
  have hts := C0.1.2.2.2.2
  refine lv_aload_n hx hb dX6_laid_0 rfl (lv_at hl 0 rfl) ?_
  refine q_get C0 iX6 hP hC.1.1 hC.1.2 rfl 9 (by decide) flX6_32 rfl (v := .ref ((uac G))) rfl dX6_laid_1 ?_
  refine q_iconst hx hb dX6_laid_4 ?_
  refine lv_dup2_11 hx hb dX6_laid_5 rfl rfl ?_
  refine q_iald C0 hP (f := (vct μ)) hC.2.2.2.2.2.2.1.1 hC.2.2.2.2.2.2.1.2 (by omega) (by decide) dX6_laid_6 ?_
  refine q_iconst hx hb dX6_laid_7 ?_
  refine q_iadd hx hb dX6_laid_8 ?_
  refine q_iast C0 hP hD hS hC.2.2.2.2.2.2.1.1 hC.2.2.2.2.2.2.1.2 (i := 1) (v := (((vct μ) 1) + 1)) (by omega) (by decide) dX6_laid_9 (fun H locs hP hD hS => ?_)
  obtain ⟨F1, eF1⟩ : ∃ z, z = va_up F (uac G) (arrI (y 0) 4 (iu (vct μ) 1 (((vct μ) 1) + 1))) := ⟨_, rfl⟩
  have hP : va_P D vwCl (va_pl L F1) H := by rw [eF1]; exact hP
  have hD : va_D (AL L sz) (va_pl L F1) := by rw [eF1]; exact hD
  have hO : OE O F F1 := by rw [eF1]; exact hO.tr (OE1 (MP_O hC).2.2.2.2.2.2.1)
  have hC : MP y L F1 O G (tCt μ 1 (((vct μ) 1) + 1)) := by rw [eF1]; exact MP_ct hC (va_up_self _ _ _) (fun q hq => va_up_ne _ _ hq)
  refine lv_iload_n hx hb dX6_laid_10 rfl (lv_at hl 1 rfl) ?_
  exact q_retMi C0 hret rfl hlk dX6_laid_11 hP hD hS (⟨rfl, hC, rfl, hO⟩)
set_option maxHeartbeats 800000 in
set_option maxRecDepth 100000 in
theorem c_X6_refuse (l : Launch) (D : va_G) (y : Nat → ClassId) (L : List Nat) (F : Nat → va_E) (sz : Nat) (O : Nat → Prop) (G : MG) (μ : MS) (hC : MP y L F O G μ) : Met l yX6_refuse (.code yX6_refuse cX6_refuse 1 (some .int) :: Tt) ({ frames := 0, cells := 0, slots := 0, locals := 0 }) (PcM D y L F sz [.ref ((ubg G))]) (cMi D (AL L sz) (fun r L1 F1 => L = L1 ∧ MP y L1 F1 O G (tDi μ 2) ∧ r = -9 ∧ OE O F F1)) 0 0 (AL L sz) := by
  have hO : OE O F F := fun _ _ => rfl
  refine q_ofM (lv := [(0, .ref ((ubg G)))]) (by decide) (Nat.le_of_ble_eq_true rfl) rfl (fun p e s m below meth c C0 hret hlk hnm hA hP hD hS ls hl => ?_)
  have hx := C0.1.1
  have hb := C0.1.2.1
  have hts := C0.1.2.2.2.2
  refine lv_aload_n hx hb dX6_refuse_0 rfl (lv_at hl 0 rfl) ?_
  refine q_get C0 iX6 hP hC.1.1 hC.1.2 rfl 9 (by decide) flX6_32 rfl (v := .ref ((uac G))) rfl dX6_refuse_1 ?_
  refine q_iconst hx hb dX6_refuse_4 ?_
  refine lv_dup2_11 hx hb dX6_refuse_5 rfl rfl ?_
  refine q_iald C0 hP (f := (vct μ)) hC.2.2.2.2.2.2.1.1 hC.2.2.2.2.2.2.1.2 (by omega) (by decide) dX6_refuse_6 ?_
  refine q_iconst hx hb dX6_refuse_7 ?_
  refine q_iadd hx hb dX6_refuse_8 ?_
  refine q_iast C0 hP hD hS hC.2.2.2.2.2.2.1.1 hC.2.2.2.2.2.2.1.2 (i := 2) (v := (((vct μ) 2) + 1)) (by omega) (by decide) dX6_refuse_9 (fun H locs hP hD hS => ?_)
  obtain ⟨F1, eF1⟩ : ∃ z, z = va_up F (uac G) (arrI (y 0) 4 (iu (vct μ) 2 (((vct μ) 2) + 1))) := ⟨_, rfl⟩
  have hP : va_P D vwCl (va_pl L F1) H := by rw [eF1]; exact hP
  have hD : va_D (AL L sz) (va_pl L F1) := by rw [eF1]; exact hD
  have hO : OE O F F1 := by rw [eF1]; exact hO.tr (OE1 (MP_O hC).2.2.2.2.2.2.1)
  have hC : MP y L F1 O G (tCt μ 2 (((vct μ) 2) + 1)) := by rw [eF1]; exact MP_ct hC (va_up_self _ _ _) (fun q hq => va_up_ne _ _ hq)
  refine q_bipush hx hb dX6_refuse_10 (by decide) ?_
  exact q_retMi C0 hret rfl hlk dX6_refuse_12 hP hD hS (⟨rfl, hC, rfl, hO⟩)
set_option maxHeartbeats 800000 in
set_option maxRecDepth 100000 in
theorem c_X6_write (l : Launch) (D : va_G) (y : Nat → ClassId) (L : List Nat) (F : Nat → va_E) (sz : Nat) (O : Nat → Prop) (G : MG) (μ : MS) (i : Nat) (hC : MP y L F O G μ) (hi : i < vn μ) (hwf : ∀ i, vwk μ = some i → i < vn μ) : Met l yX6_write (.code yX6_write cX6_write 2 none :: Tt) ({ frames := 0, cells := 0, slots := 0, locals := 0 }) (PcM D y L F sz [.ref ((ubg G)), .ref ((urh G i))]) (cMv D (AL L sz) (fun r L1 F1 => L = L1 ∧ MP y L1 F1 O G (tWr μ i) ∧ True ∧ OE O F F1)) 0 0 (AL L sz) := by
  have hO : OE O F F := fun _ _ => rfl
  refine q_ofM (lv := [(0, .ref ((ubg G))), (1, .ref ((urh G i)))]) (by decide) (Nat.le_of_ble_eq_true rfl) rfl (fun p e s m below meth c C0 hret hlk hnm hA hP hD hS ls hl => ?_)
  have hx := C0.1.1
  have hb := C0.1.2.1
  have hts := C0.1.2.2.2.2
  refine lv_aload_n hx hb dX6_write_0 rfl (lv_at hl 1 rfl) ?_
  refine lv_aload_n hx hb dX6_write_1 rfl (lv_at hl 0 rfl) ?_
  refine q_get C0 iX6 hP hC.1.1 hC.1.2 rfl 5 (by decide) flX6_45 rfl (v := va_rf (Option.map (urh G) (vwk μ))) rfl dX6_write_2 ?_
  refine lv_acmp_ne (rx := some (urh G i)) (ry := (Option.map (urh G) (vwk μ))) hx hb dX6_write_5 (tgt := 13) (by decide) (fun c1 => ?_) (fun c1 => ?_)
  · have q_ := mt (MP_wk_eq hC hwf hi).mpr c1
    exact q_retMv C0 hret hlk dX6_write_13 hP hD hS (⟨rfl, MP_eq hC (by unfold tWr; first | (rw [if_neg q_]; done) | (rw [if_neg q_]; rfl)), trivial, hO⟩)
  · have q_ := (MP_wk_eq hC hwf hi).mp c1
    refine lv_aload_n hx hb dX6_write_8 rfl (lv_at hl 0 rfl) ?_
    refine q_iconst hx hb dX6_write_9 ?_
    refine q_put C0 iX6 tyX6 tyX6_ok nmX6 hP hD hS hC.1.1 hC.1.2 rfl 7 (by decide) flX6_28 rfl rfl rfl rfl (Nat.le_of_ble_eq_true rfl) dX6_write_10 (fun H locs hP hD hS => ?_)
    obtain ⟨F2, eF2⟩ : ∃ z, z = va_up F (ubg G) (.inr (8, [.ref ((uab G)), .ref ((uas G)), .ref ((uav G)), .ref ((uaf G)), .ref ((uat G)), va_rf (Option.map (urh G) (vwk μ)), .int (iI (vbr μ)), .int (iI ((-1))), .int (iI (vbh μ)), .ref ((uac G)), .int (iI (vth μ))])) := ⟨_, rfl⟩
    have hP : va_P D vwCl (va_pl L F2) H := by rw [eF2]; exact hP
    have hD : va_D (AL L sz) (va_pl L F2) := by rw [eF2]; exact hD
    have hO : OE O F F2 := by rw [eF2]; exact hO.tr (OE1 (MP_O hC).1)
    have hC : MP y L F2 O G (tOb μ (vwk μ) (vbr μ) (-1) (vbh μ) (vth μ)) := by rw [eF2]; exact MP_ob hC (va_up_self _ _ _) (fun q hq => va_up_ne _ _ hq)
    exact q_retMv C0 hret hlk dX6_write_13 hP hD hS (⟨rfl, MP_eq hC (by unfold tWr; first | (rw [if_pos q_]; done) | (rw [if_pos q_]; rfl)), trivial, hO⟩)
set_option maxHeartbeats 800000 in
set_option maxRecDepth 100000 in
theorem c_X6_set (l : Launch) (D : va_G) (y : Nat → ClassId) (L : List Nat) (F : Nat → va_E) (sz : Nat) (O : Nat → Prop) (G : MG) (μ : MS) (i : Nat) (k : Int) (w : Int) (hC : MP y L F O G μ) (hi : i < vn μ) (hwf : ∀ i, vwk μ = some i → i < vn μ) (hk : 0 ≤ k ∧ k ≤ 99) (hw : -1 ≤ w ∧ w ≤ 99) : Met l yX6_set (.code yX6_set cX6_set 5 (some .int) :: Tt) ({ frames := 1, cells := 0, slots := 0, locals := 21 }) (PcM D y L F sz [.ref ((ubg G)), .ref ((urh G i)), .int (iI k), .int (iI w)]) (cMi D (AL L sz) (fun r L1 F1 => L = L1 ∧ MP y L1 F1 O G (tSe μ i (turn (vod μ i) k) w) ∧ r = seC (vst μ i) (turn (vod μ i) k) w ∧ OE O F F1)) 0 0 (AL L sz) := by
  have hO : OE O F F := fun _ _ => rfl
  have ib_ := isT_b (vst μ i) (turn (vod μ i) k)
  refine q_ofM (lv := [(0, .ref ((ubg G))), (1, .ref ((urh G i))), (2, .int (iI k)), (3, .int (iI w))]) (by decide) (Nat.le_of_ble_eq_true rfl) rfl (fun p e s m below meth c C0 hret hlk hnm hA hP hD hS ls hl => ?_)
  have hx := C0.1.1
  have hb := C0.1.2.1
  have hts := C0.1.2.2.2.2
  refine lv_aload_n hx hb dX6_set_0 rfl (lv_at hl 1 rfl) ?_
  refine lv_iload_n hx hb dX6_set_1 rfl (lv_at hl 2 rfl) ?_
  refine q_vS C0 lX6_49 (c_X5_has l D y L F (urh G i) (urw G i) (vod μ i) (vst μ i) k (MP_r hC hi) (by omega)) ⟨rfl, rfl⟩ rfl hP (MP_r hC hi).1 (MP_r hC hi).2.1 rfl rfl rfl hl rfl (Nat.le_of_ble_eq_true rfl) dX6_set_2 ⟨Nat.zero_le _, Nat.zero_le _⟩ (fun r1 e_r1 => ?_)
  subst e_r1
  have b_2 := isT_b (vst μ i) (turn (vod μ i) k)
  refine lv_iload_n hx hb dX6_set_5 rfl (lv_at hl 3 rfl) ?_
  refine q_iconst hx hb dX6_set_6 ?_
  refine q_icmp_eq hx hb dX6_set_7 (tgt := 14) (by decide) (by omega) (by omega) (fun c3 => ?_) (fun c3 => ?_)
  · refine q_iconst hx hb dX6_set_14 ?_
    refine q_icmp_eq hx hb dX6_set_15 (tgt := 22) (by decide) (by omega) (by omega) (fun c4 => ?_) (fun c4 => ?_)
    · refine q_iconst hx hb dX6_set_22 ?_
      refine lv_istore (lv' := [(4, .int (iI 0)), (0, .ref ((ubg G))), (1, .ref ((urh G i))), (2, .int (iI k)), (3, .int (iI w))]) hx hb dX6_set_23 hl (by decide) rfl (fun ls hl => ?_)
      refine lv_aload_n hx hb dX6_set_25 rfl (lv_at hl 2 rfl) ?_
      refine q_getN C0 iX5 hP (MP_r hC hi).1 (MP_r hC hi).2.1 rfl 1 (by decide) C0.2.2.2.2.2.2.1 rfl (v := .ref ((urw G i))) rfl dX6_set_26 ?_
      refine lv_iload_n hx hb dX6_set_29 rfl (lv_at hl 3 rfl) ?_
      refine lv_iload_n hx hb dX6_set_30 rfl (lv_at hl 4 rfl) ?_
      refine q_iast C0 hP hD hS (MP_r hC hi).2.2.1 (MP_r hC hi).2.2.2.1 (i := k) (v := w) (by omega) (by decide) dX6_set_31 (fun H locs hP hD hS => ?_)
      replace hP := va_P_re (a := (urw G i)) (e := arrI (y 0) 100 (mwd (vod μ i) (iu (vst μ i) (turn (vod μ i) k) w))) hP (fun X z => by rw [va_up_self] at z; exact at_arrI (fun i h0 h1 => mwd_iu (by omega) i h0 h1) X z)
      replace hP : va_P D vwCl (va_pl L (va_up F (urw G i) (arrI (y 0) 100 (mwd (vod μ i) (iu (vst μ i) (turn (vod μ i) k) w))))) H := by rw [va_up_up] at hP; exact hP
      replace hD := va_D_re (F1 := va_up F (urw G i) (arrI (y 0) 100 (mwd (vod μ i) (iu (vst μ i) (turn (vod μ i) k) w)))) hD
      obtain ⟨F5, eF5⟩ : ∃ z, z = va_up F (urw G i) (arrI (y 0) 100 (mwd (vod μ i) (iu (vst μ i) (turn (vod μ i) k) w))) := ⟨_, rfl⟩
      have hP : va_P D vwCl (va_pl L F5) H := by rw [eF5]; exact hP
      have hD : va_D (AL L sz) (va_pl L F5) := by rw [eF5]; exact hD
      have hO : OE O F F5 := by rw [eF5]; exact hO.tr (OE1 ((MP_O hC).2.2.2.2.2.2.2 _ hi).2)
      have hC : MP y L F5 O G (tRw μ i (iu (vst μ i) (turn (vod μ i) k) w)) := by rw [eF5]; exact MP_row hC hi (va_up_self _ _ _) (fun r => by unfold iu; split <;> first | omega | exact (MP_r hC hi).2.2.2.2.2 r) (fun q hq => va_up_ne _ _ hq)
      refine lv_iload hx hb dX6_set_32 (lv_at hl 0 rfl) ?_
      refine q_if_eq hx hb dX6_set_34 (tgt := 50) (by decide) (by omega) (fun c6 => ?_) (fun c6 => absurd c6 (by omega))
      refine lv_iload hx hb dX6_set_50 (lv_at hl 0 rfl) ?_
      refine q_if_eq hx hb dX6_set_52 (tgt := 59) (by decide) (by omega) (fun c7 => ?_) (fun c7 => absurd c7 (by omega))
      refine q_iconst hx hb dX6_set_59 ?_
      exact q_retMi C0 hret rfl hlk dX6_set_60 hP hD hS (⟨rfl, MP_eq hC (by unfold tSe seC; (repeat' split) <;> first | rfl | (exfalso; omega) | (exfalso; rename_i z; exact z.2 q_) | (exfalso; rename_i z; exact q_ z.2) | (exfalso; rename_i z _; exact z ⟨by omega, q_⟩) | (exfalso; rename_i z; exact z ⟨by omega, q_⟩)), (by unfold seC; (repeat' split) <;> first | rfl | (exfalso; omega)), hO⟩)
    · refine q_iconst hx hb dX6_set_18 ?_
      refine lv_goto (tgt := 23) hx hb dX6_set_19 (by decide) ?_
      refine lv_istore (lv' := [(4, .int (iI 1)), (0, .ref ((ubg G))), (1, .ref ((urh G i))), (2, .int (iI k)), (3, .int (iI w))]) hx hb dX6_set_23 hl (by decide) rfl (fun ls hl => ?_)
      refine lv_aload_n hx hb dX6_set_25 rfl (lv_at hl 2 rfl) ?_
      refine q_getN C0 iX5 hP (MP_r hC hi).1 (MP_r hC hi).2.1 rfl 1 (by decide) C0.2.2.2.2.2.2.1 rfl (v := .ref ((urw G i))) rfl dX6_set_26 ?_
      refine lv_iload_n hx hb dX6_set_29 rfl (lv_at hl 3 rfl) ?_
      refine lv_iload_n hx hb dX6_set_30 rfl (lv_at hl 4 rfl) ?_
      refine q_iast C0 hP hD hS (MP_r hC hi).2.2.1 (MP_r hC hi).2.2.2.1 (i := k) (v := w) (by omega) (by decide) dX6_set_31 (fun H locs hP hD hS => ?_)
      replace hP := va_P_re (a := (urw G i)) (e := arrI (y 0) 100 (mwd (vod μ i) (iu (vst μ i) (turn (vod μ i) k) w))) hP (fun X z => by rw [va_up_self] at z; exact at_arrI (fun i h0 h1 => mwd_iu (by omega) i h0 h1) X z)
      replace hP : va_P D vwCl (va_pl L (va_up F (urw G i) (arrI (y 0) 100 (mwd (vod μ i) (iu (vst μ i) (turn (vod μ i) k) w))))) H := by rw [va_up_up] at hP; exact hP
      replace hD := va_D_re (F1 := va_up F (urw G i) (arrI (y 0) 100 (mwd (vod μ i) (iu (vst μ i) (turn (vod μ i) k) w)))) hD
      obtain ⟨F8, eF8⟩ : ∃ z, z = va_up F (urw G i) (arrI (y 0) 100 (mwd (vod μ i) (iu (vst μ i) (turn (vod μ i) k) w))) := ⟨_, rfl⟩
      have hP : va_P D vwCl (va_pl L F8) H := by rw [eF8]; exact hP
      have hD : va_D (AL L sz) (va_pl L F8) := by rw [eF8]; exact hD
      have hO : OE O F F8 := by rw [eF8]; exact hO.tr (OE1 ((MP_O hC).2.2.2.2.2.2.2 _ hi).2)
      have hC : MP y L F8 O G (tRw μ i (iu (vst μ i) (turn (vod μ i) k) w)) := by rw [eF8]; exact MP_row hC hi (va_up_self _ _ _) (fun r => by unfold iu; split <;> first | omega | exact (MP_r hC hi).2.2.2.2.2 r) (fun q hq => va_up_ne _ _ hq)
      refine lv_iload hx hb dX6_set_32 (lv_at hl 0 rfl) ?_
      refine q_if_eq hx hb dX6_set_34 (tgt := 50) (by decide) (by omega) (fun c9 => absurd c9 (by omega)) (fun c9 => ?_)
      refine lv_aload_n hx hb dX6_set_37 rfl (lv_at hl 2 rfl) ?_
      refine lv_aload_n hx hb dX6_set_38 rfl (lv_at hl 1 rfl) ?_
      refine q_get C0 iX6 hP hC.1.1 hC.1.2 rfl 5 (by decide) flX6_45 rfl (v := va_rf (Option.map (urh G) (vwk μ))) rfl dX6_set_39 ?_
      refine lv_acmp_ne (rx := some (urh G i)) (ry := (Option.map (urh G) (vwk μ))) hx hb dX6_set_42 (tgt := 50) (by decide) (fun c10 => ?_) (fun c10 => ?_)
      · have q_ := mt (MP_wk_eq (μ := tRw μ i (iu (vst μ i) (turn (vod μ i) k) w)) hC hwf hi).mpr c10
        refine lv_iload hx hb dX6_set_50 (lv_at hl 0 rfl) ?_
        refine q_if_eq hx hb dX6_set_52 (tgt := 59) (by decide) (by omega) (fun c11 => absurd c11 (by omega)) (fun c11 => ?_)
        refine q_iconst hx hb dX6_set_55 ?_
        refine lv_goto (tgt := 60) hx hb dX6_set_56 (by decide) ?_
        exact q_retMi C0 hret rfl hlk dX6_set_60 hP hD hS (⟨rfl, MP_eq hC (by unfold tSe seC; (repeat' split) <;> first | rfl | (exfalso; omega) | (exfalso; rename_i z; exact z.2 q_) | (exfalso; rename_i z; exact q_ z.2) | (exfalso; rename_i z _; exact z ⟨by omega, q_⟩) | (exfalso; rename_i z; exact z ⟨by omega, q_⟩)), (by unfold seC; (repeat' split) <;> first | rfl | (exfalso; omega)), hO⟩)
      · have q_ := (MP_wk_eq (μ := tRw μ i (iu (vst μ i) (turn (vod μ i) k) w)) hC hwf hi).mp c10
        refine lv_aload_n hx hb dX6_set_45 rfl (lv_at hl 1 rfl) ?_
        refine q_iconst hx hb dX6_set_46 ?_
        refine q_put C0 iX6 tyX6 tyX6_ok nmX6 hP hD hS hC.1.1 hC.1.2 rfl 6 (by decide) flX6_56 rfl rfl (by decide) (by decide) (Nat.le_of_ble_eq_true rfl) dX6_set_47 (fun H locs hP hD hS => ?_)
        obtain ⟨F12, eF12⟩ : ∃ z, z = va_up F8 (ubg G) (.inr (8, [.ref ((uab G)), .ref ((uas G)), .ref ((uav G)), .ref ((uaf G)), .ref ((uat G)), va_rf (Option.map (urh G) (vwk μ)), .int (iI 1), .int (iI (vtd μ)), .int (iI (vbh μ)), .ref ((uac G)), .int (iI (vth μ))])) := ⟨_, rfl⟩
        have hP : va_P D vwCl (va_pl L F12) H := by rw [eF12]; exact hP
        have hD : va_D (AL L sz) (va_pl L F12) := by rw [eF12]; exact hD
        have hO : OE O F F12 := by rw [eF12]; exact hO.tr (OE1 (MP_O hC).1)
        have hC : MP y L F12 O G (tOb (tRw μ i (iu (vst μ i) (turn (vod μ i) k) w)) (vwk μ) 1 (vtd μ) (vbh μ) (vth μ)) := by rw [eF12]; exact MP_ob hC (va_up_self _ _ _) (fun q hq => va_up_ne _ _ hq)
        refine lv_iload hx hb dX6_set_50 (lv_at hl 0 rfl) ?_
        refine q_if_eq hx hb dX6_set_52 (tgt := 59) (by decide) (by omega) (fun c13 => absurd c13 (by omega)) (fun c13 => ?_)
        refine q_iconst hx hb dX6_set_55 ?_
        refine lv_goto (tgt := 60) hx hb dX6_set_56 (by decide) ?_
        exact q_retMi C0 hret rfl hlk dX6_set_60 hP hD hS (⟨rfl, MP_eq hC (by unfold tSe seC; (repeat' split) <;> first | rfl | (exfalso; omega) | (exfalso; rename_i z; exact z.2 q_) | (exfalso; rename_i z; exact q_ z.2) | (exfalso; rename_i z _; exact z ⟨by omega, q_⟩) | (exfalso; rename_i z; exact z ⟨by omega, q_⟩)), (by unfold seC; (repeat' split) <;> first | rfl | (exfalso; omega)), hO⟩)
  · refine q_iconst hx hb dX6_set_10 ?_
    refine lv_goto (tgt := 15) hx hb dX6_set_11 (by decide) ?_
    refine q_icmp_eq hx hb dX6_set_15 (tgt := 22) (by decide) (by omega) (by omega) (fun c14 => ?_) (fun c14 => ?_)
    · refine q_iconst hx hb dX6_set_22 ?_
      refine lv_istore (lv' := [(4, .int (iI 0)), (0, .ref ((ubg G))), (1, .ref ((urh G i))), (2, .int (iI k)), (3, .int (iI w))]) hx hb dX6_set_23 hl (by decide) rfl (fun ls hl => ?_)
      refine lv_aload_n hx hb dX6_set_25 rfl (lv_at hl 2 rfl) ?_
      refine q_getN C0 iX5 hP (MP_r hC hi).1 (MP_r hC hi).2.1 rfl 1 (by decide) C0.2.2.2.2.2.2.1 rfl (v := .ref ((urw G i))) rfl dX6_set_26 ?_
      refine lv_iload_n hx hb dX6_set_29 rfl (lv_at hl 3 rfl) ?_
      refine lv_iload_n hx hb dX6_set_30 rfl (lv_at hl 4 rfl) ?_
      refine q_iast C0 hP hD hS (MP_r hC hi).2.2.1 (MP_r hC hi).2.2.2.1 (i := k) (v := w) (by omega) (by decide) dX6_set_31 (fun H locs hP hD hS => ?_)
      replace hP := va_P_re (a := (urw G i)) (e := arrI (y 0) 100 (mwd (vod μ i) (iu (vst μ i) (turn (vod μ i) k) w))) hP (fun X z => by rw [va_up_self] at z; exact at_arrI (fun i h0 h1 => mwd_iu (by omega) i h0 h1) X z)
      replace hP : va_P D vwCl (va_pl L (va_up F (urw G i) (arrI (y 0) 100 (mwd (vod μ i) (iu (vst μ i) (turn (vod μ i) k) w))))) H := by rw [va_up_up] at hP; exact hP
      replace hD := va_D_re (F1 := va_up F (urw G i) (arrI (y 0) 100 (mwd (vod μ i) (iu (vst μ i) (turn (vod μ i) k) w)))) hD
      obtain ⟨F15, eF15⟩ : ∃ z, z = va_up F (urw G i) (arrI (y 0) 100 (mwd (vod μ i) (iu (vst μ i) (turn (vod μ i) k) w))) := ⟨_, rfl⟩
      have hP : va_P D vwCl (va_pl L F15) H := by rw [eF15]; exact hP
      have hD : va_D (AL L sz) (va_pl L F15) := by rw [eF15]; exact hD
      have hO : OE O F F15 := by rw [eF15]; exact hO.tr (OE1 ((MP_O hC).2.2.2.2.2.2.2 _ hi).2)
      have hC : MP y L F15 O G (tRw μ i (iu (vst μ i) (turn (vod μ i) k) w)) := by rw [eF15]; exact MP_row hC hi (va_up_self _ _ _) (fun r => by unfold iu; split <;> first | omega | exact (MP_r hC hi).2.2.2.2.2 r) (fun q hq => va_up_ne _ _ hq)
      refine lv_iload hx hb dX6_set_32 (lv_at hl 0 rfl) ?_
      refine q_if_eq hx hb dX6_set_34 (tgt := 50) (by decide) (by omega) (fun c16 => ?_) (fun c16 => absurd c16 (by omega))
      refine lv_iload hx hb dX6_set_50 (lv_at hl 0 rfl) ?_
      refine q_if_eq hx hb dX6_set_52 (tgt := 59) (by decide) (by omega) (fun c17 => ?_) (fun c17 => absurd c17 (by omega))
      refine q_iconst hx hb dX6_set_59 ?_
      exact q_retMi C0 hret rfl hlk dX6_set_60 hP hD hS (⟨rfl, MP_eq hC (by unfold tSe seC; (repeat' split) <;> first | rfl | (exfalso; omega) | (exfalso; rename_i z; exact z.2 q_) | (exfalso; rename_i z; exact q_ z.2) | (exfalso; rename_i z _; exact z ⟨by omega, q_⟩) | (exfalso; rename_i z; exact z ⟨by omega, q_⟩)), (by unfold seC; (repeat' split) <;> first | rfl | (exfalso; omega)), hO⟩)
    · refine q_iconst hx hb dX6_set_18 ?_
      refine lv_goto (tgt := 23) hx hb dX6_set_19 (by decide) ?_
      refine lv_istore (lv' := [(4, .int (iI 1)), (0, .ref ((ubg G))), (1, .ref ((urh G i))), (2, .int (iI k)), (3, .int (iI w))]) hx hb dX6_set_23 hl (by decide) rfl (fun ls hl => ?_)
      refine lv_aload_n hx hb dX6_set_25 rfl (lv_at hl 2 rfl) ?_
      refine q_getN C0 iX5 hP (MP_r hC hi).1 (MP_r hC hi).2.1 rfl 1 (by decide) C0.2.2.2.2.2.2.1 rfl (v := .ref ((urw G i))) rfl dX6_set_26 ?_
      refine lv_iload_n hx hb dX6_set_29 rfl (lv_at hl 3 rfl) ?_
      refine lv_iload_n hx hb dX6_set_30 rfl (lv_at hl 4 rfl) ?_
      refine q_iast C0 hP hD hS (MP_r hC hi).2.2.1 (MP_r hC hi).2.2.2.1 (i := k) (v := w) (by omega) (by decide) dX6_set_31 (fun H locs hP hD hS => ?_)
      replace hP := va_P_re (a := (urw G i)) (e := arrI (y 0) 100 (mwd (vod μ i) (iu (vst μ i) (turn (vod μ i) k) w))) hP (fun X z => by rw [va_up_self] at z; exact at_arrI (fun i h0 h1 => mwd_iu (by omega) i h0 h1) X z)
      replace hP : va_P D vwCl (va_pl L (va_up F (urw G i) (arrI (y 0) 100 (mwd (vod μ i) (iu (vst μ i) (turn (vod μ i) k) w))))) H := by rw [va_up_up] at hP; exact hP
      replace hD := va_D_re (F1 := va_up F (urw G i) (arrI (y 0) 100 (mwd (vod μ i) (iu (vst μ i) (turn (vod μ i) k) w)))) hD
      obtain ⟨F18, eF18⟩ : ∃ z, z = va_up F (urw G i) (arrI (y 0) 100 (mwd (vod μ i) (iu (vst μ i) (turn (vod μ i) k) w))) := ⟨_, rfl⟩
      have hP : va_P D vwCl (va_pl L F18) H := by rw [eF18]; exact hP
      have hD : va_D (AL L sz) (va_pl L F18) := by rw [eF18]; exact hD
      have hO : OE O F F18 := by rw [eF18]; exact hO.tr (OE1 ((MP_O hC).2.2.2.2.2.2.2 _ hi).2)
      have hC : MP y L F18 O G (tRw μ i (iu (vst μ i) (turn (vod μ i) k) w)) := by rw [eF18]; exact MP_row hC hi (va_up_self _ _ _) (fun r => by unfold iu; split <;> first | omega | exact (MP_r hC hi).2.2.2.2.2 r) (fun q hq => va_up_ne _ _ hq)
      refine lv_iload hx hb dX6_set_32 (lv_at hl 0 rfl) ?_
      refine q_if_eq hx hb dX6_set_34 (tgt := 50) (by decide) (by omega) (fun c19 => absurd c19 (by omega)) (fun c19 => ?_)
      refine lv_aload_n hx hb dX6_set_37 rfl (lv_at hl 2 rfl) ?_
      refine lv_aload_n hx hb dX6_set_38 rfl (lv_at hl 1 rfl) ?_
      refine q_get C0 iX6 hP hC.1.1 hC.1.2 rfl 5 (by decide) flX6_45 rfl (v := va_rf (Option.map (urh G) (vwk μ))) rfl dX6_set_39 ?_
      refine lv_acmp_ne (rx := some (urh G i)) (ry := (Option.map (urh G) (vwk μ))) hx hb dX6_set_42 (tgt := 50) (by decide) (fun c20 => ?_) (fun c20 => ?_)
      · have q_ := mt (MP_wk_eq (μ := tRw μ i (iu (vst μ i) (turn (vod μ i) k) w)) hC hwf hi).mpr c20
        refine lv_iload hx hb dX6_set_50 (lv_at hl 0 rfl) ?_
        refine q_if_eq hx hb dX6_set_52 (tgt := 59) (by decide) (by omega) (fun c21 => absurd c21 (by omega)) (fun c21 => ?_)
        refine q_iconst hx hb dX6_set_55 ?_
        refine lv_goto (tgt := 60) hx hb dX6_set_56 (by decide) ?_
        exact q_retMi C0 hret rfl hlk dX6_set_60 hP hD hS (⟨rfl, MP_eq hC (by unfold tSe seC; (repeat' split) <;> first | rfl | (exfalso; omega) | (exfalso; rename_i z; exact z.2 q_) | (exfalso; rename_i z; exact q_ z.2) | (exfalso; rename_i z _; exact z ⟨by omega, q_⟩) | (exfalso; rename_i z; exact z ⟨by omega, q_⟩)), (by unfold seC; (repeat' split) <;> first | rfl | (exfalso; omega)), hO⟩)
      · have q_ := (MP_wk_eq (μ := tRw μ i (iu (vst μ i) (turn (vod μ i) k) w)) hC hwf hi).mp c20
        refine lv_aload_n hx hb dX6_set_45 rfl (lv_at hl 1 rfl) ?_
        refine q_iconst hx hb dX6_set_46 ?_
        refine q_put C0 iX6 tyX6 tyX6_ok nmX6 hP hD hS hC.1.1 hC.1.2 rfl 6 (by decide) flX6_56 rfl rfl (by decide) (by decide) (Nat.le_of_ble_eq_true rfl) dX6_set_47 (fun H locs hP hD hS => ?_)
        obtain ⟨F22, eF22⟩ : ∃ z, z = va_up F18 (ubg G) (.inr (8, [.ref ((uab G)), .ref ((uas G)), .ref ((uav G)), .ref ((uaf G)), .ref ((uat G)), va_rf (Option.map (urh G) (vwk μ)), .int (iI 1), .int (iI (vtd μ)), .int (iI (vbh μ)), .ref ((uac G)), .int (iI (vth μ))])) := ⟨_, rfl⟩
        have hP : va_P D vwCl (va_pl L F22) H := by rw [eF22]; exact hP
        have hD : va_D (AL L sz) (va_pl L F22) := by rw [eF22]; exact hD
        have hO : OE O F F22 := by rw [eF22]; exact hO.tr (OE1 (MP_O hC).1)
        have hC : MP y L F22 O G (tOb (tRw μ i (iu (vst μ i) (turn (vod μ i) k) w)) (vwk μ) 1 (vtd μ) (vbh μ) (vth μ)) := by rw [eF22]; exact MP_ob hC (va_up_self _ _ _) (fun q hq => va_up_ne _ _ hq)
        refine lv_iload hx hb dX6_set_50 (lv_at hl 0 rfl) ?_
        refine q_if_eq hx hb dX6_set_52 (tgt := 59) (by decide) (by omega) (fun c23 => absurd c23 (by omega)) (fun c23 => ?_)
        refine q_iconst hx hb dX6_set_55 ?_
        refine lv_goto (tgt := 60) hx hb dX6_set_56 (by decide) ?_
        exact q_retMi C0 hret rfl hlk dX6_set_60 hP hD hS (⟨rfl, MP_eq hC (by unfold tSe seC; (repeat' split) <;> first | rfl | (exfalso; omega) | (exfalso; rename_i z; exact z.2 q_) | (exfalso; rename_i z; exact q_ z.2) | (exfalso; rename_i z _; exact z ⟨by omega, q_⟩) | (exfalso; rename_i z; exact z ⟨by omega, q_⟩)), (by unfold seC; (repeat' split) <;> first | rfl | (exfalso; omega)), hO⟩)
set_option maxHeartbeats 800000 in
set_option maxRecDepth 100000 in
theorem c_X6_isGoing0 (l : Launch) (D : va_G) (y : Nat → ClassId) (L : List Nat) (F : Nat → va_E) (O : Nat → Prop) (G : MG) (μ : MS) (hC : MP y L F O G μ) (hwk : vwk μ = none) : Met l yX6_isGoing (.code yX6_isGoing cX6_isGoing 1 (some .boolean) :: Tt) ({ frames := 0, cells := 0, slots := 0, locals := 0 }) (PcR D y L F [.ref ((ubg G))]) (cS (fun r => r = 0)) 0 0 (fun _ => False) := by
  refine q_ofR (lv := [(0, .ref ((ubg G)))]) (by decide) (Nat.le_of_ble_eq_true rfl) rfl (fun p e s m below meth c C0 hret hlk hP ls hl => ?_)
  have hx := C0.1.1
  have hb := C0.1.2.1
  have hts := C0.1.2.2.2.2
  refine lv_aload_n hx hb dX6_isGoing_0 rfl (lv_at hl 0 rfl) ?_
  refine q_get C0 iX6 hP (MP_o0 hC hwk).1 (MP_o0 hC hwk).2 rfl 5 (by decide) flX6_45 rfl (v := .null) rfl dX6_isGoing_1 ?_
  refine lv_ifnullN (tgt := 18) hx hb dX6_isGoing_4 (by decide) ?_
  refine q_iconst hx hb dX6_isGoing_18 ?_
  exact q_iretS C0 hret hlk dX6_isGoing_19 (by decide) (rfl)
set_option maxHeartbeats 800000 in
set_option maxRecDepth 100000 in
theorem c_X6_isGoing1 (l : Launch) (D : va_G) (y : Nat → ClassId) (L : List Nat) (F : Nat → va_E) (O : Nat → Prop) (G : MG) (μ : MS) (j : Nat) (hC : MP y L F O G μ) (hwk : vwk μ = some j) (hbr : 0 ≤ vbr μ ∧ vbr μ ≤ 1) : Met l yX6_isGoing (.code yX6_isGoing cX6_isGoing 1 (some .boolean) :: Tt) ({ frames := 0, cells := 0, slots := 0, locals := 0 }) (PcR D y L F [.ref ((ubg G))]) (cS (fun r => r = (if vbr μ = 0 then 1 else 0))) 0 0 (fun _ => False) := by
  refine q_ofR (lv := [(0, .ref ((ubg G)))]) (by decide) (Nat.le_of_ble_eq_true rfl) rfl (fun p e s m below meth c C0 hret hlk hP ls hl => ?_)
  have hx := C0.1.1
  have hb := C0.1.2.1
  have hts := C0.1.2.2.2.2
  refine lv_aload_n hx hb dX6_isGoing_0 rfl (lv_at hl 0 rfl) ?_
  refine q_get C0 iX6 hP (MP_o1 hC hwk).1 (MP_o1 hC hwk).2 rfl 5 (by decide) flX6_45 rfl (v := .ref ((urh G j))) rfl dX6_isGoing_1 ?_
  refine lv_ifnull hx hb dX6_isGoing_4 ?_
  refine lv_aload_n hx hb dX6_isGoing_7 rfl (lv_at hl 0 rfl) ?_
  refine q_get C0 iX6 hP (MP_o1 hC hwk).1 (MP_o1 hC hwk).2 rfl 6 (by decide) flX6_56 rfl (v := .int (iI (vbr μ))) rfl dX6_isGoing_8 ?_
  refine q_if_ne hx hb dX6_isGoing_11 (tgt := 18) (by decide) (by omega) (fun c1 => ?_) (fun c1 => ?_)
  · refine q_iconst hx hb dX6_isGoing_18 ?_
    exact q_iretS C0 hret hlk dX6_isGoing_19 (by decide) (by split <;> omega)
  · refine q_iconst hx hb dX6_isGoing_14 ?_
    refine lv_goto (tgt := 19) hx hb dX6_isGoing_15 (by decide) ?_
    exact q_iretS C0 hret hlk dX6_isGoing_19 (by decide) (by split <;> omega)
set_option maxHeartbeats 800000 in
set_option maxRecDepth 100000 in
theorem c_X6_thrown (l : Launch) (D : va_G) (y : Nat → ClassId) (L : List Nat) (F : Nat → va_E) (O : Nat → Prop) (G : MG) (μ : MS) (hC : MP y L F O G μ) : Met l yX6_thrown (.code yX6_thrown cX6_thrown 1 (some .int) :: Tt) ({ frames := 0, cells := 0, slots := 0, locals := 0 }) (PcR D y L F [.ref ((ubg G))]) (cS (fun r => r = vth μ)) 0 0 (fun _ => False) := by
  refine q_ofR (lv := [(0, .ref ((ubg G)))]) (by decide) (Nat.le_of_ble_eq_true rfl) rfl (fun p e s m below meth c C0 hret hlk hP ls hl => ?_)
  have hx := C0.1.1
  have hb := C0.1.2.1
  have hts := C0.1.2.2.2.2
  refine lv_aload_n hx hb dX6_thrown_0 rfl (lv_at hl 0 rfl) ?_
  refine q_get C0 iX6 hP hC.1.1 hC.1.2 rfl 10 (by decide) flX6_38 rfl (v := .int (iI (vth μ))) rfl dX6_thrown_1 ?_
  exact q_iretS C0 hret hlk dX6_thrown_4 rfl (rfl)
set_option maxHeartbeats 800000 in
set_option maxRecDepth 100000 in
theorem c_X6_seen (l : Launch) (D : va_G) (y : Nat → ClassId) (L : List Nat) (F : Nat → va_E) (O : Nat → Prop) (G : MG) (μ : MS) (v : Int) (hC : MP y L F O G μ) (hv : 0 ≤ v ∧ v ≤ 1) (hi : vvw μ v < vn μ) (hl : 0 ≤ vvl μ v ∧ vvl μ v ≤ 100) (hh : -1 ≤ vvh μ v ∧ vvh μ v ≤ 99) : Met l yX6_seen (.code yX6_seen cX6_seen 2 (some .int) :: Tt) ({ frames := 2, cells := 0, slots := 0, locals := 45 }) (PcR D y L F [.ref ((ubg G)), .int (iI v)]) (cS (fun r => r = cntP (vst μ (vvw μ v)) (vvl μ v) (vvh μ v))) 0 0 (fun _ => False) := by
  refine q_ofR (lv := [(0, .ref ((ubg G))), (1, .int (iI v))]) (by decide) (Nat.le_of_ble_eq_true rfl) rfl (fun p e s m below meth c C0 hret hlk hP ls hl => ?_)
  have hx := C0.1.1
  have hb := C0.1.2.1
  have hts := C0.1.2.2.2.2
  refine lv_aload_n hx hb dX6_seen_0 rfl (lv_at hl 0 rfl) ?_
  refine q_get C0 iX6 hP hC.1.1 hC.1.2 rfl 2 (by decide) flX6_18 rfl (v := .ref ((uav G))) rfl dX6_seen_1 ?_
  refine lv_iload_n hx hb dX6_seen_4 rfl (lv_at hl 1 rfl) ?_
  refine q_aald C0 hP hC.2.2.2.1.1 hC.2.2.2.1.2 (t := 3) rfl (by omega) (by decide) (v := .ref ((urh G (vvw μ v)))) rfl dX6_seen_5 ?_
  refine lv_aload_n hx hb dX6_seen_6 rfl (lv_at hl 0 rfl) ?_
  refine q_get C0 iX6 hP hC.1.1 hC.1.2 rfl 3 (by decide) flX6_21 rfl (v := .ref ((uaf G))) rfl dX6_seen_7 ?_
  refine lv_iload_n hx hb dX6_seen_10 rfl (lv_at hl 1 rfl) ?_
  refine q_iald C0 hP (f := (vvl μ)) hC.2.2.2.2.1.1 hC.2.2.2.2.1.2 (by omega) (by decide) dX6_seen_11 ?_
  refine lv_aload_n hx hb dX6_seen_12 rfl (lv_at hl 0 rfl) ?_
  refine q_get C0 iX6 hP hC.1.1 hC.1.2 rfl 4 (by decide) flX6_25 rfl (v := .ref ((uat G))) rfl dX6_seen_13 ?_
  refine lv_iload_n hx hb dX6_seen_16 rfl (lv_at hl 1 rfl) ?_
  refine q_iald C0 hP (f := (vvh μ)) hC.2.2.2.2.2.1.1 hC.2.2.2.2.2.1.2 (by omega) (by decide) dX6_seen_17 ?_
  refine q_vS C0 lX6_67 (c_X5_many l D y L F (urh G (vvw μ v)) (urw G (vvw μ v)) (vod μ (vvw μ v)) (vst μ (vvw μ v)) ((vvl μ) v) ((vvh μ) v) (MP_r hC hi) (by omega) (by omega)) ⟨rfl, rfl⟩ rfl hP (MP_r hC hi).1 (MP_r hC hi).2.1 rfl rfl rfl hl rfl (Nat.le_of_ble_eq_true rfl) dX6_seen_18 ⟨Nat.zero_le _, Nat.zero_le _⟩ (fun r1 e_r1 => ?_)
  subst e_r1
  exact q_iretS C0 hret hlk dX6_seen_21 rfl (rfl)
set_option maxHeartbeats 800000 in
set_option maxRecDepth 100000 in
theorem c_X6_isWithin (l : Launch) (D : va_G) (y : Nat → ClassId) (L : List Nat) (F : Nat → va_E) (O : Nat → Prop) (G : MG) (μ : MS) (v : Int) (k : Int) (hC : MP y L F O G μ) (hv : 0 ≤ v ∧ v ≤ 1) (hi : vvw μ v < vn μ) (hl : 0 ≤ vvl μ v ∧ vvl μ v ≤ 100) (hh : -1 ≤ vvh μ v ∧ vvh μ v ≤ 99) (hk : 0 ≤ k ∧ k ≤ 99) : Met l yX6_isWithin (.code yX6_isWithin cX6_isWithin 3 (some .boolean) :: Tt) ({ frames := 1, cells := 0, slots := 0, locals := 22 }) (PcR D y L F [.ref ((ubg G)), .int (iI v), .int (iI k)]) (cS (fun r => r = inR (turn (vod μ (vvw μ v)) k) (vvl μ v) (vvh μ v))) 0 0 (fun _ => False) := by
  refine q_ofR (lv := [(0, .ref ((ubg G))), (1, .int (iI v)), (2, .int (iI k))]) (by decide) (Nat.le_of_ble_eq_true rfl) rfl (fun p e s m below meth c C0 hret hlk hP ls hl => ?_)
  have hx := C0.1.1
  have hb := C0.1.2.1
  have hts := C0.1.2.2.2.2
  refine lv_aload_n hx hb dX6_isWithin_0 rfl (lv_at hl 0 rfl) ?_
  refine q_get C0 iX6 hP hC.1.1 hC.1.2 rfl 2 (by decide) flX6_18 rfl (v := .ref ((uav G))) rfl dX6_isWithin_1 ?_
  refine lv_iload_n hx hb dX6_isWithin_4 rfl (lv_at hl 1 rfl) ?_
  refine q_aald C0 hP hC.2.2.2.1.1 hC.2.2.2.1.2 (t := 3) rfl (by omega) (by decide) (v := .ref ((urh G (vvw μ v)))) rfl dX6_isWithin_5 ?_
  refine lv_iload_n hx hb dX6_isWithin_6 rfl (lv_at hl 2 rfl) ?_
  refine q_vS C0 lX6_93 (c_X5_rank l D y L F (urh G (vvw μ v)) (urw G (vvw μ v)) (vod μ (vvw μ v)) (vst μ (vvw μ v)) k (MP_r hC hi) (by omega)) ⟨rfl, rfl⟩ rfl hP (MP_r hC hi).1 (MP_r hC hi).2.1 rfl rfl rfl hl rfl (Nat.le_of_ble_eq_true rfl) dX6_isWithin_7 ⟨Nat.zero_le _, Nat.zero_le _⟩ (fun r1 e_r1 => ?_)
  subst e_r1
  have b_2 := @turn_b (vod μ (vvw μ v)) k (by omega)
  refine lv_aload_n hx hb dX6_isWithin_10 rfl (lv_at hl 0 rfl) ?_
  refine q_get C0 iX6 hP hC.1.1 hC.1.2 rfl 3 (by decide) flX6_21 rfl (v := .ref ((uaf G))) rfl dX6_isWithin_11 ?_
  refine lv_iload_n hx hb dX6_isWithin_14 rfl (lv_at hl 1 rfl) ?_
  refine q_iald C0 hP (f := (vvl μ)) hC.2.2.2.2.1.1 hC.2.2.2.2.1.2 (by omega) (by decide) dX6_isWithin_15 ?_
  refine lv_aload_n hx hb dX6_isWithin_16 rfl (lv_at hl 0 rfl) ?_
  refine q_get C0 iX6 hP hC.1.1 hC.1.2 rfl 4 (by decide) flX6_25 rfl (v := .ref ((uat G))) rfl dX6_isWithin_17 ?_
  refine lv_iload_n hx hb dX6_isWithin_20 rfl (lv_at hl 1 rfl) ?_
  refine q_iald C0 hP (f := (vvh μ)) hC.2.2.2.2.2.1.1 hC.2.2.2.2.2.1.2 (by omega) (by decide) dX6_isWithin_21 ?_
  refine q_sS C0 lX6_41 (c_X6_isIn l D y L F (turn (vod μ (vvw μ v)) k) ((vvl μ) v) ((vvh μ) v) (by omega) (by omega) (by omega)) ⟨rfl, rfl⟩ rfl hP rfl hl rfl (Nat.le_of_ble_eq_true rfl) dX6_isWithin_22 ⟨Nat.zero_le _, Nat.zero_le _⟩ (fun r3 e_r3 => ?_)
  subst e_r3
  have b_4 := inR_d (turn (vod μ (vvw μ v)) k) ((vvl μ) v) ((vvh μ) v)
  exact q_iretS C0 hret hlk dX6_isWithin_25 (narB (by omega)) (rfl)
