abbrev shF (μ : MS) (b : Int) : Int → Int := vst μ (vsh μ b)
abbrev shO (μ : MS) (b : Int) : Int := vod μ (vsh μ b)
theorem va_up_id {α : Type} (f : Nat → α) (k : Nat) : va_up f k (f k) = f := by
  funext j
  by_cases h : j = k
  · subst h
    rw [va_up_self]
  · rw [va_up_ne _ _ h]
theorem MP_rx {y : Nat → ClassId} {L : List Nat} {F : Nat → va_E} {O : Nat → Prop} {G : MG} {μ : MS} (h : MP y L F O G μ) {i : Nat} {o : Int} {f : Int → Int} (hi : i < vn μ) (ho : vod μ i = o) (hf : vst μ i = f) : MB y L F (urh G i) (urw G i) o f := by
  have r := MP_r h hi
  rw [ho, hf] at r
  exact r
/-- a row's words and the walk's break, changed -/
def tM (μ : MS) (i : Nat) (g : Int → Int) (b : Int) : MS := tOb (tRw μ i g) (vwk μ) b (vtd μ) (vbh μ) (vth μ)
theorem tM_0 (μ : MS) (i : Nat) : μ = tM μ i (vst μ i) (vbr μ) := by
  show μ = (vn μ, vod μ, va_up (vst μ) i (vst μ i), vbk μ, vsh μ, vvw μ, vvl μ, vvh μ, vwk μ, vbr μ, vtd μ, vbh μ, vct μ, vth μ)
  rw [va_up_id]
  rfl
theorem tM_st (μ : MS) (i : Nat) (g : Int → Int) (b : Int) : vst (tM μ i g b) i = g := va_up_self _ _ _
def seB (k : Option Nat) (i : Nat) (g : Int → Int) (r w b : Int) : Int := if seC g r w = 1 ∧ k = some i then 1 else b
theorem tSe_tM (μ : MS) (i : Nat) (g : Int → Int) (b r w : Int) : tSe (tM μ i g b) i r w = tM μ i (iu g r w) (seB (vwk μ) i g r w b) := by
  unfold tSe
  rw [tM_st]
  have e : va_up (vst (tM μ i g b)) i (iu g r w) = va_up (vst μ) i (iu g r w) := va_up_up _ _ _ _
  show (vn μ, vod μ, va_up (vst (tM μ i g b)) i (iu g r w), vbk μ, vsh μ, vvw μ, vvl μ, vvh μ, vwk μ, (if seC g r w = 1 ∧ vwk μ = some i then 1 else b), vtd μ, vbh μ, vct μ, vth μ) = _
  rw [e]
  rfl
abbrev SX : Type := (Int → Int) × Int × Int
/-- one set of a loop: the words, the break, how many came or went -/
def sX (k : Option Nat) (i : Nat) (r w : Int) (x : SX) : SX := (iu x.1 r w, seB k i x.1 r w x.2.1, x.2.2 + seC x.1 r w)
def tX (μ : MS) (i : Nat) (x : SX) : MS := tM μ i x.1 x.2.1
def jS_put (μ : MS) (b k w t : Int) : MS := if (0 ≤ b ∧ b ≤ 3) then (if (0 ≤ k ∧ k ≤ 99) ∧ (0 ≤ w ∧ w ≤ 99) ∧ (0 ≤ t ∧ t ≤ 2) then cgS (tTh μ 0) (vbk μ b) (turn (vod μ (vbk μ b)) k) (if t = 0 ∨ (t = 2 ∧ isT (vst μ (vbk μ b)) (turn (vod μ (vbk μ b)) k) ≠ 0) ∨ (t = 1 ∧ isT (vst μ (vbk μ b)) (turn (vod μ (vbk μ b)) k) = 0) then 1 else 0) w else tTh μ 2) else tTh μ 1
def jR_put (μ : MS) (b k w t : Int) : Int := if ((0 ≤ b ∧ b ≤ 3)) ∧ (0 ≤ k ∧ k ≤ 99) ∧ (0 ≤ w ∧ w ≤ 99) ∧ (0 ≤ t ∧ t ≤ 2) then (vst μ (vbk μ b)) (turn (vod μ (vbk μ b)) k) else 0
def jS_viewPut (μ : MS) (v k w : Int) : MS := if (0 ≤ v ∧ v ≤ 1) then (if (0 ≤ k ∧ k ≤ 99) ∧ (0 ≤ w ∧ w ≤ 99) then (if (vvl μ v ≤ turn (vod μ (vvw μ v)) k ∧ turn (vod μ (vvw μ v)) k ≤ vvh μ v) then cgS (tTh μ 0) (vvw μ v) (turn (vod μ (vvw μ v)) k) 1 w else tDi (tTh μ 0) 2) else tTh μ 2) else tTh μ 1
def jR_viewPut (μ : MS) (v k w : Int) : Int := if ((0 ≤ v ∧ v ≤ 1)) ∧ (0 ≤ k ∧ k ≤ 99) ∧ (0 ≤ w ∧ w ≤ 99) then (if (vvl μ v ≤ turn (vod μ (vvw μ v)) k ∧ turn (vod μ (vvw μ v)) k ≤ vvh μ v) then (vst μ (vvw μ v)) (turn (vod μ (vvw μ v)) k) else -9) else 0
def jS_viewTake (μ : MS) (v k : Int) : MS := if (0 ≤ v ∧ v ≤ 1) then (if (0 ≤ k ∧ k ≤ 99) then cgS (tTh μ 0) (vvw μ v) (turn (vod μ (vvw μ v)) k) (inR (turn (vod μ (vvw μ v)) k) (vvl μ v) (vvh μ v)) (-1) else tTh μ 2) else tTh μ 1
def jR_viewTake (μ : MS) (v k : Int) : Int := if ((0 ≤ v ∧ v ≤ 1)) ∧ (0 ≤ k ∧ k ≤ 99) then (if inR (turn (vod μ (vvw μ v)) k) (vvl μ v) (vvh μ v) ≠ 0 then (vst μ (vvw μ v)) (turn (vod μ (vvw μ v)) k) else -1) else 0
def jS_shelfNear (μ : MS) (b k t : Int) : MS := if (0 ≤ b ∧ b ≤ 2) then (if (0 ≤ k ∧ k ≤ 99) ∧ (0 ≤ t ∧ t ≤ 4) then (tTh μ 0) else tTh μ 2) else tTh μ 1
def jR_shelfNear (μ : MS) (b k t : Int) : Int := if ((0 ≤ b ∧ b ≤ 2)) ∧ (0 ≤ k ∧ k ≤ 99) ∧ (0 ≤ t ∧ t ≤ 4) then keyR (vod μ (vsh μ b)) (nearP (vod μ (vsh μ b)) (vst μ (vsh μ b)) 0 99 k t) else 0
def jS_shelfTell (μ : MS) (b t : Int) : MS := if (0 ≤ b ∧ b ≤ 2) then (if (0 ≤ t ∧ t ≤ 4) then (if 3 ≤ t ∧ endP (vst μ (vsh μ b)) 0 99 (if t = 3 then 0 else 1) = -1 then tDi (tTh μ 0) 2 else (tTh μ 0)) else tTh μ 2) else tTh μ 1
def jR_shelfTell (μ : MS) (b t : Int) : Int := if ((0 ≤ b ∧ b ≤ 2)) ∧ (0 ≤ t ∧ t ≤ 4) then (if t = 0 then cntP (vst μ (vsh μ b)) 0 99 else if t = 1 then (vod μ (vsh μ b)) else if t = 2 then sumM (vod μ (vsh μ b)) (vst μ (vsh μ b)) else if endP (vst μ (vsh μ b)) 0 99 (if t = 3 then 0 else 1) = -1 then -9 else keyR (vod μ (vsh μ b)) (endP (vst μ (vsh μ b)) 0 99 (if t = 3 then 0 else 1))) else 0
def jS_viewTell (μ : MS) (v t : Int) : MS := if (0 ≤ v ∧ v ≤ 1) then (if (0 ≤ t ∧ t ≤ 3) then (if (t = 1 ∨ t = 2) ∧ endP (vst μ (vvw μ v)) (vvl μ v) (vvh μ v) (if t = 1 then 0 else 1) = -1 then tDi (tTh μ 0) 2 else (tTh μ 0)) else tTh μ 2) else tTh μ 1
def jR_viewTell (μ : MS) (v t : Int) : Int := if ((0 ≤ v ∧ v ≤ 1)) ∧ (0 ≤ t ∧ t ≤ 3) then (if t = 0 then cntP (vst μ (vvw μ v)) (vvl μ v) (vvh μ v) else if t = 3 then sumP (wmU (vst μ (vvw μ v))) (vvl μ v) (vvh μ v) else if endP (vst μ (vvw μ v)) (vvl μ v) (vvh μ v) (if t = 1 then 0 else 1) = -1 then -9 else keyR (vod μ (vvw μ v)) (endP (vst μ (vvw μ v)) (vvl μ v) (vvh μ v) (if t = 1 then 0 else 1))) else 0
theorem ltR_d (p g : Int) : (ltR p g = 1 ∧ p = 0) ∨ (ltR p g = 2 ∧ p ≠ 0 ∧ g = 0) ∨ (ltR p g = 0 ∧ p ≠ 0 ∧ g ≠ 0) := by
  unfold ltR
  by_cases hp : p = 0
  · rw [if_pos hp]
    omega
  · rw [if_neg hp]
    by_cases hg : g = 0
    · rw [if_pos hg]
      omega
    · rw [if_neg hg]
      omega
def moLo (o kind low ends : Int) : Int := if kind = 0 then 0 else turn o low + 1 - ends % 2
def moHi (o kind high ends : Int) : Int := if kind = 1 then 99 else turn o high - 1 + ends / 2
def jS_openView (μ : MS) (v b kind low high ends : Int) : MS := if (0 ≤ v ∧ v ≤ 1) ∧ (0 ≤ b ∧ b ≤ 3) then (if (0 ≤ kind ∧ kind ≤ 2) ∧ (0 ≤ low ∧ low ≤ 99) ∧ (0 ≤ high ∧ high ≤ 99) ∧ (0 ≤ ends ∧ ends ≤ 3) then (if kind = 2 ∧ turn (vod μ (vbk μ b)) high < turn (vod μ (vbk μ b)) low then tDi (tTh μ 0) 2 else tVh (tVl (tVw (tTh μ 0) v (vbk μ b)) v (moLo (vod μ (vbk μ b)) kind low ends)) v (moHi (vod μ (vbk μ b)) kind high ends)) else tTh μ 2) else tTh μ 1
def jR_openView (μ : MS) (v b kind low high ends : Int) : Int := if ((0 ≤ v ∧ v ≤ 1) ∧ (0 ≤ b ∧ b ≤ 3)) ∧ (0 ≤ kind ∧ kind ≤ 2) ∧ (0 ≤ low ∧ low ≤ 99) ∧ (0 ≤ high ∧ high ≤ 99) ∧ (0 ≤ ends ∧ ends ≤ 3) then (if kind = 2 ∧ turn (vod μ (vbk μ b)) high < turn (vod μ (vbk μ b)) low then -9 else cntP (vst μ (vbk μ b)) (moLo (vod μ (vbk μ b)) kind low ends) (moHi (vod μ (vbk μ b)) kind high ends)) else 0
def mnLo (μ : MS) (v kind low : Int) : Int := if kind = 0 then vvl μ v else turn (vod μ (vvw μ v)) low
def mnHi (μ : MS) (v kind high : Int) : Int := if kind = 1 then vvh μ v else turn (vod μ (vvw μ v)) high
def mnRef (μ : MS) (v kind low high : Int) : Int := if kind ≠ 0 ∧ ¬ (vvl μ v ≤ turn (vod μ (vvw μ v)) low ∧ turn (vod μ (vvw μ v)) low ≤ vvh μ v) then 1 else if kind ≠ 1 ∧ ¬ (vvl μ v ≤ turn (vod μ (vvw μ v)) high ∧ turn (vod μ (vvw μ v)) high ≤ vvh μ v) then 1 else if kind = 2 ∧ turn (vod μ (vvw μ v)) high < turn (vod μ (vvw μ v)) low then 1 else 0
def jS_narrowView (μ : MS) (v kind low high : Int) : MS := if (0 ≤ v ∧ v ≤ 1) then (if (0 ≤ kind ∧ kind ≤ 2) ∧ (0 ≤ low ∧ low ≤ 99) ∧ (0 ≤ high ∧ high ≤ 99) then (if mnRef μ v kind low high = 1 then tDi (tTh μ 0) 2 else if kind = 0 then tVh (tTh μ 0) v (mnHi μ v kind high) else if kind = 1 then tVl (tTh μ 0) v (mnLo μ v kind low) else tVh (tVl (tTh μ 0) v (mnLo μ v kind low)) v (mnHi μ v kind high)) else tTh μ 2) else tTh μ 1
def jR_narrowView (μ : MS) (v kind low high : Int) : Int := if ((0 ≤ v ∧ v ≤ 1)) ∧ (0 ≤ kind ∧ kind ≤ 2) ∧ (0 ≤ low ∧ low ≤ 99) ∧ (0 ≤ high ∧ high ≤ 99) then (if mnRef μ v kind low high = 1 then -9 else cntP (vst μ (vvw μ v)) (mnLo μ v kind low) (mnHi μ v kind high)) else 0
def jS_walkNext0 (μ : MS) : MS := tDi (tOb μ none (vbr μ) (vtd μ) (vbh μ) 0) 2
def jR_walkNext0 (μ : MS) : Int := -9
def jS_walkNext1 (μ : MS) (j : Nat) : MS := if vbr μ = 0 then (if (firP (vst μ j) (vbh μ) 99) = -1 then tOb μ (some j) (vbr μ) (vtd μ) (vbh μ) 0 else tOb μ (some j) (vbr μ) (keyR (vod μ j) (firP (vst μ j) (vbh μ) 99)) (turn (vod μ j) (keyR (vod μ j) (firP (vst μ j) (vbh μ) 99)) + 1) 0) else tDi (tOb μ (some j) (vbr μ) (vtd μ) (vbh μ) 0) 2
def jR_walkNext1 (μ : MS) (j : Nat) : Int := if vbr μ = 0 then (if (firP (vst μ j) (vbh μ) 99) = -1 then -1 else (keyR (vod μ j) (firP (vst μ j) (vbh μ) 99)) * 100 + vst μ j (turn (vod μ j) (keyR (vod μ j) (firP (vst μ j) (vbh μ) 99)))) else -9
def jS_walkSet0 (μ : MS) (w : Int) : MS := if 0 ≤ w ∧ w ≤ 99 then tDi (tOb μ none (vbr μ) (vtd μ) (vbh μ) 0) 2 else tOb μ none (vbr μ) (vtd μ) (vbh μ) 1
def jR_walkSet0 (μ : MS) (w : Int) : Int := if 0 ≤ w ∧ w ≤ 99 then -9 else 0
def jS_walkSet1 (μ : MS) (j : Nat) (w : Int) : MS := if 0 ≤ w ∧ w ≤ 99 then (if vtd μ = -1 then tDi (tOb μ (some j) (vbr μ) (vtd μ) (vbh μ) 0) 2 else tDi (tRw (tOb μ (some j) (vbr μ) (vtd μ) (vbh μ) 0) j (iu (vst μ j) (turn (vod μ j) (vtd μ)) w)) 0) else tOb μ (some j) (vbr μ) (vtd μ) (vbh μ) 1
def jR_walkSet1 (μ : MS) (j : Nat) (w : Int) : Int := if 0 ≤ w ∧ w ≤ 99 then (if vtd μ = -1 then -9 else vst μ j (turn (vod μ j) (vtd μ))) else 0
def jS_walkTake0 (μ : MS) : MS := tDi (tOb μ none (vbr μ) (vtd μ) (vbh μ) 0) 2
def jR_walkTake0 (μ : MS) : Int := -9
def jS_walkTake1 (μ : MS) (j : Nat) : MS := if vtd μ = -1 then tDi (tOb μ (some j) (vbr μ) (vtd μ) (vbh μ) 0) 2 else tDi (tOb (tRw (tOb μ (some j) (vbr μ) (vtd μ) (vbh μ) 0) j (iu (vst μ j) (turn (vod μ j) (vtd μ)) (-1))) (some j) (vbr μ) (-1) (vbh μ) 0) 0
def jR_walkTake1 (μ : MS) (j : Nat) : Int := if vtd μ = -1 then -9 else vtd μ * 100 + vst μ j (turn (vod μ j) (vtd μ))
def jS_isSound (μ : MS) : MS := tTh μ 0
def jR_isSound (μ : MS) : Int := 1
set_option maxHeartbeats 3000000 in
set_option maxRecDepth 100000 in
theorem c_X6_put (l : Launch) (D : va_G) (y : Nat → ClassId) (L : List Nat) (F : Nat → va_E) (sz : Nat) (O : Nat → Prop) (G : MG) (μ : MS) (xb : Int) (xk : Int) (xw : Int) (xt : Int) (hC : MP y L F O G μ) (hW : MW μ) (h_xb : -2147483648 ≤ xb ∧ xb ≤ 2147483647) (h_xk : -2147483648 ≤ xk ∧ xk ≤ 2147483647) (h_xw : -2147483648 ≤ xw ∧ xw ≤ 2147483647) (h_xt : -2147483648 ≤ xt ∧ xt ≤ 2147483647) : Met l yX6_put (.code yX6_put cX6_put 5 (some .int) :: Tt) ({ frames := 3, cells := 0, slots := 0, locals := 70 }) (PcM D y L F sz [.ref ((ubg G)), .int (iI xb), .int (iI xk), .int (iI xw), .int (iI xt)]) (cMi D (AL L sz) (fun r L1 F1 => r = jR_put μ xb xk xw xt ∧ ∃ (O1 : Nat → Prop) (G1 : MG), MP y L1 F1 O1 G1 (jS_put μ xb xk xw xt) ∧ ubg G1 = ubg G ∧ Ext O O1 L L1 F F1)) 0 0 (AL L sz) := by
  have hO : OE O F F := fun _ _ => rfl
  have hw5 := hW.2.2.2.2.2.1
  have hw6 := hW.2.2.2.2.2.2.1
  have hw7 := hW.2.2.2.2.2.2.2.1
  refine q_ofM (lv := [(0, .ref ((ubg G))), (1, .int (iI xb)), (2, .int (iI xk)), (3, .int (iI xw)), (4, .int (iI xt))]) (by decide) (Nat.le_of_ble_eq_true rfl) rfl (fun p e s m below meth c C0 hret hlk hnm hA hP hD hS ls hl => ?_)
  have hx := C0.1.1
  have hb := C0.1.2.1
  have hts := C0.1.2.2.2.2
  refine lv_aload_n hx hb dX6_put_0 rfl (lv_at hl 0 rfl) ?_
  refine lv_iload_n hx hb dX6_put_1 rfl (lv_at hl 1 rfl) ?_
  refine q_sS C0 lX6_60 (c_X6_isBook l D y L F xb (by omega)) ⟨rfl, rfl⟩ rfl hP rfl hl rfl (Nat.le_of_ble_eq_true rfl) dX6_put_2 ⟨Nat.zero_le _, Nat.zero_le _⟩ (fun r1 e_r1 => ?_)
  subst e_r1
  have b_2 := inR_d xb 0 3
  refine lv_iload_n hx hb dX6_put_5 rfl (lv_at hl 2 rfl) ?_
  refine q_sS C0 lX6_86 (c_X6_isKey l D y L F xk (by omega)) ⟨rfl, rfl⟩ rfl hP rfl hl rfl (Nat.le_of_ble_eq_true rfl) dX6_put_6 ⟨Nat.zero_le _, Nat.zero_le _⟩ (fun r3 e_r3 => ?_)
  subst e_r3
  have b_4 := inR_d xk 0 99
  refine q_if_eq hx hb dX6_put_9 (tgt := 33) (by decide) (by omega) (fun c5 => ?_) (fun c5 => ?_)
  · replace b_4 := b_4.resolve_left (fun h => absurd (h.1.symm.trans c5) (by decide))
    refine q_iconst hx hb dX6_put_33 ?_
    refine q_vMi C0 lX6_63 (c_X6_isLet l D y L F _ O G μ (inR xb 0 3) 0 hC (by omega) (by omega)) ⟨rfl, rfl⟩ rfl hP hD hS hA hC.1.1 hC.1.2 rfl rfl rfl hl rfl (Nat.le_of_ble_eq_true rfl) dX6_put_34 ⟨Nat.le_of_ble_eq_true rfl, Nat.le_of_ble_eq_true rfl⟩ (fun r6 H locs L7 F7 hP hD hS hz7 hp7 => ?_)
    obtain ⟨eL, hC, er, hO1⟩ := hp7
    subst eL
    replace er := (er.trans (okR_z _)).symm
    subst er
    have hO := hO.tr hO1
    refine q_if_ne hx hb dX6_put_37 (tgt := 42) (by decide) (by omega) (fun c8 => absurd c8 (by omega)) (fun c8 => ?_)
    refine q_iconst hx hb dX6_put_40 ?_
    exact q_retMi C0 hret rfl hlk dX6_put_41 hP hD hS (⟨(by unfold jR_put; (try unfold bkF); (try unfold bkO); (try unfold shF); (try unfold shO);  (repeat' split) <;> first | omega | (exfalso; omega) | rfl), O, G, MP_eq hC (by unfold jS_put; (try unfold ltR); (try unfold inR); (try unfold bkF); (try unfold bkO); (try unfold shF); (try unfold shO);  (repeat' split) <;> first | omega | (exfalso; omega) | rfl), rfl, Ext0 hO⟩)
  · replace b_4 := b_4.resolve_right (fun h => c5 h.1)
    refine lv_iload_n hx hb dX6_put_12 rfl (lv_at hl 3 rfl) ?_
    refine q_sS C0 lX6_86 (c_X6_isKey l D y L F xw (by omega)) ⟨rfl, rfl⟩ rfl hP rfl hl rfl (Nat.le_of_ble_eq_true rfl) dX6_put_13 ⟨Nat.zero_le _, Nat.zero_le _⟩ (fun r9 e_r9 => ?_)
    subst e_r9
    have b_10 := inR_d xw 0 99
    refine q_if_eq hx hb dX6_put_16 (tgt := 33) (by decide) (by omega) (fun c11 => ?_) (fun c11 => ?_)
    · replace b_10 := b_10.resolve_left (fun h => absurd (h.1.symm.trans c11) (by decide))
      refine q_iconst hx hb dX6_put_33 ?_
      refine q_vMi C0 lX6_63 (c_X6_isLet l D y L F _ O G μ (inR xb 0 3) 0 hC (by omega) (by omega)) ⟨rfl, rfl⟩ rfl hP hD hS hA hC.1.1 hC.1.2 rfl rfl rfl hl rfl (Nat.le_of_ble_eq_true rfl) dX6_put_34 ⟨Nat.le_of_ble_eq_true rfl, Nat.le_of_ble_eq_true rfl⟩ (fun r12 H locs L13 F13 hP hD hS hz13 hp13 => ?_)
      obtain ⟨eL, hC, er, hO1⟩ := hp13
      subst eL
      replace er := (er.trans (okR_z _)).symm
      subst er
      have hO := hO.tr hO1
      refine q_if_ne hx hb dX6_put_37 (tgt := 42) (by decide) (by omega) (fun c14 => absurd c14 (by omega)) (fun c14 => ?_)
      refine q_iconst hx hb dX6_put_40 ?_
      exact q_retMi C0 hret rfl hlk dX6_put_41 hP hD hS (⟨(by unfold jR_put; (try unfold bkF); (try unfold bkO); (try unfold shF); (try unfold shO);  (repeat' split) <;> first | omega | (exfalso; omega) | rfl), O, G, MP_eq hC (by unfold jS_put; (try unfold ltR); (try unfold inR); (try unfold bkF); (try unfold bkO); (try unfold shF); (try unfold shO);  (repeat' split) <;> first | omega | (exfalso; omega) | rfl), rfl, Ext0 hO⟩)
    · replace b_10 := b_10.resolve_right (fun h => c11 h.1)
      refine lv_iload hx hb dX6_put_19 (lv_at hl 4 rfl) ?_
      refine q_iconst hx hb dX6_put_21 ?_
      refine q_iconst hx hb dX6_put_22 ?_
      refine q_sS C0 lX6_41 (c_X6_isIn l D y L F xt 0 2 (by omega) (by omega) (by omega)) ⟨rfl, rfl⟩ rfl hP rfl hl rfl (Nat.le_of_ble_eq_true rfl) dX6_put_23 ⟨Nat.zero_le _, Nat.zero_le _⟩ (fun r15 e_r15 => ?_)
      subst e_r15
      have b_16 := inR_d xt 0 2
      refine q_if_eq hx hb dX6_put_26 (tgt := 33) (by decide) (by omega) (fun c17 => ?_) (fun c17 => ?_)
      · replace b_16 := b_16.resolve_left (fun h => absurd (h.1.symm.trans c17) (by decide))
        refine q_iconst hx hb dX6_put_33 ?_
        refine q_vMi C0 lX6_63 (c_X6_isLet l D y L F _ O G μ (inR xb 0 3) 0 hC (by omega) (by omega)) ⟨rfl, rfl⟩ rfl hP hD hS hA hC.1.1 hC.1.2 rfl rfl rfl hl rfl (Nat.le_of_ble_eq_true rfl) dX6_put_34 ⟨Nat.le_of_ble_eq_true rfl, Nat.le_of_ble_eq_true rfl⟩ (fun r18 H locs L19 F19 hP hD hS hz19 hp19 => ?_)
        obtain ⟨eL, hC, er, hO1⟩ := hp19
        subst eL
        replace er := (er.trans (okR_z _)).symm
        subst er
        have hO := hO.tr hO1
        refine q_if_ne hx hb dX6_put_37 (tgt := 42) (by decide) (by omega) (fun c20 => absurd c20 (by omega)) (fun c20 => ?_)
        refine q_iconst hx hb dX6_put_40 ?_
        exact q_retMi C0 hret rfl hlk dX6_put_41 hP hD hS (⟨(by unfold jR_put; (try unfold bkF); (try unfold bkO); (try unfold shF); (try unfold shO);  (repeat' split) <;> first | omega | (exfalso; omega) | rfl), O, G, MP_eq hC (by unfold jS_put; (try unfold ltR); (try unfold inR); (try unfold bkF); (try unfold bkO); (try unfold shF); (try unfold shO);  (repeat' split) <;> first | omega | (exfalso; omega) | rfl), rfl, Ext0 hO⟩)
      · replace b_16 := b_16.resolve_right (fun h => c17 h.1)
        refine q_iconst hx hb dX6_put_29 ?_
        refine lv_goto (tgt := 34) hx hb dX6_put_30 (by decide) ?_
        refine q_vMi C0 lX6_63 (c_X6_isLet l D y L F _ O G μ (inR xb 0 3) 1 hC (by omega) (by omega)) ⟨rfl, rfl⟩ rfl hP hD hS hA hC.1.1 hC.1.2 rfl rfl rfl hl rfl (Nat.le_of_ble_eq_true rfl) dX6_put_34 ⟨Nat.le_of_ble_eq_true rfl, Nat.le_of_ble_eq_true rfl⟩ (fun r21 H locs L22 F22 hP hD hS hz22 hp22 => ?_)
        obtain ⟨eL, hC, er, hO1⟩ := hp22
        subst eL
        replace er := er.symm
        subst er
        have hO := hO.tr hO1
        have k_23 := okR_d (inR xb 0 3) 1
        refine q_if_ne hx hb dX6_put_37 (tgt := 42) (by decide) (by omega) (fun c24 => ?_) (fun c24 => ?_)
        · replace k_23 := k_23.resolve_right (fun h => c24 h.1)
          refine lv_aload_n hx hb dX6_put_42 rfl (lv_at hl 0 rfl) ?_
          refine lv_aload_n hx hb dX6_put_43 rfl (lv_at hl 0 rfl) ?_
          refine q_get C0 iX6 hP hC.1.1 hC.1.2 rfl 0 (by decide) flX6_11 rfl (v := .ref ((uab G))) rfl dX6_put_44 ?_
          refine lv_iload_n hx hb dX6_put_47 rfl (lv_at hl 1 rfl) ?_
          refine q_aald C0 hP hC.2.1.1 hC.2.1.2 (t := 3) rfl (by omega) (by decide) (v := .ref ((urh G (vbk μ xb)))) rfl dX6_put_48 ?_
          refine lv_iload_n hx hb dX6_put_49 rfl (lv_at hl 2 rfl) ?_
          refine lv_iload hx hb dX6_put_50 (lv_at hl 4 rfl) ?_
          refine q_if_eq hx hb dX6_put_52 (tgt := 79) (by decide) (by omega) (fun c25 => ?_) (fun c25 => ?_)
          · refine q_iconst hx hb dX6_put_79 ?_
            refine lv_goto (tgt := 84) hx hb dX6_put_80 (by decide) ?_
            refine lv_iload_n hx hb dX6_put_84 rfl (lv_at hl 3 rfl) ?_
            refine q_vMi C0 lX6_107 (c_X6_change l D y L F22 _ O G (tTh μ (ltR (inR xb 0 3) 1)) (vbk μ xb) xk 1 xw hC hW (hW.1 xb) (by omega) (by omega) (by omega)) ⟨rfl, rfl⟩ rfl hP hD hS hA hC.1.1 hC.1.2 rfl rfl rfl hl rfl (Nat.le_of_ble_eq_true rfl) dX6_put_85 ⟨Nat.le_of_ble_eq_true rfl, Nat.le_of_ble_eq_true rfl⟩ (fun r26 H locs L27 F27 hP hD hS hz27 hp27 => ?_)
            obtain ⟨eL, hC, er, hO1⟩ := hp27
            subst eL
            replace er : (vst μ (vbk μ xb) (turn (vod μ (vbk μ xb)) xk)) = r26 := er.symm
            subst er
            have hO := hO.tr hO1
            exact q_retMi C0 hret rfl hlk dX6_put_88 hP hD hS (⟨(by unfold jR_put; (try unfold bkF); (try unfold bkO); (try unfold shF); (try unfold shO);  (repeat' split) <;> first | omega | (exfalso; omega) | rfl), O, G, MP_eq hC (by unfold jS_put; (try unfold ltR); (try unfold inR); (try unfold bkF); (try unfold bkO); (try unfold shF); (try unfold shO);  (repeat' split) <;> first | omega | (exfalso; omega) | rfl), rfl, Ext0 hO⟩)
          · refine lv_aload_n hx hb dX6_put_55 rfl (lv_at hl 0 rfl) ?_
            refine q_get C0 iX6 hP hC.1.1 hC.1.2 rfl 0 (by decide) flX6_11 rfl (v := .ref ((uab G))) rfl dX6_put_56 ?_
            refine lv_iload_n hx hb dX6_put_59 rfl (lv_at hl 1 rfl) ?_
            refine q_aald C0 hP hC.2.1.1 hC.2.1.2 (t := 3) rfl (by omega) (by decide) (v := .ref ((urh G (vbk μ xb)))) rfl dX6_put_60 ?_
            refine lv_iload_n hx hb dX6_put_61 rfl (lv_at hl 2 rfl) ?_
            refine q_vS C0 lX6_49 (c_X5_has l D y L F22 (urh G (vbk μ xb)) (urw G (vbk μ xb)) (vod μ (vbk μ xb)) (vst μ (vbk μ xb)) xk (MP_r hC (hW.1 xb)) (by omega)) ⟨rfl, rfl⟩ rfl hP (MP_r hC (hW.1 xb)).1 (MP_r hC (hW.1 xb)).2.1 rfl rfl rfl hl rfl (Nat.le_of_ble_eq_true rfl) dX6_put_62 ⟨Nat.zero_le _, Nat.zero_le _⟩ (fun r28 e_r28 => ?_)
            subst e_r28
            have b_29 := isT_b (vst μ (vbk μ xb)) (turn (vod μ (vbk μ xb)) xk)
            refine lv_iload hx hb dX6_put_65 (lv_at hl 4 rfl) ?_
            refine q_iconst hx hb dX6_put_67 ?_
            refine q_icmp_ne hx hb dX6_put_68 (tgt := 75) (by decide) (by omega) (by omega) (fun c30 => ?_) (fun c30 => ?_)
            · refine q_iconst hx hb dX6_put_75 ?_
              refine q_icmp_ne hx hb dX6_put_76 (tgt := 83) (by decide) (by omega) (by omega) (fun c31 => ?_) (fun c31 => ?_)
              · refine q_iconst hx hb dX6_put_83 ?_
                refine lv_iload_n hx hb dX6_put_84 rfl (lv_at hl 3 rfl) ?_
                refine q_vMi C0 lX6_107 (c_X6_change l D y L F22 _ O G (tTh μ (ltR (inR xb 0 3) 1)) (vbk μ xb) xk 0 xw hC hW (hW.1 xb) (by omega) (by omega) (by omega)) ⟨rfl, rfl⟩ rfl hP hD hS hA hC.1.1 hC.1.2 rfl rfl rfl hl rfl (Nat.le_of_ble_eq_true rfl) dX6_put_85 ⟨Nat.le_of_ble_eq_true rfl, Nat.le_of_ble_eq_true rfl⟩ (fun r32 H locs L33 F33 hP hD hS hz33 hp33 => ?_)
                obtain ⟨eL, hC, er, hO1⟩ := hp33
                subst eL
                replace er : (vst μ (vbk μ xb) (turn (vod μ (vbk μ xb)) xk)) = r32 := er.symm
                subst er
                have hO := hO.tr hO1
                exact q_retMi C0 hret rfl hlk dX6_put_88 hP hD hS (⟨(by unfold jR_put; (try unfold bkF); (try unfold bkO); (try unfold shF); (try unfold shO);  (repeat' split) <;> first | omega | (exfalso; omega) | rfl), O, G, MP_eq hC (by unfold jS_put; (try unfold ltR); (try unfold inR); (try unfold bkF); (try unfold bkO); (try unfold shF); (try unfold shO);  (repeat' split) <;> first | omega | (exfalso; omega) | rfl), rfl, Ext0 hO⟩)
              · refine q_iconst hx hb dX6_put_79 ?_
                refine lv_goto (tgt := 84) hx hb dX6_put_80 (by decide) ?_
                refine lv_iload_n hx hb dX6_put_84 rfl (lv_at hl 3 rfl) ?_
                refine q_vMi C0 lX6_107 (c_X6_change l D y L F22 _ O G (tTh μ (ltR (inR xb 0 3) 1)) (vbk μ xb) xk 1 xw hC hW (hW.1 xb) (by omega) (by omega) (by omega)) ⟨rfl, rfl⟩ rfl hP hD hS hA hC.1.1 hC.1.2 rfl rfl rfl hl rfl (Nat.le_of_ble_eq_true rfl) dX6_put_85 ⟨Nat.le_of_ble_eq_true rfl, Nat.le_of_ble_eq_true rfl⟩ (fun r34 H locs L35 F35 hP hD hS hz35 hp35 => ?_)
                obtain ⟨eL, hC, er, hO1⟩ := hp35
                subst eL
                replace er : (vst μ (vbk μ xb) (turn (vod μ (vbk μ xb)) xk)) = r34 := er.symm
                subst er
                have hO := hO.tr hO1
                exact q_retMi C0 hret rfl hlk dX6_put_88 hP hD hS (⟨(by unfold jR_put; (try unfold bkF); (try unfold bkO); (try unfold shF); (try unfold shO);  (repeat' split) <;> first | omega | (exfalso; omega) | rfl), O, G, MP_eq hC (by unfold jS_put; (try unfold ltR); (try unfold inR); (try unfold bkF); (try unfold bkO); (try unfold shF); (try unfold shO);  (repeat' split) <;> first | omega | (exfalso; omega) | rfl), rfl, Ext0 hO⟩)
            · refine q_iconst hx hb dX6_put_71 ?_
              refine lv_goto (tgt := 76) hx hb dX6_put_72 (by decide) ?_
              refine q_icmp_ne hx hb dX6_put_76 (tgt := 83) (by decide) (by omega) (by omega) (fun c36 => ?_) (fun c36 => ?_)
              · refine q_iconst hx hb dX6_put_83 ?_
                refine lv_iload_n hx hb dX6_put_84 rfl (lv_at hl 3 rfl) ?_
                refine q_vMi C0 lX6_107 (c_X6_change l D y L F22 _ O G (tTh μ (ltR (inR xb 0 3) 1)) (vbk μ xb) xk 0 xw hC hW (hW.1 xb) (by omega) (by omega) (by omega)) ⟨rfl, rfl⟩ rfl hP hD hS hA hC.1.1 hC.1.2 rfl rfl rfl hl rfl (Nat.le_of_ble_eq_true rfl) dX6_put_85 ⟨Nat.le_of_ble_eq_true rfl, Nat.le_of_ble_eq_true rfl⟩ (fun r37 H locs L38 F38 hP hD hS hz38 hp38 => ?_)
                obtain ⟨eL, hC, er, hO1⟩ := hp38
                subst eL
                replace er : (vst μ (vbk μ xb) (turn (vod μ (vbk μ xb)) xk)) = r37 := er.symm
                subst er
                have hO := hO.tr hO1
                exact q_retMi C0 hret rfl hlk dX6_put_88 hP hD hS (⟨(by unfold jR_put; (try unfold bkF); (try unfold bkO); (try unfold shF); (try unfold shO);  (repeat' split) <;> first | omega | (exfalso; omega) | rfl), O, G, MP_eq hC (by unfold jS_put; (try unfold ltR); (try unfold inR); (try unfold bkF); (try unfold bkO); (try unfold shF); (try unfold shO);  (repeat' split) <;> first | omega | (exfalso; omega) | rfl), rfl, Ext0 hO⟩)
              · refine q_iconst hx hb dX6_put_79 ?_
                refine lv_goto (tgt := 84) hx hb dX6_put_80 (by decide) ?_
                refine lv_iload_n hx hb dX6_put_84 rfl (lv_at hl 3 rfl) ?_
                refine q_vMi C0 lX6_107 (c_X6_change l D y L F22 _ O G (tTh μ (ltR (inR xb 0 3) 1)) (vbk μ xb) xk 1 xw hC hW (hW.1 xb) (by omega) (by omega) (by omega)) ⟨rfl, rfl⟩ rfl hP hD hS hA hC.1.1 hC.1.2 rfl rfl rfl hl rfl (Nat.le_of_ble_eq_true rfl) dX6_put_85 ⟨Nat.le_of_ble_eq_true rfl, Nat.le_of_ble_eq_true rfl⟩ (fun r39 H locs L40 F40 hP hD hS hz40 hp40 => ?_)
                obtain ⟨eL, hC, er, hO1⟩ := hp40
                subst eL
                replace er : (vst μ (vbk μ xb) (turn (vod μ (vbk μ xb)) xk)) = r39 := er.symm
                subst er
                have hO := hO.tr hO1
                exact q_retMi C0 hret rfl hlk dX6_put_88 hP hD hS (⟨(by unfold jR_put; (try unfold bkF); (try unfold bkO); (try unfold shF); (try unfold shO);  (repeat' split) <;> first | omega | (exfalso; omega) | rfl), O, G, MP_eq hC (by unfold jS_put; (try unfold ltR); (try unfold inR); (try unfold bkF); (try unfold bkO); (try unfold shF); (try unfold shO);  (repeat' split) <;> first | omega | (exfalso; omega) | rfl), rfl, Ext0 hO⟩)
        · replace k_23 := k_23.resolve_left (fun h => absurd (h.1.symm.trans c24) (by decide))
          refine q_iconst hx hb dX6_put_40 ?_
          exact q_retMi C0 hret rfl hlk dX6_put_41 hP hD hS (⟨(by unfold jR_put; (try unfold bkF); (try unfold bkO); (try unfold shF); (try unfold shO);  (repeat' split) <;> first | omega | (exfalso; omega) | rfl), O, G, MP_eq hC (by unfold jS_put; (try unfold ltR); (try unfold inR); (try unfold bkF); (try unfold bkO); (try unfold shF); (try unfold shO);  (repeat' split) <;> first | omega | (exfalso; omega) | rfl), rfl, Ext0 hO⟩)
set_option maxHeartbeats 3000000 in
set_option maxRecDepth 100000 in
theorem c_X6_viewPut (l : Launch) (D : va_G) (y : Nat → ClassId) (L : List Nat) (F : Nat → va_E) (sz : Nat) (O : Nat → Prop) (G : MG) (μ : MS) (xv : Int) (xk : Int) (xw : Int) (hC : MP y L F O G μ) (hW : MW μ) (h_xv : -2147483648 ≤ xv ∧ xv ≤ 2147483647) (h_xk : -2147483648 ≤ xk ∧ xk ≤ 2147483647) (h_xw : -2147483648 ≤ xw ∧ xw ≤ 2147483647) : Met l yX6_viewPut (.code yX6_viewPut cX6_viewPut 4 (some .int) :: Tt) ({ frames := 3, cells := 0, slots := 0, locals := 70 }) (PcM D y L F sz [.ref ((ubg G)), .int (iI xv), .int (iI xk), .int (iI xw)]) (cMi D (AL L sz) (fun r L1 F1 => r = jR_viewPut μ xv xk xw ∧ ∃ (O1 : Nat → Prop) (G1 : MG), MP y L1 F1 O1 G1 (jS_viewPut μ xv xk xw) ∧ ubg G1 = ubg G ∧ Ext O O1 L L1 F F1)) 0 0 (AL L sz) := by
  have hO : OE O F F := fun _ _ => rfl
  have hw5 := hW.2.2.2.2.2.1
  have hw6 := hW.2.2.2.2.2.2.1
  have hw7 := hW.2.2.2.2.2.2.2.1
  have vb_ := hW.2.2.2.2.1 xv
  refine q_ofM (lv := [(0, .ref ((ubg G))), (1, .int (iI xv)), (2, .int (iI xk)), (3, .int (iI xw))]) (by decide) (Nat.le_of_ble_eq_true rfl) rfl (fun p e s m below meth c C0 hret hlk hnm hA hP hD hS ls hl => ?_)
  have hx := C0.1.1
  have hb := C0.1.2.1
  have hts := C0.1.2.2.2.2
  refine lv_aload_n hx hb dX6_viewPut_0 rfl (lv_at hl 0 rfl) ?_
  refine lv_iload_n hx hb dX6_viewPut_1 rfl (lv_at hl 1 rfl) ?_
  refine q_sS C0 lX6_168 (c_X6_isView l D y L F xv (by omega)) ⟨rfl, rfl⟩ rfl hP rfl hl rfl (Nat.le_of_ble_eq_true rfl) dX6_viewPut_2 ⟨Nat.zero_le _, Nat.zero_le _⟩ (fun r1 e_r1 => ?_)
  subst e_r1
  have b_2 := inR_d xv 0 1
  refine lv_iload_n hx hb dX6_viewPut_5 rfl (lv_at hl 2 rfl) ?_
  refine q_sS C0 lX6_86 (c_X6_isKey l D y L F xk (by omega)) ⟨rfl, rfl⟩ rfl hP rfl hl rfl (Nat.le_of_ble_eq_true rfl) dX6_viewPut_6 ⟨Nat.zero_le _, Nat.zero_le _⟩ (fun r3 e_r3 => ?_)
  subst e_r3
  have b_4 := inR_d xk 0 99
  refine q_if_eq hx hb dX6_viewPut_9 (tgt := 23) (by decide) (by omega) (fun c5 => ?_) (fun c5 => ?_)
  · replace b_4 := b_4.resolve_left (fun h => absurd (h.1.symm.trans c5) (by decide))
    refine q_iconst hx hb dX6_viewPut_23 ?_
    refine q_vMi C0 lX6_63 (c_X6_isLet l D y L F _ O G μ (inR xv 0 1) 0 hC (by omega) (by omega)) ⟨rfl, rfl⟩ rfl hP hD hS hA hC.1.1 hC.1.2 rfl rfl rfl hl rfl (Nat.le_of_ble_eq_true rfl) dX6_viewPut_24 ⟨Nat.le_of_ble_eq_true rfl, Nat.le_of_ble_eq_true rfl⟩ (fun r6 H locs L7 F7 hP hD hS hz7 hp7 => ?_)
    obtain ⟨eL, hC, er, hO1⟩ := hp7
    subst eL
    replace er := (er.trans (okR_z _)).symm
    subst er
    have hO := hO.tr hO1
    refine q_if_ne hx hb dX6_viewPut_27 (tgt := 32) (by decide) (by omega) (fun c8 => absurd c8 (by omega)) (fun c8 => ?_)
    refine q_iconst hx hb dX6_viewPut_30 ?_
    exact q_retMi C0 hret rfl hlk dX6_viewPut_31 hP hD hS (⟨(by unfold jR_viewPut; (try unfold bkF); (try unfold bkO); (try unfold shF); (try unfold shO);  (repeat' split) <;> first | omega | (exfalso; omega) | rfl), O, G, MP_eq hC (by unfold jS_viewPut; (try unfold ltR); (try unfold inR); (try unfold bkF); (try unfold bkO); (try unfold shF); (try unfold shO);  (repeat' split) <;> first | omega | (exfalso; omega) | rfl), rfl, Ext0 hO⟩)
  · replace b_4 := b_4.resolve_right (fun h => c5 h.1)
    refine lv_iload_n hx hb dX6_viewPut_12 rfl (lv_at hl 3 rfl) ?_
    refine q_sS C0 lX6_86 (c_X6_isKey l D y L F xw (by omega)) ⟨rfl, rfl⟩ rfl hP rfl hl rfl (Nat.le_of_ble_eq_true rfl) dX6_viewPut_13 ⟨Nat.zero_le _, Nat.zero_le _⟩ (fun r9 e_r9 => ?_)
    subst e_r9
    have b_10 := inR_d xw 0 99
    refine q_if_eq hx hb dX6_viewPut_16 (tgt := 23) (by decide) (by omega) (fun c11 => ?_) (fun c11 => ?_)
    · replace b_10 := b_10.resolve_left (fun h => absurd (h.1.symm.trans c11) (by decide))
      refine q_iconst hx hb dX6_viewPut_23 ?_
      refine q_vMi C0 lX6_63 (c_X6_isLet l D y L F _ O G μ (inR xv 0 1) 0 hC (by omega) (by omega)) ⟨rfl, rfl⟩ rfl hP hD hS hA hC.1.1 hC.1.2 rfl rfl rfl hl rfl (Nat.le_of_ble_eq_true rfl) dX6_viewPut_24 ⟨Nat.le_of_ble_eq_true rfl, Nat.le_of_ble_eq_true rfl⟩ (fun r12 H locs L13 F13 hP hD hS hz13 hp13 => ?_)
      obtain ⟨eL, hC, er, hO1⟩ := hp13
      subst eL
      replace er := (er.trans (okR_z _)).symm
      subst er
      have hO := hO.tr hO1
      refine q_if_ne hx hb dX6_viewPut_27 (tgt := 32) (by decide) (by omega) (fun c14 => absurd c14 (by omega)) (fun c14 => ?_)
      refine q_iconst hx hb dX6_viewPut_30 ?_
      exact q_retMi C0 hret rfl hlk dX6_viewPut_31 hP hD hS (⟨(by unfold jR_viewPut; (try unfold bkF); (try unfold bkO); (try unfold shF); (try unfold shO);  (repeat' split) <;> first | omega | (exfalso; omega) | rfl), O, G, MP_eq hC (by unfold jS_viewPut; (try unfold ltR); (try unfold inR); (try unfold bkF); (try unfold bkO); (try unfold shF); (try unfold shO);  (repeat' split) <;> first | omega | (exfalso; omega) | rfl), rfl, Ext0 hO⟩)
    · replace b_10 := b_10.resolve_right (fun h => c11 h.1)
      refine q_iconst hx hb dX6_viewPut_19 ?_
      refine lv_goto (tgt := 24) hx hb dX6_viewPut_20 (by decide) ?_
      refine q_vMi C0 lX6_63 (c_X6_isLet l D y L F _ O G μ (inR xv 0 1) 1 hC (by omega) (by omega)) ⟨rfl, rfl⟩ rfl hP hD hS hA hC.1.1 hC.1.2 rfl rfl rfl hl rfl (Nat.le_of_ble_eq_true rfl) dX6_viewPut_24 ⟨Nat.le_of_ble_eq_true rfl, Nat.le_of_ble_eq_true rfl⟩ (fun r15 H locs L16 F16 hP hD hS hz16 hp16 => ?_)
      obtain ⟨eL, hC, er, hO1⟩ := hp16
      subst eL
      replace er := er.symm
      subst er
      have hO := hO.tr hO1
      have k_17 := okR_d (inR xv 0 1) 1
      refine q_if_ne hx hb dX6_viewPut_27 (tgt := 32) (by decide) (by omega) (fun c18 => ?_) (fun c18 => ?_)
      · replace k_17 := k_17.resolve_right (fun h => c18 h.1)
        refine lv_aload_n hx hb dX6_viewPut_32 rfl (lv_at hl 0 rfl) ?_
        refine lv_iload_n hx hb dX6_viewPut_33 rfl (lv_at hl 1 rfl) ?_
        refine lv_iload_n hx hb dX6_viewPut_34 rfl (lv_at hl 2 rfl) ?_
        refine q_vS C0 lX6_174 (c_X6_isWithin l D y L F16 O G (tTh μ (ltR (inR xv 0 1) 1)) xv xk hC (by omega) (hW.2.2.1 xv) ⟨(hW.2.2.2.2.1 xv).1, (hW.2.2.2.2.1 xv).2.1⟩ (hW.2.2.2.2.1 xv).2.2 (by omega)) ⟨rfl, rfl⟩ rfl hP hC.1.1 hC.1.2 rfl rfl rfl hl rfl (Nat.le_of_ble_eq_true rfl) dX6_viewPut_35 ⟨Nat.zero_le _, Nat.zero_le _⟩ (fun r19 e_r19 => ?_)
        replace e_r19 : r19 = inR (turn (vod μ (vvw μ xv)) xk) (vvl μ xv) (vvh μ xv) := e_r19.trans (by first | rfl | (rw [show vvw (tTh μ (ltR (inR xv 0 1) 1)) xv = vvw μ xv from (by first | rfl | exact iu_s _ _ _), show vvl (tTh μ (ltR (inR xv 0 1) 1)) xv = vvl μ xv from (by first | rfl | exact iu_s _ _ _), show vvh (tTh μ (ltR (inR xv 0 1) 1)) xv = vvh μ xv from (by first | rfl | exact iu_s _ _ _)]; done) | (rw [show vvw (tTh μ (ltR (inR xv 0 1) 1)) xv = vvw μ xv from (by first | rfl | exact iu_s _ _ _), show vvl (tTh μ (ltR (inR xv 0 1) 1)) xv = vvl μ xv from (by first | rfl | exact iu_s _ _ _), show vvh (tTh μ (ltR (inR xv 0 1) 1)) xv = vvh μ xv from (by first | rfl | exact iu_s _ _ _)]; rfl))
        subst e_r19
        have b_20 := inR_d (turn (vod μ (vvw μ xv)) xk) (vvl μ xv) (vvh μ xv)
        refine q_if_eq hx hb dX6_viewPut_38 (tgt := 57) (by decide) (by omega) (fun c21 => ?_) (fun c21 => ?_)
        · refine lv_aload_n hx hb dX6_viewPut_57 rfl (lv_at hl 0 rfl) ?_
          refine q_vMi C0 lX6_89 (c_X6_refuse l D y L F16 _ O G (tTh μ (ltR (inR xv 0 1) 1)) hC) ⟨rfl, rfl⟩ rfl hP hD hS hA hC.1.1 hC.1.2 rfl rfl rfl hl rfl (Nat.le_of_ble_eq_true rfl) dX6_viewPut_58 ⟨Nat.le_of_ble_eq_true rfl, Nat.le_of_ble_eq_true rfl⟩ (fun r22 H locs L23 F23 hP hD hS hz23 hp23 => ?_)
          obtain ⟨eL, hC, er, hO1⟩ := hp23
          subst eL
          replace er : (-9) = r22 := er.symm
          subst er
          have hO := hO.tr hO1
          exact q_retMi C0 hret rfl hlk dX6_viewPut_61 hP hD hS (⟨(by unfold jR_viewPut; (try unfold bkF); (try unfold bkO); (try unfold shF); (try unfold shO);  (repeat' split) <;> first | omega | (exfalso; omega) | rfl), O, G, MP_eq hC (by unfold jS_viewPut; (try unfold ltR); (try unfold inR); (try unfold bkF); (try unfold bkO); (try unfold shF); (try unfold shO);  (repeat' split) <;> first | omega | (exfalso; omega) | rfl), rfl, Ext0 hO⟩)
        · refine lv_aload_n hx hb dX6_viewPut_41 rfl (lv_at hl 0 rfl) ?_
          refine lv_aload_n hx hb dX6_viewPut_42 rfl (lv_at hl 0 rfl) ?_
          refine q_get C0 iX6 hP hC.1.1 hC.1.2 rfl 2 (by decide) flX6_18 rfl (v := .ref ((uav G))) rfl dX6_viewPut_43 ?_
          refine lv_iload_n hx hb dX6_viewPut_46 rfl (lv_at hl 1 rfl) ?_
          refine q_aald C0 hP hC.2.2.2.1.1 hC.2.2.2.1.2 (t := 3) rfl (by omega) (by decide) (v := .ref ((urh G (vvw μ xv)))) rfl dX6_viewPut_47 ?_
          refine lv_iload_n hx hb dX6_viewPut_48 rfl (lv_at hl 2 rfl) ?_
          refine q_iconst hx hb dX6_viewPut_49 ?_
          refine lv_iload_n hx hb dX6_viewPut_50 rfl (lv_at hl 3 rfl) ?_
          refine q_vMi C0 lX6_107 (c_X6_change l D y L F16 _ O G (tTh μ (ltR (inR xv 0 1) 1)) (vvw μ xv) xk 1 xw hC hW (hW.2.2.1 xv) (by omega) (by omega) (by omega)) ⟨rfl, rfl⟩ rfl hP hD hS hA hC.1.1 hC.1.2 rfl rfl rfl hl rfl (Nat.le_of_ble_eq_true rfl) dX6_viewPut_51 ⟨Nat.le_of_ble_eq_true rfl, Nat.le_of_ble_eq_true rfl⟩ (fun r24 H locs L25 F25 hP hD hS hz25 hp25 => ?_)
          obtain ⟨eL, hC, er, hO1⟩ := hp25
          subst eL
          replace er : (vst μ (vvw μ xv) (turn (vod μ (vvw μ xv)) xk)) = r24 := er.symm
          subst er
          have hO := hO.tr hO1
          refine lv_goto (tgt := 61) hx hb dX6_viewPut_54 (by decide) ?_
          exact q_retMi C0 hret rfl hlk dX6_viewPut_61 hP hD hS (⟨(by unfold jR_viewPut; (try unfold bkF); (try unfold bkO); (try unfold shF); (try unfold shO);  (repeat' split) <;> first | omega | (exfalso; omega) | rfl), O, G, MP_eq hC (by unfold jS_viewPut; (try unfold ltR); (try unfold inR); (try unfold bkF); (try unfold bkO); (try unfold shF); (try unfold shO);  (repeat' split) <;> first | omega | (exfalso; omega) | rfl), rfl, Ext0 hO⟩)
      · replace k_17 := k_17.resolve_left (fun h => absurd (h.1.symm.trans c18) (by decide))
        refine q_iconst hx hb dX6_viewPut_30 ?_
        exact q_retMi C0 hret rfl hlk dX6_viewPut_31 hP hD hS (⟨(by unfold jR_viewPut; (try unfold bkF); (try unfold bkO); (try unfold shF); (try unfold shO);  (repeat' split) <;> first | omega | (exfalso; omega) | rfl), O, G, MP_eq hC (by unfold jS_viewPut; (try unfold ltR); (try unfold inR); (try unfold bkF); (try unfold bkO); (try unfold shF); (try unfold shO);  (repeat' split) <;> first | omega | (exfalso; omega) | rfl), rfl, Ext0 hO⟩)
set_option maxHeartbeats 3000000 in
set_option maxRecDepth 100000 in
theorem c_X6_viewTake (l : Launch) (D : va_G) (y : Nat → ClassId) (L : List Nat) (F : Nat → va_E) (sz : Nat) (O : Nat → Prop) (G : MG) (μ : MS) (xv : Int) (xk : Int) (hC : MP y L F O G μ) (hW : MW μ) (h_xv : -2147483648 ≤ xv ∧ xv ≤ 2147483647) (h_xk : -2147483648 ≤ xk ∧ xk ≤ 2147483647) : Met l yX6_viewTake (.code yX6_viewTake cX6_viewTake 5 (some .int) :: Tt) ({ frames := 3, cells := 0, slots := 0, locals := 70 }) (PcM D y L F sz [.ref ((ubg G)), .int (iI xv), .int (iI xk)]) (cMi D (AL L sz) (fun r L1 F1 => r = jR_viewTake μ xv xk ∧ ∃ (O1 : Nat → Prop) (G1 : MG), MP y L1 F1 O1 G1 (jS_viewTake μ xv xk) ∧ ubg G1 = ubg G ∧ Ext O O1 L L1 F F1)) 0 0 (AL L sz) := by
  have hO : OE O F F := fun _ _ => rfl
  have hw5 := hW.2.2.2.2.2.1
  have hw6 := hW.2.2.2.2.2.2.1
  have hw7 := hW.2.2.2.2.2.2.2.1
  have vb_ := hW.2.2.2.2.1 xv
  refine q_ofM (lv := [(0, .ref ((ubg G))), (1, .int (iI xv)), (2, .int (iI xk))]) (by decide) (Nat.le_of_ble_eq_true rfl) rfl (fun p e s m below meth c C0 hret hlk hnm hA hP hD hS ls hl => ?_)
  have hx := C0.1.1
  have hb := C0.1.2.1
  have hts := C0.1.2.2.2.2
  refine lv_aload_n hx hb dX6_viewTake_0 rfl (lv_at hl 0 rfl) ?_
  refine lv_iload_n hx hb dX6_viewTake_1 rfl (lv_at hl 1 rfl) ?_
  refine q_sS C0 lX6_168 (c_X6_isView l D y L F xv (by omega)) ⟨rfl, rfl⟩ rfl hP rfl hl rfl (Nat.le_of_ble_eq_true rfl) dX6_viewTake_2 ⟨Nat.zero_le _, Nat.zero_le _⟩ (fun r1 e_r1 => ?_)
  subst e_r1
  have b_2 := inR_d xv 0 1
  refine lv_iload_n hx hb dX6_viewTake_5 rfl (lv_at hl 2 rfl) ?_
  refine q_sS C0 lX6_86 (c_X6_isKey l D y L F xk (by omega)) ⟨rfl, rfl⟩ rfl hP rfl hl rfl (Nat.le_of_ble_eq_true rfl) dX6_viewTake_6 ⟨Nat.zero_le _, Nat.zero_le _⟩ (fun r3 e_r3 => ?_)
  subst e_r3
  have b_4 := inR_d xk 0 99
  refine q_vMi C0 lX6_63 (c_X6_isLet l D y L F _ O G μ (inR xv 0 1) (inR xk 0 99) hC (by omega) (by omega)) ⟨rfl, rfl⟩ rfl hP hD hS hA hC.1.1 hC.1.2 rfl rfl rfl hl rfl (Nat.le_of_ble_eq_true rfl) dX6_viewTake_9 ⟨Nat.le_of_ble_eq_true rfl, Nat.le_of_ble_eq_true rfl⟩ (fun r5 H locs L6 F6 hP hD hS hz6 hp6 => ?_)
  obtain ⟨eL, hC, er, hO1⟩ := hp6
  subst eL
  replace er := er.symm
  subst er
  have hO := hO.tr hO1
  have k_7 := okR_d (inR xv 0 1) (inR xk 0 99)
  refine q_if_ne hx hb dX6_viewTake_12 (tgt := 17) (by decide) (by omega) (fun c8 => ?_) (fun c8 => ?_)
  · replace k_7 := k_7.resolve_right (fun h => c8 h.1)
    refine lv_aload_n hx hb dX6_viewTake_17 rfl (lv_at hl 0 rfl) ?_
    refine lv_iload_n hx hb dX6_viewTake_18 rfl (lv_at hl 1 rfl) ?_
    refine lv_iload_n hx hb dX6_viewTake_19 rfl (lv_at hl 2 rfl) ?_
    refine q_vS C0 lX6_174 (c_X6_isWithin l D y L F6 O G (tTh μ (ltR (inR xv 0 1) (inR xk 0 99))) xv xk hC (by omega) (hW.2.2.1 xv) ⟨(hW.2.2.2.2.1 xv).1, (hW.2.2.2.2.1 xv).2.1⟩ (hW.2.2.2.2.1 xv).2.2 (by omega)) ⟨rfl, rfl⟩ rfl hP hC.1.1 hC.1.2 rfl rfl rfl hl rfl (Nat.le_of_ble_eq_true rfl) dX6_viewTake_20 ⟨Nat.zero_le _, Nat.zero_le _⟩ (fun r9 e_r9 => ?_)
    replace e_r9 : r9 = inR (turn (vod μ (vvw μ xv)) xk) (vvl μ xv) (vvh μ xv) := e_r9.trans (by first | rfl | (rw [show vvw (tTh μ (ltR (inR xv 0 1) (inR xk 0 99))) xv = vvw μ xv from (by first | rfl | exact iu_s _ _ _), show vvl (tTh μ (ltR (inR xv 0 1) (inR xk 0 99))) xv = vvl μ xv from (by first | rfl | exact iu_s _ _ _), show vvh (tTh μ (ltR (inR xv 0 1) (inR xk 0 99))) xv = vvh μ xv from (by first | rfl | exact iu_s _ _ _)]; done) | (rw [show vvw (tTh μ (ltR (inR xv 0 1) (inR xk 0 99))) xv = vvw μ xv from (by first | rfl | exact iu_s _ _ _), show vvl (tTh μ (ltR (inR xv 0 1) (inR xk 0 99))) xv = vvl μ xv from (by first | rfl | exact iu_s _ _ _), show vvh (tTh μ (ltR (inR xv 0 1) (inR xk 0 99))) xv = vvh μ xv from (by first | rfl | exact iu_s _ _ _)]; rfl))
    subst e_r9
    have b_10 := inR_d (turn (vod μ (vvw μ xv)) xk) (vvl μ xv) (vvh μ xv)
    refine lv_istore_n (lv' := [(3, .int (iI ((inR (turn (vod μ (vvw μ xv)) xk) (vvl μ xv) (vvh μ xv))))), (0, .ref ((ubg G))), (1, .int (iI xv)), (2, .int (iI xk))]) hx hb dX6_viewTake_23 rfl hl (by decide) rfl (fun ls hl => ?_)
    refine lv_aload_n hx hb dX6_viewTake_24 rfl (lv_at hl 1 rfl) ?_
    refine lv_aload_n hx hb dX6_viewTake_25 rfl (lv_at hl 1 rfl) ?_
    refine q_get C0 iX6 hP hC.1.1 hC.1.2 rfl 2 (by decide) flX6_18 rfl (v := .ref ((uav G))) rfl dX6_viewTake_26 ?_
    refine lv_iload_n hx hb dX6_viewTake_29 rfl (lv_at hl 2 rfl) ?_
    refine q_aald C0 hP hC.2.2.2.1.1 hC.2.2.2.1.2 (t := 3) rfl (by omega) (by decide) (v := .ref ((urh G (vvw μ xv)))) rfl dX6_viewTake_30 ?_
    refine lv_iload_n hx hb dX6_viewTake_31 rfl (lv_at hl 3 rfl) ?_
    refine lv_iload_n hx hb dX6_viewTake_32 rfl (lv_at hl 0 rfl) ?_
    refine q_iconst hx hb dX6_viewTake_33 ?_
    refine q_vMi C0 lX6_107 (c_X6_change l D y L F6 _ O G (tTh μ (ltR (inR xv 0 1) (inR xk 0 99))) (vvw μ xv) xk (inR (turn (vod μ (vvw μ xv)) xk) (vvl μ xv) (vvh μ xv)) (-1) hC hW (hW.2.2.1 xv) (by omega) (by omega) (by omega)) ⟨rfl, rfl⟩ rfl hP hD hS hA hC.1.1 hC.1.2 rfl rfl rfl hl rfl (Nat.le_of_ble_eq_true rfl) dX6_viewTake_34 ⟨Nat.le_of_ble_eq_true rfl, Nat.le_of_ble_eq_true rfl⟩ (fun r11 H locs L12 F12 hP hD hS hz12 hp12 => ?_)
    obtain ⟨eL, hC, er, hO1⟩ := hp12
    subst eL
    replace er : (vst μ (vvw μ xv) (turn (vod μ (vvw μ xv)) xk)) = r11 := er.symm
    subst er
    have hO := hO.tr hO1
    refine lv_istore (lv' := [(4, .int (iI ((vst μ (vvw μ xv) (turn (vod μ (vvw μ xv)) xk))))), (3, .int (iI ((inR (turn (vod μ (vvw μ xv)) xk) (vvl μ xv) (vvh μ xv))))), (0, .ref ((ubg G))), (1, .int (iI xv)), (2, .int (iI xk))]) hx hb dX6_viewTake_37 hl (by decide) rfl (fun ls hl => ?_)
    refine lv_iload_n hx hb dX6_viewTake_39 rfl (lv_at hl 1 rfl) ?_
    refine q_if_eq hx hb dX6_viewTake_40 (tgt := 48) (by decide) (by omega) (fun c13 => ?_) (fun c13 => ?_)
    · refine q_iconst hx hb dX6_viewTake_48 ?_
      exact q_retMi C0 hret rfl hlk dX6_viewTake_49 hP hD hS (⟨(by unfold jR_viewTake; (try unfold bkF); (try unfold bkO); (try unfold shF); (try unfold shO);  (repeat' split) <;> first | omega | (exfalso; omega) | rfl), O, G, MP_eq hC (by unfold jS_viewTake; (try unfold ltR); (repeat' split) <;> first | omega | (exfalso; omega) | rfl), rfl, Ext0 hO⟩)
    · refine lv_iload hx hb dX6_viewTake_43 (lv_at hl 0 rfl) ?_
      refine lv_goto (tgt := 49) hx hb dX6_viewTake_45 (by decide) ?_
      exact q_retMi C0 hret rfl hlk dX6_viewTake_49 hP hD hS (⟨(by unfold jR_viewTake; (try unfold bkF); (try unfold bkO); (try unfold shF); (try unfold shO);  (repeat' split) <;> first | omega | (exfalso; omega) | rfl), O, G, MP_eq hC (by unfold jS_viewTake; (try unfold ltR); (repeat' split) <;> first | omega | (exfalso; omega) | rfl), rfl, Ext0 hO⟩)
  · replace k_7 := k_7.resolve_left (fun h => absurd (h.1.symm.trans c8) (by decide))
    refine q_iconst hx hb dX6_viewTake_15 ?_
    exact q_retMi C0 hret rfl hlk dX6_viewTake_16 hP hD hS (⟨(by unfold jR_viewTake; (try unfold bkF); (try unfold bkO); (try unfold shF); (try unfold shO);  (repeat' split) <;> first | omega | (exfalso; omega) | rfl), O, G, MP_eq hC (by unfold jS_viewTake; (try unfold ltR); (repeat' split) <;> first | omega | (exfalso; omega) | rfl), rfl, Ext0 hO⟩)
set_option maxHeartbeats 3000000 in
set_option maxRecDepth 100000 in
theorem c_X6_shelfNear (l : Launch) (D : va_G) (y : Nat → ClassId) (L : List Nat) (F : Nat → va_E) (sz : Nat) (O : Nat → Prop) (G : MG) (μ : MS) (xb : Int) (xk : Int) (xt : Int) (hC : MP y L F O G μ) (hW : MW μ) (h_xb : -2147483648 ≤ xb ∧ xb ≤ 2147483647) (h_xk : -2147483648 ≤ xk ∧ xk ≤ 2147483647) (h_xt : -2147483648 ≤ xt ∧ xt ≤ 2147483647) : Met l yX6_shelfNear (.code yX6_shelfNear cX6_shelfNear 4 (some .int) :: Tt) ({ frames := 3, cells := 0, slots := 0, locals := 69 }) (PcM D y L F sz [.ref ((ubg G)), .int (iI xb), .int (iI xk), .int (iI xt)]) (cMi D (AL L sz) (fun r L1 F1 => r = jR_shelfNear μ xb xk xt ∧ ∃ (O1 : Nat → Prop) (G1 : MG), MP y L1 F1 O1 G1 (jS_shelfNear μ xb xk xt) ∧ ubg G1 = ubg G ∧ Ext O O1 L L1 F F1)) 0 0 (AL L sz) := by
  have hO : OE O F F := fun _ _ => rfl
  have hw5 := hW.2.2.2.2.2.1
  have hw6 := hW.2.2.2.2.2.2.1
  have hw7 := hW.2.2.2.2.2.2.2.1
  refine q_ofM (lv := [(0, .ref ((ubg G))), (1, .int (iI xb)), (2, .int (iI xk)), (3, .int (iI xt))]) (by decide) (Nat.le_of_ble_eq_true rfl) rfl (fun p e s m below meth c C0 hret hlk hnm hA hP hD hS ls hl => ?_)
  have hx := C0.1.1
  have hb := C0.1.2.1
  have hts := C0.1.2.2.2.2
  refine lv_aload_n hx hb dX6_shelfNear_0 rfl (lv_at hl 0 rfl) ?_
  refine lv_iload_n hx hb dX6_shelfNear_1 rfl (lv_at hl 1 rfl) ?_
  refine q_sS C0 lX6_193 (c_X6_isShelf l D y L F xb (by omega)) ⟨rfl, rfl⟩ rfl hP rfl hl rfl (Nat.le_of_ble_eq_true rfl) dX6_shelfNear_2 ⟨Nat.zero_le _, Nat.zero_le _⟩ (fun r1 e_r1 => ?_)
  subst e_r1
  have b_2 := inR_d xb 0 2
  refine lv_iload_n hx hb dX6_shelfNear_5 rfl (lv_at hl 2 rfl) ?_
  refine q_sS C0 lX6_86 (c_X6_isKey l D y L F xk (by omega)) ⟨rfl, rfl⟩ rfl hP rfl hl rfl (Nat.le_of_ble_eq_true rfl) dX6_shelfNear_6 ⟨Nat.zero_le _, Nat.zero_le _⟩ (fun r3 e_r3 => ?_)
  subst e_r3
  have b_4 := inR_d xk 0 99
  refine q_if_eq hx hb dX6_shelfNear_9 (tgt := 25) (by decide) (by omega) (fun c5 => ?_) (fun c5 => ?_)
  · replace b_4 := b_4.resolve_left (fun h => absurd (h.1.symm.trans c5) (by decide))
    refine q_iconst hx hb dX6_shelfNear_25 ?_
    refine q_vMi C0 lX6_63 (c_X6_isLet l D y L F _ O G μ (inR xb 0 2) 0 hC (by omega) (by omega)) ⟨rfl, rfl⟩ rfl hP hD hS hA hC.1.1 hC.1.2 rfl rfl rfl hl rfl (Nat.le_of_ble_eq_true rfl) dX6_shelfNear_26 ⟨Nat.le_of_ble_eq_true rfl, Nat.le_of_ble_eq_true rfl⟩ (fun r6 H locs L7 F7 hP hD hS hz7 hp7 => ?_)
    obtain ⟨eL, hC, er, hO1⟩ := hp7
    subst eL
    replace er := (er.trans (okR_z _)).symm
    subst er
    have hO := hO.tr hO1
    refine q_if_eq hx hb dX6_shelfNear_29 (tgt := 49) (by decide) (by omega) (fun c8 => ?_) (fun c8 => absurd c8 (by omega))
    refine q_iconst hx hb dX6_shelfNear_49 ?_
    exact q_retMi C0 hret rfl hlk dX6_shelfNear_50 hP hD hS (⟨(by unfold jR_shelfNear; (try unfold bkF); (try unfold bkO); (try unfold shF); (try unfold shO);  (repeat' split) <;> first | omega | (exfalso; omega) | rfl), O, G, MP_eq hC (by unfold jS_shelfNear; (try unfold ltR); (try unfold inR); (try unfold bkF); (try unfold bkO); (try unfold shF); (try unfold shO);  (repeat' split) <;> first | omega | (exfalso; omega) | rfl), rfl, Ext0 hO⟩)
  · replace b_4 := b_4.resolve_right (fun h => c5 h.1)
    refine lv_iload_n hx hb dX6_shelfNear_12 rfl (lv_at hl 3 rfl) ?_
    refine q_iconst hx hb dX6_shelfNear_13 ?_
    refine q_iconst hx hb dX6_shelfNear_14 ?_
    refine q_sS C0 lX6_41 (c_X6_isIn l D y L F xt 0 4 (by omega) (by omega) (by omega)) ⟨rfl, rfl⟩ rfl hP rfl hl rfl (Nat.le_of_ble_eq_true rfl) dX6_shelfNear_15 ⟨Nat.zero_le _, Nat.zero_le _⟩ (fun r9 e_r9 => ?_)
    subst e_r9
    have b_10 := inR_d xt 0 4
    refine q_if_eq hx hb dX6_shelfNear_18 (tgt := 25) (by decide) (by omega) (fun c11 => ?_) (fun c11 => ?_)
    · replace b_10 := b_10.resolve_left (fun h => absurd (h.1.symm.trans c11) (by decide))
      refine q_iconst hx hb dX6_shelfNear_25 ?_
      refine q_vMi C0 lX6_63 (c_X6_isLet l D y L F _ O G μ (inR xb 0 2) 0 hC (by omega) (by omega)) ⟨rfl, rfl⟩ rfl hP hD hS hA hC.1.1 hC.1.2 rfl rfl rfl hl rfl (Nat.le_of_ble_eq_true rfl) dX6_shelfNear_26 ⟨Nat.le_of_ble_eq_true rfl, Nat.le_of_ble_eq_true rfl⟩ (fun r12 H locs L13 F13 hP hD hS hz13 hp13 => ?_)
      obtain ⟨eL, hC, er, hO1⟩ := hp13
      subst eL
      replace er := (er.trans (okR_z _)).symm
      subst er
      have hO := hO.tr hO1
      refine q_if_eq hx hb dX6_shelfNear_29 (tgt := 49) (by decide) (by omega) (fun c14 => ?_) (fun c14 => absurd c14 (by omega))
      refine q_iconst hx hb dX6_shelfNear_49 ?_
      exact q_retMi C0 hret rfl hlk dX6_shelfNear_50 hP hD hS (⟨(by unfold jR_shelfNear; (try unfold bkF); (try unfold bkO); (try unfold shF); (try unfold shO);  (repeat' split) <;> first | omega | (exfalso; omega) | rfl), O, G, MP_eq hC (by unfold jS_shelfNear; (try unfold ltR); (try unfold inR); (try unfold bkF); (try unfold bkO); (try unfold shF); (try unfold shO);  (repeat' split) <;> first | omega | (exfalso; omega) | rfl), rfl, Ext0 hO⟩)
    · replace b_10 := b_10.resolve_right (fun h => c11 h.1)
      refine q_iconst hx hb dX6_shelfNear_21 ?_
      refine lv_goto (tgt := 26) hx hb dX6_shelfNear_22 (by decide) ?_
      refine q_vMi C0 lX6_63 (c_X6_isLet l D y L F _ O G μ (inR xb 0 2) 1 hC (by omega) (by omega)) ⟨rfl, rfl⟩ rfl hP hD hS hA hC.1.1 hC.1.2 rfl rfl rfl hl rfl (Nat.le_of_ble_eq_true rfl) dX6_shelfNear_26 ⟨Nat.le_of_ble_eq_true rfl, Nat.le_of_ble_eq_true rfl⟩ (fun r15 H locs L16 F16 hP hD hS hz16 hp16 => ?_)
      obtain ⟨eL, hC, er, hO1⟩ := hp16
      subst eL
      replace er := er.symm
      subst er
      have hO := hO.tr hO1
      have k_17 := okR_d (inR xb 0 2) 1
      refine q_if_eq hx hb dX6_shelfNear_29 (tgt := 49) (by decide) (by omega) (fun c18 => ?_) (fun c18 => ?_)
      · replace k_17 := k_17.resolve_left (fun h => absurd (h.1.symm.trans c18) (by decide))
        refine q_iconst hx hb dX6_shelfNear_49 ?_
        exact q_retMi C0 hret rfl hlk dX6_shelfNear_50 hP hD hS (⟨(by unfold jR_shelfNear; (try unfold bkF); (try unfold bkO); (try unfold shF); (try unfold shO);  (repeat' split) <;> first | omega | (exfalso; omega) | rfl), O, G, MP_eq hC (by unfold jS_shelfNear; (try unfold ltR); (try unfold inR); (try unfold bkF); (try unfold bkO); (try unfold shF); (try unfold shO);  (repeat' split) <;> first | omega | (exfalso; omega) | rfl), rfl, Ext0 hO⟩)
      · replace k_17 := k_17.resolve_right (fun h => c18 h.1)
        refine lv_aload_n hx hb dX6_shelfNear_32 rfl (lv_at hl 0 rfl) ?_
        refine q_get C0 iX6 hP hC.1.1 hC.1.2 rfl 1 (by decide) flX6_15 rfl (v := .ref ((uas G))) rfl dX6_shelfNear_33 ?_
        refine lv_iload_n hx hb dX6_shelfNear_36 rfl (lv_at hl 1 rfl) ?_
        refine q_aald C0 hP hC.2.2.1.1 hC.2.2.1.2 (t := 3) rfl (by omega) (by decide) (v := .ref ((urh G (vsh μ xb)))) rfl dX6_shelfNear_37 ?_
        refine lv_iload_n hx hb dX6_shelfNear_38 rfl (lv_at hl 2 rfl) ?_
        refine lv_iload_n hx hb dX6_shelfNear_39 rfl (lv_at hl 3 rfl) ?_
        refine q_iconst hx hb dX6_shelfNear_40 ?_
        refine q_bipush hx hb dX6_shelfNear_41 (by decide) ?_
        refine q_vS C0 lX6_124 (c_X5_near l D y L F16 (urh G (vsh μ xb)) (urw G (vsh μ xb)) (vod μ (vsh μ xb)) (vst μ (vsh μ xb)) xk xt 0 99 (MP_r hC (hW.2.1 xb)) (by omega) (by omega) (by omega) (by omega)) ⟨rfl, rfl⟩ rfl hP (MP_r hC (hW.2.1 xb)).1 (MP_r hC (hW.2.1 xb)).2.1 rfl rfl rfl hl rfl (Nat.le_of_ble_eq_true rfl) dX6_shelfNear_43 ⟨Nat.zero_le _, Nat.zero_le _⟩ (fun r19 e_r19 => ?_)
        subst e_r19
        have b_20 := @keyR_b (vod μ (vsh μ xb)) (nearP (vod μ (vsh μ xb)) (vst μ (vsh μ xb)) 0 99 xk xt) (nearP_r (vod μ (vsh μ xb)) (vst μ (vsh μ xb)) 0 99 xk xt)
        refine lv_goto (tgt := 50) hx hb dX6_shelfNear_46 (by decide) ?_
        exact q_retMi C0 hret rfl hlk dX6_shelfNear_50 hP hD hS (⟨(by unfold jR_shelfNear; (try unfold bkF); (try unfold bkO); (try unfold shF); (try unfold shO);  (repeat' split) <;> first | omega | (exfalso; omega) | rfl), O, G, MP_eq hC (by unfold jS_shelfNear; (try unfold ltR); (try unfold inR); (try unfold bkF); (try unfold bkO); (try unfold shF); (try unfold shO);  (repeat' split) <;> first | omega | (exfalso; omega) | rfl), rfl, Ext0 hO⟩)
set_option maxHeartbeats 3000000 in
set_option maxRecDepth 100000 in
theorem c_X6_shelfTell (l : Launch) (D : va_G) (y : Nat → ClassId) (L : List Nat) (F : Nat → va_E) (sz : Nat) (O : Nat → Prop) (G : MG) (μ : MS) (xb : Int) (xt : Int) (hC : MP y L F O G μ) (hW : MW μ) (h_xb : -2147483648 ≤ xb ∧ xb ≤ 2147483647) (h_xt : -2147483648 ≤ xt ∧ xt ≤ 2147483647) : Met l yX6_shelfTell (.code yX6_shelfTell cX6_shelfTell 5 (some .int) :: Tt) ({ frames := 2, cells := 0, slots := 0, locals := 45 }) (PcM D y L F sz [.ref ((ubg G)), .int (iI xb), .int (iI xt)]) (cMi D (AL L sz) (fun r L1 F1 => r = jR_shelfTell μ xb xt ∧ ∃ (O1 : Nat → Prop) (G1 : MG), MP y L1 F1 O1 G1 (jS_shelfTell μ xb xt) ∧ ubg G1 = ubg G ∧ Ext O O1 L L1 F F1)) 0 0 (AL L sz) := by
  have hO : OE O F F := fun _ _ => rfl
  have hw5 := hW.2.2.2.2.2.1
  have hw6 := hW.2.2.2.2.2.2.1
  have hw7 := hW.2.2.2.2.2.2.2.1
  have m1_ := @keyR_m1 (vod μ (vsh μ xb)) (lasP (vst μ (vsh μ xb)) 0 99) (lasP_r _ _ _)
  have m2_ := @keyR_m1 (vod μ (vsh μ xb)) (firP (vst μ (vsh μ xb)) 0 99) (firP_r _ _ _)
  refine q_ofM (lv := [(0, .ref ((ubg G))), (1, .int (iI xb)), (2, .int (iI xt))]) (by decide) (Nat.le_of_ble_eq_true rfl) rfl (fun p e s m below meth c C0 hret hlk hnm hA hP hD hS ls hl => ?_)
  have hx := C0.1.1
  have hb := C0.1.2.1
  have hts := C0.1.2.2.2.2
  refine lv_aload_n hx hb dX6_shelfTell_0 rfl (lv_at hl 0 rfl) ?_
  refine lv_iload_n hx hb dX6_shelfTell_1 rfl (lv_at hl 1 rfl) ?_
  refine q_sS C0 lX6_193 (c_X6_isShelf l D y L F xb (by omega)) ⟨rfl, rfl⟩ rfl hP rfl hl rfl (Nat.le_of_ble_eq_true rfl) dX6_shelfTell_2 ⟨Nat.zero_le _, Nat.zero_le _⟩ (fun r1 e_r1 => ?_)
  subst e_r1
  have b_2 := inR_d xb 0 2
  refine lv_iload_n hx hb dX6_shelfTell_5 rfl (lv_at hl 2 rfl) ?_
  refine q_iconst hx hb dX6_shelfTell_6 ?_
  refine q_iconst hx hb dX6_shelfTell_7 ?_
  refine q_sS C0 lX6_41 (c_X6_isIn l D y L F xt 0 4 (by omega) (by omega) (by omega)) ⟨rfl, rfl⟩ rfl hP rfl hl rfl (Nat.le_of_ble_eq_true rfl) dX6_shelfTell_8 ⟨Nat.zero_le _, Nat.zero_le _⟩ (fun r3 e_r3 => ?_)
  subst e_r3
  have b_4 := inR_d xt 0 4
  refine q_vMi C0 lX6_63 (c_X6_isLet l D y L F _ O G μ (inR xb 0 2) (inR xt 0 4) hC (by omega) (by omega)) ⟨rfl, rfl⟩ rfl hP hD hS hA hC.1.1 hC.1.2 rfl rfl rfl hl rfl (Nat.le_of_ble_eq_true rfl) dX6_shelfTell_11 ⟨Nat.le_of_ble_eq_true rfl, Nat.le_of_ble_eq_true rfl⟩ (fun r5 H locs L6 F6 hP hD hS hz6 hp6 => ?_)
  obtain ⟨eL, hC, er, hO1⟩ := hp6
  subst eL
  replace er := er.symm
  subst er
  have hO := hO.tr hO1
  have k_7 := okR_d (inR xb 0 2) (inR xt 0 4)
  refine q_if_ne hx hb dX6_shelfTell_14 (tgt := 19) (by decide) (by omega) (fun c8 => ?_) (fun c8 => ?_)
  · replace k_7 := k_7.resolve_right (fun h => c8 h.1)
    refine lv_aload_n hx hb dX6_shelfTell_19 rfl (lv_at hl 0 rfl) ?_
    refine q_get C0 iX6 hP hC.1.1 hC.1.2 rfl 1 (by decide) flX6_15 rfl (v := .ref ((uas G))) rfl dX6_shelfTell_20 ?_
    refine lv_iload_n hx hb dX6_shelfTell_23 rfl (lv_at hl 1 rfl) ?_
    refine q_aald C0 hP hC.2.2.1.1 hC.2.2.1.2 (t := 3) rfl (by omega) (by decide) (v := .ref ((urh G (vsh μ xb)))) rfl dX6_shelfTell_24 ?_
    refine lv_astore_n (lv' := [(3, .ref ((urh G (vsh μ xb)))), (0, .ref ((ubg G))), (1, .int (iI xb)), (2, .int (iI xt))]) hx hb dX6_shelfTell_25 rfl hl (by decide) rfl (fun ls hl => ?_)
    refine lv_iload_n hx hb dX6_shelfTell_26 rfl (lv_at hl 3 rfl) ?_
    refine q_iconst hx hb dX6_shelfTell_27 ?_
    refine q_icmp_ge hx hb dX6_shelfTell_28 (tgt := 62) (by decide) (by omega) (by omega) (fun c9 => ?_) (fun c9 => ?_)
    · refine lv_iload_n hx hb dX6_shelfTell_62 rfl (lv_at hl 3 rfl) ?_
      refine q_iconst hx hb dX6_shelfTell_63 ?_
      refine q_icmp_ne hx hb dX6_shelfTell_64 (tgt := 77) (by decide) (by omega) (by omega) (fun c10 => ?_) (fun c10 => ?_)
      · refine lv_aload_n hx hb dX6_shelfTell_77 rfl (lv_at hl 0 rfl) ?_
        refine q_iconst hx hb dX6_shelfTell_78 ?_
        refine q_bipush hx hb dX6_shelfTell_79 (by decide) ?_
        refine q_vS C0 lX6_114 (c_X5_last l D y L F6 (urh G (vsh μ xb)) (urw G (vsh μ xb)) (vod μ (vsh μ xb)) (vst μ (vsh μ xb)) 0 99 (MP_r hC (hW.2.1 xb)) (by omega) (by omega)) ⟨rfl, rfl⟩ rfl hP (MP_r hC (hW.2.1 xb)).1 (MP_r hC (hW.2.1 xb)).2.1 rfl rfl rfl hl rfl (Nat.le_of_ble_eq_true rfl) dX6_shelfTell_81 ⟨Nat.zero_le _, Nat.zero_le _⟩ (fun r11 e_r11 => ?_)
        subst e_r11
        have b_12 := @keyR_b (vod μ (vsh μ xb)) (lasP (vst μ (vsh μ xb)) 0 99) (lasP_r (vst μ (vsh μ xb)) 0 99)
        refine lv_istore (lv' := [(4, .int (iI ((keyR (vod μ (vsh μ xb)) (lasP (vst μ (vsh μ xb)) 0 99))))), (3, .ref ((urh G (vsh μ xb)))), (0, .ref ((ubg G))), (1, .int (iI xb)), (2, .int (iI xt))]) hx hb dX6_shelfTell_84 hl (by decide) rfl (fun ls hl => ?_)
        refine lv_iload hx hb dX6_shelfTell_86 (lv_at hl 0 rfl) ?_
        refine q_iconst hx hb dX6_shelfTell_88 ?_
        refine q_icmp_ne hx hb dX6_shelfTell_89 (tgt := 99) (by decide) (by omega) (by omega) (fun c13 => ?_) (fun c13 => ?_)
        · refine lv_iload hx hb dX6_shelfTell_99 (lv_at hl 0 rfl) ?_
          exact q_retMi C0 hret rfl hlk dX6_shelfTell_101 hP hD hS (⟨(by unfold jR_shelfTell; (try unfold bkF); (try unfold bkO); (try unfold shF); (try unfold shO); (try unfold endP); (repeat' split) <;> first | omega | (exfalso; omega) | rfl), O, G, MP_eq hC (by unfold jS_shelfTell; (try unfold ltR); (try unfold inR); (try unfold bkF); (try unfold bkO); (try unfold shF); (try unfold shO); (try unfold endP); (repeat' split) <;> first | omega | (exfalso; omega) | rfl), rfl, Ext0 hO⟩)
        · refine lv_aload_n hx hb dX6_shelfTell_92 rfl (lv_at hl 2 rfl) ?_
          refine q_vMi C0 lX6_89 (c_X6_refuse l D y L F6 _ O G (tTh μ (ltR (inR xb 0 2) (inR xt 0 4))) hC) ⟨rfl, rfl⟩ rfl hP hD hS hA hC.1.1 hC.1.2 rfl rfl rfl hl rfl (Nat.le_of_ble_eq_true rfl) dX6_shelfTell_93 ⟨Nat.le_of_ble_eq_true rfl, Nat.le_of_ble_eq_true rfl⟩ (fun r14 H locs L15 F15 hP hD hS hz15 hp15 => ?_)
          obtain ⟨eL, hC, er, hO1⟩ := hp15
          subst eL
          replace er : (-9) = r14 := er.symm
          subst er
          have hO := hO.tr hO1
          refine lv_goto (tgt := 101) hx hb dX6_shelfTell_96 (by decide) ?_
          exact q_retMi C0 hret rfl hlk dX6_shelfTell_101 hP hD hS (⟨(by unfold jR_shelfTell; (try unfold bkF); (try unfold bkO); (try unfold shF); (try unfold shO); (try unfold endP); (repeat' split) <;> first | omega | (exfalso; omega) | rfl), O, G, MP_eq hC (by unfold jS_shelfTell; (try unfold ltR); (try unfold inR); (try unfold bkF); (try unfold bkO); (try unfold shF); (try unfold shO); (try unfold endP); (repeat' split) <;> first | omega | (exfalso; omega) | rfl), rfl, Ext0 hO⟩)
      · refine lv_aload_n hx hb dX6_shelfTell_67 rfl (lv_at hl 0 rfl) ?_
        refine q_iconst hx hb dX6_shelfTell_68 ?_
        refine q_bipush hx hb dX6_shelfTell_69 (by decide) ?_
        refine q_vS C0 lX6_111 (c_X5_first l D y L F6 (urh G (vsh μ xb)) (urw G (vsh μ xb)) (vod μ (vsh μ xb)) (vst μ (vsh μ xb)) 0 99 (MP_r hC (hW.2.1 xb)) (by omega) (by omega)) ⟨rfl, rfl⟩ rfl hP (MP_r hC (hW.2.1 xb)).1 (MP_r hC (hW.2.1 xb)).2.1 rfl rfl rfl hl rfl (Nat.le_of_ble_eq_true rfl) dX6_shelfTell_71 ⟨Nat.zero_le _, Nat.zero_le _⟩ (fun r16 e_r16 => ?_)
        subst e_r16
        have b_17 := @keyR_b (vod μ (vsh μ xb)) (firP (vst μ (vsh μ xb)) 0 99) (firP_r (vst μ (vsh μ xb)) 0 99)
        refine lv_goto (tgt := 84) hx hb dX6_shelfTell_74 (by decide) ?_
        refine lv_istore (lv' := [(4, .int (iI ((keyR (vod μ (vsh μ xb)) (firP (vst μ (vsh μ xb)) 0 99))))), (3, .ref ((urh G (vsh μ xb)))), (0, .ref ((ubg G))), (1, .int (iI xb)), (2, .int (iI xt))]) hx hb dX6_shelfTell_84 hl (by decide) rfl (fun ls hl => ?_)
        refine lv_iload hx hb dX6_shelfTell_86 (lv_at hl 0 rfl) ?_
        refine q_iconst hx hb dX6_shelfTell_88 ?_
        refine q_icmp_ne hx hb dX6_shelfTell_89 (tgt := 99) (by decide) (by omega) (by omega) (fun c18 => ?_) (fun c18 => ?_)
        · refine lv_iload hx hb dX6_shelfTell_99 (lv_at hl 0 rfl) ?_
          exact q_retMi C0 hret rfl hlk dX6_shelfTell_101 hP hD hS (⟨(by unfold jR_shelfTell; (try unfold bkF); (try unfold bkO); (try unfold shF); (try unfold shO); (try unfold endP); (repeat' split) <;> first | omega | (exfalso; omega) | rfl), O, G, MP_eq hC (by unfold jS_shelfTell; (try unfold ltR); (try unfold inR); (try unfold bkF); (try unfold bkO); (try unfold shF); (try unfold shO); (try unfold endP); (repeat' split) <;> first | omega | (exfalso; omega) | rfl), rfl, Ext0 hO⟩)
        · refine lv_aload_n hx hb dX6_shelfTell_92 rfl (lv_at hl 2 rfl) ?_
          refine q_vMi C0 lX6_89 (c_X6_refuse l D y L F6 _ O G (tTh μ (ltR (inR xb 0 2) (inR xt 0 4))) hC) ⟨rfl, rfl⟩ rfl hP hD hS hA hC.1.1 hC.1.2 rfl rfl rfl hl rfl (Nat.le_of_ble_eq_true rfl) dX6_shelfTell_93 ⟨Nat.le_of_ble_eq_true rfl, Nat.le_of_ble_eq_true rfl⟩ (fun r19 H locs L20 F20 hP hD hS hz20 hp20 => ?_)
          obtain ⟨eL, hC, er, hO1⟩ := hp20
          subst eL
          replace er : (-9) = r19 := er.symm
          subst er
          have hO := hO.tr hO1
          refine lv_goto (tgt := 101) hx hb dX6_shelfTell_96 (by decide) ?_
          exact q_retMi C0 hret rfl hlk dX6_shelfTell_101 hP hD hS (⟨(by unfold jR_shelfTell; (try unfold bkF); (try unfold bkO); (try unfold shF); (try unfold shO); (try unfold endP); (repeat' split) <;> first | omega | (exfalso; omega) | rfl), O, G, MP_eq hC (by unfold jS_shelfTell; (try unfold ltR); (try unfold inR); (try unfold bkF); (try unfold bkO); (try unfold shF); (try unfold shO); (try unfold endP); (repeat' split) <;> first | omega | (exfalso; omega) | rfl), rfl, Ext0 hO⟩)
    · refine lv_iload_n hx hb dX6_shelfTell_31 rfl (lv_at hl 3 rfl) ?_
      refine q_if_ne hx hb dX6_shelfTell_32 (tgt := 45) (by decide) (by omega) (fun c21 => ?_) (fun c21 => ?_)
      · refine lv_iload_n hx hb dX6_shelfTell_45 rfl (lv_at hl 3 rfl) ?_
        refine q_iconst hx hb dX6_shelfTell_46 ?_
        refine q_icmp_ne hx hb dX6_shelfTell_47 (tgt := 57) (by decide) (by omega) (by omega) (fun c22 => ?_) (fun c22 => ?_)
        · refine lv_aload_n hx hb dX6_shelfTell_57 rfl (lv_at hl 0 rfl) ?_
          refine q_sS C0 lX6_200 (c_X6_sum_ l D y L F6 (urh G (vsh μ xb)) (urw G (vsh μ xb)) (vod μ (vsh μ xb)) (vst μ (vsh μ xb)) (MP_r hC (hW.2.1 xb))) ⟨rfl, rfl⟩ rfl hP rfl hl rfl (Nat.le_of_ble_eq_true rfl) dX6_shelfTell_58 ⟨Nat.zero_le _, Nat.zero_le _⟩ (fun r23 e_r23 => ?_)
          subst e_r23
          exact q_retMi C0 hret rfl hlk dX6_shelfTell_61 hP hD hS (⟨(by unfold jR_shelfTell; (try unfold bkF); (try unfold bkO); (try unfold shF); (try unfold shO); (try unfold endP); (repeat' split) <;> first | omega | (exfalso; omega) | rfl), O, G, MP_eq hC (by unfold jS_shelfTell; (try unfold ltR); (try unfold inR); (try unfold bkF); (try unfold bkO); (try unfold shF); (try unfold shO); (try unfold endP); (repeat' split) <;> first | omega | (exfalso; omega) | rfl), rfl, Ext0 hO⟩)
        · refine lv_aload_n hx hb dX6_shelfTell_50 rfl (lv_at hl 0 rfl) ?_
          refine q_getN C0 iX5 hP (MP_r hC (hW.2.1 xb)).1 (MP_r hC (hW.2.1 xb)).2.1 rfl 0 (by decide) C0.2.2.2.2.2.2.2.1 rfl (v := .int (iI ((vod μ (vsh μ xb))))) rfl dX6_shelfTell_51 ?_
          refine lv_goto (tgt := 61) hx hb dX6_shelfTell_54 (by decide) ?_
          exact q_retMi C0 hret rfl hlk dX6_shelfTell_61 hP hD hS (⟨(by unfold jR_shelfTell; (try unfold bkF); (try unfold bkO); (try unfold shF); (try unfold shO); (try unfold endP); (repeat' split) <;> first | omega | (exfalso; omega) | rfl), O, G, MP_eq hC (by unfold jS_shelfTell; (try unfold ltR); (try unfold inR); (try unfold bkF); (try unfold bkO); (try unfold shF); (try unfold shO); (try unfold endP); (repeat' split) <;> first | omega | (exfalso; omega) | rfl), rfl, Ext0 hO⟩)
      · refine lv_aload_n hx hb dX6_shelfTell_35 rfl (lv_at hl 0 rfl) ?_
        refine q_iconst hx hb dX6_shelfTell_36 ?_
        refine q_bipush hx hb dX6_shelfTell_37 (by decide) ?_
        refine q_vS C0 lX6_67 (c_X5_many l D y L F6 (urh G (vsh μ xb)) (urw G (vsh μ xb)) (vod μ (vsh μ xb)) (vst μ (vsh μ xb)) 0 99 (MP_r hC (hW.2.1 xb)) (by omega) (by omega)) ⟨rfl, rfl⟩ rfl hP (MP_r hC (hW.2.1 xb)).1 (MP_r hC (hW.2.1 xb)).2.1 rfl rfl rfl hl rfl (Nat.le_of_ble_eq_true rfl) dX6_shelfTell_39 ⟨Nat.zero_le _, Nat.zero_le _⟩ (fun r24 e_r24 => ?_)
        subst e_r24
        refine lv_goto (tgt := 61) hx hb dX6_shelfTell_42 (by decide) ?_
        exact q_retMi C0 hret rfl hlk dX6_shelfTell_61 hP hD hS (⟨(by unfold jR_shelfTell; (try unfold bkF); (try unfold bkO); (try unfold shF); (try unfold shO); (try unfold endP); (repeat' split) <;> first | omega | (exfalso; omega) | rfl), O, G, MP_eq hC (by unfold jS_shelfTell; (try unfold ltR); (try unfold inR); (try unfold bkF); (try unfold bkO); (try unfold shF); (try unfold shO); (try unfold endP); (repeat' split) <;> first | omega | (exfalso; omega) | rfl), rfl, Ext0 hO⟩)
  · replace k_7 := k_7.resolve_left (fun h => absurd (h.1.symm.trans c8) (by decide))
    refine q_iconst hx hb dX6_shelfTell_17 ?_
    exact q_retMi C0 hret rfl hlk dX6_shelfTell_18 hP hD hS (⟨(by unfold jR_shelfTell; (try unfold bkF); (try unfold bkO); (try unfold shF); (try unfold shO); (try unfold endP); (repeat' split) <;> first | omega | (exfalso; omega) | rfl), O, G, MP_eq hC (by unfold jS_shelfTell; (try unfold ltR); (try unfold inR); (try unfold bkF); (try unfold bkO); (try unfold shF); (try unfold shO); (try unfold endP); (repeat' split) <;> first | omega | (exfalso; omega) | rfl), rfl, Ext0 hO⟩)
set_option maxHeartbeats 3000000 in
set_option maxRecDepth 100000 in
theorem c_X6_viewTell (l : Launch) (D : va_G) (y : Nat → ClassId) (L : List Nat) (F : Nat → va_E) (sz : Nat) (O : Nat → Prop) (G : MG) (μ : MS) (xv : Int) (xt : Int) (hC : MP y L F O G μ) (hW : MW μ) (h_xv : -2147483648 ≤ xv ∧ xv ≤ 2147483647) (h_xt : -2147483648 ≤ xt ∧ xt ≤ 2147483647) : Met l yX6_viewTell (.code yX6_viewTell cX6_viewTell 4 (some .int) :: Tt) ({ frames := 3, cells := 0, slots := 0, locals := 66 }) (PcM D y L F sz [.ref ((ubg G)), .int (iI xv), .int (iI xt)]) (cMi D (AL L sz) (fun r L1 F1 => r = jR_viewTell μ xv xt ∧ ∃ (O1 : Nat → Prop) (G1 : MG), MP y L1 F1 O1 G1 (jS_viewTell μ xv xt) ∧ ubg G1 = ubg G ∧ Ext O O1 L L1 F F1)) 0 0 (AL L sz) := by
  have hO : OE O F F := fun _ _ => rfl
  have hw5 := hW.2.2.2.2.2.1
  have hw6 := hW.2.2.2.2.2.2.1
  have hw7 := hW.2.2.2.2.2.2.2.1
  have vb_ := hW.2.2.2.2.1 xv
  have m1_ := @keyR_m1 (vod μ (vvw μ xv)) (lasP (vst μ (vvw μ xv)) (vvl μ xv) (vvh μ xv)) (lasP_r _ _ _)
  have m2_ := @keyR_m1 (vod μ (vvw μ xv)) (firP (vst μ (vvw μ xv)) (vvl μ xv) (vvh μ xv)) (firP_r _ _ _)
  refine q_ofM (lv := [(0, .ref ((ubg G))), (1, .int (iI xv)), (2, .int (iI xt))]) (by decide) (Nat.le_of_ble_eq_true rfl) rfl (fun p e s m below meth c C0 hret hlk hnm hA hP hD hS ls hl => ?_)
  have hx := C0.1.1
  have hb := C0.1.2.1
  have hts := C0.1.2.2.2.2
  refine lv_aload_n hx hb dX6_viewTell_0 rfl (lv_at hl 0 rfl) ?_
  refine lv_iload_n hx hb dX6_viewTell_1 rfl (lv_at hl 1 rfl) ?_
  refine q_sS C0 lX6_168 (c_X6_isView l D y L F xv (by omega)) ⟨rfl, rfl⟩ rfl hP rfl hl rfl (Nat.le_of_ble_eq_true rfl) dX6_viewTell_2 ⟨Nat.zero_le _, Nat.zero_le _⟩ (fun r1 e_r1 => ?_)
  subst e_r1
  have b_2 := inR_d xv 0 1
  refine lv_iload_n hx hb dX6_viewTell_5 rfl (lv_at hl 2 rfl) ?_
  refine q_iconst hx hb dX6_viewTell_6 ?_
  refine q_iconst hx hb dX6_viewTell_7 ?_
  refine q_sS C0 lX6_41 (c_X6_isIn l D y L F xt 0 3 (by omega) (by omega) (by omega)) ⟨rfl, rfl⟩ rfl hP rfl hl rfl (Nat.le_of_ble_eq_true rfl) dX6_viewTell_8 ⟨Nat.zero_le _, Nat.zero_le _⟩ (fun r3 e_r3 => ?_)
  subst e_r3
  have b_4 := inR_d xt 0 3
  refine q_vMi C0 lX6_63 (c_X6_isLet l D y L F _ O G μ (inR xv 0 1) (inR xt 0 3) hC (by omega) (by omega)) ⟨rfl, rfl⟩ rfl hP hD hS hA hC.1.1 hC.1.2 rfl rfl rfl hl rfl (Nat.le_of_ble_eq_true rfl) dX6_viewTell_11 ⟨Nat.le_of_ble_eq_true rfl, Nat.le_of_ble_eq_true rfl⟩ (fun r5 H locs L6 F6 hP hD hS hz6 hp6 => ?_)
  obtain ⟨eL, hC, er, hO1⟩ := hp6
  subst eL
  replace er := er.symm
  subst er
  have hO := hO.tr hO1
  have k_7 := okR_d (inR xv 0 1) (inR xt 0 3)
  refine q_if_ne hx hb dX6_viewTell_14 (tgt := 19) (by decide) (by omega) (fun c8 => ?_) (fun c8 => ?_)
  · replace k_7 := k_7.resolve_right (fun h => c8 h.1)
    refine lv_iload_n hx hb dX6_viewTell_19 rfl (lv_at hl 2 rfl) ?_
    refine q_if_eq hx hb dX6_viewTell_20 (tgt := 28) (by decide) (by omega) (fun c9 => ?_) (fun c9 => ?_)
    · refine lv_iload_n hx hb dX6_viewTell_28 rfl (lv_at hl 2 rfl) ?_
      refine q_if_ne hx hb dX6_viewTell_29 (tgt := 40) (by decide) (by omega) (fun c10 => absurd c10 (by omega)) (fun c10 => ?_)
      refine lv_aload_n hx hb dX6_viewTell_32 rfl (lv_at hl 0 rfl) ?_
      refine lv_iload_n hx hb dX6_viewTell_33 rfl (lv_at hl 1 rfl) ?_
      refine q_vS C0 lX6_171 (c_X6_seen l D y L F6 O G (tTh μ (ltR (inR xv 0 1) (inR xt 0 3))) xv hC (by omega) (hW.2.2.1 xv) ⟨(hW.2.2.2.2.1 xv).1, (hW.2.2.2.2.1 xv).2.1⟩ (hW.2.2.2.2.1 xv).2.2) ⟨rfl, rfl⟩ rfl hP hC.1.1 hC.1.2 rfl rfl rfl hl rfl (Nat.le_of_ble_eq_true rfl) dX6_viewTell_34 ⟨Nat.zero_le _, Nat.zero_le _⟩ (fun r11 e_r11 => ?_)
      replace e_r11 : r11 = cntP (vst μ (vvw μ xv)) (vvl μ xv) (vvh μ xv) := e_r11.trans (by first | rfl | (rw [show vvw (tTh μ (ltR (inR xv 0 1) (inR xt 0 3))) xv = vvw μ xv from (by first | rfl | exact iu_s _ _ _), show vvl (tTh μ (ltR (inR xv 0 1) (inR xt 0 3))) xv = vvl μ xv from (by first | rfl | exact iu_s _ _ _), show vvh (tTh μ (ltR (inR xv 0 1) (inR xt 0 3))) xv = vvh μ xv from (by first | rfl | exact iu_s _ _ _)]; done) | (rw [show vvw (tTh μ (ltR (inR xv 0 1) (inR xt 0 3))) xv = vvw μ xv from (by first | rfl | exact iu_s _ _ _), show vvl (tTh μ (ltR (inR xv 0 1) (inR xt 0 3))) xv = vvl μ xv from (by first | rfl | exact iu_s _ _ _), show vvh (tTh μ (ltR (inR xv 0 1) (inR xt 0 3))) xv = vvh μ xv from (by first | rfl | exact iu_s _ _ _)]; rfl))
      subst e_r11
      refine lv_goto (tgt := 45) hx hb dX6_viewTell_37 (by decide) ?_
      exact q_retMi C0 hret rfl hlk dX6_viewTell_45 hP hD hS (⟨(by unfold jR_viewTell; (try unfold bkF); (try unfold bkO); (try unfold shF); (try unfold shO); (try unfold endP); (repeat' split) <;> first | omega | (exfalso; omega) | rfl), O, G, MP_eq hC (by unfold jS_viewTell; (try unfold ltR); (try unfold inR); (try unfold bkF); (try unfold bkO); (try unfold shF); (try unfold shO); (try unfold endP); (repeat' split) <;> first | omega | (exfalso; omega) | rfl), rfl, Ext0 hO⟩)
    · refine lv_iload_n hx hb dX6_viewTell_23 rfl (lv_at hl 2 rfl) ?_
      refine q_iconst hx hb dX6_viewTell_24 ?_
      refine q_icmp_ne hx hb dX6_viewTell_25 (tgt := 46) (by decide) (by omega) (by omega) (fun c12 => ?_) (fun c12 => ?_)
      · refine lv_iload_n hx hb dX6_viewTell_46 rfl (lv_at hl 2 rfl) ?_
        refine q_iconst hx hb dX6_viewTell_47 ?_
        refine q_icmp_ne hx hb dX6_viewTell_48 (tgt := 75) (by decide) (by omega) (by omega) (fun c13 => ?_) (fun c13 => ?_)
        · refine lv_aload_n hx hb dX6_viewTell_75 rfl (lv_at hl 0 rfl) ?_
          refine q_get C0 iX6 hP hC.1.1 hC.1.2 rfl 2 (by decide) flX6_18 rfl (v := .ref ((uav G))) rfl dX6_viewTell_76 ?_
          refine lv_iload_n hx hb dX6_viewTell_79 rfl (lv_at hl 1 rfl) ?_
          refine q_aald C0 hP hC.2.2.2.1.1 hC.2.2.2.1.2 (t := 3) rfl (by omega) (by decide) (v := .ref ((urh G (vvw μ xv)))) rfl dX6_viewTell_80 ?_
          refine lv_aload_n hx hb dX6_viewTell_81 rfl (lv_at hl 0 rfl) ?_
          refine q_get C0 iX6 hP hC.1.1 hC.1.2 rfl 3 (by decide) flX6_21 rfl (v := .ref ((uaf G))) rfl dX6_viewTell_82 ?_
          refine lv_iload_n hx hb dX6_viewTell_85 rfl (lv_at hl 1 rfl) ?_
          refine q_iald C0 hP (f := (vvl μ)) hC.2.2.2.2.1.1 hC.2.2.2.2.1.2 (by omega) (by decide) dX6_viewTell_86 ?_
          refine lv_aload_n hx hb dX6_viewTell_87 rfl (lv_at hl 0 rfl) ?_
          refine q_get C0 iX6 hP hC.1.1 hC.1.2 rfl 4 (by decide) flX6_25 rfl (v := .ref ((uat G))) rfl dX6_viewTell_88 ?_
          refine lv_iload_n hx hb dX6_viewTell_91 rfl (lv_at hl 1 rfl) ?_
          refine q_iald C0 hP (f := (vvh μ)) hC.2.2.2.2.2.1.1 hC.2.2.2.2.2.1.2 (by omega) (by decide) dX6_viewTell_92 ?_
          refine q_vS C0 lX6_114 (c_X5_last l D y L F6 (urh G (vvw μ xv)) (urw G (vvw μ xv)) (vod μ (vvw μ xv)) (vst μ (vvw μ xv)) ((vvl μ) xv) ((vvh μ) xv) (MP_r hC (hW.2.2.1 xv)) (by omega) (by omega)) ⟨rfl, rfl⟩ rfl hP (MP_r hC (hW.2.2.1 xv)).1 (MP_r hC (hW.2.2.1 xv)).2.1 rfl rfl rfl hl rfl (Nat.le_of_ble_eq_true rfl) dX6_viewTell_93 ⟨Nat.zero_le _, Nat.zero_le _⟩ (fun r14 e_r14 => ?_)
          subst e_r14
          have b_15 := @keyR_b (vod μ (vvw μ xv)) (lasP (vst μ (vvw μ xv)) ((vvl μ) xv) ((vvh μ) xv)) (lasP_r (vst μ (vvw μ xv)) ((vvl μ) xv) ((vvh μ) xv))
          refine lv_istore_n (lv' := [(3, .int (iI ((keyR (vod μ (vvw μ xv)) (lasP (vst μ (vvw μ xv)) ((vvl μ) xv) ((vvh μ) xv)))))), (0, .ref ((ubg G))), (1, .int (iI xv)), (2, .int (iI xt))]) hx hb dX6_viewTell_96 rfl hl (by decide) rfl (fun ls hl => ?_)
          refine lv_iload_n hx hb dX6_viewTell_97 rfl (lv_at hl 0 rfl) ?_
          refine q_iconst hx hb dX6_viewTell_98 ?_
          refine q_icmp_ne hx hb dX6_viewTell_99 (tgt := 109) (by decide) (by omega) (by omega) (fun c16 => ?_) (fun c16 => ?_)
          · refine lv_iload_n hx hb dX6_viewTell_109 rfl (lv_at hl 0 rfl) ?_
            exact q_retMi C0 hret rfl hlk dX6_viewTell_110 hP hD hS (⟨(by unfold jR_viewTell; (try unfold bkF); (try unfold bkO); (try unfold shF); (try unfold shO); (try unfold endP); (repeat' split) <;> first | omega | (exfalso; omega) | rfl), O, G, MP_eq hC (by unfold jS_viewTell; (try unfold ltR); (try unfold inR); (try unfold bkF); (try unfold bkO); (try unfold shF); (try unfold shO); (try unfold endP); (repeat' split) <;> first | omega | (exfalso; omega) | rfl), rfl, Ext0 hO⟩)
          · refine lv_aload_n hx hb dX6_viewTell_102 rfl (lv_at hl 1 rfl) ?_
            refine q_vMi C0 lX6_89 (c_X6_refuse l D y L F6 _ O G (tTh μ (ltR (inR xv 0 1) (inR xt 0 3))) hC) ⟨rfl, rfl⟩ rfl hP hD hS hA hC.1.1 hC.1.2 rfl rfl rfl hl rfl (Nat.le_of_ble_eq_true rfl) dX6_viewTell_103 ⟨Nat.le_of_ble_eq_true rfl, Nat.le_of_ble_eq_true rfl⟩ (fun r17 H locs L18 F18 hP hD hS hz18 hp18 => ?_)
            obtain ⟨eL, hC, er, hO1⟩ := hp18
            subst eL
            replace er : (-9) = r17 := er.symm
            subst er
            have hO := hO.tr hO1
            refine lv_goto (tgt := 110) hx hb dX6_viewTell_106 (by decide) ?_
            exact q_retMi C0 hret rfl hlk dX6_viewTell_110 hP hD hS (⟨(by unfold jR_viewTell; (try unfold bkF); (try unfold bkO); (try unfold shF); (try unfold shO); (try unfold endP); (repeat' split) <;> first | omega | (exfalso; omega) | rfl), O, G, MP_eq hC (by unfold jS_viewTell; (try unfold ltR); (try unfold inR); (try unfold bkF); (try unfold bkO); (try unfold shF); (try unfold shO); (try unfold endP); (repeat' split) <;> first | omega | (exfalso; omega) | rfl), rfl, Ext0 hO⟩)
        · refine lv_aload_n hx hb dX6_viewTell_51 rfl (lv_at hl 0 rfl) ?_
          refine q_get C0 iX6 hP hC.1.1 hC.1.2 rfl 2 (by decide) flX6_18 rfl (v := .ref ((uav G))) rfl dX6_viewTell_52 ?_
          refine lv_iload_n hx hb dX6_viewTell_55 rfl (lv_at hl 1 rfl) ?_
          refine q_aald C0 hP hC.2.2.2.1.1 hC.2.2.2.1.2 (t := 3) rfl (by omega) (by decide) (v := .ref ((urh G (vvw μ xv)))) rfl dX6_viewTell_56 ?_
          refine lv_aload_n hx hb dX6_viewTell_57 rfl (lv_at hl 0 rfl) ?_
          refine q_get C0 iX6 hP hC.1.1 hC.1.2 rfl 3 (by decide) flX6_21 rfl (v := .ref ((uaf G))) rfl dX6_viewTell_58 ?_
          refine lv_iload_n hx hb dX6_viewTell_61 rfl (lv_at hl 1 rfl) ?_
          refine q_iald C0 hP (f := (vvl μ)) hC.2.2.2.2.1.1 hC.2.2.2.2.1.2 (by omega) (by decide) dX6_viewTell_62 ?_
          refine lv_aload_n hx hb dX6_viewTell_63 rfl (lv_at hl 0 rfl) ?_
          refine q_get C0 iX6 hP hC.1.1 hC.1.2 rfl 4 (by decide) flX6_25 rfl (v := .ref ((uat G))) rfl dX6_viewTell_64 ?_
          refine lv_iload_n hx hb dX6_viewTell_67 rfl (lv_at hl 1 rfl) ?_
          refine q_iald C0 hP (f := (vvh μ)) hC.2.2.2.2.2.1.1 hC.2.2.2.2.2.1.2 (by omega) (by decide) dX6_viewTell_68 ?_
          refine q_vS C0 lX6_111 (c_X5_first l D y L F6 (urh G (vvw μ xv)) (urw G (vvw μ xv)) (vod μ (vvw μ xv)) (vst μ (vvw μ xv)) ((vvl μ) xv) ((vvh μ) xv) (MP_r hC (hW.2.2.1 xv)) (by omega) (by omega)) ⟨rfl, rfl⟩ rfl hP (MP_r hC (hW.2.2.1 xv)).1 (MP_r hC (hW.2.2.1 xv)).2.1 rfl rfl rfl hl rfl (Nat.le_of_ble_eq_true rfl) dX6_viewTell_69 ⟨Nat.zero_le _, Nat.zero_le _⟩ (fun r19 e_r19 => ?_)
          subst e_r19
          have b_20 := @keyR_b (vod μ (vvw μ xv)) (firP (vst μ (vvw μ xv)) ((vvl μ) xv) ((vvh μ) xv)) (firP_r (vst μ (vvw μ xv)) ((vvl μ) xv) ((vvh μ) xv))
          refine lv_goto (tgt := 96) hx hb dX6_viewTell_72 (by decide) ?_
          refine lv_istore_n (lv' := [(3, .int (iI ((keyR (vod μ (vvw μ xv)) (firP (vst μ (vvw μ xv)) ((vvl μ) xv) ((vvh μ) xv)))))), (0, .ref ((ubg G))), (1, .int (iI xv)), (2, .int (iI xt))]) hx hb dX6_viewTell_96 rfl hl (by decide) rfl (fun ls hl => ?_)
          refine lv_iload_n hx hb dX6_viewTell_97 rfl (lv_at hl 0 rfl) ?_
          refine q_iconst hx hb dX6_viewTell_98 ?_
          refine q_icmp_ne hx hb dX6_viewTell_99 (tgt := 109) (by decide) (by omega) (by omega) (fun c21 => ?_) (fun c21 => ?_)
          · refine lv_iload_n hx hb dX6_viewTell_109 rfl (lv_at hl 0 rfl) ?_
            exact q_retMi C0 hret rfl hlk dX6_viewTell_110 hP hD hS (⟨(by unfold jR_viewTell; (try unfold bkF); (try unfold bkO); (try unfold shF); (try unfold shO); (try unfold endP); (repeat' split) <;> first | omega | (exfalso; omega) | rfl), O, G, MP_eq hC (by unfold jS_viewTell; (try unfold ltR); (try unfold inR); (try unfold bkF); (try unfold bkO); (try unfold shF); (try unfold shO); (try unfold endP); (repeat' split) <;> first | omega | (exfalso; omega) | rfl), rfl, Ext0 hO⟩)
          · refine lv_aload_n hx hb dX6_viewTell_102 rfl (lv_at hl 1 rfl) ?_
            refine q_vMi C0 lX6_89 (c_X6_refuse l D y L F6 _ O G (tTh μ (ltR (inR xv 0 1) (inR xt 0 3))) hC) ⟨rfl, rfl⟩ rfl hP hD hS hA hC.1.1 hC.1.2 rfl rfl rfl hl rfl (Nat.le_of_ble_eq_true rfl) dX6_viewTell_103 ⟨Nat.le_of_ble_eq_true rfl, Nat.le_of_ble_eq_true rfl⟩ (fun r22 H locs L23 F23 hP hD hS hz23 hp23 => ?_)
            obtain ⟨eL, hC, er, hO1⟩ := hp23
            subst eL
            replace er : (-9) = r22 := er.symm
            subst er
            have hO := hO.tr hO1
            refine lv_goto (tgt := 110) hx hb dX6_viewTell_106 (by decide) ?_
            exact q_retMi C0 hret rfl hlk dX6_viewTell_110 hP hD hS (⟨(by unfold jR_viewTell; (try unfold bkF); (try unfold bkO); (try unfold shF); (try unfold shO); (try unfold endP); (repeat' split) <;> first | omega | (exfalso; omega) | rfl), O, G, MP_eq hC (by unfold jS_viewTell; (try unfold ltR); (try unfold inR); (try unfold bkF); (try unfold bkO); (try unfold shF); (try unfold shO); (try unfold endP); (repeat' split) <;> first | omega | (exfalso; omega) | rfl), rfl, Ext0 hO⟩)
      · refine lv_iload_n hx hb dX6_viewTell_28 rfl (lv_at hl 2 rfl) ?_
        refine q_if_ne hx hb dX6_viewTell_29 (tgt := 40) (by decide) (by omega) (fun c24 => ?_) (fun c24 => absurd c24 (by omega))
        refine lv_aload_n hx hb dX6_viewTell_40 rfl (lv_at hl 0 rfl) ?_
        refine lv_iload_n hx hb dX6_viewTell_41 rfl (lv_at hl 1 rfl) ?_
        refine q_vS C0 lX6_183 (c_X6_sum l D y L F6 O G (tTh μ (ltR (inR xv 0 1) (inR xt 0 3))) xv hC (by omega) (hW.2.2.1 xv) ⟨(hW.2.2.2.2.1 xv).1, (hW.2.2.2.2.1 xv).2.1⟩ (hW.2.2.2.2.1 xv).2.2) ⟨rfl, rfl⟩ rfl hP hC.1.1 hC.1.2 rfl rfl rfl hl rfl (Nat.le_of_ble_eq_true rfl) dX6_viewTell_42 ⟨Nat.zero_le _, Nat.zero_le _⟩ (fun r25 e_r25 => ?_)
        replace e_r25 : r25 = sumP (wmU (vst μ (vvw μ xv))) (vvl μ xv) (vvh μ xv) := e_r25.trans (by first | rfl | (rw [show vvw (tTh μ (ltR (inR xv 0 1) (inR xt 0 3))) xv = vvw μ xv from (by first | rfl | exact iu_s _ _ _), show vvl (tTh μ (ltR (inR xv 0 1) (inR xt 0 3))) xv = vvl μ xv from (by first | rfl | exact iu_s _ _ _), show vvh (tTh μ (ltR (inR xv 0 1) (inR xt 0 3))) xv = vvh μ xv from (by first | rfl | exact iu_s _ _ _)]; done) | (rw [show vvw (tTh μ (ltR (inR xv 0 1) (inR xt 0 3))) xv = vvw μ xv from (by first | rfl | exact iu_s _ _ _), show vvl (tTh μ (ltR (inR xv 0 1) (inR xt 0 3))) xv = vvl μ xv from (by first | rfl | exact iu_s _ _ _), show vvh (tTh μ (ltR (inR xv 0 1) (inR xt 0 3))) xv = vvh μ xv from (by first | rfl | exact iu_s _ _ _)]; rfl))
        subst e_r25
        exact q_retMi C0 hret rfl hlk dX6_viewTell_45 hP hD hS (⟨(by unfold jR_viewTell; (try unfold bkF); (try unfold bkO); (try unfold shF); (try unfold shO); (try unfold endP); (repeat' split) <;> first | omega | (exfalso; omega) | rfl), O, G, MP_eq hC (by unfold jS_viewTell; (try unfold ltR); (try unfold inR); (try unfold bkF); (try unfold bkO); (try unfold shF); (try unfold shO); (try unfold endP); (repeat' split) <;> first | omega | (exfalso; omega) | rfl), rfl, Ext0 hO⟩)
  · replace k_7 := k_7.resolve_left (fun h => absurd (h.1.symm.trans c8) (by decide))
    refine q_iconst hx hb dX6_viewTell_17 ?_
    exact q_retMi C0 hret rfl hlk dX6_viewTell_18 hP hD hS (⟨(by unfold jR_viewTell; (try unfold bkF); (try unfold bkO); (try unfold shF); (try unfold shO); (try unfold endP); (repeat' split) <;> first | omega | (exfalso; omega) | rfl), O, G, MP_eq hC (by unfold jS_viewTell; (try unfold ltR); (try unfold inR); (try unfold bkF); (try unfold bkO); (try unfold shF); (try unfold shO); (try unfold endP); (repeat' split) <;> first | omega | (exfalso; omega) | rfl), rfl, Ext0 hO⟩)
set_option maxHeartbeats 3000000 in
set_option maxRecDepth 100000 in
theorem c_X6_walkNext0 (l : Launch) (D : va_G) (y : Nat → ClassId) (L : List Nat) (F : Nat → va_E) (sz : Nat) (O : Nat → Prop) (G : MG) (μ : MS) (hC : MP y L F O G μ) (hW : MW μ) (hwk : vwk μ = none) : Met l yX6_walkNext (.code yX6_walkNext cX6_walkNext 2 (some .int) :: Tt) ({ frames := 1, cells := 0, slots := 0, locals := 20 }) (PcM D y L F sz [.ref ((ubg G))]) (cMi D (AL L sz) (fun r L1 F1 => r = jR_walkNext0 μ ∧ ∃ (O1 : Nat → Prop) (G1 : MG), MP y L1 F1 O1 G1 (jS_walkNext0 μ) ∧ ubg G1 = ubg G ∧ Ext O O1 L L1 F F1)) 0 0 (AL L sz) := by
  have hO : OE O F F := fun _ _ => rfl
  have hw5 := hW.2.2.2.2.2.1
  have hw6 := hW.2.2.2.2.2.2.1
  have hw7 := hW.2.2.2.2.2.2.2.1
  refine q_ofM (lv := [(0, .ref ((ubg G)))]) (by decide) (Nat.le_of_ble_eq_true rfl) rfl (fun p e s m below meth c C0 hret hlk hnm hA hP hD hS ls hl => ?_)
  have hx := C0.1.1
  have hb := C0.1.2.1
  have hts := C0.1.2.2.2.2
  refine lv_aload_n hx hb dX6_walkNext_0 rfl (lv_at hl 0 rfl) ?_
  refine q_iconst hx hb dX6_walkNext_1 ?_
  refine q_put C0 iX6 tyX6 tyX6_ok nmX6 hP hD hS (MP_o0 hC hwk).1 (MP_o0 hC hwk).2 rfl 10 (by decide) flX6_38 rfl rfl rfl rfl (Nat.le_of_ble_eq_true rfl) dX6_walkNext_2 (fun H locs hP hD hS => ?_)
  obtain ⟨F1, eF1⟩ : ∃ z, z = va_up F (ubg G) (.inr (8, [.ref ((uab G)), .ref ((uas G)), .ref ((uav G)), .ref ((uaf G)), .ref ((uat G)), .null, .int (iI (vbr μ)), .int (iI (vtd μ)), .int (iI (vbh μ)), .ref ((uac G)), .int (iI 0)])) := ⟨_, rfl⟩
  have hP : va_P D vwCl (va_pl L F1) H := by rw [eF1]; exact hP
  have hD : va_D (AL L sz) (va_pl L F1) := by rw [eF1]; exact hD
  have hO : OE O F F1 := by rw [eF1]; exact hO.tr (OE1 (MP_O hC).1)
  have hC : MP y L F1 O G (tOb μ none (vbr μ) (vtd μ) (vbh μ) 0) := by rw [eF1]; exact MP_ob hC (va_up_self _ _ _) (fun q hq => va_up_ne _ _ hq)
  refine lv_aload_n hx hb dX6_walkNext_5 rfl (lv_at hl 0 rfl) ?_
  refine q_vS C0 lX6_189 (c_X6_isGoing0 l D y L F1 O G (tOb μ none (vbr μ) (vtd μ) (vbh μ) 0) hC (by first | exact hwk | rfl)) ⟨rfl, rfl⟩ rfl hP hC.1.1 hC.1.2 rfl rfl rfl hl rfl (Nat.le_of_ble_eq_true rfl) dX6_walkNext_6 ⟨Nat.zero_le _, Nat.zero_le _⟩ (fun r2 e_r2 => ?_)
  subst e_r2
  refine q_if_ne hx hb dX6_walkNext_9 (tgt := 17) (by decide) (by omega) (fun c3 => absurd c3 (by omega)) (fun c3 => ?_)
  refine lv_aload_n hx hb dX6_walkNext_12 rfl (lv_at hl 0 rfl) ?_
  refine q_vMi C0 lX6_89 (c_X6_refuse l D y L F1 _ O G (tOb μ none (vbr μ) (vtd μ) (vbh μ) 0) hC) ⟨rfl, rfl⟩ rfl hP hD hS hA hC.1.1 hC.1.2 rfl rfl rfl hl rfl (Nat.le_of_ble_eq_true rfl) dX6_walkNext_13 ⟨Nat.le_of_ble_eq_true rfl, Nat.le_of_ble_eq_true rfl⟩ (fun r4 H locs L5 F5 hP hD hS hz5 hp5 => ?_)
  obtain ⟨eL, hC, er, hO1⟩ := hp5
  subst eL
  replace er : (-9) = r4 := er.symm
  subst er
  have hO := hO.tr hO1
  exact q_retMi C0 hret rfl hlk dX6_walkNext_16 hP hD hS (⟨(by unfold jR_walkNext0; (try unfold bkF); (try unfold bkO); (try unfold shF); (try unfold shO);  (repeat' split) <;> first | omega | (exfalso; omega) | rfl), O, G, MP_eq hC (by unfold jS_walkNext0; (try unfold ltR); (try unfold inR); (try unfold bkF); (try unfold bkO); (try unfold shF); (try unfold shO);  (repeat' split) <;> first | omega | (exfalso; omega) | rfl), rfl, Ext0 hO⟩)
set_option maxHeartbeats 3000000 in
set_option maxRecDepth 100000 in
theorem c_X6_walkNext1 (l : Launch) (D : va_G) (y : Nat → ClassId) (L : List Nat) (F : Nat → va_E) (sz : Nat) (O : Nat → Prop) (G : MG) (μ : MS) (j : Nat) (hC : MP y L F O G μ) (hW : MW μ) (hwk : vwk μ = some j) : Met l yX6_walkNext (.code yX6_walkNext cX6_walkNext 2 (some .int) :: Tt) ({ frames := 2, cells := 0, slots := 0, locals := 44 }) (PcM D y L F sz [.ref ((ubg G))]) (cMi D (AL L sz) (fun r L1 F1 => r = jR_walkNext1 μ j ∧ ∃ (O1 : Nat → Prop) (G1 : MG), MP y L1 F1 O1 G1 (jS_walkNext1 μ j) ∧ ubg G1 = ubg G ∧ Ext O O1 L L1 F F1)) 0 0 (AL L sz) := by
  have hO : OE O F F := fun _ _ => rfl
  have hw5 := hW.2.2.2.2.2.1
  have hw6 := hW.2.2.2.2.2.2.1
  have hw7 := hW.2.2.2.2.2.2.2.1
  have m2_ := @keyR_m1 (vod μ j) (firP (vst μ j) (vbh μ) 99) (firP_r _ _ _)
  have kb_ := @keyR_b (vod μ j) (firP (vst μ j) (vbh μ) 99) (firP_r _ _ _)
  refine q_ofM (lv := [(0, .ref ((ubg G)))]) (by decide) (Nat.le_of_ble_eq_true rfl) rfl (fun p e s m below meth c C0 hret hlk hnm hA hP hD hS ls hl => ?_)
  have hx := C0.1.1
  have hb := C0.1.2.1
  have hts := C0.1.2.2.2.2
  refine lv_aload_n hx hb dX6_walkNext_0 rfl (lv_at hl 0 rfl) ?_
  refine q_iconst hx hb dX6_walkNext_1 ?_
  refine q_put C0 iX6 tyX6 tyX6_ok nmX6 hP hD hS (MP_o1 hC hwk).1 (MP_o1 hC hwk).2 rfl 10 (by decide) flX6_38 rfl rfl rfl rfl (Nat.le_of_ble_eq_true rfl) dX6_walkNext_2 (fun H locs hP hD hS => ?_)
  obtain ⟨F1, eF1⟩ : ∃ z, z = va_up F (ubg G) (.inr (8, [.ref ((uab G)), .ref ((uas G)), .ref ((uav G)), .ref ((uaf G)), .ref ((uat G)), .ref ((urh G j)), .int (iI (vbr μ)), .int (iI (vtd μ)), .int (iI (vbh μ)), .ref ((uac G)), .int (iI 0)])) := ⟨_, rfl⟩
  have hP : va_P D vwCl (va_pl L F1) H := by rw [eF1]; exact hP
  have hD : va_D (AL L sz) (va_pl L F1) := by rw [eF1]; exact hD
  have hO : OE O F F1 := by rw [eF1]; exact hO.tr (OE1 (MP_O hC).1)
  have hC : MP y L F1 O G (tOb μ (some j) (vbr μ) (vtd μ) (vbh μ) 0) := by rw [eF1]; exact MP_ob hC (va_up_self _ _ _) (fun q hq => va_up_ne _ _ hq)
  refine lv_aload_n hx hb dX6_walkNext_5 rfl (lv_at hl 0 rfl) ?_
  refine q_vS C0 lX6_189 (c_X6_isGoing1 l D y L F1 O G (tOb μ (some j) (vbr μ) (vtd μ) (vbh μ) 0) j hC (by first | exact hwk | rfl) (by first | exact hw5 | omega)) ⟨rfl, rfl⟩ rfl hP hC.1.1 hC.1.2 rfl rfl rfl hl rfl (Nat.le_of_ble_eq_true rfl) dX6_walkNext_6 ⟨Nat.zero_le _, Nat.zero_le _⟩ (fun r2 e_r2 => ?_)
  subst e_r2
  refine q_if_ne hx hb dX6_walkNext_9 (tgt := 17) (by decide) (by omega) (fun c3 => ?_) (fun c3 => ?_)
  · have g_ : vbr μ = 0 := Classical.byContradiction (fun z => absurd (if_neg z) c3)
    refine lv_aload_n hx hb dX6_walkNext_17 rfl (lv_at hl 0 rfl) ?_
    refine q_get C0 iX6 hP hC.1.1 hC.1.2 rfl 5 (by decide) flX6_45 rfl (v := .ref ((urh G j))) rfl dX6_walkNext_18 ?_
    refine lv_aload_n hx hb dX6_walkNext_21 rfl (lv_at hl 0 rfl) ?_
    refine q_get C0 iX6 hP hC.1.1 hC.1.2 rfl 8 (by decide) flX6_186 rfl (v := .int (iI (vbh μ))) rfl dX6_walkNext_22 ?_
    refine q_bipush hx hb dX6_walkNext_25 (by decide) ?_
    refine q_vS C0 lX6_111 (c_X5_first l D y L F1 (urh G j) (urw G j) (vod μ j) (vst μ j) (vbh μ) 99 (MP_r hC (hW.2.2.2.1 j hwk)) (by omega) (by omega)) ⟨rfl, rfl⟩ rfl hP (MP_r hC (hW.2.2.2.1 j hwk)).1 (MP_r hC (hW.2.2.2.1 j hwk)).2.1 rfl rfl rfl hl rfl (Nat.le_of_ble_eq_true rfl) dX6_walkNext_27 ⟨Nat.zero_le _, Nat.zero_le _⟩ (fun r4 e_r4 => ?_)
    subst e_r4
    have b_5 := @keyR_b (vod μ j) (firP (vst μ j) (vbh μ) 99) (firP_r (vst μ j) (vbh μ) 99)
    refine lv_istore_n (lv' := [(1, .int (iI ((keyR (vod μ j) (firP (vst μ j) (vbh μ) 99))))), (0, .ref ((ubg G)))]) hx hb dX6_walkNext_30 rfl hl (by decide) rfl (fun ls hl => ?_)
    refine lv_iload_n hx hb dX6_walkNext_31 rfl (lv_at hl 0 rfl) ?_
    refine q_iconst hx hb dX6_walkNext_32 ?_
    refine q_icmp_ne hx hb dX6_walkNext_33 (tgt := 38) (by decide) (by omega) (by omega) (fun c6 => ?_) (fun c6 => ?_)
    · refine lv_aload_n hx hb dX6_walkNext_38 rfl (lv_at hl 1 rfl) ?_
      refine lv_iload_n hx hb dX6_walkNext_39 rfl (lv_at hl 0 rfl) ?_
      refine q_put C0 iX6 tyX6 tyX6_ok nmX6 hP hD hS hC.1.1 hC.1.2 rfl 7 (by decide) flX6_28 rfl rfl rfl rfl (Nat.le_of_ble_eq_true rfl) dX6_walkNext_40 (fun H locs hP hD hS => ?_)
      obtain ⟨F7, eF7⟩ : ∃ z, z = va_up F1 (ubg G) (.inr (8, [.ref ((uab G)), .ref ((uas G)), .ref ((uav G)), .ref ((uaf G)), .ref ((uat G)), .ref ((urh G j)), .int (iI (vbr μ)), .int (iI ((keyR (vod μ j) (firP (vst μ j) (vbh μ) 99)))), .int (iI (vbh μ)), .ref ((uac G)), .int (iI 0)])) := ⟨_, rfl⟩
      have hP : va_P D vwCl (va_pl L F7) H := by rw [eF7]; exact hP
      have hD : va_D (AL L sz) (va_pl L F7) := by rw [eF7]; exact hD
      have hO : OE O F F7 := by rw [eF7]; exact hO.tr (OE1 (MP_O hC).1)
      have hC : MP y L F7 O G (tOb (tOb μ (some j) (vbr μ) (vtd μ) (vbh μ) 0) (some j) (vbr μ) (keyR (vod μ j) (firP (vst μ j) (vbh μ) 99)) (vbh μ) 0) := by rw [eF7]; exact MP_ob hC (va_up_self _ _ _) (fun q hq => va_up_ne _ _ hq)
      refine lv_aload_n hx hb dX6_walkNext_43 rfl (lv_at hl 1 rfl) ?_
      refine lv_aload_n hx hb dX6_walkNext_44 rfl (lv_at hl 1 rfl) ?_
      refine q_get C0 iX6 hP hC.1.1 hC.1.2 rfl 5 (by decide) flX6_45 rfl (v := .ref ((urh G j))) rfl dX6_walkNext_45 ?_
      refine lv_iload_n hx hb dX6_walkNext_48 rfl (lv_at hl 0 rfl) ?_
      refine q_vS C0 lX6_93 (c_X5_rank l D y L F7 (urh G j) (urw G j) (vod μ j) (vst μ j) (keyR (vod μ j) (firP (vst μ j) (vbh μ) 99)) (MP_r hC (hW.2.2.2.1 j hwk)) (by omega)) ⟨rfl, rfl⟩ rfl hP (MP_r hC (hW.2.2.2.1 j hwk)).1 (MP_r hC (hW.2.2.2.1 j hwk)).2.1 rfl rfl rfl hl rfl (Nat.le_of_ble_eq_true rfl) dX6_walkNext_49 ⟨Nat.zero_le _, Nat.zero_le _⟩ (fun r8 e_r8 => ?_)
      subst e_r8
      have b_9 := @turn_b (vod μ j) (keyR (vod μ j) (firP (vst μ j) (vbh μ) 99)) (by omega)
      refine q_iconst hx hb dX6_walkNext_52 ?_
      refine q_iadd hx hb dX6_walkNext_53 ?_
      refine q_put C0 iX6 tyX6 tyX6_ok nmX6 hP hD hS hC.1.1 hC.1.2 rfl 8 (by decide) flX6_186 rfl rfl rfl rfl (Nat.le_of_ble_eq_true rfl) dX6_walkNext_54 (fun H locs hP hD hS => ?_)
      obtain ⟨F10, eF10⟩ : ∃ z, z = va_up F7 (ubg G) (.inr (8, [.ref ((uab G)), .ref ((uas G)), .ref ((uav G)), .ref ((uaf G)), .ref ((uat G)), .ref ((urh G j)), .int (iI (vbr μ)), .int (iI ((keyR (vod μ j) (firP (vst μ j) (vbh μ) 99)))), .int (iI (((turn (vod μ j) (keyR (vod μ j) (firP (vst μ j) (vbh μ) 99))) + 1))), .ref ((uac G)), .int (iI 0)])) := ⟨_, rfl⟩
      have hP : va_P D vwCl (va_pl L F10) H := by rw [eF10]; exact hP
      have hD : va_D (AL L sz) (va_pl L F10) := by rw [eF10]; exact hD
      have hO : OE O F F10 := by rw [eF10]; exact hO.tr (OE1 (MP_O hC).1)
      have hC : MP y L F10 O G (tOb (tOb (tOb μ (some j) (vbr μ) (vtd μ) (vbh μ) 0) (some j) (vbr μ) (keyR (vod μ j) (firP (vst μ j) (vbh μ) 99)) (vbh μ) 0) (some j) (vbr μ) (keyR (vod μ j) (firP (vst μ j) (vbh μ) 99)) ((turn (vod μ j) (keyR (vod μ j) (firP (vst μ j) (vbh μ) 99))) + 1) 0) := by rw [eF10]; exact MP_ob hC (va_up_self _ _ _) (fun q hq => va_up_ne _ _ hq)
      refine lv_aload_n hx hb dX6_walkNext_57 rfl (lv_at hl 1 rfl) ?_
      refine q_get C0 iX6 hP hC.1.1 hC.1.2 rfl 5 (by decide) flX6_45 rfl (v := .ref ((urh G j))) rfl dX6_walkNext_58 ?_
      refine lv_iload_n hx hb dX6_walkNext_61 rfl (lv_at hl 0 rfl) ?_
      refine q_vS C0 lX6_117 (c_X5_pair l D y L F10 (urh G j) (urw G j) (vod μ j) (vst μ j) (keyR (vod μ j) (firP (vst μ j) (vbh μ) 99)) (MP_r hC (hW.2.2.2.1 j hwk)) (by omega)) ⟨rfl, rfl⟩ rfl hP (MP_r hC (hW.2.2.2.1 j hwk)).1 (MP_r hC (hW.2.2.2.1 j hwk)).2.1 rfl rfl rfl hl rfl (Nat.le_of_ble_eq_true rfl) dX6_walkNext_62 ⟨Nat.zero_le _, Nat.zero_le _⟩ (fun r11 e_r11 => ?_)
      subst e_r11
      exact q_retMi C0 hret rfl hlk dX6_walkNext_65 hP hD hS (⟨(by unfold jR_walkNext1; (try unfold bkF); (try unfold bkO); (try unfold shF); (try unfold shO);  (repeat' split) <;> first | omega | (exfalso; omega) | rfl), O, G, MP_eq hC (by unfold jS_walkNext1; (try unfold ltR); (try unfold inR); (try unfold bkF); (try unfold bkO); (try unfold shF); (try unfold shO);  (repeat' split) <;> first | omega | (exfalso; omega) | rfl), rfl, Ext0 hO⟩)
    · refine q_iconst hx hb dX6_walkNext_36 ?_
      exact q_retMi C0 hret rfl hlk dX6_walkNext_37 hP hD hS (⟨(by unfold jR_walkNext1; (try unfold bkF); (try unfold bkO); (try unfold shF); (try unfold shO);  (repeat' split) <;> first | omega | (exfalso; omega) | rfl), O, G, MP_eq hC (by unfold jS_walkNext1; (try unfold ltR); (try unfold inR); (try unfold bkF); (try unfold bkO); (try unfold shF); (try unfold shO);  (repeat' split) <;> first | omega | (exfalso; omega) | rfl), rfl, Ext0 hO⟩)
  · have g_ : vbr μ ≠ 0 := fun z => by have q : (if vbr μ = 0 then (1 : Int) else 0) = 0 := (by first | exact c3 | exact Classical.not_not.mp c3 | omega); rw [if_pos z] at q; exact absurd q (by decide)
    refine lv_aload_n hx hb dX6_walkNext_12 rfl (lv_at hl 0 rfl) ?_
    refine q_vMi C0 lX6_89 (c_X6_refuse l D y L F1 _ O G (tOb μ (some j) (vbr μ) (vtd μ) (vbh μ) 0) hC) ⟨rfl, rfl⟩ rfl hP hD hS hA hC.1.1 hC.1.2 rfl rfl rfl hl rfl (Nat.le_of_ble_eq_true rfl) dX6_walkNext_13 ⟨Nat.le_of_ble_eq_true rfl, Nat.le_of_ble_eq_true rfl⟩ (fun r12 H locs L13 F13 hP hD hS hz13 hp13 => ?_)
    obtain ⟨eL, hC, er, hO1⟩ := hp13
    subst eL
    replace er : (-9) = r12 := er.symm
    subst er
    have hO := hO.tr hO1
    exact q_retMi C0 hret rfl hlk dX6_walkNext_16 hP hD hS (⟨(by unfold jR_walkNext1; (try unfold bkF); (try unfold bkO); (try unfold shF); (try unfold shO);  (repeat' split) <;> first | omega | (exfalso; omega) | rfl), O, G, MP_eq hC (by unfold jS_walkNext1; (try unfold ltR); (try unfold inR); (try unfold bkF); (try unfold bkO); (try unfold shF); (try unfold shO);  (repeat' split) <;> first | omega | (exfalso; omega) | rfl), rfl, Ext0 hO⟩)
set_option maxHeartbeats 3000000 in
set_option maxRecDepth 100000 in
theorem c_X6_walkSet0 (l : Launch) (D : va_G) (y : Nat → ClassId) (L : List Nat) (F : Nat → va_E) (sz : Nat) (O : Nat → Prop) (G : MG) (μ : MS) (xw : Int) (hC : MP y L F O G μ) (hW : MW μ) (h_xw : -2147483648 ≤ xw ∧ xw ≤ 2147483647) (hwk : vwk μ = none) : Met l yX6_walkSet (.code yX6_walkSet cX6_walkSet 3 (some .int) :: Tt) ({ frames := 2, cells := 0, slots := 0, locals := 42 }) (PcM D y L F sz [.ref ((ubg G)), .int (iI xw)]) (cMi D (AL L sz) (fun r L1 F1 => r = jR_walkSet0 μ xw ∧ ∃ (O1 : Nat → Prop) (G1 : MG), MP y L1 F1 O1 G1 (jS_walkSet0 μ xw) ∧ ubg G1 = ubg G ∧ Ext O O1 L L1 F F1)) 0 0 (AL L sz) := by
  have hO : OE O F F := fun _ _ => rfl
  have hw5 := hW.2.2.2.2.2.1
  have hw6 := hW.2.2.2.2.2.2.1
  have hw7 := hW.2.2.2.2.2.2.2.1
  have wt_ : vtd μ = -1 := Classical.byContradiction (fun z => hW.2.2.2.2.2.2.2.2.1 z hwk)
  refine q_ofM (lv := [(0, .ref ((ubg G))), (1, .int (iI xw))]) (by decide) (Nat.le_of_ble_eq_true rfl) rfl (fun p e s m below meth c C0 hret hlk hnm hA hP hD hS ls hl => ?_)
  have hx := C0.1.1
  have hb := C0.1.2.1
  have hts := C0.1.2.2.2.2
  refine lv_aload_n hx hb dX6_walkSet_0 rfl (lv_at hl 0 rfl) ?_
  refine lv_iload_n hx hb dX6_walkSet_1 rfl (lv_at hl 1 rfl) ?_
  refine q_sS C0 lX6_86 (c_X6_isKey l D y L F xw (by omega)) ⟨rfl, rfl⟩ rfl hP rfl hl rfl (Nat.le_of_ble_eq_true rfl) dX6_walkSet_2 ⟨Nat.zero_le _, Nat.zero_le _⟩ (fun r1 e_r1 => ?_)
  subst e_r1
  have b_2 := inR_d xw 0 99
  refine q_if_eq hx hb dX6_walkSet_5 (tgt := 12) (by decide) (by omega) (fun c3 => ?_) (fun c3 => ?_)
  · replace b_2 := b_2.resolve_left (fun h => absurd (h.1.symm.trans c3) (by decide))
    refine q_iconst hx hb dX6_walkSet_12 ?_
    refine q_put C0 iX6 tyX6 tyX6_ok nmX6 hP hD hS (MP_o0 hC hwk).1 (MP_o0 hC hwk).2 rfl 10 (by decide) flX6_38 rfl rfl rfl rfl (Nat.le_of_ble_eq_true rfl) dX6_walkSet_13 (fun H locs hP hD hS => ?_)
    obtain ⟨F4, eF4⟩ : ∃ z, z = va_up F (ubg G) (.inr (8, [.ref ((uab G)), .ref ((uas G)), .ref ((uav G)), .ref ((uaf G)), .ref ((uat G)), .null, .int (iI (vbr μ)), .int (iI (vtd μ)), .int (iI (vbh μ)), .ref ((uac G)), .int (iI 1)])) := ⟨_, rfl⟩
    have hP : va_P D vwCl (va_pl L F4) H := by rw [eF4]; exact hP
    have hD : va_D (AL L sz) (va_pl L F4) := by rw [eF4]; exact hD
    have hO : OE O F F4 := by rw [eF4]; exact hO.tr (OE1 (MP_O hC).1)
    have hC : MP y L F4 O G (tOb μ none (vbr μ) (vtd μ) (vbh μ) 1) := by rw [eF4]; exact MP_ob hC (va_up_self _ _ _) (fun q hq => va_up_ne _ _ hq)
    refine lv_aload_n hx hb dX6_walkSet_16 rfl (lv_at hl 0 rfl) ?_
    refine q_get C0 iX6 hP hC.1.1 hC.1.2 rfl 10 (by decide) flX6_38 rfl (v := .int (iI 1)) rfl dX6_walkSet_17 ?_
    refine q_iconst hx hb dX6_walkSet_20 ?_
    refine q_icmp_ne hx hb dX6_walkSet_21 (tgt := 26) (by decide) (by omega) (by omega) (fun c5 => absurd c5 (by omega)) (fun c5 => ?_)
    refine q_iconst hx hb dX6_walkSet_24 ?_
    exact q_retMi C0 hret rfl hlk dX6_walkSet_25 hP hD hS (⟨(by unfold jR_walkSet0; (try unfold bkF); (try unfold bkO); (try unfold shF); (try unfold shO);  (repeat' split) <;> first | omega | (exfalso; omega) | rfl), O, G, MP_eq hC (by unfold jS_walkSet0; (try unfold ltR); (try unfold inR); (try unfold bkF); (try unfold bkO); (try unfold shF); (try unfold shO);  (repeat' split) <;> first | omega | (exfalso; omega) | rfl), rfl, Ext0 hO⟩)
  · replace b_2 := b_2.resolve_right (fun h => c3 h.1)
    refine q_iconst hx hb dX6_walkSet_8 ?_
    refine lv_goto (tgt := 13) hx hb dX6_walkSet_9 (by decide) ?_
    refine q_put C0 iX6 tyX6 tyX6_ok nmX6 hP hD hS (MP_o0 hC hwk).1 (MP_o0 hC hwk).2 rfl 10 (by decide) flX6_38 rfl rfl rfl rfl (Nat.le_of_ble_eq_true rfl) dX6_walkSet_13 (fun H locs hP hD hS => ?_)
    obtain ⟨F6, eF6⟩ : ∃ z, z = va_up F (ubg G) (.inr (8, [.ref ((uab G)), .ref ((uas G)), .ref ((uav G)), .ref ((uaf G)), .ref ((uat G)), .null, .int (iI (vbr μ)), .int (iI (vtd μ)), .int (iI (vbh μ)), .ref ((uac G)), .int (iI 0)])) := ⟨_, rfl⟩
    have hP : va_P D vwCl (va_pl L F6) H := by rw [eF6]; exact hP
    have hD : va_D (AL L sz) (va_pl L F6) := by rw [eF6]; exact hD
    have hO : OE O F F6 := by rw [eF6]; exact hO.tr (OE1 (MP_O hC).1)
    have hC : MP y L F6 O G (tOb μ none (vbr μ) (vtd μ) (vbh μ) 0) := by rw [eF6]; exact MP_ob hC (va_up_self _ _ _) (fun q hq => va_up_ne _ _ hq)
    refine lv_aload_n hx hb dX6_walkSet_16 rfl (lv_at hl 0 rfl) ?_
    refine q_get C0 iX6 hP hC.1.1 hC.1.2 rfl 10 (by decide) flX6_38 rfl (v := .int (iI 0)) rfl dX6_walkSet_17 ?_
    refine q_iconst hx hb dX6_walkSet_20 ?_
    refine q_icmp_ne hx hb dX6_walkSet_21 (tgt := 26) (by decide) (by omega) (by omega) (fun c7 => ?_) (fun c7 => absurd c7 (by omega))
    refine lv_aload_n hx hb dX6_walkSet_26 rfl (lv_at hl 0 rfl) ?_
    refine q_get C0 iX6 hP hC.1.1 hC.1.2 rfl 7 (by decide) flX6_28 rfl (v := .int (iI (vtd μ))) rfl dX6_walkSet_27 ?_
    refine q_iconst hx hb dX6_walkSet_30 ?_
    refine q_icmp_ne hx hb dX6_walkSet_31 (tgt := 39) (by decide) (by omega) (by omega) (fun c8 => absurd c8 (by omega)) (fun c8 => ?_)
    refine lv_aload_n hx hb dX6_walkSet_34 rfl (lv_at hl 0 rfl) ?_
    refine q_vMi C0 lX6_89 (c_X6_refuse l D y L F6 _ O G (tOb μ none (vbr μ) (vtd μ) (vbh μ) 0) hC) ⟨rfl, rfl⟩ rfl hP hD hS hA hC.1.1 hC.1.2 rfl rfl rfl hl rfl (Nat.le_of_ble_eq_true rfl) dX6_walkSet_35 ⟨Nat.le_of_ble_eq_true rfl, Nat.le_of_ble_eq_true rfl⟩ (fun r9 H locs L10 F10 hP hD hS hz10 hp10 => ?_)
    obtain ⟨eL, hC, er, hO1⟩ := hp10
    subst eL
    replace er : (-9) = r9 := er.symm
    subst er
    have hO := hO.tr hO1
    exact q_retMi C0 hret rfl hlk dX6_walkSet_38 hP hD hS (⟨(by unfold jR_walkSet0; (try unfold bkF); (try unfold bkO); (try unfold shF); (try unfold shO);  (repeat' split) <;> first | omega | (exfalso; omega) | rfl), O, G, MP_eq hC (by unfold jS_walkSet0; (try unfold ltR); (try unfold inR); (try unfold bkF); (try unfold bkO); (try unfold shF); (try unfold shO);  (repeat' split) <;> first | omega | (exfalso; omega) | rfl), rfl, Ext0 hO⟩)
set_option maxHeartbeats 3000000 in
set_option maxRecDepth 100000 in
theorem c_X6_walkSet1 (l : Launch) (D : va_G) (y : Nat → ClassId) (L : List Nat) (F : Nat → va_E) (sz : Nat) (O : Nat → Prop) (G : MG) (μ : MS) (j : Nat) (xw : Int) (hC : MP y L F O G μ) (hW : MW μ) (h_xw : -2147483648 ≤ xw ∧ xw ≤ 2147483647) (hwk : vwk μ = some j) : Met l yX6_walkSet (.code yX6_walkSet cX6_walkSet 3 (some .int) :: Tt) ({ frames := 2, cells := 0, slots := 0, locals := 42 }) (PcM D y L F sz [.ref ((ubg G)), .int (iI xw)]) (cMi D (AL L sz) (fun r L1 F1 => r = jR_walkSet1 μ j xw ∧ ∃ (O1 : Nat → Prop) (G1 : MG), MP y L1 F1 O1 G1 (jS_walkSet1 μ j xw) ∧ ubg G1 = ubg G ∧ Ext O O1 L L1 F F1)) 0 0 (AL L sz) := by
  have hO : OE O F F := fun _ _ => rfl
  have hw5 := hW.2.2.2.2.2.1
  have hw6 := hW.2.2.2.2.2.2.1
  have hw7 := hW.2.2.2.2.2.2.2.1
  refine q_ofM (lv := [(0, .ref ((ubg G))), (1, .int (iI xw))]) (by decide) (Nat.le_of_ble_eq_true rfl) rfl (fun p e s m below meth c C0 hret hlk hnm hA hP hD hS ls hl => ?_)
  have hx := C0.1.1
  have hb := C0.1.2.1
  have hts := C0.1.2.2.2.2
  refine lv_aload_n hx hb dX6_walkSet_0 rfl (lv_at hl 0 rfl) ?_
  refine lv_iload_n hx hb dX6_walkSet_1 rfl (lv_at hl 1 rfl) ?_
  refine q_sS C0 lX6_86 (c_X6_isKey l D y L F xw (by omega)) ⟨rfl, rfl⟩ rfl hP rfl hl rfl (Nat.le_of_ble_eq_true rfl) dX6_walkSet_2 ⟨Nat.zero_le _, Nat.zero_le _⟩ (fun r1 e_r1 => ?_)
  subst e_r1
  have b_2 := inR_d xw 0 99
  refine q_if_eq hx hb dX6_walkSet_5 (tgt := 12) (by decide) (by omega) (fun c3 => ?_) (fun c3 => ?_)
  · replace b_2 := b_2.resolve_left (fun h => absurd (h.1.symm.trans c3) (by decide))
    refine q_iconst hx hb dX6_walkSet_12 ?_
    refine q_put C0 iX6 tyX6 tyX6_ok nmX6 hP hD hS (MP_o1 hC hwk).1 (MP_o1 hC hwk).2 rfl 10 (by decide) flX6_38 rfl rfl rfl rfl (Nat.le_of_ble_eq_true rfl) dX6_walkSet_13 (fun H locs hP hD hS => ?_)
    obtain ⟨F4, eF4⟩ : ∃ z, z = va_up F (ubg G) (.inr (8, [.ref ((uab G)), .ref ((uas G)), .ref ((uav G)), .ref ((uaf G)), .ref ((uat G)), .ref ((urh G j)), .int (iI (vbr μ)), .int (iI (vtd μ)), .int (iI (vbh μ)), .ref ((uac G)), .int (iI 1)])) := ⟨_, rfl⟩
    have hP : va_P D vwCl (va_pl L F4) H := by rw [eF4]; exact hP
    have hD : va_D (AL L sz) (va_pl L F4) := by rw [eF4]; exact hD
    have hO : OE O F F4 := by rw [eF4]; exact hO.tr (OE1 (MP_O hC).1)
    have hC : MP y L F4 O G (tOb μ (some j) (vbr μ) (vtd μ) (vbh μ) 1) := by rw [eF4]; exact MP_ob hC (va_up_self _ _ _) (fun q hq => va_up_ne _ _ hq)
    refine lv_aload_n hx hb dX6_walkSet_16 rfl (lv_at hl 0 rfl) ?_
    refine q_get C0 iX6 hP hC.1.1 hC.1.2 rfl 10 (by decide) flX6_38 rfl (v := .int (iI 1)) rfl dX6_walkSet_17 ?_
    refine q_iconst hx hb dX6_walkSet_20 ?_
    refine q_icmp_ne hx hb dX6_walkSet_21 (tgt := 26) (by decide) (by omega) (by omega) (fun c5 => absurd c5 (by omega)) (fun c5 => ?_)
    refine q_iconst hx hb dX6_walkSet_24 ?_
    exact q_retMi C0 hret rfl hlk dX6_walkSet_25 hP hD hS (⟨(by unfold jR_walkSet1; (try unfold bkF); (try unfold bkO); (try unfold shF); (try unfold shO);  (repeat' split) <;> first | omega | (exfalso; omega) | rfl), O, G, MP_eq hC (by unfold jS_walkSet1; (try unfold ltR); (try unfold inR); (try unfold bkF); (try unfold bkO); (try unfold shF); (try unfold shO);  (repeat' split) <;> first | omega | (exfalso; omega) | rfl), rfl, Ext0 hO⟩)
  · replace b_2 := b_2.resolve_right (fun h => c3 h.1)
    refine q_iconst hx hb dX6_walkSet_8 ?_
    refine lv_goto (tgt := 13) hx hb dX6_walkSet_9 (by decide) ?_
    refine q_put C0 iX6 tyX6 tyX6_ok nmX6 hP hD hS (MP_o1 hC hwk).1 (MP_o1 hC hwk).2 rfl 10 (by decide) flX6_38 rfl rfl rfl rfl (Nat.le_of_ble_eq_true rfl) dX6_walkSet_13 (fun H locs hP hD hS => ?_)
    obtain ⟨F6, eF6⟩ : ∃ z, z = va_up F (ubg G) (.inr (8, [.ref ((uab G)), .ref ((uas G)), .ref ((uav G)), .ref ((uaf G)), .ref ((uat G)), .ref ((urh G j)), .int (iI (vbr μ)), .int (iI (vtd μ)), .int (iI (vbh μ)), .ref ((uac G)), .int (iI 0)])) := ⟨_, rfl⟩
    have hP : va_P D vwCl (va_pl L F6) H := by rw [eF6]; exact hP
    have hD : va_D (AL L sz) (va_pl L F6) := by rw [eF6]; exact hD
    have hO : OE O F F6 := by rw [eF6]; exact hO.tr (OE1 (MP_O hC).1)
    have hC : MP y L F6 O G (tOb μ (some j) (vbr μ) (vtd μ) (vbh μ) 0) := by rw [eF6]; exact MP_ob hC (va_up_self _ _ _) (fun q hq => va_up_ne _ _ hq)
    refine lv_aload_n hx hb dX6_walkSet_16 rfl (lv_at hl 0 rfl) ?_
    refine q_get C0 iX6 hP hC.1.1 hC.1.2 rfl 10 (by decide) flX6_38 rfl (v := .int (iI 0)) rfl dX6_walkSet_17 ?_
    refine q_iconst hx hb dX6_walkSet_20 ?_
    refine q_icmp_ne hx hb dX6_walkSet_21 (tgt := 26) (by decide) (by omega) (by omega) (fun c7 => ?_) (fun c7 => absurd c7 (by omega))
    refine lv_aload_n hx hb dX6_walkSet_26 rfl (lv_at hl 0 rfl) ?_
    refine q_get C0 iX6 hP hC.1.1 hC.1.2 rfl 7 (by decide) flX6_28 rfl (v := .int (iI (vtd μ))) rfl dX6_walkSet_27 ?_
    refine q_iconst hx hb dX6_walkSet_30 ?_
    refine q_icmp_ne hx hb dX6_walkSet_31 (tgt := 39) (by decide) (by omega) (by omega) (fun c8 => ?_) (fun c8 => ?_)
    · refine lv_aload_n hx hb dX6_walkSet_39 rfl (lv_at hl 0 rfl) ?_
      refine q_get C0 iX6 hP hC.1.1 hC.1.2 rfl 5 (by decide) flX6_45 rfl (v := .ref ((urh G j))) rfl dX6_walkSet_40 ?_
      refine q_getN C0 iX5 hP (MP_r hC (hW.2.2.2.1 j hwk)).1 (MP_r hC (hW.2.2.2.1 j hwk)).2.1 rfl 1 (by decide) C0.2.2.2.2.2.2.1 rfl (v := .ref ((urw G j))) rfl dX6_walkSet_43 ?_
      refine lv_aload_n hx hb dX6_walkSet_46 rfl (lv_at hl 0 rfl) ?_
      refine q_get C0 iX6 hP hC.1.1 hC.1.2 rfl 7 (by decide) flX6_28 rfl (v := .int (iI (vtd μ))) rfl dX6_walkSet_47 ?_
      refine q_iald C0 hP (f := (mwd (vod μ j) (vst μ j))) (MP_r hC (hW.2.2.2.1 j hwk)).2.2.1 (MP_r hC (hW.2.2.2.1 j hwk)).2.2.2.1 (by omega) (by decide) dX6_walkSet_50 ?_
      have b_9 := (fun k => show -1 ≤ mwd (vod μ j) (vst μ j) k ∧ mwd (vod μ j) (vst μ j) k ≤ 99 from (MP_r hC (hW.2.2.2.1 j hwk)).2.2.2.2.2 (turn (vod μ j) k)) (vtd μ)
      refine lv_istore_n (lv' := [(2, .int (iI (((mwd (vod μ j) (vst μ j)) (vtd μ))))), (0, .ref ((ubg G))), (1, .int (iI xw))]) hx hb dX6_walkSet_51 rfl hl (by decide) rfl (fun ls hl => ?_)
      refine lv_aload_n hx hb dX6_walkSet_52 rfl (lv_at hl 1 rfl) ?_
      refine q_get C0 iX6 hP hC.1.1 hC.1.2 rfl 5 (by decide) flX6_45 rfl (v := .ref ((urh G j))) rfl dX6_walkSet_53 ?_
      refine q_getN C0 iX5 hP (MP_r hC (hW.2.2.2.1 j hwk)).1 (MP_r hC (hW.2.2.2.1 j hwk)).2.1 rfl 1 (by decide) C0.2.2.2.2.2.2.1 rfl (v := .ref ((urw G j))) rfl dX6_walkSet_56 ?_
      refine lv_aload_n hx hb dX6_walkSet_59 rfl (lv_at hl 1 rfl) ?_
      refine q_get C0 iX6 hP hC.1.1 hC.1.2 rfl 7 (by decide) flX6_28 rfl (v := .int (iI (vtd μ))) rfl dX6_walkSet_60 ?_
      refine lv_iload_n hx hb dX6_walkSet_63 rfl (lv_at hl 2 rfl) ?_
      refine q_iast C0 hP hD hS (MP_r hC (hW.2.2.2.1 j hwk)).2.2.1 (MP_r hC (hW.2.2.2.1 j hwk)).2.2.2.1 (i := (vtd μ)) (v := xw) (by omega) (by decide) dX6_walkSet_64 (fun H locs hP hD hS => ?_)
      replace hP := va_P_re (a := (urw G j)) (e := arrI (y 0) 100 (mwd (vod μ j) (iu (vst μ j) (turn (vod μ j) (vtd μ)) xw))) hP (fun X z => by rw [va_up_self] at z; exact at_arrI (fun i h0 h1 => mwd_iu (by omega) i h0 h1) X z)
      replace hP : va_P D vwCl (va_pl L (va_up F6 (urw G j) (arrI (y 0) 100 (mwd (vod μ j) (iu (vst μ j) (turn (vod μ j) (vtd μ)) xw))))) H := by rw [va_up_up] at hP; exact hP
      replace hD := va_D_re (F1 := va_up F6 (urw G j) (arrI (y 0) 100 (mwd (vod μ j) (iu (vst μ j) (turn (vod μ j) (vtd μ)) xw)))) hD
      obtain ⟨F10, eF10⟩ : ∃ z, z = va_up F6 (urw G j) (arrI (y 0) 100 (mwd (vod μ j) (iu (vst μ j) (turn (vod μ j) (vtd μ)) xw))) := ⟨_, rfl⟩
      have hP : va_P D vwCl (va_pl L F10) H := by rw [eF10]; exact hP
      have hD : va_D (AL L sz) (va_pl L F10) := by rw [eF10]; exact hD
      have hO : OE O F F10 := by rw [eF10]; exact hO.tr (OE1 ((MP_O hC).2.2.2.2.2.2.2 _ (hW.2.2.2.1 j hwk)).2)
      have hC : MP y L F10 O G (tRw (tOb μ (some j) (vbr μ) (vtd μ) (vbh μ) 0) j (iu (vst μ j) (turn (vod μ j) (vtd μ)) xw)) := by rw [eF10]; exact MP_row hC (hW.2.2.2.1 j hwk) (va_up_self _ _ _) (fun r => by unfold iu; split <;> first | omega | exact (MP_r hC (hW.2.2.2.1 j hwk)).2.2.2.2.2 r) (fun q hq => va_up_ne _ _ hq)
      refine lv_aload_n hx hb dX6_walkSet_65 rfl (lv_at hl 1 rfl) ?_
      refine lv_iload_n hx hb dX6_walkSet_66 rfl (lv_at hl 0 rfl) ?_
      refine q_vMi C0 lX6_71 (c_X6_did l D y L F10 _ O G (tRw (tOb μ (some j) (vbr μ) (vtd μ) (vbh μ) 0) j (iu (vst μ j) (turn (vod μ j) (vtd μ)) xw)) ((mwd (vod μ j) (vst μ j)) (vtd μ)) hC) ⟨rfl, rfl⟩ rfl hP hD hS hA hC.1.1 hC.1.2 rfl rfl rfl hl rfl (Nat.le_of_ble_eq_true rfl) dX6_walkSet_67 ⟨Nat.le_of_ble_eq_true rfl, Nat.le_of_ble_eq_true rfl⟩ (fun r11 H locs L12 F12 hP hD hS hz12 hp12 => ?_)
      obtain ⟨eL, hC, er, hO1⟩ := hp12
      subst eL
      replace er : ((mwd (vod μ j) (vst μ j)) (vtd μ)) = r11 := er.symm
      subst er
      have hO := hO.tr hO1
      exact q_retMi C0 hret rfl hlk dX6_walkSet_70 hP hD hS (⟨(by unfold jR_walkSet1; (try unfold bkF); (try unfold bkO); (try unfold shF); (try unfold shO);  (repeat' split) <;> first | omega | (exfalso; omega) | rfl), O, G, MP_eq hC (by unfold jS_walkSet1; (try unfold ltR); (try unfold inR); (try unfold bkF); (try unfold bkO); (try unfold shF); (try unfold shO);  (repeat' split) <;> first | omega | (exfalso; omega) | rfl), rfl, Ext0 hO⟩)
    · refine lv_aload_n hx hb dX6_walkSet_34 rfl (lv_at hl 0 rfl) ?_
      refine q_vMi C0 lX6_89 (c_X6_refuse l D y L F6 _ O G (tOb μ (some j) (vbr μ) (vtd μ) (vbh μ) 0) hC) ⟨rfl, rfl⟩ rfl hP hD hS hA hC.1.1 hC.1.2 rfl rfl rfl hl rfl (Nat.le_of_ble_eq_true rfl) dX6_walkSet_35 ⟨Nat.le_of_ble_eq_true rfl, Nat.le_of_ble_eq_true rfl⟩ (fun r13 H locs L14 F14 hP hD hS hz14 hp14 => ?_)
      obtain ⟨eL, hC, er, hO1⟩ := hp14
      subst eL
      replace er : (-9) = r13 := er.symm
      subst er
      have hO := hO.tr hO1
      exact q_retMi C0 hret rfl hlk dX6_walkSet_38 hP hD hS (⟨(by unfold jR_walkSet1; (try unfold bkF); (try unfold bkO); (try unfold shF); (try unfold shO);  (repeat' split) <;> first | omega | (exfalso; omega) | rfl), O, G, MP_eq hC (by unfold jS_walkSet1; (try unfold ltR); (try unfold inR); (try unfold bkF); (try unfold bkO); (try unfold shF); (try unfold shO);  (repeat' split) <;> first | omega | (exfalso; omega) | rfl), rfl, Ext0 hO⟩)
set_option maxHeartbeats 3000000 in
set_option maxRecDepth 100000 in
theorem c_X6_walkTake0 (l : Launch) (D : va_G) (y : Nat → ClassId) (L : List Nat) (F : Nat → va_E) (sz : Nat) (O : Nat → Prop) (G : MG) (μ : MS) (hC : MP y L F O G μ) (hW : MW μ) (hwk : vwk μ = none) : Met l yX6_walkTake (.code yX6_walkTake cX6_walkTake 2 (some .int) :: Tt) ({ frames := 1, cells := 0, slots := 0, locals := 20 }) (PcM D y L F sz [.ref ((ubg G))]) (cMi D (AL L sz) (fun r L1 F1 => r = jR_walkTake0 μ ∧ ∃ (O1 : Nat → Prop) (G1 : MG), MP y L1 F1 O1 G1 (jS_walkTake0 μ) ∧ ubg G1 = ubg G ∧ Ext O O1 L L1 F F1)) 0 0 (AL L sz) := by
  have hO : OE O F F := fun _ _ => rfl
  have hw5 := hW.2.2.2.2.2.1
  have hw6 := hW.2.2.2.2.2.2.1
  have hw7 := hW.2.2.2.2.2.2.2.1
  have wt_ : vtd μ = -1 := Classical.byContradiction (fun z => hW.2.2.2.2.2.2.2.2.1 z hwk)
  refine q_ofM (lv := [(0, .ref ((ubg G)))]) (by decide) (Nat.le_of_ble_eq_true rfl) rfl (fun p e s m below meth c C0 hret hlk hnm hA hP hD hS ls hl => ?_)
  have hx := C0.1.1
  have hb := C0.1.2.1
  have hts := C0.1.2.2.2.2
  refine lv_aload_n hx hb dX6_walkTake_0 rfl (lv_at hl 0 rfl) ?_
  refine q_iconst hx hb dX6_walkTake_1 ?_
  refine q_put C0 iX6 tyX6 tyX6_ok nmX6 hP hD hS (MP_o0 hC hwk).1 (MP_o0 hC hwk).2 rfl 10 (by decide) flX6_38 rfl rfl rfl rfl (Nat.le_of_ble_eq_true rfl) dX6_walkTake_2 (fun H locs hP hD hS => ?_)
  obtain ⟨F1, eF1⟩ : ∃ z, z = va_up F (ubg G) (.inr (8, [.ref ((uab G)), .ref ((uas G)), .ref ((uav G)), .ref ((uaf G)), .ref ((uat G)), .null, .int (iI (vbr μ)), .int (iI (vtd μ)), .int (iI (vbh μ)), .ref ((uac G)), .int (iI 0)])) := ⟨_, rfl⟩
  have hP : va_P D vwCl (va_pl L F1) H := by rw [eF1]; exact hP
  have hD : va_D (AL L sz) (va_pl L F1) := by rw [eF1]; exact hD
  have hO : OE O F F1 := by rw [eF1]; exact hO.tr (OE1 (MP_O hC).1)
  have hC : MP y L F1 O G (tOb μ none (vbr μ) (vtd μ) (vbh μ) 0) := by rw [eF1]; exact MP_ob hC (va_up_self _ _ _) (fun q hq => va_up_ne _ _ hq)
  refine lv_aload_n hx hb dX6_walkTake_5 rfl (lv_at hl 0 rfl) ?_
  refine q_get C0 iX6 hP hC.1.1 hC.1.2 rfl 7 (by decide) flX6_28 rfl (v := .int (iI (vtd μ))) rfl dX6_walkTake_6 ?_
  refine q_iconst hx hb dX6_walkTake_9 ?_
  refine q_icmp_ne hx hb dX6_walkTake_10 (tgt := 18) (by decide) (by omega) (by omega) (fun c2 => absurd c2 (by omega)) (fun c2 => ?_)
  refine lv_aload_n hx hb dX6_walkTake_13 rfl (lv_at hl 0 rfl) ?_
  refine q_vMi C0 lX6_89 (c_X6_refuse l D y L F1 _ O G (tOb μ none (vbr μ) (vtd μ) (vbh μ) 0) hC) ⟨rfl, rfl⟩ rfl hP hD hS hA hC.1.1 hC.1.2 rfl rfl rfl hl rfl (Nat.le_of_ble_eq_true rfl) dX6_walkTake_14 ⟨Nat.le_of_ble_eq_true rfl, Nat.le_of_ble_eq_true rfl⟩ (fun r3 H locs L4 F4 hP hD hS hz4 hp4 => ?_)
  obtain ⟨eL, hC, er, hO1⟩ := hp4
  subst eL
  replace er : (-9) = r3 := er.symm
  subst er
  have hO := hO.tr hO1
  exact q_retMi C0 hret rfl hlk dX6_walkTake_17 hP hD hS (⟨(by unfold jR_walkTake0; (try unfold bkF); (try unfold bkO); (try unfold shF); (try unfold shO);  (repeat' split) <;> first | omega | (exfalso; omega) | rfl), O, G, MP_eq hC (by unfold jS_walkTake0; (try unfold ltR); (try unfold inR); (try unfold bkF); (try unfold bkO); (try unfold shF); (try unfold shO);  (repeat' split) <;> first | omega | (exfalso; omega) | rfl), rfl, Ext0 hO⟩)
set_option maxHeartbeats 3000000 in
set_option maxRecDepth 100000 in
theorem c_X6_walkTake1 (l : Launch) (D : va_G) (y : Nat → ClassId) (L : List Nat) (F : Nat → va_E) (sz : Nat) (O : Nat → Prop) (G : MG) (μ : MS) (j : Nat) (hC : MP y L F O G μ) (hW : MW μ) (hwk : vwk μ = some j) : Met l yX6_walkTake (.code yX6_walkTake cX6_walkTake 2 (some .int) :: Tt) ({ frames := 1, cells := 0, slots := 0, locals := 21 }) (PcM D y L F sz [.ref ((ubg G))]) (cMi D (AL L sz) (fun r L1 F1 => r = jR_walkTake1 μ j ∧ ∃ (O1 : Nat → Prop) (G1 : MG), MP y L1 F1 O1 G1 (jS_walkTake1 μ j) ∧ ubg G1 = ubg G ∧ Ext O O1 L L1 F F1)) 0 0 (AL L sz) := by
  have hO : OE O F F := fun _ _ => rfl
  have hw5 := hW.2.2.2.2.2.1
  have hw6 := hW.2.2.2.2.2.2.1
  have hw7 := hW.2.2.2.2.2.2.2.1
  refine q_ofM (lv := [(0, .ref ((ubg G)))]) (by decide) (Nat.le_of_ble_eq_true rfl) rfl (fun p e s m below meth c C0 hret hlk hnm hA hP hD hS ls hl => ?_)
  have hx := C0.1.1
  have hb := C0.1.2.1
  have hts := C0.1.2.2.2.2
  refine lv_aload_n hx hb dX6_walkTake_0 rfl (lv_at hl 0 rfl) ?_
  refine q_iconst hx hb dX6_walkTake_1 ?_
  refine q_put C0 iX6 tyX6 tyX6_ok nmX6 hP hD hS (MP_o1 hC hwk).1 (MP_o1 hC hwk).2 rfl 10 (by decide) flX6_38 rfl rfl rfl rfl (Nat.le_of_ble_eq_true rfl) dX6_walkTake_2 (fun H locs hP hD hS => ?_)
  obtain ⟨F1, eF1⟩ : ∃ z, z = va_up F (ubg G) (.inr (8, [.ref ((uab G)), .ref ((uas G)), .ref ((uav G)), .ref ((uaf G)), .ref ((uat G)), .ref ((urh G j)), .int (iI (vbr μ)), .int (iI (vtd μ)), .int (iI (vbh μ)), .ref ((uac G)), .int (iI 0)])) := ⟨_, rfl⟩
  have hP : va_P D vwCl (va_pl L F1) H := by rw [eF1]; exact hP
  have hD : va_D (AL L sz) (va_pl L F1) := by rw [eF1]; exact hD
  have hO : OE O F F1 := by rw [eF1]; exact hO.tr (OE1 (MP_O hC).1)
  have hC : MP y L F1 O G (tOb μ (some j) (vbr μ) (vtd μ) (vbh μ) 0) := by rw [eF1]; exact MP_ob hC (va_up_self _ _ _) (fun q hq => va_up_ne _ _ hq)
  refine lv_aload_n hx hb dX6_walkTake_5 rfl (lv_at hl 0 rfl) ?_
  refine q_get C0 iX6 hP hC.1.1 hC.1.2 rfl 7 (by decide) flX6_28 rfl (v := .int (iI (vtd μ))) rfl dX6_walkTake_6 ?_
  refine q_iconst hx hb dX6_walkTake_9 ?_
  refine q_icmp_ne hx hb dX6_walkTake_10 (tgt := 18) (by decide) (by omega) (by omega) (fun c2 => ?_) (fun c2 => ?_)
  · refine lv_aload_n hx hb dX6_walkTake_18 rfl (lv_at hl 0 rfl) ?_
    refine q_get C0 iX6 hP hC.1.1 hC.1.2 rfl 5 (by decide) flX6_45 rfl (v := .ref ((urh G j))) rfl dX6_walkTake_19 ?_
    refine lv_aload_n hx hb dX6_walkTake_22 rfl (lv_at hl 0 rfl) ?_
    refine q_get C0 iX6 hP hC.1.1 hC.1.2 rfl 7 (by decide) flX6_28 rfl (v := .int (iI (vtd μ))) rfl dX6_walkTake_23 ?_
    refine q_vS C0 lX6_117 (c_X5_pair l D y L F1 (urh G j) (urw G j) (vod μ j) (vst μ j) (vtd μ) (MP_r hC (hW.2.2.2.1 j hwk)) (by omega)) ⟨rfl, rfl⟩ rfl hP (MP_r hC (hW.2.2.2.1 j hwk)).1 (MP_r hC (hW.2.2.2.1 j hwk)).2.1 rfl rfl rfl hl rfl (Nat.le_of_ble_eq_true rfl) dX6_walkTake_26 ⟨Nat.zero_le _, Nat.zero_le _⟩ (fun r3 e_r3 => ?_)
    subst e_r3
    refine lv_istore_n (lv' := [(1, .int (iI (((vtd μ) * 100 + (vst μ j) (turn (vod μ j) (vtd μ)))))), (0, .ref ((ubg G)))]) hx hb dX6_walkTake_29 rfl hl (by decide) rfl (fun ls hl => ?_)
    refine lv_aload_n hx hb dX6_walkTake_30 rfl (lv_at hl 1 rfl) ?_
    refine q_get C0 iX6 hP hC.1.1 hC.1.2 rfl 5 (by decide) flX6_45 rfl (v := .ref ((urh G j))) rfl dX6_walkTake_31 ?_
    refine q_getN C0 iX5 hP (MP_r hC (hW.2.2.2.1 j hwk)).1 (MP_r hC (hW.2.2.2.1 j hwk)).2.1 rfl 1 (by decide) C0.2.2.2.2.2.2.1 rfl (v := .ref ((urw G j))) rfl dX6_walkTake_34 ?_
    refine lv_aload_n hx hb dX6_walkTake_37 rfl (lv_at hl 1 rfl) ?_
    refine q_get C0 iX6 hP hC.1.1 hC.1.2 rfl 7 (by decide) flX6_28 rfl (v := .int (iI (vtd μ))) rfl dX6_walkTake_38 ?_
    refine q_iconst hx hb dX6_walkTake_41 ?_
    refine q_iast C0 hP hD hS (MP_r hC (hW.2.2.2.1 j hwk)).2.2.1 (MP_r hC (hW.2.2.2.1 j hwk)).2.2.2.1 (i := (vtd μ)) (v := (-1)) (by omega) (by decide) dX6_walkTake_42 (fun H locs hP hD hS => ?_)
    replace hP := va_P_re (a := (urw G j)) (e := arrI (y 0) 100 (mwd (vod μ j) (iu (vst μ j) (turn (vod μ j) (vtd μ)) (-1)))) hP (fun X z => by rw [va_up_self] at z; exact at_arrI (fun i h0 h1 => mwd_iu (by omega) i h0 h1) X z)
    replace hP : va_P D vwCl (va_pl L (va_up F1 (urw G j) (arrI (y 0) 100 (mwd (vod μ j) (iu (vst μ j) (turn (vod μ j) (vtd μ)) (-1)))))) H := by rw [va_up_up] at hP; exact hP
    replace hD := va_D_re (F1 := va_up F1 (urw G j) (arrI (y 0) 100 (mwd (vod μ j) (iu (vst μ j) (turn (vod μ j) (vtd μ)) (-1))))) hD
    obtain ⟨F4, eF4⟩ : ∃ z, z = va_up F1 (urw G j) (arrI (y 0) 100 (mwd (vod μ j) (iu (vst μ j) (turn (vod μ j) (vtd μ)) (-1)))) := ⟨_, rfl⟩
    have hP : va_P D vwCl (va_pl L F4) H := by rw [eF4]; exact hP
    have hD : va_D (AL L sz) (va_pl L F4) := by rw [eF4]; exact hD
    have hO : OE O F F4 := by rw [eF4]; exact hO.tr (OE1 ((MP_O hC).2.2.2.2.2.2.2 _ (hW.2.2.2.1 j hwk)).2)
    have hC : MP y L F4 O G (tRw (tOb μ (some j) (vbr μ) (vtd μ) (vbh μ) 0) j (iu (vst μ j) (turn (vod μ j) (vtd μ)) (-1))) := by rw [eF4]; exact MP_row hC (hW.2.2.2.1 j hwk) (va_up_self _ _ _) (fun r => by unfold iu; split <;> first | omega | exact (MP_r hC (hW.2.2.2.1 j hwk)).2.2.2.2.2 r) (fun q hq => va_up_ne _ _ hq)
    refine lv_aload_n hx hb dX6_walkTake_43 rfl (lv_at hl 1 rfl) ?_
    refine q_iconst hx hb dX6_walkTake_44 ?_
    refine q_put C0 iX6 tyX6 tyX6_ok nmX6 hP hD hS hC.1.1 hC.1.2 rfl 7 (by decide) flX6_28 rfl rfl rfl rfl (Nat.le_of_ble_eq_true rfl) dX6_walkTake_45 (fun H locs hP hD hS => ?_)
    obtain ⟨F5, eF5⟩ : ∃ z, z = va_up F4 (ubg G) (.inr (8, [.ref ((uab G)), .ref ((uas G)), .ref ((uav G)), .ref ((uaf G)), .ref ((uat G)), .ref ((urh G j)), .int (iI (vbr μ)), .int (iI ((-1))), .int (iI (vbh μ)), .ref ((uac G)), .int (iI 0)])) := ⟨_, rfl⟩
    have hP : va_P D vwCl (va_pl L F5) H := by rw [eF5]; exact hP
    have hD : va_D (AL L sz) (va_pl L F5) := by rw [eF5]; exact hD
    have hO : OE O F F5 := by rw [eF5]; exact hO.tr (OE1 (MP_O hC).1)
    have hC : MP y L F5 O G (tOb (tRw (tOb μ (some j) (vbr μ) (vtd μ) (vbh μ) 0) j (iu (vst μ j) (turn (vod μ j) (vtd μ)) (-1))) (some j) (vbr μ) (-1) (vbh μ) 0) := by rw [eF5]; exact MP_ob hC (va_up_self _ _ _) (fun q hq => va_up_ne _ _ hq)
    refine lv_aload_n hx hb dX6_walkTake_48 rfl (lv_at hl 1 rfl) ?_
    refine lv_iload_n hx hb dX6_walkTake_49 rfl (lv_at hl 0 rfl) ?_
    refine q_vMi C0 lX6_71 (c_X6_did l D y L F5 _ O G (tOb (tRw (tOb μ (some j) (vbr μ) (vtd μ) (vbh μ) 0) j (iu (vst μ j) (turn (vod μ j) (vtd μ)) (-1))) (some j) (vbr μ) (-1) (vbh μ) 0) ((vtd μ) * 100 + (vst μ j) (turn (vod μ j) (vtd μ))) hC) ⟨rfl, rfl⟩ rfl hP hD hS hA hC.1.1 hC.1.2 rfl rfl rfl hl rfl (Nat.le_of_ble_eq_true rfl) dX6_walkTake_50 ⟨Nat.le_of_ble_eq_true rfl, Nat.le_of_ble_eq_true rfl⟩ (fun r6 H locs L7 F7 hP hD hS hz7 hp7 => ?_)
    obtain ⟨eL, hC, er, hO1⟩ := hp7
    subst eL
    replace er : ((vtd μ) * 100 + (vst μ j) (turn (vod μ j) (vtd μ))) = r6 := er.symm
    subst er
    have hO := hO.tr hO1
    exact q_retMi C0 hret rfl hlk dX6_walkTake_53 hP hD hS (⟨(by unfold jR_walkTake1; (try unfold bkF); (try unfold bkO); (try unfold shF); (try unfold shO);  (repeat' split) <;> first | omega | (exfalso; omega) | rfl), O, G, MP_eq hC (by unfold jS_walkTake1; (try unfold ltR); (try unfold inR); (try unfold bkF); (try unfold bkO); (try unfold shF); (try unfold shO);  (repeat' split) <;> first | omega | (exfalso; omega) | rfl), rfl, Ext0 hO⟩)
  · refine lv_aload_n hx hb dX6_walkTake_13 rfl (lv_at hl 0 rfl) ?_
    refine q_vMi C0 lX6_89 (c_X6_refuse l D y L F1 _ O G (tOb μ (some j) (vbr μ) (vtd μ) (vbh μ) 0) hC) ⟨rfl, rfl⟩ rfl hP hD hS hA hC.1.1 hC.1.2 rfl rfl rfl hl rfl (Nat.le_of_ble_eq_true rfl) dX6_walkTake_14 ⟨Nat.le_of_ble_eq_true rfl, Nat.le_of_ble_eq_true rfl⟩ (fun r8 H locs L9 F9 hP hD hS hz9 hp9 => ?_)
    obtain ⟨eL, hC, er, hO1⟩ := hp9
    subst eL
    replace er : (-9) = r8 := er.symm
    subst er
    have hO := hO.tr hO1
    exact q_retMi C0 hret rfl hlk dX6_walkTake_17 hP hD hS (⟨(by unfold jR_walkTake1; (try unfold bkF); (try unfold bkO); (try unfold shF); (try unfold shO);  (repeat' split) <;> first | omega | (exfalso; omega) | rfl), O, G, MP_eq hC (by unfold jS_walkTake1; (try unfold ltR); (try unfold inR); (try unfold bkF); (try unfold bkO); (try unfold shF); (try unfold shO);  (repeat' split) <;> first | omega | (exfalso; omega) | rfl), rfl, Ext0 hO⟩)
set_option maxHeartbeats 3000000 in
set_option maxRecDepth 100000 in
theorem c_X6_isSound (l : Launch) (D : va_G) (y : Nat → ClassId) (L : List Nat) (F : Nat → va_E) (sz : Nat) (O : Nat → Prop) (G : MG) (μ : MS) (hC : MP y L F O G μ) (hW : MW μ) : Met l yX6_isSound (.code yX6_isSound cX6_isSound 1 (some .boolean) :: Tt) ({ frames := 0, cells := 0, slots := 0, locals := 0 }) (PcM D y L F sz [.ref ((ubg G))]) (cMi D (AL L sz) (fun r L1 F1 => r = jR_isSound μ ∧ ∃ (O1 : Nat → Prop) (G1 : MG), MP y L1 F1 O1 G1 (jS_isSound μ) ∧ ubg G1 = ubg G ∧ Ext O O1 L L1 F F1)) 0 0 (AL L sz) := by
  have hO : OE O F F := fun _ _ => rfl
  have hw5 := hW.2.2.2.2.2.1
  have hw6 := hW.2.2.2.2.2.2.1
  have hw7 := hW.2.2.2.2.2.2.2.1
  refine q_ofM (lv := [(0, .ref ((ubg G)))]) (by decide) (Nat.le_of_ble_eq_true rfl) rfl (fun p e s m below meth c C0 hret hlk hnm hA hP hD hS ls hl => ?_)
  have hx := C0.1.1
  have hb := C0.1.2.1
  have hts := C0.1.2.2.2.2
  refine lv_aload_n hx hb dX6_isSound_0 rfl (lv_at hl 0 rfl) ?_
  refine q_iconst hx hb dX6_isSound_1 ?_
  refine q_put C0 iX6 tyX6 tyX6_ok nmX6 hP hD hS hC.1.1 hC.1.2 rfl 10 (by decide) flX6_38 rfl rfl rfl rfl (Nat.le_of_ble_eq_true rfl) dX6_isSound_2 (fun H locs hP hD hS => ?_)
  obtain ⟨F1, eF1⟩ : ∃ z, z = va_up F (ubg G) (.inr (8, [.ref ((uab G)), .ref ((uas G)), .ref ((uav G)), .ref ((uaf G)), .ref ((uat G)), va_rf (Option.map (urh G) (vwk μ)), .int (iI (vbr μ)), .int (iI (vtd μ)), .int (iI (vbh μ)), .ref ((uac G)), .int (iI 0)])) := ⟨_, rfl⟩
  have hP : va_P D vwCl (va_pl L F1) H := by rw [eF1]; exact hP
  have hD : va_D (AL L sz) (va_pl L F1) := by rw [eF1]; exact hD
  have hO : OE O F F1 := by rw [eF1]; exact hO.tr (OE1 (MP_O hC).1)
  have hC : MP y L F1 O G (tOb μ (vwk μ) (vbr μ) (vtd μ) (vbh μ) 0) := by rw [eF1]; exact MP_ob hC (va_up_self _ _ _) (fun q hq => va_up_ne _ _ hq)
  refine q_iconst hx hb dX6_isSound_5 ?_
  exact q_retMi C0 hret (by decide) hlk dX6_isSound_6 hP hD hS (⟨(by unfold jR_isSound; (try unfold bkF); (try unfold bkO); (try unfold shF); (try unfold shO);  (repeat' split) <;> first | omega | (exfalso; omega) | rfl), O, G, MP_eq hC (by unfold jS_isSound; (try unfold ltR); (try unfold inR); (try unfold bkF); (try unfold bkO); (try unfold shF); (try unfold shO);  (repeat' split) <;> first | omega | (exfalso; omega) | rfl), rfl, Ext0 hO⟩)
