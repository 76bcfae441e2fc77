theorem tM_1 {μ : MS} {i : Nat} {g : Int → Int} (h : vst μ i = g) : μ = tM μ i g (vbr μ) := h ▸ tM_0 μ i
def jS_freshBook (μ : MS) (b o : Int) : MS := if (0 ≤ b ∧ b ≤ 3) then (if (0 ≤ o ∧ o ≤ 2) then tDi (tBk (tNw (tTh μ 0) o emp) b (vn μ)) 0 else tTh μ 2) else tTh μ 1
def jR_freshBook (μ : MS) (b o : Int) : Int := if ((0 ≤ b ∧ b ≤ 3)) ∧ (0 ≤ o ∧ o ≤ 2) then cntP (vst μ (vbk μ b)) 0 99 else 0
def jS_freshShelf (μ : MS) (b o : Int) : MS := if (0 ≤ b ∧ b ≤ 2) then (if (0 ≤ o ∧ o ≤ 2) then tDi (tSh (tNw (tTh μ 0) o emp) b (vn μ)) 1 else tTh μ 2) else tTh μ 1
def jR_freshShelf (μ : MS) (b o : Int) : Int := if ((0 ≤ b ∧ b ≤ 2)) ∧ (0 ≤ o ∧ o ≤ 2) then cntP (vst μ (vsh μ b)) 0 99 else 0
def jS_buildBook (μ : MS) (b a w : Int) : MS := if (0 ≤ b ∧ b ≤ 3) ∧ (0 ≤ a ∧ a ≤ 3) then (if (0 ≤ w ∧ w ≤ 6) then tDi (tBk (tNw (tTh μ 0) (bo w (vod μ (vbk μ a))) (mlk (bo w (vod μ (vbk μ a))) (vod μ (vbk μ a)) (vst μ (vbk μ a)) 0 99 emp)) b (vn μ)) 0 else tTh μ 2) else tTh μ 1
def jR_buildBook (μ : MS) (b a w : Int) : Int := if ((0 ≤ b ∧ b ≤ 3) ∧ (0 ≤ a ∧ a ≤ 3)) ∧ (0 ≤ w ∧ w ≤ 6) then cntP (mlk (bo w (vod μ (vbk μ a))) (vod μ (vbk μ a)) (vst μ (vbk μ a)) 0 99 emp) 0 99 else 0
def jS_buildShelf (μ : MS) (b a w : Int) : MS := if (0 ≤ b ∧ b ≤ 2) ∧ (0 ≤ a ∧ a ≤ 2) then (if (0 ≤ w ∧ w ≤ 6) then tDi (tSh (tNw (tTh μ 0) (bo w (vod μ (vsh μ a))) (mlk (bo w (vod μ (vsh μ a))) (vod μ (vsh μ a)) (vst μ (vsh μ a)) 0 99 emp)) b (vn μ)) 1 else tTh μ 2) else tTh μ 1
def jR_buildShelf (μ : MS) (b a w : Int) : Int := if ((0 ≤ b ∧ b ≤ 2) ∧ (0 ≤ a ∧ a ≤ 2)) ∧ (0 ≤ w ∧ w ≤ 6) then cntP (mlk (bo w (vod μ (vsh μ a))) (vod μ (vsh μ a)) (vst μ (vsh μ a)) 0 99 emp) 0 99 else 0
def jS_buildFromView (μ : MS) (b v w : Int) : MS := if (0 ≤ b ∧ b ≤ 3) ∧ (0 ≤ v ∧ v ≤ 1) then (if (0 ≤ w ∧ w ≤ 1) then tDi (tBk (tNw (tTh μ 0) (vod μ (vvw μ v)) (mlk (vod μ (vvw μ v)) (vod μ (vvw μ v)) (vst μ (vvw μ v)) (vvl μ v) (vvh μ v) emp)) b (vn μ)) 0 else tTh μ 2) else tTh μ 1
def jR_buildFromView (μ : MS) (b v w : Int) : Int := if ((0 ≤ b ∧ b ≤ 3) ∧ (0 ≤ v ∧ v ≤ 1)) ∧ (0 ≤ w ∧ w ≤ 1) then cntP (mlk (vod μ (vvw μ v)) (vod μ (vvw μ v)) (vst μ (vvw μ v)) (vvl μ v) (vvh μ v) emp) 0 99 else 0
def spG (μ : MS) (b k : Int) : Int → Int := mlk (vod μ (vbk μ b)) (vod μ (vbk μ b)) (vst μ (vbk μ b)) (turn (vod μ (vbk μ b)) k) 99 emp
def jS_splitBook (μ : MS) (b k c : Int) : MS := if (0 ≤ b ∧ b ≤ 3) ∧ (0 ≤ c ∧ c ≤ 3) then (if (0 ≤ k ∧ k ≤ 99) then (if b = c then tDi (tTh μ 0) 2 else tDi (tX (tWr (tBk (tNw (tTh μ 0) (vod μ (vbk μ b)) (spG μ b k)) c (vn μ)) (vbk μ b)) (vbk μ b) (clX μ (vbk μ b) (turn (vod μ (vbk μ b)) k) 99)) 0) else tTh μ 2) else tTh μ 1
def jR_splitBook (μ : MS) (b k c : Int) : Int := if ((0 ≤ b ∧ b ≤ 3) ∧ (0 ≤ c ∧ c ≤ 3)) ∧ (0 ≤ k ∧ k ≤ 99) then (if b = c then -9 else (clX μ (vbk μ b) (turn (vod μ (vbk μ b)) k) 99).2.2) else 0
def koU (o2 : Int) (f2 : Int → Int) (k : Option Nat) (i : Nat) (q : Int) (x : SX) : SX := if isT f2 (turn o2 q) ≠ 0 then sX k i (turn 0 q) 0 x else sX k i (turn 0 q) (-1) x
def koX (μ : MS) (a : Int) : SX := itrP (koU (vod μ (vbk μ a)) (vst μ (vbk μ a)) (vwk μ) (vn μ)) 0 99 (emp, vbr μ, 0)
def jS_keysOf (μ : MS) (b a : Int) : MS := if (0 ≤ b ∧ b ≤ 2) ∧ (0 ≤ a ∧ a ≤ 3) then tDi (tX (tSh (tNw (tTh μ 0) 0 emp) b (vn μ)) (vn μ) (koX μ a)) 1 else tTh μ 1
def jR_keysOf (μ : MS) (b a : Int) : Int := if (0 ≤ b ∧ b ≤ 2) ∧ (0 ≤ a ∧ a ≤ 3) then cntP (koX μ a).1 0 99 else 0
def jS_shelfCut (μ : MS) (b low high t c : Int) : MS := if (0 ≤ b ∧ b ≤ 2) ∧ (0 ≤ c ∧ c ≤ 2) then (if (0 ≤ low ∧ low ≤ 99) ∧ (0 ≤ high ∧ high ≤ 99) ∧ (0 ≤ t ∧ t ≤ 4) then (if turn (vod μ (vsh μ b)) high < turn (vod μ (vsh μ b)) low then tDi (tTh μ 0) 2 else if t = 0 then tTh μ 0 else if t = 4 then tDi (tSh (tNw (tTh μ 0) (vod μ (vsh μ b)) (mlk (vod μ (vsh μ b)) (vod μ (vsh μ b)) (vst μ (vsh μ b)) (turn (vod μ (vsh μ b)) low) (turn (vod μ (vsh μ b)) high - 1) emp)) c (vn μ)) 1 else tDi (dpS (tTh μ 0) (vsh μ b) (if t = 1 then 2 else t - 2) (turn (vod μ (vsh μ b)) low) (turn (vod μ (vsh μ b)) high - 1)) 1) else tTh μ 2) else tTh μ 1
def jR_shelfCut (μ : MS) (b low high t c : Int) : Int := if ((0 ≤ b ∧ b ≤ 2) ∧ (0 ≤ c ∧ c ≤ 2)) ∧ (0 ≤ low ∧ low ≤ 99) ∧ (0 ≤ high ∧ high ≤ 99) ∧ (0 ≤ t ∧ t ≤ 4) then (if turn (vod μ (vsh μ b)) high < turn (vod μ (vsh μ b)) low then -9 else if t = 0 ∨ t = 1 ∨ t = 4 then cntP (vst μ (vsh μ b)) (turn (vod μ (vsh μ b)) low) (turn (vod μ (vsh μ b)) high - 1) else k100 (dpR (tTh μ 0) (vsh μ b) (t - 2) (turn (vod μ (vsh μ b)) low) (turn (vod μ (vsh μ b)) high - 1))) else 0
set_option maxHeartbeats 3000000 in
set_option maxRecDepth 100000 in
theorem c_X6_freshBook (l : Launch) (D : va_G) (y : Nat → ClassId) (L : List Nat) (F : Nat → va_E) (sz : Nat) (O : Nat → Prop) (G : MG) (μ : MS) (xb : Int) (xo : Int) (hC : MP y L F O G μ) (hW : MW μ) (h_xb : -2147483648 ≤ xb ∧ xb ≤ 2147483647) (h_xo : -2147483648 ≤ xo ∧ xo ≤ 2147483647) : Met l yX6_freshBook (.code yX6_freshBook cX6_freshBook 4 (some .int) :: Tt) ({ frames := 2, cells := 4, slots := 204, locals := 45 }) (PcM D y L F sz [.ref ((ubg G)), .int (iI xb), .int (iI xo)]) (cMi D (AL L sz) (fun r L1 F1 => r = jR_freshBook μ xb xo ∧ ∃ (O1 : Nat → Prop) (G1 : MG), MP y L1 F1 O1 G1 (jS_freshBook μ xb xo) ∧ ubg G1 = ubg G ∧ Ext O O1 L L1 F F1)) 4 204 (AL L sz) := by
  have hO : OE O F F := fun _ _ => rfl
  have hw5 := hW.2.2.2.2.2.1
  have hw6 := hW.2.2.2.2.2.2.1
  have hw7 := hW.2.2.2.2.2.2.2.1
  refine q_ofM (lv := [(0, .ref ((ubg G))), (1, .int (iI xb)), (2, .int (iI xo))]) (by decide) (Nat.le_of_ble_eq_true rfl) rfl (fun p e s m below meth c C0 hret hlk hnm hA hP hD hS ls hl => ?_)
  have hx := C0.1.1
  have hb := C0.1.2.1
  have hts := C0.1.2.2.2.2
  refine lv_aload_n hx hb dX6_freshBook_0 rfl (lv_at hl 0 rfl) ?_
  refine lv_iload_n hx hb dX6_freshBook_1 rfl (lv_at hl 1 rfl) ?_
  refine q_sS C0 lX6_60 (c_X6_isBook l D y L F xb (by omega)) ⟨rfl, rfl⟩ rfl hP rfl hl rfl (Nat.le_of_ble_eq_true rfl) dX6_freshBook_2 ⟨Nat.zero_le _, Nat.zero_le _⟩ (fun r1 e_r1 => ?_)
  subst e_r1
  have b_2 := inR_d xb 0 3
  refine lv_iload_n hx hb dX6_freshBook_5 rfl (lv_at hl 2 rfl) ?_
  refine q_iconst hx hb dX6_freshBook_6 ?_
  refine q_iconst hx hb dX6_freshBook_7 ?_
  refine q_sS C0 lX6_41 (c_X6_isIn l D y L F xo 0 2 (by omega) (by omega) (by omega)) ⟨rfl, rfl⟩ rfl hP rfl hl rfl (Nat.le_of_ble_eq_true rfl) dX6_freshBook_8 ⟨Nat.zero_le _, Nat.zero_le _⟩ (fun r3 e_r3 => ?_)
  subst e_r3
  have b_4 := inR_d xo 0 2
  refine q_vMi C0 lX6_63 (c_X6_isLet l D y L F _ O G μ (inR xb 0 3) (inR xo 0 2) hC (by omega) (by omega)) ⟨rfl, rfl⟩ rfl hP hD hS hA hC.1.1 hC.1.2 rfl rfl rfl hl rfl (Nat.le_of_ble_eq_true rfl) dX6_freshBook_11 ⟨Nat.le_of_ble_eq_true rfl, Nat.le_of_ble_eq_true rfl⟩ (fun r5 H locs L6 F6 hP hD hS hz6 hp6 => ?_)
  obtain ⟨eL, hC, er, hO1⟩ := hp6
  subst eL
  replace er := er.symm
  subst er
  have hO := hO.tr hO1
  have k_7 := okR_d (inR xb 0 3) (inR xo 0 2)
  refine q_if_ne hx hb dX6_freshBook_14 (tgt := 19) (by decide) (by omega) (fun c8 => ?_) (fun c8 => ?_)
  · replace k_7 := k_7.resolve_right (fun h => c8 h.1)
    refine lv_aload_n hx hb dX6_freshBook_19 rfl (lv_at hl 0 rfl) ?_
    refine q_get C0 iX6 hP hC.1.1 hC.1.2 rfl 0 (by decide) flX6_11 rfl (v := .ref ((uab G))) rfl dX6_freshBook_20 ?_
    refine lv_iload_n hx hb dX6_freshBook_23 rfl (lv_at hl 1 rfl) ?_
    refine q_aald C0 hP hC.2.1.1 hC.2.1.2 (t := 3) rfl (by omega) (by decide) (v := .ref ((urh G (vbk μ xb)))) rfl dX6_freshBook_24 ?_
    refine q_iconst hx hb dX6_freshBook_25 ?_
    refine q_bipush hx hb dX6_freshBook_26 (by decide) ?_
    refine q_vS C0 lX6_67 (c_X5_many l D y L F6 (urh G (vbk μ xb)) (urw G (vbk μ xb)) (vod μ (vbk μ xb)) (vst μ (vbk μ xb)) 0 99 (MP_r hC (hW.1 xb)) (by omega) (by omega)) ⟨rfl, rfl⟩ rfl hP (MP_r hC (hW.1 xb)).1 (MP_r hC (hW.1 xb)).2.1 rfl rfl rfl hl rfl (Nat.le_of_ble_eq_true rfl) dX6_freshBook_28 ⟨Nat.zero_le _, Nat.zero_le _⟩ (fun r9 e_r9 => ?_)
    subst e_r9
    refine lv_istore_n (lv' := [(3, .int (iI ((cntP (vst μ (vbk μ xb)) 0 99)))), (0, .ref ((ubg G))), (1, .int (iI xb)), (2, .int (iI xo))]) hx hb dX6_freshBook_31 rfl hl (by decide) rfl (fun ls hl => ?_)
    refine lv_aload_n hx hb dX6_freshBook_32 rfl (lv_at hl 1 rfl) ?_
    refine q_get C0 iX6 hP hC.1.1 hC.1.2 rfl 0 (by decide) flX6_11 rfl (v := .ref ((uab G))) rfl dX6_freshBook_33 ?_
    refine lv_iload_n hx hb dX6_freshBook_36 rfl (lv_at hl 2 rfl) ?_
    refine q_new C0 iX5 tyX5 tyX5_ok klX6_9 insX5 iniX5 hP hD hS hA (ci := 7) rfl (fs := [.int (iI 0), .null]) (fun j hj => by rcases (show j = 0 ∨ j = 1 by omega) with rfl | rfl <;> rfl) (Nat.le_of_ble_eq_true rfl) (Nat.le_of_ble_eq_true rfl) dX6_freshBook_37 (fun q10 H hq10 hP hD hS => ?_)
    refine W.widen (k := 1) (n := 2) (Nat.le_of_ble_eq_true rfl) (Nat.le_of_ble_eq_true rfl) ?_
    obtain ⟨F11, eF11⟩ : ∃ z, z = va_up F6 q10 (.inr (7, [.int (iI 0), .null])) := ⟨_, rfl⟩
    have hP : va_P D vwCl (va_pl (L ++ [q10]) F11) H := by rw [eF11]; exact hP
    have hD : va_D (AL L sz) (va_pl (L ++ [q10]) F11) := by rw [eF11]; exact hD
    have hfn : ∀ a ∈ L, F11 a = F6 a := by rw [eF11]; exact fun a h1 => va_up_ne _ _ (ne_in h1 hq10)
    have hFq10 : F11 q10 = .inr (7, [.int (iI 0), .null]) := by rw [eF11]; exact va_up_self _ _ _
    refine lv_dup hx hb dX6_freshBook_40 rfl ?_
    refine lv_iload_n hx hb dX6_freshBook_41 rfl (lv_at hl 3 rfl) ?_
    refine q_iMv C0 lX6_35 (c_X5_init l D y (L ++ [q10]) F11 _ q10 xo (List.mem_append_right _ List.mem_cons_self) hFq10 (by omega)) ⟨rfl, rfl⟩ rfl hP hD hS hA rfl hl rfl (Nat.le_of_ble_eq_true rfl) dX6_freshBook_42 ⟨Nat.le_of_ble_eq_true rfl, Nat.le_of_ble_eq_true rfl⟩ (fun _ H locs L13 F13 hP hD hS hz13 hp13 => ?_)
    refine W.widen (k := 2) (n := 102) (Nat.le_of_ble_eq_true rfl) (Nat.le_of_ble_eq_true rfl) ?_
    obtain ⟨q10w, hqq10w, eL, hRn, hfr1⟩ := hp13
    subst eL
    have hfn : ∀ a ∈ L, F13 a = F6 a := fun a h1 => (hfr1 a (List.mem_append_left _ h1) (ne_in h1 hq10)).trans (hfn a h1)
    have hRm : MB y ((L ++ [q10]) ++ [q10w]) F13 q10 q10w xo emp := hRn
    have hC : MP y ((L ++ [q10]) ++ [q10w]) F13 (fun a => O a ∨ a ∉ L) (uNw G (vn μ) q10 q10w) (tNw (tTh μ (ltR (inR xb 0 3) (inR xo 0 2))) xo emp) := MP_new (μ := (tTh μ (ltR (inR xb 0 3) (inR xo 0 2)))) (G := G) (o := xo) (g := emp) (F1 := F13) hC rfl hq10 (fun h1 => hqq10w (List.mem_append_left _ h1)) hRm hfn ⟨hW.1, hW.2.1, hW.2.2.1, hW.2.2.2.1⟩
    have hE : ∀ q ∈ L, ¬ O q → F13 q = F q := fun q h1 h2 => (hfn q h1).trans (hO q h2)
    have hO : OE (fun a => O a ∨ a ∉ L) F13 F13 := fun _ _ => rfl
    have er : urh (uNw G (vn μ) q10 q10w) (vn μ) = q10 := va_up_self _ _ _
    refine q_aast C0 hP hD hS hC.2.1.1 hC.2.1.2 (t := 3) (r := (RX5, TX5, 2)) rfl hRm.1 hRm.2.1 rfl (by omega) (by decide) dX6_freshBook_45 (fun H locs hP hD hS => ?_)
    obtain ⟨F14, eF14⟩ : ∃ z, z = va_up F13 (uab (uNw G (vn μ) q10 q10w)) (arrQ (y 3) 4 (iu (fun j => some (urh (uNw G (vn μ) q10 q10w) (vbk (tNw (tTh μ (ltR (inR xb 0 3) (inR xo 0 2))) xo emp) j))) xb (some q10))) := ⟨_, rfl⟩
    have hP : va_P D vwCl (va_pl ((L ++ [q10]) ++ [q10w]) F14) H := by rw [eF14]; exact hP
    have hD : va_D (AL L sz) (va_pl ((L ++ [q10]) ++ [q10w]) F14) := by rw [eF14]; exact hD
    have hO : OE (fun a => O a ∨ a ∉ L) F13 F14 := by rw [eF14]; exact hO.tr (OE1 (MP_O hC).2.1)
    have hC : MP y ((L ++ [q10]) ++ [q10w]) F14 (fun a => O a ∨ a ∉ L) (uNw G (vn μ) q10 q10w) (tBk (tNw (tTh μ (ltR (inR xb 0 3) (inR xo 0 2))) xo emp) xb (vn μ)) := by rw [eF14]; exact MP_bk hC (by rw [er]; exact va_up_self _ _ _) (fun q hq => va_up_ne _ _ hq)
    refine lv_aload_n hx hb dX6_freshBook_46 rfl (lv_at hl 1 rfl) ?_
    refine lv_iload_n hx hb dX6_freshBook_47 rfl (lv_at hl 0 rfl) ?_
    refine q_vMi C0 lX6_71 (c_X6_did l D y ((L ++ [q10]) ++ [q10w]) F14 _ (fun a => O a ∨ a ∉ L) (uNw G (vn μ) q10 q10w) (tBk (tNw (tTh μ (ltR (inR xb 0 3) (inR xo 0 2))) xo emp) xb (vn μ)) (cntP (vst μ (vbk μ xb)) 0 99) hC) ⟨rfl, rfl⟩ rfl hP hD hS hA hC.1.1 hC.1.2 rfl rfl rfl hl rfl (Nat.le_of_ble_eq_true rfl) dX6_freshBook_48 ⟨Nat.le_of_ble_eq_true rfl, Nat.le_of_ble_eq_true rfl⟩ (fun r15 H locs L16 F16 hP hD hS hz16 hp16 => ?_)
    obtain ⟨eL, hC, er, hO1⟩ := hp16
    subst eL
    replace er : (cntP (vst μ (vbk μ xb)) 0 99) = r15 := er.symm
    subst er
    have hO := hO.tr hO1
    refine W.widen (k := 4) (n := 204) (Nat.le_of_ble_eq_true rfl) (Nat.le_of_ble_eq_true rfl) ?_
    exact q_retMi C0 hret rfl hlk dX6_freshBook_51 hP hD hS (⟨(by 
    have lt_ := ltR_d (inR xb 0 3) (inR xo 0 2)
    unfold jR_freshBook ; (try rw [show ltR (inR xb 0 3) (inR xo 0 2) = 0 by omega]); (repeat (first | rw [if_pos (by omega)] | rw [if_neg (by omega)]))
    all_goals (first | rfl | omega)), (fun a => O a ∨ a ∉ L), (uNw G (vn μ) q10 q10w), MP_eq hC (by 
    have lt_ := ltR_d (inR xb 0 3) (inR xo 0 2)
    unfold jS_freshBook ; rw [show ltR (inR xb 0 3) (inR xo 0 2) = 0 by omega]; (repeat (first | rw [if_pos (by omega)] | rw [if_neg (by omega)]))
    all_goals rfl), rfl, ⟨fun q h => List.mem_append_left _ (List.mem_append_left _ h), fun q h1 h2 => (hO q (fun z => z.elim h2 (fun w => w h1))).trans (hE q h1 h2), fun q h => h⟩⟩)
  · replace k_7 := k_7.resolve_left (fun h => absurd (h.1.symm.trans c8) (by decide))
    refine q_iconst hx hb dX6_freshBook_17 ?_
    refine W.widen (k := 4) (n := 204) (Nat.le_of_ble_eq_true rfl) (Nat.le_of_ble_eq_true rfl) ?_
    exact q_retMi C0 hret rfl hlk dX6_freshBook_18 hP hD hS (⟨(by unfold jR_freshBook; rw [if_neg (by omega)]), O, G, MP_eq hC (by have lt_ := ltR_d (inR xb 0 3) (inR xo 0 2); unfold jS_freshBook; rcases lt_ with lt_ | lt_ | lt_ <;> first | (rw [if_neg (by omega), lt_.1]; done) | (rw [if_pos (by omega), if_neg (by omega), lt_.1]; done) | (exfalso; omega)), rfl, Ext0 hO⟩)
set_option maxHeartbeats 3000000 in
set_option maxRecDepth 100000 in
theorem c_X6_freshShelf (l : Launch) (D : va_G) (y : Nat → ClassId) (L : List Nat) (F : Nat → va_E) (sz : Nat) (O : Nat → Prop) (G : MG) (μ : MS) (xb : Int) (xo : Int) (hC : MP y L F O G μ) (hW : MW μ) (h_xb : -2147483648 ≤ xb ∧ xb ≤ 2147483647) (h_xo : -2147483648 ≤ xo ∧ xo ≤ 2147483647) : Met l yX6_freshShelf (.code yX6_freshShelf cX6_freshShelf 4 (some .int) :: Tt) ({ frames := 2, cells := 4, slots := 204, locals := 45 }) (PcM D y L F sz [.ref ((ubg G)), .int (iI xb), .int (iI xo)]) (cMi D (AL L sz) (fun r L1 F1 => r = jR_freshShelf μ xb xo ∧ ∃ (O1 : Nat → Prop) (G1 : MG), MP y L1 F1 O1 G1 (jS_freshShelf μ xb xo) ∧ ubg G1 = ubg G ∧ Ext O O1 L L1 F F1)) 4 204 (AL L sz) := by
  have hO : OE O F F := fun _ _ => rfl
  have hw5 := hW.2.2.2.2.2.1
  have hw6 := hW.2.2.2.2.2.2.1
  have hw7 := hW.2.2.2.2.2.2.2.1
  refine q_ofM (lv := [(0, .ref ((ubg G))), (1, .int (iI xb)), (2, .int (iI xo))]) (by decide) (Nat.le_of_ble_eq_true rfl) rfl (fun p e s m below meth c C0 hret hlk hnm hA hP hD hS ls hl => ?_)
  have hx := C0.1.1
  have hb := C0.1.2.1
  have hts := C0.1.2.2.2.2
  refine lv_aload_n hx hb dX6_freshShelf_0 rfl (lv_at hl 0 rfl) ?_
  refine lv_iload_n hx hb dX6_freshShelf_1 rfl (lv_at hl 1 rfl) ?_
  refine q_sS C0 lX6_193 (c_X6_isShelf l D y L F xb (by omega)) ⟨rfl, rfl⟩ rfl hP rfl hl rfl (Nat.le_of_ble_eq_true rfl) dX6_freshShelf_2 ⟨Nat.zero_le _, Nat.zero_le _⟩ (fun r1 e_r1 => ?_)
  subst e_r1
  have b_2 := inR_d xb 0 2
  refine lv_iload_n hx hb dX6_freshShelf_5 rfl (lv_at hl 2 rfl) ?_
  refine q_iconst hx hb dX6_freshShelf_6 ?_
  refine q_iconst hx hb dX6_freshShelf_7 ?_
  refine q_sS C0 lX6_41 (c_X6_isIn l D y L F xo 0 2 (by omega) (by omega) (by omega)) ⟨rfl, rfl⟩ rfl hP rfl hl rfl (Nat.le_of_ble_eq_true rfl) dX6_freshShelf_8 ⟨Nat.zero_le _, Nat.zero_le _⟩ (fun r3 e_r3 => ?_)
  subst e_r3
  have b_4 := inR_d xo 0 2
  refine q_vMi C0 lX6_63 (c_X6_isLet l D y L F _ O G μ (inR xb 0 2) (inR xo 0 2) hC (by omega) (by omega)) ⟨rfl, rfl⟩ rfl hP hD hS hA hC.1.1 hC.1.2 rfl rfl rfl hl rfl (Nat.le_of_ble_eq_true rfl) dX6_freshShelf_11 ⟨Nat.le_of_ble_eq_true rfl, Nat.le_of_ble_eq_true rfl⟩ (fun r5 H locs L6 F6 hP hD hS hz6 hp6 => ?_)
  obtain ⟨eL, hC, er, hO1⟩ := hp6
  subst eL
  replace er := er.symm
  subst er
  have hO := hO.tr hO1
  have k_7 := okR_d (inR xb 0 2) (inR xo 0 2)
  refine q_if_ne hx hb dX6_freshShelf_14 (tgt := 19) (by decide) (by omega) (fun c8 => ?_) (fun c8 => ?_)
  · replace k_7 := k_7.resolve_right (fun h => c8 h.1)
    refine lv_aload_n hx hb dX6_freshShelf_19 rfl (lv_at hl 0 rfl) ?_
    refine q_get C0 iX6 hP hC.1.1 hC.1.2 rfl 1 (by decide) flX6_15 rfl (v := .ref ((uas G))) rfl dX6_freshShelf_20 ?_
    refine lv_iload_n hx hb dX6_freshShelf_23 rfl (lv_at hl 1 rfl) ?_
    refine q_aald C0 hP hC.2.2.1.1 hC.2.2.1.2 (t := 3) rfl (by omega) (by decide) (v := .ref ((urh G (vsh μ xb)))) rfl dX6_freshShelf_24 ?_
    refine q_iconst hx hb dX6_freshShelf_25 ?_
    refine q_bipush hx hb dX6_freshShelf_26 (by decide) ?_
    refine q_vS C0 lX6_67 (c_X5_many l D y L F6 (urh G (vsh μ xb)) (urw G (vsh μ xb)) (vod μ (vsh μ xb)) (vst μ (vsh μ xb)) 0 99 (MP_r hC (hW.2.1 xb)) (by omega) (by omega)) ⟨rfl, rfl⟩ rfl hP (MP_r hC (hW.2.1 xb)).1 (MP_r hC (hW.2.1 xb)).2.1 rfl rfl rfl hl rfl (Nat.le_of_ble_eq_true rfl) dX6_freshShelf_28 ⟨Nat.zero_le _, Nat.zero_le _⟩ (fun r9 e_r9 => ?_)
    subst e_r9
    refine lv_istore_n (lv' := [(3, .int (iI ((cntP (vst μ (vsh μ xb)) 0 99)))), (0, .ref ((ubg G))), (1, .int (iI xb)), (2, .int (iI xo))]) hx hb dX6_freshShelf_31 rfl hl (by decide) rfl (fun ls hl => ?_)
    refine lv_aload_n hx hb dX6_freshShelf_32 rfl (lv_at hl 1 rfl) ?_
    refine q_get C0 iX6 hP hC.1.1 hC.1.2 rfl 1 (by decide) flX6_15 rfl (v := .ref ((uas G))) rfl dX6_freshShelf_33 ?_
    refine lv_iload_n hx hb dX6_freshShelf_36 rfl (lv_at hl 2 rfl) ?_
    refine q_new C0 iX5 tyX5 tyX5_ok klX6_9 insX5 iniX5 hP hD hS hA (ci := 7) rfl (fs := [.int (iI 0), .null]) (fun j hj => by rcases (show j = 0 ∨ j = 1 by omega) with rfl | rfl <;> rfl) (Nat.le_of_ble_eq_true rfl) (Nat.le_of_ble_eq_true rfl) dX6_freshShelf_37 (fun q10 H hq10 hP hD hS => ?_)
    refine W.widen (k := 1) (n := 2) (Nat.le_of_ble_eq_true rfl) (Nat.le_of_ble_eq_true rfl) ?_
    obtain ⟨F11, eF11⟩ : ∃ z, z = va_up F6 q10 (.inr (7, [.int (iI 0), .null])) := ⟨_, rfl⟩
    have hP : va_P D vwCl (va_pl (L ++ [q10]) F11) H := by rw [eF11]; exact hP
    have hD : va_D (AL L sz) (va_pl (L ++ [q10]) F11) := by rw [eF11]; exact hD
    have hfn : ∀ a ∈ L, F11 a = F6 a := by rw [eF11]; exact fun a h1 => va_up_ne _ _ (ne_in h1 hq10)
    have hFq10 : F11 q10 = .inr (7, [.int (iI 0), .null]) := by rw [eF11]; exact va_up_self _ _ _
    refine lv_dup hx hb dX6_freshShelf_40 rfl ?_
    refine lv_iload_n hx hb dX6_freshShelf_41 rfl (lv_at hl 3 rfl) ?_
    refine q_iMv C0 lX6_35 (c_X5_init l D y (L ++ [q10]) F11 _ q10 xo (List.mem_append_right _ List.mem_cons_self) hFq10 (by omega)) ⟨rfl, rfl⟩ rfl hP hD hS hA rfl hl rfl (Nat.le_of_ble_eq_true rfl) dX6_freshShelf_42 ⟨Nat.le_of_ble_eq_true rfl, Nat.le_of_ble_eq_true rfl⟩ (fun _ H locs L13 F13 hP hD hS hz13 hp13 => ?_)
    refine W.widen (k := 2) (n := 102) (Nat.le_of_ble_eq_true rfl) (Nat.le_of_ble_eq_true rfl) ?_
    obtain ⟨q10w, hqq10w, eL, hRn, hfr1⟩ := hp13
    subst eL
    have hfn : ∀ a ∈ L, F13 a = F6 a := fun a h1 => (hfr1 a (List.mem_append_left _ h1) (ne_in h1 hq10)).trans (hfn a h1)
    have hRm : MB y ((L ++ [q10]) ++ [q10w]) F13 q10 q10w xo emp := hRn
    have hC : MP y ((L ++ [q10]) ++ [q10w]) F13 (fun a => O a ∨ a ∉ L) (uNw G (vn μ) q10 q10w) (tNw (tTh μ (ltR (inR xb 0 2) (inR xo 0 2))) xo emp) := MP_new (μ := (tTh μ (ltR (inR xb 0 2) (inR xo 0 2)))) (G := G) (o := xo) (g := emp) (F1 := F13) hC rfl hq10 (fun h1 => hqq10w (List.mem_append_left _ h1)) hRm hfn ⟨hW.1, hW.2.1, hW.2.2.1, hW.2.2.2.1⟩
    have hE : ∀ q ∈ L, ¬ O q → F13 q = F q := fun q h1 h2 => (hfn q h1).trans (hO q h2)
    have hO : OE (fun a => O a ∨ a ∉ L) F13 F13 := fun _ _ => rfl
    have er : urh (uNw G (vn μ) q10 q10w) (vn μ) = q10 := va_up_self _ _ _
    refine q_aast C0 hP hD hS hC.2.2.1.1 hC.2.2.1.2 (t := 3) (r := (RX5, TX5, 2)) rfl hRm.1 hRm.2.1 rfl (by omega) (by decide) dX6_freshShelf_45 (fun H locs hP hD hS => ?_)
    obtain ⟨F14, eF14⟩ : ∃ z, z = va_up F13 (uas (uNw G (vn μ) q10 q10w)) (arrQ (y 3) 3 (iu (fun j => some (urh (uNw G (vn μ) q10 q10w) (vsh (tNw (tTh μ (ltR (inR xb 0 2) (inR xo 0 2))) xo emp) j))) xb (some q10))) := ⟨_, rfl⟩
    have hP : va_P D vwCl (va_pl ((L ++ [q10]) ++ [q10w]) F14) H := by rw [eF14]; exact hP
    have hD : va_D (AL L sz) (va_pl ((L ++ [q10]) ++ [q10w]) F14) := by rw [eF14]; exact hD
    have hO : OE (fun a => O a ∨ a ∉ L) F13 F14 := by rw [eF14]; exact hO.tr (OE1 (MP_O hC).2.2.1)
    have hC : MP y ((L ++ [q10]) ++ [q10w]) F14 (fun a => O a ∨ a ∉ L) (uNw G (vn μ) q10 q10w) (tSh (tNw (tTh μ (ltR (inR xb 0 2) (inR xo 0 2))) xo emp) xb (vn μ)) := by rw [eF14]; exact MP_sh hC (by rw [er]; exact va_up_self _ _ _) (fun q hq => va_up_ne _ _ hq)
    refine lv_aload_n hx hb dX6_freshShelf_46 rfl (lv_at hl 1 rfl) ?_
    refine lv_iload_n hx hb dX6_freshShelf_47 rfl (lv_at hl 0 rfl) ?_
    refine q_vMi C0 lX6_196 (c_X6_laid l D y ((L ++ [q10]) ++ [q10w]) F14 _ (fun a => O a ∨ a ∉ L) (uNw G (vn μ) q10 q10w) (tSh (tNw (tTh μ (ltR (inR xb 0 2) (inR xo 0 2))) xo emp) xb (vn μ)) (cntP (vst μ (vsh μ xb)) 0 99) hC) ⟨rfl, rfl⟩ rfl hP hD hS hA hC.1.1 hC.1.2 rfl rfl rfl hl rfl (Nat.le_of_ble_eq_true rfl) dX6_freshShelf_48 ⟨Nat.le_of_ble_eq_true rfl, Nat.le_of_ble_eq_true rfl⟩ (fun r15 H locs L16 F16 hP hD hS hz16 hp16 => ?_)
    obtain ⟨eL, hC, er, hO1⟩ := hp16
    subst eL
    replace er : (cntP (vst μ (vsh μ xb)) 0 99) = r15 := er.symm
    subst er
    have hO := hO.tr hO1
    refine W.widen (k := 4) (n := 204) (Nat.le_of_ble_eq_true rfl) (Nat.le_of_ble_eq_true rfl) ?_
    exact q_retMi C0 hret rfl hlk dX6_freshShelf_51 hP hD hS (⟨(by 
    have lt_ := ltR_d (inR xb 0 2) (inR xo 0 2)
    unfold jR_freshShelf ; (try rw [show ltR (inR xb 0 2) (inR xo 0 2) = 0 by omega]); (repeat (first | rw [if_pos (by omega)] | rw [if_neg (by omega)]))
    all_goals (first | rfl | omega)), (fun a => O a ∨ a ∉ L), (uNw G (vn μ) q10 q10w), MP_eq hC (by 
    have lt_ := ltR_d (inR xb 0 2) (inR xo 0 2)
    unfold jS_freshShelf ; rw [show ltR (inR xb 0 2) (inR xo 0 2) = 0 by omega]; (repeat (first | rw [if_pos (by omega)] | rw [if_neg (by omega)]))
    all_goals rfl), rfl, ⟨fun q h => List.mem_append_left _ (List.mem_append_left _ h), fun q h1 h2 => (hO q (fun z => z.elim h2 (fun w => w h1))).trans (hE q h1 h2), fun q h => h⟩⟩)
  · replace k_7 := k_7.resolve_left (fun h => absurd (h.1.symm.trans c8) (by decide))
    refine q_iconst hx hb dX6_freshShelf_17 ?_
    refine W.widen (k := 4) (n := 204) (Nat.le_of_ble_eq_true rfl) (Nat.le_of_ble_eq_true rfl) ?_
    exact q_retMi C0 hret rfl hlk dX6_freshShelf_18 hP hD hS (⟨(by unfold jR_freshShelf; rw [if_neg (by omega)]), O, G, MP_eq hC (by have lt_ := ltR_d (inR xb 0 2) (inR xo 0 2); unfold jS_freshShelf; rcases lt_ with lt_ | lt_ | lt_ <;> first | (rw [if_neg (by omega), lt_.1]; done) | (rw [if_pos (by omega), if_neg (by omega), lt_.1]; done) | (exfalso; omega)), rfl, Ext0 hO⟩)
set_option maxHeartbeats 3000000 in
set_option maxRecDepth 100000 in
theorem c_X6_buildBook (l : Launch) (D : va_G) (y : Nat → ClassId) (L : List Nat) (F : Nat → va_E) (sz : Nat) (O : Nat → Prop) (G : MG) (μ : MS) (xb : Int) (xa : Int) (xw : Int) (hC : MP y L F O G μ) (hW : MW μ) (h_xb : -2147483648 ≤ xb ∧ xb ≤ 2147483647) (h_xa : -2147483648 ≤ xa ∧ xa ≤ 2147483647) (h_xw : -2147483648 ≤ xw ∧ xw ≤ 2147483647) : Met l yX6_buildBook (.code yX6_buildBook cX6_buildBook 4 (some .int) :: Tt) ({ frames := 4, cells := 4, slots := 204, locals := 80 }) (PcM D y L F sz [.ref ((ubg G)), .int (iI xb), .int (iI xa), .int (iI xw)]) (cMi D (AL L sz) (fun r L1 F1 => r = jR_buildBook μ xb xa xw ∧ ∃ (O1 : Nat → Prop) (G1 : MG), MP y L1 F1 O1 G1 (jS_buildBook μ xb xa xw) ∧ ubg G1 = ubg G ∧ Ext O O1 L L1 F F1)) 4 204 (AL L sz) := by
  have hO : OE O F F := fun _ _ => rfl
  have hw5 := hW.2.2.2.2.2.1
  have hw6 := hW.2.2.2.2.2.2.1
  have hw7 := hW.2.2.2.2.2.2.2.1
  have ho_ := (MP_r hC (hW.1 xa)).2.2.2.2.1
  refine q_ofM (lv := [(0, .ref ((ubg G))), (1, .int (iI xb)), (2, .int (iI xa)), (3, .int (iI xw))]) (by decide) (Nat.le_of_ble_eq_true rfl) rfl (fun p e s m below meth c C0 hret hlk hnm hA hP hD hS ls hl => ?_)
  have hx := C0.1.1
  have hb := C0.1.2.1
  have hts := C0.1.2.2.2.2
  refine lv_aload_n hx hb dX6_buildBook_0 rfl (lv_at hl 0 rfl) ?_
  refine lv_iload_n hx hb dX6_buildBook_1 rfl (lv_at hl 1 rfl) ?_
  refine q_sS C0 lX6_60 (c_X6_isBook l D y L F xb (by omega)) ⟨rfl, rfl⟩ rfl hP rfl hl rfl (Nat.le_of_ble_eq_true rfl) dX6_buildBook_2 ⟨Nat.zero_le _, Nat.zero_le _⟩ (fun r1 e_r1 => ?_)
  subst e_r1
  have b_2 := inR_d xb 0 3
  refine q_if_eq hx hb dX6_buildBook_5 (tgt := 19) (by decide) (by omega) (fun c3 => ?_) (fun c3 => ?_)
  · replace b_2 := b_2.resolve_left (fun h => absurd (h.1.symm.trans c3) (by decide))
    refine q_iconst hx hb dX6_buildBook_19 ?_
    refine lv_iload_n hx hb dX6_buildBook_20 rfl (lv_at hl 3 rfl) ?_
    refine q_iconst hx hb dX6_buildBook_21 ?_
    refine q_bipush hx hb dX6_buildBook_22 (by decide) ?_
    refine q_sS C0 lX6_41 (c_X6_isIn l D y L F xw 0 6 (by omega) (by omega) (by omega)) ⟨rfl, rfl⟩ rfl hP rfl hl rfl (Nat.le_of_ble_eq_true rfl) dX6_buildBook_24 ⟨Nat.zero_le _, Nat.zero_le _⟩ (fun r4 e_r4 => ?_)
    subst e_r4
    have b_5 := inR_d xw 0 6
    refine q_vMi C0 lX6_63 (c_X6_isLet l D y L F _ O G μ 0 (inR xw 0 6) hC (by omega) (by omega)) ⟨rfl, rfl⟩ rfl hP hD hS hA hC.1.1 hC.1.2 rfl rfl rfl hl rfl (Nat.le_of_ble_eq_true rfl) dX6_buildBook_27 ⟨Nat.le_of_ble_eq_true rfl, Nat.le_of_ble_eq_true rfl⟩ (fun r6 H locs L7 F7 hP hD hS hz7 hp7 => ?_)
    obtain ⟨eL, hC, er, hO1⟩ := hp7
    subst eL
    replace er := (er.trans (okR_z0 _)).symm
    subst er
    have hO := hO.tr hO1
    refine q_if_ne hx hb dX6_buildBook_30 (tgt := 35) (by decide) (by omega) (fun c8 => absurd c8 (by omega)) (fun c8 => ?_)
    refine q_iconst hx hb dX6_buildBook_33 ?_
    refine W.widen (k := 4) (n := 204) (Nat.le_of_ble_eq_true rfl) (Nat.le_of_ble_eq_true rfl) ?_
    exact q_retMi C0 hret rfl hlk dX6_buildBook_34 hP hD hS (⟨(by unfold jR_buildBook; rw [if_neg (by omega)]), O, G, MP_eq hC (by have lt_ := ltR_d 0 (inR xw 0 6); unfold jS_buildBook; rcases lt_ with lt_ | lt_ | lt_ <;> first | (rw [if_neg (by omega), lt_.1]; done) | (rw [if_pos (by omega), if_neg (by omega), lt_.1]; done) | (exfalso; omega)), rfl, Ext0 hO⟩)
  · replace b_2 := b_2.resolve_right (fun h => c3 h.1)
    refine lv_iload_n hx hb dX6_buildBook_8 rfl (lv_at hl 2 rfl) ?_
    refine q_sS C0 lX6_60 (c_X6_isBook l D y L F xa (by omega)) ⟨rfl, rfl⟩ rfl hP rfl hl rfl (Nat.le_of_ble_eq_true rfl) dX6_buildBook_9 ⟨Nat.zero_le _, Nat.zero_le _⟩ (fun r9 e_r9 => ?_)
    subst e_r9
    have b_10 := inR_d xa 0 3
    refine q_if_eq hx hb dX6_buildBook_12 (tgt := 19) (by decide) (by omega) (fun c11 => ?_) (fun c11 => ?_)
    · replace b_10 := b_10.resolve_left (fun h => absurd (h.1.symm.trans c11) (by decide))
      refine q_iconst hx hb dX6_buildBook_19 ?_
      refine lv_iload_n hx hb dX6_buildBook_20 rfl (lv_at hl 3 rfl) ?_
      refine q_iconst hx hb dX6_buildBook_21 ?_
      refine q_bipush hx hb dX6_buildBook_22 (by decide) ?_
      refine q_sS C0 lX6_41 (c_X6_isIn l D y L F xw 0 6 (by omega) (by omega) (by omega)) ⟨rfl, rfl⟩ rfl hP rfl hl rfl (Nat.le_of_ble_eq_true rfl) dX6_buildBook_24 ⟨Nat.zero_le _, Nat.zero_le _⟩ (fun r12 e_r12 => ?_)
      subst e_r12
      have b_13 := inR_d xw 0 6
      refine q_vMi C0 lX6_63 (c_X6_isLet l D y L F _ O G μ 0 (inR xw 0 6) hC (by omega) (by omega)) ⟨rfl, rfl⟩ rfl hP hD hS hA hC.1.1 hC.1.2 rfl rfl rfl hl rfl (Nat.le_of_ble_eq_true rfl) dX6_buildBook_27 ⟨Nat.le_of_ble_eq_true rfl, Nat.le_of_ble_eq_true rfl⟩ (fun r14 H locs L15 F15 hP hD hS hz15 hp15 => ?_)
      obtain ⟨eL, hC, er, hO1⟩ := hp15
      subst eL
      replace er := (er.trans (okR_z0 _)).symm
      subst er
      have hO := hO.tr hO1
      refine q_if_ne hx hb dX6_buildBook_30 (tgt := 35) (by decide) (by omega) (fun c16 => absurd c16 (by omega)) (fun c16 => ?_)
      refine q_iconst hx hb dX6_buildBook_33 ?_
      refine W.widen (k := 4) (n := 204) (Nat.le_of_ble_eq_true rfl) (Nat.le_of_ble_eq_true rfl) ?_
      exact q_retMi C0 hret rfl hlk dX6_buildBook_34 hP hD hS (⟨(by unfold jR_buildBook; rw [if_neg (by omega)]), O, G, MP_eq hC (by have lt_ := ltR_d 0 (inR xw 0 6); unfold jS_buildBook; rcases lt_ with lt_ | lt_ | lt_ <;> first | (rw [if_neg (by omega), lt_.1]; done) | (rw [if_pos (by omega), if_neg (by omega), lt_.1]; done) | (exfalso; omega)), rfl, Ext0 hO⟩)
    · replace b_10 := b_10.resolve_right (fun h => c11 h.1)
      refine q_iconst hx hb dX6_buildBook_15 ?_
      refine lv_goto (tgt := 20) hx hb dX6_buildBook_16 (by decide) ?_
      refine lv_iload_n hx hb dX6_buildBook_20 rfl (lv_at hl 3 rfl) ?_
      refine q_iconst hx hb dX6_buildBook_21 ?_
      refine q_bipush hx hb dX6_buildBook_22 (by decide) ?_
      refine q_sS C0 lX6_41 (c_X6_isIn l D y L F xw 0 6 (by omega) (by omega) (by omega)) ⟨rfl, rfl⟩ rfl hP rfl hl rfl (Nat.le_of_ble_eq_true rfl) dX6_buildBook_24 ⟨Nat.zero_le _, Nat.zero_le _⟩ (fun r17 e_r17 => ?_)
      subst e_r17
      have b_18 := inR_d xw 0 6
      refine q_vMi C0 lX6_63 (c_X6_isLet l D y L F _ O G μ 1 (inR xw 0 6) hC (by omega) (by omega)) ⟨rfl, rfl⟩ rfl hP hD hS hA hC.1.1 hC.1.2 rfl rfl rfl hl rfl (Nat.le_of_ble_eq_true rfl) dX6_buildBook_27 ⟨Nat.le_of_ble_eq_true rfl, Nat.le_of_ble_eq_true rfl⟩ (fun r19 H locs L20 F20 hP hD hS hz20 hp20 => ?_)
      obtain ⟨eL, hC, er, hO1⟩ := hp20
      subst eL
      replace er := er.symm
      subst er
      have hO := hO.tr hO1
      have k_21 := okR_d 1 (inR xw 0 6)
      refine q_if_ne hx hb dX6_buildBook_30 (tgt := 35) (by decide) (by omega) (fun c22 => ?_) (fun c22 => ?_)
      · replace k_21 := k_21.resolve_right (fun h => c22 h.1)
        refine lv_aload_n hx hb dX6_buildBook_35 rfl (lv_at hl 0 rfl) ?_
        refine q_get C0 iX6 hP hC.1.1 hC.1.2 rfl 0 (by decide) flX6_11 rfl (v := .ref ((uab G))) rfl dX6_buildBook_36 ?_
        refine lv_iload_n hx hb dX6_buildBook_39 rfl (lv_at hl 1 rfl) ?_
        refine lv_aload_n hx hb dX6_buildBook_40 rfl (lv_at hl 0 rfl) ?_
        refine q_get C0 iX6 hP hC.1.1 hC.1.2 rfl 0 (by decide) flX6_11 rfl (v := .ref ((uab G))) rfl dX6_buildBook_41 ?_
        refine lv_iload_n hx hb dX6_buildBook_44 rfl (lv_at hl 2 rfl) ?_
        refine q_aald C0 hP hC.2.1.1 hC.2.1.2 (t := 3) rfl (by omega) (by decide) (v := .ref ((urh G (vbk μ xa)))) rfl dX6_buildBook_45 ?_
        refine lv_iload_n hx hb dX6_buildBook_46 rfl (lv_at hl 3 rfl) ?_
        refine q_sMa C0 lX6_82 (c_X6_built l D y L F20 _ (urh G (vbk μ xa)) (urw G (vbk μ xa)) (vod μ (vbk μ xa)) (vst μ (vbk μ xa)) xw (MP_r hC (hW.1 xa)) (by omega)) ⟨rfl, rfl⟩ rfl hP hD hS hA rfl hl rfl (Nat.le_of_ble_eq_true rfl) dX6_buildBook_47 ⟨Nat.le_of_ble_eq_true rfl, Nat.le_of_ble_eq_true rfl⟩ (fun r23 H locs L24 F24 hP hD hS hz24 hp24 => ?_)
        refine W.widen (k := 2) (n := 102) (Nat.le_of_ble_eq_true rfl) (Nat.le_of_ble_eq_true rfl) ?_
        obtain ⟨r23q, eL, hr_, hq_, hrq_, hRn, hfn⟩ := hp24
        subst eL
        have hRm : MB y ((L ++ [r23]) ++ [r23q]) F24 r23 r23q (bo xw (vod μ (vbk μ xa))) (mlk (bo xw (vod μ (vbk μ xa))) (vod μ (vbk μ xa)) (vst μ (vbk μ xa)) 0 99 emp) := hRn
        have hC : MP y ((L ++ [r23]) ++ [r23q]) F24 (fun a => O a ∨ a ∉ L) (uNw G (vn μ) r23 r23q) (tNw (tTh μ (ltR 1 (inR xw 0 6))) (bo xw (vod μ (vbk μ xa))) (mlk (bo xw (vod μ (vbk μ xa))) (vod μ (vbk μ xa)) (vst μ (vbk μ xa)) 0 99 emp)) := MP_new (μ := (tTh μ (ltR 1 (inR xw 0 6)))) (G := G) (o := (bo xw (vod μ (vbk μ xa)))) (g := (mlk (bo xw (vod μ (vbk μ xa))) (vod μ (vbk μ xa)) (vst μ (vbk μ xa)) 0 99 emp)) (F1 := F24) hC rfl hr_ hq_ hRm hfn ⟨hW.1, hW.2.1, hW.2.2.1, hW.2.2.2.1⟩
        have hE : ∀ q ∈ L, ¬ O q → F24 q = F q := fun q h1 h2 => (hfn q h1).trans (hO q h2)
        have hO : OE (fun a => O a ∨ a ∉ L) F24 F24 := fun _ _ => rfl
        have er : urh (uNw G (vn μ) r23 r23q) (vn μ) = r23 := va_up_self _ _ _
        refine q_aast C0 hP hD hS hC.2.1.1 hC.2.1.2 (t := 3) (r := (RX5, TX5, 2)) rfl hRm.1 hRm.2.1 rfl (by omega) (by decide) dX6_buildBook_50 (fun H locs hP hD hS => ?_)
        obtain ⟨F25, eF25⟩ : ∃ z, z = va_up F24 (uab (uNw G (vn μ) r23 r23q)) (arrQ (y 3) 4 (iu (fun j => some (urh (uNw G (vn μ) r23 r23q) (vbk (tNw (tTh μ (ltR 1 (inR xw 0 6))) (bo xw (vod μ (vbk μ xa))) (mlk (bo xw (vod μ (vbk μ xa))) (vod μ (vbk μ xa)) (vst μ (vbk μ xa)) 0 99 emp)) j))) xb (some r23))) := ⟨_, rfl⟩
        have hP : va_P D vwCl (va_pl ((L ++ [r23]) ++ [r23q]) F25) H := by rw [eF25]; exact hP
        have hD : va_D (AL L sz) (va_pl ((L ++ [r23]) ++ [r23q]) F25) := by rw [eF25]; exact hD
        have hO : OE (fun a => O a ∨ a ∉ L) F24 F25 := by rw [eF25]; exact hO.tr (OE1 (MP_O hC).2.1)
        have hC : MP y ((L ++ [r23]) ++ [r23q]) F25 (fun a => O a ∨ a ∉ L) (uNw G (vn μ) r23 r23q) (tBk (tNw (tTh μ (ltR 1 (inR xw 0 6))) (bo xw (vod μ (vbk μ xa))) (mlk (bo xw (vod μ (vbk μ xa))) (vod μ (vbk μ xa)) (vst μ (vbk μ xa)) 0 99 emp)) xb (vn μ)) := by rw [eF25]; exact MP_bk hC (by rw [er]; exact va_up_self _ _ _) (fun q hq => va_up_ne _ _ hq)
        refine lv_aload_n hx hb dX6_buildBook_51 rfl (lv_at hl 0 rfl) ?_
        refine lv_aload_n hx hb dX6_buildBook_52 rfl (lv_at hl 0 rfl) ?_
        refine q_get C0 iX6 hP hC.1.1 hC.1.2 rfl 0 (by decide) flX6_11 rfl (v := .ref ((uab (uNw G (vn μ) r23 r23q)))) rfl dX6_buildBook_53 ?_
        refine lv_iload_n hx hb dX6_buildBook_56 rfl (lv_at hl 1 rfl) ?_
        refine q_aald C0 hP hC.2.1.1 hC.2.1.2 (t := 3) rfl (by omega) (by decide) (v := .ref ((urh (uNw G (vn μ) r23 r23q) (vn μ)))) (by first | rfl | (show va_rf (some (urh (uNw G (vn μ) r23 r23q) (iu _ _ _ xb))) = _; rw [iu_s]; rfl)) dX6_buildBook_57 ?_
        refine q_iconst hx hb dX6_buildBook_58 ?_
        refine q_bipush hx hb dX6_buildBook_59 (by decide) ?_
        refine q_vS C0 lX6_67 (c_X5_many l D y ((L ++ [r23]) ++ [r23q]) F25 (urh (uNw G (vn μ) r23 r23q) (vn μ)) (urw (uNw G (vn μ) r23 r23q) (vn μ)) (bo xw (vod μ (vbk μ xa))) (mlk (bo xw (vod μ (vbk μ xa))) (vod μ (vbk μ xa)) (vst μ (vbk μ xa)) 0 99 emp) 0 99 (MP_rx hC (Nat.lt_succ_self _) (va_up_self _ _ _) (va_up_self _ _ _)) (by omega) (by omega)) ⟨rfl, rfl⟩ rfl hP (MP_rx hC (Nat.lt_succ_self _) (va_up_self _ _ _) (va_up_self _ _ _)).1 (MP_rx hC (Nat.lt_succ_self _) (va_up_self _ _ _) (va_up_self _ _ _)).2.1 rfl rfl rfl hl rfl (Nat.le_of_ble_eq_true rfl) dX6_buildBook_61 ⟨Nat.le_of_ble_eq_true rfl, Nat.le_of_ble_eq_true rfl⟩ (fun r26 e_r26 => ?_)
        subst e_r26
        refine q_vMi C0 lX6_71 (c_X6_did l D y ((L ++ [r23]) ++ [r23q]) F25 _ (fun a => O a ∨ a ∉ L) (uNw G (vn μ) r23 r23q) (tBk (tNw (tTh μ (ltR 1 (inR xw 0 6))) (bo xw (vod μ (vbk μ xa))) (mlk (bo xw (vod μ (vbk μ xa))) (vod μ (vbk μ xa)) (vst μ (vbk μ xa)) 0 99 emp)) xb (vn μ)) (cntP (mlk (bo xw (vod μ (vbk μ xa))) (vod μ (vbk μ xa)) (vst μ (vbk μ xa)) 0 99 emp) 0 99) hC) ⟨rfl, rfl⟩ rfl hP hD hS hA hC.1.1 hC.1.2 rfl rfl rfl hl rfl (Nat.le_of_ble_eq_true rfl) dX6_buildBook_64 ⟨Nat.le_of_ble_eq_true rfl, Nat.le_of_ble_eq_true rfl⟩ (fun r27 H locs L28 F28 hP hD hS hz28 hp28 => ?_)
        obtain ⟨eL, hC, er, hO1⟩ := hp28
        subst eL
        replace er : (cntP (mlk (bo xw (vod μ (vbk μ xa))) (vod μ (vbk μ xa)) (vst μ (vbk μ xa)) 0 99 emp) 0 99) = r27 := er.symm
        subst er
        have hO := hO.tr hO1
        refine W.widen (k := 4) (n := 204) (Nat.le_of_ble_eq_true rfl) (Nat.le_of_ble_eq_true rfl) ?_
        exact q_retMi C0 hret rfl hlk dX6_buildBook_67 hP hD hS (⟨(by 
    have lt_ := ltR_d 1 (inR xw 0 6)
    unfold jR_buildBook ; (try rw [show ltR 1 (inR xw 0 6) = 0 by omega]); (repeat (first | rw [if_pos (by omega)] | rw [if_neg (by omega)]))
    all_goals (first | rfl | omega)), (fun a => O a ∨ a ∉ L), (uNw G (vn μ) r23 r23q), MP_eq hC (by 
    have lt_ := ltR_d 1 (inR xw 0 6)
    unfold jS_buildBook ; rw [show ltR 1 (inR xw 0 6) = 0 by omega]; (repeat (first | rw [if_pos (by omega)] | rw [if_neg (by omega)]))
    all_goals rfl), rfl, ⟨fun q h => List.mem_append_left _ (List.mem_append_left _ h), fun q h1 h2 => (hO q (fun z => z.elim h2 (fun w => w h1))).trans (hE q h1 h2), fun q h => h⟩⟩)
      · replace k_21 := k_21.resolve_left (fun h => absurd (h.1.symm.trans c22) (by decide))
        refine q_iconst hx hb dX6_buildBook_33 ?_
        refine W.widen (k := 4) (n := 204) (Nat.le_of_ble_eq_true rfl) (Nat.le_of_ble_eq_true rfl) ?_
        exact q_retMi C0 hret rfl hlk dX6_buildBook_34 hP hD hS (⟨(by unfold jR_buildBook; rw [if_neg (by omega)]), O, G, MP_eq hC (by have lt_ := ltR_d 1 (inR xw 0 6); unfold jS_buildBook; rcases lt_ with lt_ | lt_ | lt_ <;> first | (rw [if_neg (by omega), lt_.1]; done) | (rw [if_pos (by omega), if_neg (by omega), lt_.1]; done) | (exfalso; omega)), rfl, Ext0 hO⟩)
set_option maxHeartbeats 3000000 in
set_option maxRecDepth 100000 in
theorem c_X6_buildShelf (l : Launch) (D : va_G) (y : Nat → ClassId) (L : List Nat) (F : Nat → va_E) (sz : Nat) (O : Nat → Prop) (G : MG) (μ : MS) (xb : Int) (xa : Int) (xw : Int) (hC : MP y L F O G μ) (hW : MW μ) (h_xb : -2147483648 ≤ xb ∧ xb ≤ 2147483647) (h_xa : -2147483648 ≤ xa ∧ xa ≤ 2147483647) (h_xw : -2147483648 ≤ xw ∧ xw ≤ 2147483647) : Met l yX6_buildShelf (.code yX6_buildShelf cX6_buildShelf 4 (some .int) :: Tt) ({ frames := 4, cells := 4, slots := 204, locals := 80 }) (PcM D y L F sz [.ref ((ubg G)), .int (iI xb), .int (iI xa), .int (iI xw)]) (cMi D (AL L sz) (fun r L1 F1 => r = jR_buildShelf μ xb xa xw ∧ ∃ (O1 : Nat → Prop) (G1 : MG), MP y L1 F1 O1 G1 (jS_buildShelf μ xb xa xw) ∧ ubg G1 = ubg G ∧ Ext O O1 L L1 F F1)) 4 204 (AL L sz) := by
  have hO : OE O F F := fun _ _ => rfl
  have hw5 := hW.2.2.2.2.2.1
  have hw6 := hW.2.2.2.2.2.2.1
  have hw7 := hW.2.2.2.2.2.2.2.1
  have ho_ := (MP_r hC (hW.2.1 xa)).2.2.2.2.1
  refine q_ofM (lv := [(0, .ref ((ubg G))), (1, .int (iI xb)), (2, .int (iI xa)), (3, .int (iI xw))]) (by decide) (Nat.le_of_ble_eq_true rfl) rfl (fun p e s m below meth c C0 hret hlk hnm hA hP hD hS ls hl => ?_)
  have hx := C0.1.1
  have hb := C0.1.2.1
  have hts := C0.1.2.2.2.2
  refine lv_aload_n hx hb dX6_buildShelf_0 rfl (lv_at hl 0 rfl) ?_
  refine lv_iload_n hx hb dX6_buildShelf_1 rfl (lv_at hl 1 rfl) ?_
  refine q_sS C0 lX6_193 (c_X6_isShelf l D y L F xb (by omega)) ⟨rfl, rfl⟩ rfl hP rfl hl rfl (Nat.le_of_ble_eq_true rfl) dX6_buildShelf_2 ⟨Nat.zero_le _, Nat.zero_le _⟩ (fun r1 e_r1 => ?_)
  subst e_r1
  have b_2 := inR_d xb 0 2
  refine q_if_eq hx hb dX6_buildShelf_5 (tgt := 19) (by decide) (by omega) (fun c3 => ?_) (fun c3 => ?_)
  · replace b_2 := b_2.resolve_left (fun h => absurd (h.1.symm.trans c3) (by decide))
    refine q_iconst hx hb dX6_buildShelf_19 ?_
    refine lv_iload_n hx hb dX6_buildShelf_20 rfl (lv_at hl 3 rfl) ?_
    refine q_iconst hx hb dX6_buildShelf_21 ?_
    refine q_bipush hx hb dX6_buildShelf_22 (by decide) ?_
    refine q_sS C0 lX6_41 (c_X6_isIn l D y L F xw 0 6 (by omega) (by omega) (by omega)) ⟨rfl, rfl⟩ rfl hP rfl hl rfl (Nat.le_of_ble_eq_true rfl) dX6_buildShelf_24 ⟨Nat.zero_le _, Nat.zero_le _⟩ (fun r4 e_r4 => ?_)
    subst e_r4
    have b_5 := inR_d xw 0 6
    refine q_vMi C0 lX6_63 (c_X6_isLet l D y L F _ O G μ 0 (inR xw 0 6) hC (by omega) (by omega)) ⟨rfl, rfl⟩ rfl hP hD hS hA hC.1.1 hC.1.2 rfl rfl rfl hl rfl (Nat.le_of_ble_eq_true rfl) dX6_buildShelf_27 ⟨Nat.le_of_ble_eq_true rfl, Nat.le_of_ble_eq_true rfl⟩ (fun r6 H locs L7 F7 hP hD hS hz7 hp7 => ?_)
    obtain ⟨eL, hC, er, hO1⟩ := hp7
    subst eL
    replace er := (er.trans (okR_z0 _)).symm
    subst er
    have hO := hO.tr hO1
    refine q_if_ne hx hb dX6_buildShelf_30 (tgt := 35) (by decide) (by omega) (fun c8 => absurd c8 (by omega)) (fun c8 => ?_)
    refine q_iconst hx hb dX6_buildShelf_33 ?_
    refine W.widen (k := 4) (n := 204) (Nat.le_of_ble_eq_true rfl) (Nat.le_of_ble_eq_true rfl) ?_
    exact q_retMi C0 hret rfl hlk dX6_buildShelf_34 hP hD hS (⟨(by unfold jR_buildShelf; rw [if_neg (by omega)]), O, G, MP_eq hC (by have lt_ := ltR_d 0 (inR xw 0 6); unfold jS_buildShelf; rcases lt_ with lt_ | lt_ | lt_ <;> first | (rw [if_neg (by omega), lt_.1]; done) | (rw [if_pos (by omega), if_neg (by omega), lt_.1]; done) | (exfalso; omega)), rfl, Ext0 hO⟩)
  · replace b_2 := b_2.resolve_right (fun h => c3 h.1)
    refine lv_iload_n hx hb dX6_buildShelf_8 rfl (lv_at hl 2 rfl) ?_
    refine q_sS C0 lX6_193 (c_X6_isShelf l D y L F xa (by omega)) ⟨rfl, rfl⟩ rfl hP rfl hl rfl (Nat.le_of_ble_eq_true rfl) dX6_buildShelf_9 ⟨Nat.zero_le _, Nat.zero_le _⟩ (fun r9 e_r9 => ?_)
    subst e_r9
    have b_10 := inR_d xa 0 2
    refine q_if_eq hx hb dX6_buildShelf_12 (tgt := 19) (by decide) (by omega) (fun c11 => ?_) (fun c11 => ?_)
    · replace b_10 := b_10.resolve_left (fun h => absurd (h.1.symm.trans c11) (by decide))
      refine q_iconst hx hb dX6_buildShelf_19 ?_
      refine lv_iload_n hx hb dX6_buildShelf_20 rfl (lv_at hl 3 rfl) ?_
      refine q_iconst hx hb dX6_buildShelf_21 ?_
      refine q_bipush hx hb dX6_buildShelf_22 (by decide) ?_
      refine q_sS C0 lX6_41 (c_X6_isIn l D y L F xw 0 6 (by omega) (by omega) (by omega)) ⟨rfl, rfl⟩ rfl hP rfl hl rfl (Nat.le_of_ble_eq_true rfl) dX6_buildShelf_24 ⟨Nat.zero_le _, Nat.zero_le _⟩ (fun r12 e_r12 => ?_)
      subst e_r12
      have b_13 := inR_d xw 0 6
      refine q_vMi C0 lX6_63 (c_X6_isLet l D y L F _ O G μ 0 (inR xw 0 6) hC (by omega) (by omega)) ⟨rfl, rfl⟩ rfl hP hD hS hA hC.1.1 hC.1.2 rfl rfl rfl hl rfl (Nat.le_of_ble_eq_true rfl) dX6_buildShelf_27 ⟨Nat.le_of_ble_eq_true rfl, Nat.le_of_ble_eq_true rfl⟩ (fun r14 H locs L15 F15 hP hD hS hz15 hp15 => ?_)
      obtain ⟨eL, hC, er, hO1⟩ := hp15
      subst eL
      replace er := (er.trans (okR_z0 _)).symm
      subst er
      have hO := hO.tr hO1
      refine q_if_ne hx hb dX6_buildShelf_30 (tgt := 35) (by decide) (by omega) (fun c16 => absurd c16 (by omega)) (fun c16 => ?_)
      refine q_iconst hx hb dX6_buildShelf_33 ?_
      refine W.widen (k := 4) (n := 204) (Nat.le_of_ble_eq_true rfl) (Nat.le_of_ble_eq_true rfl) ?_
      exact q_retMi C0 hret rfl hlk dX6_buildShelf_34 hP hD hS (⟨(by unfold jR_buildShelf; rw [if_neg (by omega)]), O, G, MP_eq hC (by have lt_ := ltR_d 0 (inR xw 0 6); unfold jS_buildShelf; rcases lt_ with lt_ | lt_ | lt_ <;> first | (rw [if_neg (by omega), lt_.1]; done) | (rw [if_pos (by omega), if_neg (by omega), lt_.1]; done) | (exfalso; omega)), rfl, Ext0 hO⟩)
    · replace b_10 := b_10.resolve_right (fun h => c11 h.1)
      refine q_iconst hx hb dX6_buildShelf_15 ?_
      refine lv_goto (tgt := 20) hx hb dX6_buildShelf_16 (by decide) ?_
      refine lv_iload_n hx hb dX6_buildShelf_20 rfl (lv_at hl 3 rfl) ?_
      refine q_iconst hx hb dX6_buildShelf_21 ?_
      refine q_bipush hx hb dX6_buildShelf_22 (by decide) ?_
      refine q_sS C0 lX6_41 (c_X6_isIn l D y L F xw 0 6 (by omega) (by omega) (by omega)) ⟨rfl, rfl⟩ rfl hP rfl hl rfl (Nat.le_of_ble_eq_true rfl) dX6_buildShelf_24 ⟨Nat.zero_le _, Nat.zero_le _⟩ (fun r17 e_r17 => ?_)
      subst e_r17
      have b_18 := inR_d xw 0 6
      refine q_vMi C0 lX6_63 (c_X6_isLet l D y L F _ O G μ 1 (inR xw 0 6) hC (by omega) (by omega)) ⟨rfl, rfl⟩ rfl hP hD hS hA hC.1.1 hC.1.2 rfl rfl rfl hl rfl (Nat.le_of_ble_eq_true rfl) dX6_buildShelf_27 ⟨Nat.le_of_ble_eq_true rfl, Nat.le_of_ble_eq_true rfl⟩ (fun r19 H locs L20 F20 hP hD hS hz20 hp20 => ?_)
      obtain ⟨eL, hC, er, hO1⟩ := hp20
      subst eL
      replace er := er.symm
      subst er
      have hO := hO.tr hO1
      have k_21 := okR_d 1 (inR xw 0 6)
      refine q_if_ne hx hb dX6_buildShelf_30 (tgt := 35) (by decide) (by omega) (fun c22 => ?_) (fun c22 => ?_)
      · replace k_21 := k_21.resolve_right (fun h => c22 h.1)
        refine lv_aload_n hx hb dX6_buildShelf_35 rfl (lv_at hl 0 rfl) ?_
        refine q_get C0 iX6 hP hC.1.1 hC.1.2 rfl 1 (by decide) flX6_15 rfl (v := .ref ((uas G))) rfl dX6_buildShelf_36 ?_
        refine lv_iload_n hx hb dX6_buildShelf_39 rfl (lv_at hl 1 rfl) ?_
        refine lv_aload_n hx hb dX6_buildShelf_40 rfl (lv_at hl 0 rfl) ?_
        refine q_get C0 iX6 hP hC.1.1 hC.1.2 rfl 1 (by decide) flX6_15 rfl (v := .ref ((uas G))) rfl dX6_buildShelf_41 ?_
        refine lv_iload_n hx hb dX6_buildShelf_44 rfl (lv_at hl 2 rfl) ?_
        refine q_aald C0 hP hC.2.2.1.1 hC.2.2.1.2 (t := 3) rfl (by omega) (by decide) (v := .ref ((urh G (vsh μ xa)))) rfl dX6_buildShelf_45 ?_
        refine lv_iload_n hx hb dX6_buildShelf_46 rfl (lv_at hl 3 rfl) ?_
        refine q_sMa C0 lX6_82 (c_X6_built l D y L F20 _ (urh G (vsh μ xa)) (urw G (vsh μ xa)) (vod μ (vsh μ xa)) (vst μ (vsh μ xa)) xw (MP_r hC (hW.2.1 xa)) (by omega)) ⟨rfl, rfl⟩ rfl hP hD hS hA rfl hl rfl (Nat.le_of_ble_eq_true rfl) dX6_buildShelf_47 ⟨Nat.le_of_ble_eq_true rfl, Nat.le_of_ble_eq_true rfl⟩ (fun r23 H locs L24 F24 hP hD hS hz24 hp24 => ?_)
        refine W.widen (k := 2) (n := 102) (Nat.le_of_ble_eq_true rfl) (Nat.le_of_ble_eq_true rfl) ?_
        obtain ⟨r23q, eL, hr_, hq_, hrq_, hRn, hfn⟩ := hp24
        subst eL
        have hRm : MB y ((L ++ [r23]) ++ [r23q]) F24 r23 r23q (bo xw (vod μ (vsh μ xa))) (mlk (bo xw (vod μ (vsh μ xa))) (vod μ (vsh μ xa)) (vst μ (vsh μ xa)) 0 99 emp) := hRn
        have hC : MP y ((L ++ [r23]) ++ [r23q]) F24 (fun a => O a ∨ a ∉ L) (uNw G (vn μ) r23 r23q) (tNw (tTh μ (ltR 1 (inR xw 0 6))) (bo xw (vod μ (vsh μ xa))) (mlk (bo xw (vod μ (vsh μ xa))) (vod μ (vsh μ xa)) (vst μ (vsh μ xa)) 0 99 emp)) := MP_new (μ := (tTh μ (ltR 1 (inR xw 0 6)))) (G := G) (o := (bo xw (vod μ (vsh μ xa)))) (g := (mlk (bo xw (vod μ (vsh μ xa))) (vod μ (vsh μ xa)) (vst μ (vsh μ xa)) 0 99 emp)) (F1 := F24) hC rfl hr_ hq_ hRm hfn ⟨hW.1, hW.2.1, hW.2.2.1, hW.2.2.2.1⟩
        have hE : ∀ q ∈ L, ¬ O q → F24 q = F q := fun q h1 h2 => (hfn q h1).trans (hO q h2)
        have hO : OE (fun a => O a ∨ a ∉ L) F24 F24 := fun _ _ => rfl
        have er : urh (uNw G (vn μ) r23 r23q) (vn μ) = r23 := va_up_self _ _ _
        refine q_aast C0 hP hD hS hC.2.2.1.1 hC.2.2.1.2 (t := 3) (r := (RX5, TX5, 2)) rfl hRm.1 hRm.2.1 rfl (by omega) (by decide) dX6_buildShelf_50 (fun H locs hP hD hS => ?_)
        obtain ⟨F25, eF25⟩ : ∃ z, z = va_up F24 (uas (uNw G (vn μ) r23 r23q)) (arrQ (y 3) 3 (iu (fun j => some (urh (uNw G (vn μ) r23 r23q) (vsh (tNw (tTh μ (ltR 1 (inR xw 0 6))) (bo xw (vod μ (vsh μ xa))) (mlk (bo xw (vod μ (vsh μ xa))) (vod μ (vsh μ xa)) (vst μ (vsh μ xa)) 0 99 emp)) j))) xb (some r23))) := ⟨_, rfl⟩
        have hP : va_P D vwCl (va_pl ((L ++ [r23]) ++ [r23q]) F25) H := by rw [eF25]; exact hP
        have hD : va_D (AL L sz) (va_pl ((L ++ [r23]) ++ [r23q]) F25) := by rw [eF25]; exact hD
        have hO : OE (fun a => O a ∨ a ∉ L) F24 F25 := by rw [eF25]; exact hO.tr (OE1 (MP_O hC).2.2.1)
        have hC : MP y ((L ++ [r23]) ++ [r23q]) F25 (fun a => O a ∨ a ∉ L) (uNw G (vn μ) r23 r23q) (tSh (tNw (tTh μ (ltR 1 (inR xw 0 6))) (bo xw (vod μ (vsh μ xa))) (mlk (bo xw (vod μ (vsh μ xa))) (vod μ (vsh μ xa)) (vst μ (vsh μ xa)) 0 99 emp)) xb (vn μ)) := by rw [eF25]; exact MP_sh hC (by rw [er]; exact va_up_self _ _ _) (fun q hq => va_up_ne _ _ hq)
        refine lv_aload_n hx hb dX6_buildShelf_51 rfl (lv_at hl 0 rfl) ?_
        refine lv_aload_n hx hb dX6_buildShelf_52 rfl (lv_at hl 0 rfl) ?_
        refine q_get C0 iX6 hP hC.1.1 hC.1.2 rfl 1 (by decide) flX6_15 rfl (v := .ref ((uas (uNw G (vn μ) r23 r23q)))) rfl dX6_buildShelf_53 ?_
        refine lv_iload_n hx hb dX6_buildShelf_56 rfl (lv_at hl 1 rfl) ?_
        refine q_aald C0 hP hC.2.2.1.1 hC.2.2.1.2 (t := 3) rfl (by omega) (by decide) (v := .ref ((urh (uNw G (vn μ) r23 r23q) (vn μ)))) (by first | rfl | (show va_rf (some (urh (uNw G (vn μ) r23 r23q) (iu _ _ _ xb))) = _; rw [iu_s]; rfl)) dX6_buildShelf_57 ?_
        refine q_iconst hx hb dX6_buildShelf_58 ?_
        refine q_bipush hx hb dX6_buildShelf_59 (by decide) ?_
        refine q_vS C0 lX6_67 (c_X5_many l D y ((L ++ [r23]) ++ [r23q]) F25 (urh (uNw G (vn μ) r23 r23q) (vn μ)) (urw (uNw G (vn μ) r23 r23q) (vn μ)) (bo xw (vod μ (vsh μ xa))) (mlk (bo xw (vod μ (vsh μ xa))) (vod μ (vsh μ xa)) (vst μ (vsh μ xa)) 0 99 emp) 0 99 (MP_rx hC (Nat.lt_succ_self _) (va_up_self _ _ _) (va_up_self _ _ _)) (by omega) (by omega)) ⟨rfl, rfl⟩ rfl hP (MP_rx hC (Nat.lt_succ_self _) (va_up_self _ _ _) (va_up_self _ _ _)).1 (MP_rx hC (Nat.lt_succ_self _) (va_up_self _ _ _) (va_up_self _ _ _)).2.1 rfl rfl rfl hl rfl (Nat.le_of_ble_eq_true rfl) dX6_buildShelf_61 ⟨Nat.le_of_ble_eq_true rfl, Nat.le_of_ble_eq_true rfl⟩ (fun r26 e_r26 => ?_)
        subst e_r26
        refine q_vMi C0 lX6_196 (c_X6_laid l D y ((L ++ [r23]) ++ [r23q]) F25 _ (fun a => O a ∨ a ∉ L) (uNw G (vn μ) r23 r23q) (tSh (tNw (tTh μ (ltR 1 (inR xw 0 6))) (bo xw (vod μ (vsh μ xa))) (mlk (bo xw (vod μ (vsh μ xa))) (vod μ (vsh μ xa)) (vst μ (vsh μ xa)) 0 99 emp)) xb (vn μ)) (cntP (mlk (bo xw (vod μ (vsh μ xa))) (vod μ (vsh μ xa)) (vst μ (vsh μ xa)) 0 99 emp) 0 99) hC) ⟨rfl, rfl⟩ rfl hP hD hS hA hC.1.1 hC.1.2 rfl rfl rfl hl rfl (Nat.le_of_ble_eq_true rfl) dX6_buildShelf_64 ⟨Nat.le_of_ble_eq_true rfl, Nat.le_of_ble_eq_true rfl⟩ (fun r27 H locs L28 F28 hP hD hS hz28 hp28 => ?_)
        obtain ⟨eL, hC, er, hO1⟩ := hp28
        subst eL
        replace er : (cntP (mlk (bo xw (vod μ (vsh μ xa))) (vod μ (vsh μ xa)) (vst μ (vsh μ xa)) 0 99 emp) 0 99) = r27 := er.symm
        subst er
        have hO := hO.tr hO1
        refine W.widen (k := 4) (n := 204) (Nat.le_of_ble_eq_true rfl) (Nat.le_of_ble_eq_true rfl) ?_
        exact q_retMi C0 hret rfl hlk dX6_buildShelf_67 hP hD hS (⟨(by 
    have lt_ := ltR_d 1 (inR xw 0 6)
    unfold jR_buildShelf ; (try rw [show ltR 1 (inR xw 0 6) = 0 by omega]); (repeat (first | rw [if_pos (by omega)] | rw [if_neg (by omega)]))
    all_goals (first | rfl | omega)), (fun a => O a ∨ a ∉ L), (uNw G (vn μ) r23 r23q), MP_eq hC (by 
    have lt_ := ltR_d 1 (inR xw 0 6)
    unfold jS_buildShelf ; rw [show ltR 1 (inR xw 0 6) = 0 by omega]; (repeat (first | rw [if_pos (by omega)] | rw [if_neg (by omega)]))
    all_goals rfl), rfl, ⟨fun q h => List.mem_append_left _ (List.mem_append_left _ h), fun q h1 h2 => (hO q (fun z => z.elim h2 (fun w => w h1))).trans (hE q h1 h2), fun q h => h⟩⟩)
      · replace k_21 := k_21.resolve_left (fun h => absurd (h.1.symm.trans c22) (by decide))
        refine q_iconst hx hb dX6_buildShelf_33 ?_
        refine W.widen (k := 4) (n := 204) (Nat.le_of_ble_eq_true rfl) (Nat.le_of_ble_eq_true rfl) ?_
        exact q_retMi C0 hret rfl hlk dX6_buildShelf_34 hP hD hS (⟨(by unfold jR_buildShelf; rw [if_neg (by omega)]), O, G, MP_eq hC (by have lt_ := ltR_d 1 (inR xw 0 6); unfold jS_buildShelf; rcases lt_ with lt_ | lt_ | lt_ <;> first | (rw [if_neg (by omega), lt_.1]; done) | (rw [if_pos (by omega), if_neg (by omega), lt_.1]; done) | (exfalso; omega)), rfl, Ext0 hO⟩)
set_option maxHeartbeats 3000000 in
set_option maxRecDepth 100000 in
theorem c_X6_buildFromView (l : Launch) (D : va_G) (y : Nat → ClassId) (L : List Nat) (F : Nat → va_E) (sz : Nat) (O : Nat → Prop) (G : MG) (μ : MS) (xb : Int) (xv : Int) (xw : Int) (hC : MP y L F O G μ) (hW : MW μ) (h_xb : -2147483648 ≤ xb ∧ xb ≤ 2147483647) (h_xv : -2147483648 ≤ xv ∧ xv ≤ 2147483647) (h_xw : -2147483648 ≤ xw ∧ xw ≤ 2147483647) : Met l yX6_buildFromView (.code yX6_buildFromView cX6_buildFromView 4 (some .int) :: Tt) ({ frames := 3, cells := 4, slots := 204, locals := 59 }) (PcM D y L F sz [.ref ((ubg G)), .int (iI xb), .int (iI xv), .int (iI xw)]) (cMi D (AL L sz) (fun r L1 F1 => r = jR_buildFromView μ xb xv xw ∧ ∃ (O1 : Nat → Prop) (G1 : MG), MP y L1 F1 O1 G1 (jS_buildFromView μ xb xv xw) ∧ ubg G1 = ubg G ∧ Ext O O1 L L1 F F1)) 4 204 (AL L sz) := by
  have hO : OE O F F := fun _ _ => rfl
  have hw5 := hW.2.2.2.2.2.1
  have hw6 := hW.2.2.2.2.2.2.1
  have hw7 := hW.2.2.2.2.2.2.2.1
  have vb_ := hW.2.2.2.2.1 xv
  have ho_ := (MP_r hC (hW.2.2.1 xv)).2.2.2.2.1
  refine q_ofM (lv := [(0, .ref ((ubg G))), (1, .int (iI xb)), (2, .int (iI xv)), (3, .int (iI xw))]) (by decide) (Nat.le_of_ble_eq_true rfl) rfl (fun p e s m below meth c C0 hret hlk hnm hA hP hD hS ls hl => ?_)
  have hx := C0.1.1
  have hb := C0.1.2.1
  have hts := C0.1.2.2.2.2
  refine lv_aload_n hx hb dX6_buildFromView_0 rfl (lv_at hl 0 rfl) ?_
  refine lv_iload_n hx hb dX6_buildFromView_1 rfl (lv_at hl 1 rfl) ?_
  refine q_sS C0 lX6_60 (c_X6_isBook l D y L F xb (by omega)) ⟨rfl, rfl⟩ rfl hP rfl hl rfl (Nat.le_of_ble_eq_true rfl) dX6_buildFromView_2 ⟨Nat.zero_le _, Nat.zero_le _⟩ (fun r1 e_r1 => ?_)
  subst e_r1
  have b_2 := inR_d xb 0 3
  refine q_if_eq hx hb dX6_buildFromView_5 (tgt := 19) (by decide) (by omega) (fun c3 => ?_) (fun c3 => ?_)
  · replace b_2 := b_2.resolve_left (fun h => absurd (h.1.symm.trans c3) (by decide))
    refine q_iconst hx hb dX6_buildFromView_19 ?_
    refine lv_iload_n hx hb dX6_buildFromView_20 rfl (lv_at hl 3 rfl) ?_
    refine q_iconst hx hb dX6_buildFromView_21 ?_
    refine q_iconst hx hb dX6_buildFromView_22 ?_
    refine q_sS C0 lX6_41 (c_X6_isIn l D y L F xw 0 1 (by omega) (by omega) (by omega)) ⟨rfl, rfl⟩ rfl hP rfl hl rfl (Nat.le_of_ble_eq_true rfl) dX6_buildFromView_23 ⟨Nat.zero_le _, Nat.zero_le _⟩ (fun r4 e_r4 => ?_)
    subst e_r4
    have b_5 := inR_d xw 0 1
    refine q_vMi C0 lX6_63 (c_X6_isLet l D y L F _ O G μ 0 (inR xw 0 1) hC (by omega) (by omega)) ⟨rfl, rfl⟩ rfl hP hD hS hA hC.1.1 hC.1.2 rfl rfl rfl hl rfl (Nat.le_of_ble_eq_true rfl) dX6_buildFromView_26 ⟨Nat.le_of_ble_eq_true rfl, Nat.le_of_ble_eq_true rfl⟩ (fun r6 H locs L7 F7 hP hD hS hz7 hp7 => ?_)
    obtain ⟨eL, hC, er, hO1⟩ := hp7
    subst eL
    replace er := (er.trans (okR_z0 _)).symm
    subst er
    have hO := hO.tr hO1
    refine q_if_ne hx hb dX6_buildFromView_29 (tgt := 34) (by decide) (by omega) (fun c8 => absurd c8 (by omega)) (fun c8 => ?_)
    refine q_iconst hx hb dX6_buildFromView_32 ?_
    refine W.widen (k := 4) (n := 204) (Nat.le_of_ble_eq_true rfl) (Nat.le_of_ble_eq_true rfl) ?_
    exact q_retMi C0 hret rfl hlk dX6_buildFromView_33 hP hD hS (⟨(by unfold jR_buildFromView; rw [if_neg (by omega)]), O, G, MP_eq hC (by have lt_ := ltR_d 0 (inR xw 0 1); unfold jS_buildFromView; rcases lt_ with lt_ | lt_ | lt_ <;> first | (rw [if_neg (by omega), lt_.1]; done) | (rw [if_pos (by omega), if_neg (by omega), lt_.1]; done) | (exfalso; omega)), rfl, Ext0 hO⟩)
  · replace b_2 := b_2.resolve_right (fun h => c3 h.1)
    refine lv_iload_n hx hb dX6_buildFromView_8 rfl (lv_at hl 2 rfl) ?_
    refine q_sS C0 lX6_168 (c_X6_isView l D y L F xv (by omega)) ⟨rfl, rfl⟩ rfl hP rfl hl rfl (Nat.le_of_ble_eq_true rfl) dX6_buildFromView_9 ⟨Nat.zero_le _, Nat.zero_le _⟩ (fun r9 e_r9 => ?_)
    subst e_r9
    have b_10 := inR_d xv 0 1
    refine q_if_eq hx hb dX6_buildFromView_12 (tgt := 19) (by decide) (by omega) (fun c11 => ?_) (fun c11 => ?_)
    · replace b_10 := b_10.resolve_left (fun h => absurd (h.1.symm.trans c11) (by decide))
      refine q_iconst hx hb dX6_buildFromView_19 ?_
      refine lv_iload_n hx hb dX6_buildFromView_20 rfl (lv_at hl 3 rfl) ?_
      refine q_iconst hx hb dX6_buildFromView_21 ?_
      refine q_iconst hx hb dX6_buildFromView_22 ?_
      refine q_sS C0 lX6_41 (c_X6_isIn l D y L F xw 0 1 (by omega) (by omega) (by omega)) ⟨rfl, rfl⟩ rfl hP rfl hl rfl (Nat.le_of_ble_eq_true rfl) dX6_buildFromView_23 ⟨Nat.zero_le _, Nat.zero_le _⟩ (fun r12 e_r12 => ?_)
      subst e_r12
      have b_13 := inR_d xw 0 1
      refine q_vMi C0 lX6_63 (c_X6_isLet l D y L F _ O G μ 0 (inR xw 0 1) hC (by omega) (by omega)) ⟨rfl, rfl⟩ rfl hP hD hS hA hC.1.1 hC.1.2 rfl rfl rfl hl rfl (Nat.le_of_ble_eq_true rfl) dX6_buildFromView_26 ⟨Nat.le_of_ble_eq_true rfl, Nat.le_of_ble_eq_true rfl⟩ (fun r14 H locs L15 F15 hP hD hS hz15 hp15 => ?_)
      obtain ⟨eL, hC, er, hO1⟩ := hp15
      subst eL
      replace er := (er.trans (okR_z0 _)).symm
      subst er
      have hO := hO.tr hO1
      refine q_if_ne hx hb dX6_buildFromView_29 (tgt := 34) (by decide) (by omega) (fun c16 => absurd c16 (by omega)) (fun c16 => ?_)
      refine q_iconst hx hb dX6_buildFromView_32 ?_
      refine W.widen (k := 4) (n := 204) (Nat.le_of_ble_eq_true rfl) (Nat.le_of_ble_eq_true rfl) ?_
      exact q_retMi C0 hret rfl hlk dX6_buildFromView_33 hP hD hS (⟨(by unfold jR_buildFromView; rw [if_neg (by omega)]), O, G, MP_eq hC (by have lt_ := ltR_d 0 (inR xw 0 1); unfold jS_buildFromView; rcases lt_ with lt_ | lt_ | lt_ <;> first | (rw [if_neg (by omega), lt_.1]; done) | (rw [if_pos (by omega), if_neg (by omega), lt_.1]; done) | (exfalso; omega)), rfl, Ext0 hO⟩)
    · replace b_10 := b_10.resolve_right (fun h => c11 h.1)
      refine q_iconst hx hb dX6_buildFromView_15 ?_
      refine lv_goto (tgt := 20) hx hb dX6_buildFromView_16 (by decide) ?_
      refine lv_iload_n hx hb dX6_buildFromView_20 rfl (lv_at hl 3 rfl) ?_
      refine q_iconst hx hb dX6_buildFromView_21 ?_
      refine q_iconst hx hb dX6_buildFromView_22 ?_
      refine q_sS C0 lX6_41 (c_X6_isIn l D y L F xw 0 1 (by omega) (by omega) (by omega)) ⟨rfl, rfl⟩ rfl hP rfl hl rfl (Nat.le_of_ble_eq_true rfl) dX6_buildFromView_23 ⟨Nat.zero_le _, Nat.zero_le _⟩ (fun r17 e_r17 => ?_)
      subst e_r17
      have b_18 := inR_d xw 0 1
      refine q_vMi C0 lX6_63 (c_X6_isLet l D y L F _ O G μ 1 (inR xw 0 1) hC (by omega) (by omega)) ⟨rfl, rfl⟩ rfl hP hD hS hA hC.1.1 hC.1.2 rfl rfl rfl hl rfl (Nat.le_of_ble_eq_true rfl) dX6_buildFromView_26 ⟨Nat.le_of_ble_eq_true rfl, Nat.le_of_ble_eq_true rfl⟩ (fun r19 H locs L20 F20 hP hD hS hz20 hp20 => ?_)
      obtain ⟨eL, hC, er, hO1⟩ := hp20
      subst eL
      replace er := er.symm
      subst er
      have hO := hO.tr hO1
      have k_21 := okR_d 1 (inR xw 0 1)
      refine q_if_ne hx hb dX6_buildFromView_29 (tgt := 34) (by decide) (by omega) (fun c22 => ?_) (fun c22 => ?_)
      · replace k_21 := k_21.resolve_right (fun h => c22 h.1)
        refine lv_aload_n hx hb dX6_buildFromView_34 rfl (lv_at hl 0 rfl) ?_
        refine q_get C0 iX6 hP hC.1.1 hC.1.2 rfl 0 (by decide) flX6_11 rfl (v := .ref ((uab G))) rfl dX6_buildFromView_35 ?_
        refine lv_iload_n hx hb dX6_buildFromView_38 rfl (lv_at hl 1 rfl) ?_
        refine lv_aload_n hx hb dX6_buildFromView_39 rfl (lv_at hl 0 rfl) ?_
        refine q_get C0 iX6 hP hC.1.1 hC.1.2 rfl 2 (by decide) flX6_18 rfl (v := .ref ((uav G))) rfl dX6_buildFromView_40 ?_
        refine lv_iload_n hx hb dX6_buildFromView_43 rfl (lv_at hl 2 rfl) ?_
        refine q_aald C0 hP hC.2.2.2.1.1 hC.2.2.2.1.2 (t := 3) rfl (by omega) (by decide) (v := .ref ((urh G (vvw μ xv)))) rfl dX6_buildFromView_44 ?_
        refine lv_aload_n hx hb dX6_buildFromView_45 rfl (lv_at hl 0 rfl) ?_
        refine q_get C0 iX6 hP hC.1.1 hC.1.2 rfl 2 (by decide) flX6_18 rfl (v := .ref ((uav G))) rfl dX6_buildFromView_46 ?_
        refine lv_iload_n hx hb dX6_buildFromView_49 rfl (lv_at hl 2 rfl) ?_
        refine q_aald C0 hP hC.2.2.2.1.1 hC.2.2.2.1.2 (t := 3) rfl (by omega) (by decide) (v := .ref ((urh G (vvw μ xv)))) rfl dX6_buildFromView_50 ?_
        refine q_getN C0 iX5 hP (MP_r hC (hW.2.2.1 xv)).1 (MP_r hC (hW.2.2.1 xv)).2.1 rfl 0 (by decide) C0.2.2.2.2.2.2.2.1 rfl (v := .int (iI ((vod μ (vvw μ xv))))) rfl dX6_buildFromView_51 ?_
        refine lv_aload_n hx hb dX6_buildFromView_54 rfl (lv_at hl 0 rfl) ?_
        refine q_get C0 iX6 hP hC.1.1 hC.1.2 rfl 3 (by decide) flX6_21 rfl (v := .ref ((uaf G))) rfl dX6_buildFromView_55 ?_
        refine lv_iload_n hx hb dX6_buildFromView_58 rfl (lv_at hl 2 rfl) ?_
        refine q_iald C0 hP (f := (vvl μ)) hC.2.2.2.2.1.1 hC.2.2.2.2.1.2 (by omega) (by decide) dX6_buildFromView_59 ?_
        refine lv_aload_n hx hb dX6_buildFromView_60 rfl (lv_at hl 0 rfl) ?_
        refine q_get C0 iX6 hP hC.1.1 hC.1.2 rfl 4 (by decide) flX6_25 rfl (v := .ref ((uat G))) rfl dX6_buildFromView_61 ?_
        refine lv_iload_n hx hb dX6_buildFromView_64 rfl (lv_at hl 2 rfl) ?_
        refine q_iald C0 hP (f := (vvh μ)) hC.2.2.2.2.2.1.1 hC.2.2.2.2.2.1.2 (by omega) (by decide) dX6_buildFromView_65 ?_
        refine q_vMa C0 lX6_78 (c_X5_like l D y L F20 _ (urh G (vvw μ xv)) (urw G (vvw μ xv)) (vod μ (vvw μ xv)) (vst μ (vvw μ xv)) (vod μ (vvw μ xv)) ((vvl μ) xv) ((vvh μ) xv) (MP_r hC (hW.2.2.1 xv)) (by omega) (by omega) (by omega)) ⟨rfl, rfl⟩ rfl hP hD hS hA (MP_r hC (hW.2.2.1 xv)).1 (MP_r hC (hW.2.2.1 xv)).2.1 rfl rfl rfl hl rfl (Nat.le_of_ble_eq_true rfl) dX6_buildFromView_66 ⟨Nat.le_of_ble_eq_true rfl, Nat.le_of_ble_eq_true rfl⟩ (fun r23 H locs L24 F24 hP hD hS hz24 hp24 => ?_)
        refine W.widen (k := 2) (n := 102) (Nat.le_of_ble_eq_true rfl) (Nat.le_of_ble_eq_true rfl) ?_
        obtain ⟨r23q, eL, hr_, hq_, hrq_, hRn, hfn⟩ := hp24
        subst eL
        have hRm : MB y ((L ++ [r23]) ++ [r23q]) F24 r23 r23q (vod μ (vvw μ xv)) (mlk (vod μ (vvw μ xv)) (vod μ (vvw μ xv)) (vst μ (vvw μ xv)) ((vvl μ) xv) ((vvh μ) xv) emp) := hRn
        have hC : MP y ((L ++ [r23]) ++ [r23q]) F24 (fun a => O a ∨ a ∉ L) (uNw G (vn μ) r23 r23q) (tNw (tTh μ (ltR 1 (inR xw 0 1))) (vod μ (vvw μ xv)) (mlk (vod μ (vvw μ xv)) (vod μ (vvw μ xv)) (vst μ (vvw μ xv)) ((vvl μ) xv) ((vvh μ) xv) emp)) := MP_new (μ := (tTh μ (ltR 1 (inR xw 0 1)))) (G := G) (o := (vod μ (vvw μ xv))) (g := (mlk (vod μ (vvw μ xv)) (vod μ (vvw μ xv)) (vst μ (vvw μ xv)) ((vvl μ) xv) ((vvh μ) xv) emp)) (F1 := F24) hC rfl hr_ hq_ hRm hfn ⟨hW.1, hW.2.1, hW.2.2.1, hW.2.2.2.1⟩
        have hE : ∀ q ∈ L, ¬ O q → F24 q = F q := fun q h1 h2 => (hfn q h1).trans (hO q h2)
        have hO : OE (fun a => O a ∨ a ∉ L) F24 F24 := fun _ _ => rfl
        have er : urh (uNw G (vn μ) r23 r23q) (vn μ) = r23 := va_up_self _ _ _
        refine q_aast C0 hP hD hS hC.2.1.1 hC.2.1.2 (t := 3) (r := (RX5, TX5, 2)) rfl hRm.1 hRm.2.1 rfl (by omega) (by decide) dX6_buildFromView_69 (fun H locs hP hD hS => ?_)
        obtain ⟨F25, eF25⟩ : ∃ z, z = va_up F24 (uab (uNw G (vn μ) r23 r23q)) (arrQ (y 3) 4 (iu (fun j => some (urh (uNw G (vn μ) r23 r23q) (vbk (tNw (tTh μ (ltR 1 (inR xw 0 1))) (vod μ (vvw μ xv)) (mlk (vod μ (vvw μ xv)) (vod μ (vvw μ xv)) (vst μ (vvw μ xv)) ((vvl μ) xv) ((vvh μ) xv) emp)) j))) xb (some r23))) := ⟨_, rfl⟩
        have hP : va_P D vwCl (va_pl ((L ++ [r23]) ++ [r23q]) F25) H := by rw [eF25]; exact hP
        have hD : va_D (AL L sz) (va_pl ((L ++ [r23]) ++ [r23q]) F25) := by rw [eF25]; exact hD
        have hO : OE (fun a => O a ∨ a ∉ L) F24 F25 := by rw [eF25]; exact hO.tr (OE1 (MP_O hC).2.1)
        have hC : MP y ((L ++ [r23]) ++ [r23q]) F25 (fun a => O a ∨ a ∉ L) (uNw G (vn μ) r23 r23q) (tBk (tNw (tTh μ (ltR 1 (inR xw 0 1))) (vod μ (vvw μ xv)) (mlk (vod μ (vvw μ xv)) (vod μ (vvw μ xv)) (vst μ (vvw μ xv)) ((vvl μ) xv) ((vvh μ) xv) emp)) xb (vn μ)) := by rw [eF25]; exact MP_bk hC (by rw [er]; exact va_up_self _ _ _) (fun q hq => va_up_ne _ _ hq)
        refine lv_aload_n hx hb dX6_buildFromView_70 rfl (lv_at hl 0 rfl) ?_
        refine lv_aload_n hx hb dX6_buildFromView_71 rfl (lv_at hl 0 rfl) ?_
        refine q_get C0 iX6 hP hC.1.1 hC.1.2 rfl 0 (by decide) flX6_11 rfl (v := .ref ((uab (uNw G (vn μ) r23 r23q)))) rfl dX6_buildFromView_72 ?_
        refine lv_iload_n hx hb dX6_buildFromView_75 rfl (lv_at hl 1 rfl) ?_
        refine q_aald C0 hP hC.2.1.1 hC.2.1.2 (t := 3) rfl (by omega) (by decide) (v := .ref ((urh (uNw G (vn μ) r23 r23q) (vn μ)))) (by first | rfl | (show va_rf (some (urh (uNw G (vn μ) r23 r23q) (iu _ _ _ xb))) = _; rw [iu_s]; rfl)) dX6_buildFromView_76 ?_
        refine q_iconst hx hb dX6_buildFromView_77 ?_
        refine q_bipush hx hb dX6_buildFromView_78 (by decide) ?_
        refine q_vS C0 lX6_67 (c_X5_many l D y ((L ++ [r23]) ++ [r23q]) F25 (urh (uNw G (vn μ) r23 r23q) (vn μ)) (urw (uNw G (vn μ) r23 r23q) (vn μ)) (vod μ (vvw μ xv)) (mlk (vod μ (vvw μ xv)) (vod μ (vvw μ xv)) (vst μ (vvw μ xv)) ((vvl μ) xv) ((vvh μ) xv) emp) 0 99 (MP_rx hC (Nat.lt_succ_self _) (va_up_self _ _ _) (va_up_self _ _ _)) (by omega) (by omega)) ⟨rfl, rfl⟩ rfl hP (MP_rx hC (Nat.lt_succ_self _) (va_up_self _ _ _) (va_up_self _ _ _)).1 (MP_rx hC (Nat.lt_succ_self _) (va_up_self _ _ _) (va_up_self _ _ _)).2.1 rfl rfl rfl hl rfl (Nat.le_of_ble_eq_true rfl) dX6_buildFromView_80 ⟨Nat.le_of_ble_eq_true rfl, Nat.le_of_ble_eq_true rfl⟩ (fun r26 e_r26 => ?_)
        subst e_r26
        refine q_vMi C0 lX6_71 (c_X6_did l D y ((L ++ [r23]) ++ [r23q]) F25 _ (fun a => O a ∨ a ∉ L) (uNw G (vn μ) r23 r23q) (tBk (tNw (tTh μ (ltR 1 (inR xw 0 1))) (vod μ (vvw μ xv)) (mlk (vod μ (vvw μ xv)) (vod μ (vvw μ xv)) (vst μ (vvw μ xv)) ((vvl μ) xv) ((vvh μ) xv) emp)) xb (vn μ)) (cntP (mlk (vod μ (vvw μ xv)) (vod μ (vvw μ xv)) (vst μ (vvw μ xv)) ((vvl μ) xv) ((vvh μ) xv) emp) 0 99) hC) ⟨rfl, rfl⟩ rfl hP hD hS hA hC.1.1 hC.1.2 rfl rfl rfl hl rfl (Nat.le_of_ble_eq_true rfl) dX6_buildFromView_83 ⟨Nat.le_of_ble_eq_true rfl, Nat.le_of_ble_eq_true rfl⟩ (fun r27 H locs L28 F28 hP hD hS hz28 hp28 => ?_)
        obtain ⟨eL, hC, er, hO1⟩ := hp28
        subst eL
        replace er : (cntP (mlk (vod μ (vvw μ xv)) (vod μ (vvw μ xv)) (vst μ (vvw μ xv)) ((vvl μ) xv) ((vvh μ) xv) emp) 0 99) = r27 := er.symm
        subst er
        have hO := hO.tr hO1
        refine W.widen (k := 4) (n := 204) (Nat.le_of_ble_eq_true rfl) (Nat.le_of_ble_eq_true rfl) ?_
        exact q_retMi C0 hret rfl hlk dX6_buildFromView_86 hP hD hS (⟨(by 
    have lt_ := ltR_d 1 (inR xw 0 1)
    unfold jR_buildFromView ; (try rw [show ltR 1 (inR xw 0 1) = 0 by omega]); (repeat (first | rw [if_pos (by omega)] | rw [if_neg (by omega)]))
    all_goals (first | rfl | omega)), (fun a => O a ∨ a ∉ L), (uNw G (vn μ) r23 r23q), MP_eq hC (by 
    have lt_ := ltR_d 1 (inR xw 0 1)
    unfold jS_buildFromView ; rw [show ltR 1 (inR xw 0 1) = 0 by omega]; (repeat (first | rw [if_pos (by omega)] | rw [if_neg (by omega)]))
    all_goals rfl), rfl, ⟨fun q h => List.mem_append_left _ (List.mem_append_left _ h), fun q h1 h2 => (hO q (fun z => z.elim h2 (fun w => w h1))).trans (hE q h1 h2), fun q h => h⟩⟩)
      · replace k_21 := k_21.resolve_left (fun h => absurd (h.1.symm.trans c22) (by decide))
        refine q_iconst hx hb dX6_buildFromView_32 ?_
        refine W.widen (k := 4) (n := 204) (Nat.le_of_ble_eq_true rfl) (Nat.le_of_ble_eq_true rfl) ?_
        exact q_retMi C0 hret rfl hlk dX6_buildFromView_33 hP hD hS (⟨(by unfold jR_buildFromView; rw [if_neg (by omega)]), O, G, MP_eq hC (by have lt_ := ltR_d 1 (inR xw 0 1); unfold jS_buildFromView; rcases lt_ with lt_ | lt_ | lt_ <;> first | (rw [if_neg (by omega), lt_.1]; done) | (rw [if_pos (by omega), if_neg (by omega), lt_.1]; done) | (exfalso; omega)), rfl, Ext0 hO⟩)
