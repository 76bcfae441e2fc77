theorem okR_z0 (q : Int) : okR 0 q = 0 := by
  rcases okR_d 0 q with h | h
  · exact absurd rfl h.2.1
  · exact h.1
def clU (k : Option Nat) (i : Nat) (o : Int) (r : Int) (x : SX) : SX := sX k i (turn o (turn o r)) (-1) x
def clX (μ : MS) (i : Nat) (lo hi : Int) : SX := itrP (clU (vwk μ) i (vod μ i)) lo hi (vst μ i, vbr μ, 0)
def drN (f : Int → Int) (t lo hi : Int) : Int := endP f lo hi (if t = 0 then 0 else 1)
theorem drN_r (f : Int → Int) (t lo hi : Int) : -1 ≤ drN f t lo hi ∧ drN f t lo hi ≤ 99 := endP_r _ _ _ _
def dpS (μ : MS) (i : Nat) (t lo hi : Int) : MS := if t = 2 then tX (tWr μ i) i (clX μ i lo hi) else if drN (vst μ i) t lo hi = -1 then tWr μ i else tSe (tWr μ i) i (turn (vod μ i) (keyR (vod μ i) (drN (vst μ i) t lo hi))) (-1)
def dpR (μ : MS) (i : Nat) (t lo hi : Int) : Int := if t = 2 then (clX μ i lo hi).2.2 else if drN (vst μ i) t lo hi = -1 then -1 else keyR (vod μ i) (drN (vst μ i) t lo hi) * 100 + vst μ i (turn (vod μ i) (keyR (vod μ i) (drN (vst μ i) t lo hi)))
theorem dpR_b {y : Nat → ClassId} {L : List Nat} {F : Nat → va_E} {O : Nat → Prop} {G : MG} {μ : MS} (h : MP y L F O G μ) {i : Nat} (hi : i < vn μ) (t lo hi2 : Int) : t = 2 ∨ (-1 ≤ dpR μ i t lo hi2 ∧ dpR μ i t lo hi2 ≤ 9999) := by
  by_cases ht : t = 2
  · exact Or.inl ht
  · refine Or.inr ?_
    have r := drN_r (vst μ i) t lo hi2
    have k := keyR_b (o := vod μ i) r
    have b := (MP_r h hi).2.2.2.2.2 (turn (vod μ i) (keyR (vod μ i) (drN (vst μ i) t lo hi2)))
    unfold dpR
    rw [if_neg ht]
    split <;> omega
def jS_drop (μ : MS) (b t : Int) : MS := if (0 ≤ b ∧ b ≤ 3) then (if (0 ≤ t ∧ t ≤ 2) then tDi (dpS (tTh μ 0) (vbk μ b) t 0 99) 0 else tTh μ 2) else tTh μ 1
def jR_drop (μ : MS) (b t : Int) : Int := if ((0 ≤ b ∧ b ≤ 3)) ∧ (0 ≤ t ∧ t ≤ 2) then dpR (tTh μ 0) (vbk μ b) t 0 99 else 0
def jS_viewDrop (μ : MS) (v t : Int) : MS := if (0 ≤ v ∧ v ≤ 1) then (if (0 ≤ t ∧ t ≤ 2) then tDi (dpS (tTh μ 0) (vvw μ v) t (vvl μ v) (vvh μ v)) 0 else tTh μ 2) else tTh μ 1
def jR_viewDrop (μ : MS) (v t : Int) : Int := if ((0 ≤ v ∧ v ≤ 1)) ∧ (0 ≤ t ∧ t ≤ 2) then dpR (tTh μ 0) (vvw μ v) t (vvl μ v) (vvh μ v) else 0
def jS_shelfDrop (μ : MS) (b t : Int) : MS := if (0 ≤ b ∧ b ≤ 2) then (if (0 ≤ t ∧ t ≤ 2) then tDi (dpS (tTh μ 0) (vsh μ b) t 0 99) 1 else tTh μ 2) else tTh μ 1
def jR_shelfDrop (μ : MS) (b t : Int) : Int := if ((0 ≤ b ∧ b ≤ 2)) ∧ (0 ≤ t ∧ t ≤ 2) then (if t = 2 then dpR (tTh μ 0) (vsh μ b) t 0 99 else k100 (dpR (tTh μ 0) (vsh μ b) t 0 99)) else 0
def fiU (k : Option Nat) (i : Nat) (o f s w : Int) (j : Int) (x : SX) : SX := if w = -1 then sX k i (turn o ((f + j * s) % 100)) (-1) x else sX k i (turn o ((f + j * s) % 100)) ((w + j) % 100) x
def fiX (μ : MS) (i : Nat) (f s n w : Int) : SX := itrP (fiU (vwk μ) i (vod μ i) f s w) 0 (n - 1) (vst μ i, vbr μ, 0)
def laU (k : Option Nat) (i : Nat) (o f s z : Int) (j : Int) (x : SX) : SX := if z ≠ 0 then sX k i (turn o ((f + j * s) % 100)) 0 x else sX k i (turn o ((f + j * s) % 100)) (-1) x
def laX (μ : MS) (i : Nat) (f s n z : Int) : SX := itrP (laU (vwk μ) i (vod μ i) f s z) 0 (n - 1) (vst μ i, vbr μ, 0)
def paU (k : Option Nat) (i : Nat) (o o2 : Int) (f2 : Int → Int) (q : Int) (x : SX) : SX := if isT f2 (turn o2 q) ≠ 0 then sX k i (turn o q) (mwd o2 f2 q) x else x
def paX (μ : MS) (i j : Nat) : SX := itrP (paU (vwk μ) i (vod μ i) (vod μ j) (vst μ j)) 0 99 (vst μ i, vbr μ, 0)
def keU (k : Option Nat) (i : Nat) (o o2 : Int) (f2 : Int → Int) (z : Int) (q : Int) (x : SX) : SX := if isT f2 (turn o2 q) ≠ z then sX k i (turn o q) (-1) x else x
def keX (μ : MS) (i j : Nat) (z : Int) : SX := itrP (keU (vwk μ) i (vod μ i) (vod μ j) (vst μ j) z) 0 99 (vst μ i, vbr μ, 0)
def sbU (k : Option Nat) (i : Nat) (o o2 : Int) (f2 : Int → Int) (t : Int) (q : Int) (x : SX) : SX := if t = 0 then (if isT f2 (turn o2 q) = 1 then sX k i (turn o q) 0 x else x) else if isT f2 (turn o2 q) = (if t = 1 then 0 else 1) then sX k i (turn o q) (-1) x else x
def sbX (μ : MS) (i j : Nat) (t : Int) : SX := itrP (sbU (vwk μ) i (vod μ i) (vod μ j) (vst μ j) t) 0 99 (vst μ i, vbr μ, 0)
def jS_fill (μ : MS) (b f s n w : Int) : MS := if (0 ≤ b ∧ b ≤ 3) then (if (0 ≤ f ∧ f ≤ 99) ∧ (0 ≤ s ∧ s ≤ 99) ∧ (0 ≤ n ∧ n ≤ 100) ∧ (-1 ≤ w ∧ w ≤ 99) then tDi (tX (tWr (tTh μ 0) (vbk μ b)) (vbk μ b) (fiX μ (vbk μ b) f s n w)) 0 else tTh μ 2) else tTh μ 1
def jR_fill (μ : MS) (b f s n w : Int) : Int := if ((0 ≤ b ∧ b ≤ 3)) ∧ (0 ≤ f ∧ f ≤ 99) ∧ (0 ≤ s ∧ s ≤ 99) ∧ (0 ≤ n ∧ n ≤ 100) ∧ (-1 ≤ w ∧ w ≤ 99) then (fiX μ (vbk μ b) f s n w).2.2 else 0
def jS_lay (μ : MS) (b f s n z : Int) : MS := if (0 ≤ b ∧ b ≤ 2) then (if (0 ≤ f ∧ f ≤ 99) ∧ (0 ≤ s ∧ s ≤ 99) ∧ (0 ≤ n ∧ n ≤ 100) then tDi (tX (tTh μ 0) (vsh μ b) (laX μ (vsh μ b) f s n z)) 1 else tTh μ 2) else tTh μ 1
def jR_lay (μ : MS) (b f s n z : Int) : Int := if ((0 ≤ b ∧ b ≤ 2)) ∧ (0 ≤ f ∧ f ≤ 99) ∧ (0 ≤ s ∧ s ≤ 99) ∧ (0 ≤ n ∧ n ≤ 100) then (laX μ (vsh μ b) f s n z).2.2 else 0
def jS_pour (μ : MS) (b c : Int) : MS := if (0 ≤ b ∧ b ≤ 3) ∧ (0 ≤ c ∧ c ≤ 3) then (if b = c then tDi (tTh μ 0) 2 else tDi (tX (tWr (tTh μ 0) (vbk μ b)) (vbk μ b) (paX μ (vbk μ b) (vbk μ c))) 0) else tTh μ 1
def jR_pour (μ : MS) (b c : Int) : Int := if (0 ≤ b ∧ b ≤ 3) ∧ (0 ≤ c ∧ c ≤ 3) then (if b = c then -9 else (paX μ (vbk μ b) (vbk μ c)).2.2) else 0
def jS_keep (μ : MS) (b c z : Int) : MS := if (0 ≤ b ∧ b ≤ 3) ∧ (0 ≤ c ∧ c ≤ 3) then (if b = c then tDi (tTh μ 0) 2 else tDi (tX (tWr (tTh μ 0) (vbk μ b)) (vbk μ b) (keX μ (vbk μ b) (vbk μ c) z)) 0) else tTh μ 1
def jR_keep (μ : MS) (b c z : Int) : Int := if (0 ≤ b ∧ b ≤ 3) ∧ (0 ≤ c ∧ c ≤ 3) then (if b = c then -9 else (keX μ (vbk μ b) (vbk μ c) z).2.2) else 0
def jS_shelfBoth (μ : MS) (b c t : Int) : MS := if (0 ≤ b ∧ b ≤ 2) ∧ (0 ≤ c ∧ c ≤ 2) then (if (0 ≤ t ∧ t ≤ 2) then (if b = c then tDi (tTh μ 0) 2 else tDi (tX (tTh μ 0) (vsh μ b) (sbX μ (vsh μ b) (vsh μ c) t)) 1) else tTh μ 2) else tTh μ 1
def jR_shelfBoth (μ : MS) (b c t : Int) : Int := if ((0 ≤ b ∧ b ≤ 2) ∧ (0 ≤ c ∧ c ≤ 2)) ∧ (0 ≤ t ∧ t ≤ 2) then (if b = c then -9 else (sbX μ (vsh μ b) (vsh μ c) t).2.2) else 0
def hmW (o : Int) (f : Int → Int) (n q : Int) : Int := if mwd o f q = n then 0 else 1
def kaR (z k : Int) : Int := if z ≠ 0 then 99 - k else k
def kaF (f : Int → Int) (z : Int) : Nat → Int → Int → Int
  | 0, _, _ => -1
  | m + 1, k, u => if isT f (kaR z k) ≠ 0 then (if u = 0 then kaR z k else kaF f z m (k + 1) (u - 1)) else kaF f z m (k + 1) u
def kaP (f : Int → Int) (z k u : Int) : Int := kaF f z (100 - k).toNat k u
theorem kaP_s {f : Int → Int} {z k u : Int} (h : k < 100) : kaP f z k u = if isT f (kaR z k) ≠ 0 then (if u = 0 then kaR z k else kaP f z (k + 1) (u - 1)) else kaP f z (k + 1) u := by
  unfold kaP
  rw [show (100 - k).toNat = (100 - (k + 1)).toNat + 1 by omega, kaF]
theorem kaP_e {f : Int → Int} {z k u : Int} (h : 100 ≤ k) : kaP f z k u = -1 := by
  unfold kaP
  rw [show (100 - k).toNat = 0 by omega, kaF]
def ssU (o o2 : Int) (f f2 : Int → Int) (t q : Int) : Int := if isT f (turn o q) = isT f2 (turn o2 q) ∨ (t = 1 ∧ isT f (turn o q) ≠ 0) then 1 else 0
def jS_has (μ : MS) (b w n : Int) : MS := if (0 ≤ b ∧ b ≤ 3) then (if (0 ≤ n ∧ n ≤ 99) then (tTh μ 0) else tTh μ 2) else tTh μ 1
def jR_has (μ : MS) (b w n : Int) : Int := if ((0 ≤ b ∧ b ≤ 3)) ∧ (0 ≤ n ∧ n ≤ 99) then (if w ≠ 0 then isT (vst μ (vbk μ b)) (turn (vod μ (vbk μ b)) n) else 1 - allP (hmW (vod μ (vbk μ b)) (vst μ (vbk μ b)) n) 0) else 0
def jS_keyAt (μ : MS) (b n z : Int) : MS := if (0 ≤ b ∧ b ≤ 3) then (if (0 ≤ n ∧ n ≤ 99) then (tTh μ 0) else tTh μ 2) else tTh μ 1
def jR_keyAt (μ : MS) (b n z : Int) : Int := if ((0 ≤ b ∧ b ≤ 3)) ∧ (0 ≤ n ∧ n ≤ 99) then keyR (vod μ (vbk μ b)) (kaP (vst μ (vbk μ b)) z 0 n) else 0
def jS_sameShelves (μ : MS) (b c t : Int) : MS := if (0 ≤ b ∧ b ≤ 2) ∧ (0 ≤ c ∧ c ≤ 2) then (if (0 ≤ t ∧ t ≤ 1) then (tTh μ 0) else tTh μ 2) else tTh μ 1
def jR_sameShelves (μ : MS) (b c t : Int) : Int := if ((0 ≤ b ∧ b ≤ 2) ∧ (0 ≤ c ∧ c ≤ 2)) ∧ (0 ≤ t ∧ t ≤ 1) then allP (ssU (vod μ (vsh μ b)) (vod μ (vsh μ c)) (vst μ (vsh μ b)) (vst μ (vsh μ c)) t) 0 else 0
set_option maxHeartbeats 3000000 in
set_option maxRecDepth 100000 in
theorem c_X6_dropped (l : Launch) (D : va_G) (y : Nat → ClassId) (L : List Nat) (F : Nat → va_E) (sz : Nat) (O : Nat → Prop) (G : MG) (μ : MS) (i : Nat) (t : Int) (lo : Int) (hi : Int) (hC : MP y L F O G μ) (hW : MW μ) (hi0 : i < vn μ) (ht : 0 ≤ t ∧ t ≤ 2) (hlo : 0 ≤ lo ∧ lo ≤ 900) (hhi : -900 ≤ hi ∧ hi ≤ 99) : Met l yX6_dropped (.code yX6_dropped cX6_dropped 7 (some .int) :: Tt) ({ frames := 2, cells := 0, slots := 0, locals := 45 }) (PcM D y L F sz [.ref ((ubg G)), .ref ((urh G i)), .int (iI t), .int (iI lo), .int (iI hi)]) (cMi D (AL L sz) (fun r L1 F1 => L = L1 ∧ MP y L1 F1 O G (dpS μ i t lo hi) ∧ r = dpR μ i t lo hi ∧ OE O F F1)) 0 0 (AL L sz) := by
  have hO : OE O F F := fun _ _ => rfl
  have m1_ := @keyR_m1 (vod μ i) (lasP (vst μ i) lo hi) (lasP_r _ _ _)
  have m2_ := @keyR_m1 (vod μ i) (firP (vst μ i) lo hi) (firP_r _ _ _)
  have ho_ := (MP_r hC hi0).2.2.2.2.1
  refine q_ofM (lv := [(0, .ref ((ubg G))), (1, .ref ((urh G i))), (2, .int (iI t)), (3, .int (iI lo)), (4, .int (iI hi))]) (by decide) (Nat.le_of_ble_eq_true rfl) rfl (fun p e s m below meth c C0 hret hlk hnm hA hP hD hS ls hl => ?_)
  have hx := C0.1.1
  have hb := C0.1.2.1
  have hts := C0.1.2.2.2.2
  refine lv_aload_n hx hb dX6_dropped_0 rfl (lv_at hl 0 rfl) ?_
  refine lv_aload_n hx hb dX6_dropped_1 rfl (lv_at hl 1 rfl) ?_
  refine q_vMv C0 lX6_96 (c_X6_write l D y L F _ O G μ i hC hi0 hW.2.2.2.1) ⟨rfl, rfl⟩ rfl hP hD hS hA hC.1.1 hC.1.2 rfl rfl rfl hl rfl (Nat.le_of_ble_eq_true rfl) dX6_dropped_2 ⟨Nat.le_of_ble_eq_true rfl, Nat.le_of_ble_eq_true rfl⟩ (fun _ H locs L2 F2 hP hD hS hz2 hp2 => ?_)
  obtain ⟨eL, hC, er, hO1⟩ := hp2
  subst eL
  have hO := hO.tr hO1
  refine lv_iload_n hx hb dX6_dropped_5 rfl (lv_at hl 2 rfl) ?_
  refine q_iconst hx hb dX6_dropped_6 ?_
  refine q_icmp_ne hx hb dX6_dropped_7 (tgt := 49) (by decide) (by omega) (by omega) (fun c3 => ?_) (fun c3 => ?_)
  · refine lv_iload_n hx hb dX6_dropped_49 rfl (lv_at hl 2 rfl) ?_
    refine q_if_ne hx hb dX6_dropped_50 (tgt := 63) (by decide) (by omega) (fun c4 => ?_) (fun c4 => ?_)
    · refine lv_aload_n hx hb dX6_dropped_63 rfl (lv_at hl 1 rfl) ?_
      refine lv_iload_n hx hb dX6_dropped_64 rfl (lv_at hl 3 rfl) ?_
      refine lv_iload hx hb dX6_dropped_65 (lv_at hl 4 rfl) ?_
      refine q_vS C0 lX6_114 (c_X5_last l D y L F2 (urh G i) (urw G i) (vod μ i) (vst μ i) lo hi (MP_r hC hi0) (by omega) (by omega)) ⟨rfl, rfl⟩ rfl hP (MP_r hC hi0).1 (MP_r hC hi0).2.1 rfl rfl rfl hl rfl (Nat.le_of_ble_eq_true rfl) dX6_dropped_67 ⟨Nat.zero_le _, Nat.zero_le _⟩ (fun r5 e_r5 => ?_)
      subst e_r5
      have b_6 := @keyR_b (vod μ i) (lasP (vst μ i) lo hi) (lasP_r (vst μ i) lo hi)
      refine lv_istore (lv' := [(5, .int (iI ((keyR (vod μ i) (lasP (vst μ i) lo hi))))), (0, .ref ((ubg G))), (1, .ref ((urh G i))), (2, .int (iI t)), (3, .int (iI lo)), (4, .int (iI hi))]) hx hb dX6_dropped_70 hl (by decide) rfl (fun ls hl => ?_)
      refine lv_iload hx hb dX6_dropped_72 (lv_at hl 0 rfl) ?_
      refine q_iconst hx hb dX6_dropped_74 ?_
      refine q_icmp_ne hx hb dX6_dropped_75 (tgt := 80) (by decide) (by omega) (by omega) (fun c7 => ?_) (fun c7 => ?_)
      · refine lv_aload_n hx hb dX6_dropped_80 rfl (lv_at hl 2 rfl) ?_
        refine lv_iload hx hb dX6_dropped_81 (lv_at hl 0 rfl) ?_
        refine q_vS C0 lX6_117 (c_X5_pair l D y L F2 (urh G i) (urw G i) (vod μ i) (vst μ i) (keyR (vod μ i) (lasP (vst μ i) lo hi)) (MP_r hC hi0) (by omega)) ⟨rfl, rfl⟩ rfl hP (MP_r hC hi0).1 (MP_r hC hi0).2.1 rfl rfl rfl hl rfl (Nat.le_of_ble_eq_true rfl) dX6_dropped_83 ⟨Nat.zero_le _, Nat.zero_le _⟩ (fun r8 e_r8 => ?_)
        subst e_r8
        refine lv_istore (lv' := [(6, .int (iI (((keyR (vod μ i) (lasP (vst μ i) lo hi)) * 100 + (vst μ i) (turn (vod μ i) (keyR (vod μ i) (lasP (vst μ i) lo hi))))))), (5, .int (iI ((keyR (vod μ i) (lasP (vst μ i) lo hi))))), (0, .ref ((ubg G))), (1, .ref ((urh G i))), (2, .int (iI t)), (3, .int (iI lo)), (4, .int (iI hi))]) hx hb dX6_dropped_86 hl (by decide) rfl (fun ls hl => ?_)
        refine lv_aload_n hx hb dX6_dropped_88 rfl (lv_at hl 2 rfl) ?_
        refine lv_aload_n hx hb dX6_dropped_89 rfl (lv_at hl 3 rfl) ?_
        refine lv_iload hx hb dX6_dropped_90 (lv_at hl 1 rfl) ?_
        refine q_iconst hx hb dX6_dropped_92 ?_
        refine q_vMi C0 lX6_103 (c_X6_set l D y L F2 _ O G (tWr μ i) i (keyR (vod μ i) (lasP (vst μ i) lo hi)) (-1) hC hi0 hW.2.2.2.1 (by omega) (by omega)) ⟨rfl, rfl⟩ rfl hP hD hS hA hC.1.1 hC.1.2 rfl rfl rfl hl rfl (Nat.le_of_ble_eq_true rfl) dX6_dropped_93 ⟨Nat.le_of_ble_eq_true rfl, Nat.le_of_ble_eq_true rfl⟩ (fun r9 H locs L10 F10 hP hD hS hz10 hp10 => ?_)
        obtain ⟨eL, hC, er, hO1⟩ := hp10
        subst eL
        replace er : (seC (vst μ i) (turn (vod μ i) (keyR (vod μ i) (lasP (vst μ i) lo hi))) (-1)) = r9 := er.symm
        subst er
        have hO := hO.tr hO1
        refine lv_pop hx hb dX6_dropped_96 rfl ?_
        refine lv_iload hx hb dX6_dropped_97 (lv_at hl 0 rfl) ?_
        exact q_retMi C0 hret rfl hlk dX6_dropped_99 hP hD hS (⟨rfl, MP_eq hC (by unfold dpS drN endP; rw [if_neg (by omega)]; (repeat' split) <;> first | rfl | (exfalso; omega)), (by unfold dpR drN endP; rw [if_neg (by omega)]; (repeat' split) <;> first | rfl | omega | (exfalso; omega)), hO⟩)
      · refine q_iconst hx hb dX6_dropped_78 ?_
        exact q_retMi C0 hret rfl hlk dX6_dropped_79 hP hD hS (⟨rfl, MP_eq hC (by unfold dpS drN endP; rw [if_neg (by omega)]; (repeat' split) <;> first | rfl | (exfalso; omega)), (by unfold dpR drN endP; rw [if_neg (by omega)]; (repeat' split) <;> first | rfl | omega | (exfalso; omega)), hO⟩)
    · refine lv_aload_n hx hb dX6_dropped_53 rfl (lv_at hl 1 rfl) ?_
      refine lv_iload_n hx hb dX6_dropped_54 rfl (lv_at hl 3 rfl) ?_
      refine lv_iload hx hb dX6_dropped_55 (lv_at hl 4 rfl) ?_
      refine q_vS C0 lX6_111 (c_X5_first l D y L F2 (urh G i) (urw G i) (vod μ i) (vst μ i) lo hi (MP_r hC hi0) (by omega) (by omega)) ⟨rfl, rfl⟩ rfl hP (MP_r hC hi0).1 (MP_r hC hi0).2.1 rfl rfl rfl hl rfl (Nat.le_of_ble_eq_true rfl) dX6_dropped_57 ⟨Nat.zero_le _, Nat.zero_le _⟩ (fun r11 e_r11 => ?_)
      subst e_r11
      have b_12 := @keyR_b (vod μ i) (firP (vst μ i) lo hi) (firP_r (vst μ i) lo hi)
      refine lv_goto (tgt := 70) hx hb dX6_dropped_60 (by decide) ?_
      refine lv_istore (lv' := [(5, .int (iI ((keyR (vod μ i) (firP (vst μ i) lo hi))))), (0, .ref ((ubg G))), (1, .ref ((urh G i))), (2, .int (iI t)), (3, .int (iI lo)), (4, .int (iI hi))]) hx hb dX6_dropped_70 hl (by decide) rfl (fun ls hl => ?_)
      refine lv_iload hx hb dX6_dropped_72 (lv_at hl 0 rfl) ?_
      refine q_iconst hx hb dX6_dropped_74 ?_
      refine q_icmp_ne hx hb dX6_dropped_75 (tgt := 80) (by decide) (by omega) (by omega) (fun c13 => ?_) (fun c13 => ?_)
      · refine lv_aload_n hx hb dX6_dropped_80 rfl (lv_at hl 2 rfl) ?_
        refine lv_iload hx hb dX6_dropped_81 (lv_at hl 0 rfl) ?_
        refine q_vS C0 lX6_117 (c_X5_pair l D y L F2 (urh G i) (urw G i) (vod μ i) (vst μ i) (keyR (vod μ i) (firP (vst μ i) lo hi)) (MP_r hC hi0) (by omega)) ⟨rfl, rfl⟩ rfl hP (MP_r hC hi0).1 (MP_r hC hi0).2.1 rfl rfl rfl hl rfl (Nat.le_of_ble_eq_true rfl) dX6_dropped_83 ⟨Nat.zero_le _, Nat.zero_le _⟩ (fun r14 e_r14 => ?_)
        subst e_r14
        refine lv_istore (lv' := [(6, .int (iI (((keyR (vod μ i) (firP (vst μ i) lo hi)) * 100 + (vst μ i) (turn (vod μ i) (keyR (vod μ i) (firP (vst μ i) lo hi))))))), (5, .int (iI ((keyR (vod μ i) (firP (vst μ i) lo hi))))), (0, .ref ((ubg G))), (1, .ref ((urh G i))), (2, .int (iI t)), (3, .int (iI lo)), (4, .int (iI hi))]) hx hb dX6_dropped_86 hl (by decide) rfl (fun ls hl => ?_)
        refine lv_aload_n hx hb dX6_dropped_88 rfl (lv_at hl 2 rfl) ?_
        refine lv_aload_n hx hb dX6_dropped_89 rfl (lv_at hl 3 rfl) ?_
        refine lv_iload hx hb dX6_dropped_90 (lv_at hl 1 rfl) ?_
        refine q_iconst hx hb dX6_dropped_92 ?_
        refine q_vMi C0 lX6_103 (c_X6_set l D y L F2 _ O G (tWr μ i) i (keyR (vod μ i) (firP (vst μ i) lo hi)) (-1) hC hi0 hW.2.2.2.1 (by omega) (by omega)) ⟨rfl, rfl⟩ rfl hP hD hS hA hC.1.1 hC.1.2 rfl rfl rfl hl rfl (Nat.le_of_ble_eq_true rfl) dX6_dropped_93 ⟨Nat.le_of_ble_eq_true rfl, Nat.le_of_ble_eq_true rfl⟩ (fun r15 H locs L16 F16 hP hD hS hz16 hp16 => ?_)
        obtain ⟨eL, hC, er, hO1⟩ := hp16
        subst eL
        replace er : (seC (vst μ i) (turn (vod μ i) (keyR (vod μ i) (firP (vst μ i) lo hi))) (-1)) = r15 := er.symm
        subst er
        have hO := hO.tr hO1
        refine lv_pop hx hb dX6_dropped_96 rfl ?_
        refine lv_iload hx hb dX6_dropped_97 (lv_at hl 0 rfl) ?_
        exact q_retMi C0 hret rfl hlk dX6_dropped_99 hP hD hS (⟨rfl, MP_eq hC (by unfold dpS drN endP; rw [if_neg (by omega)]; (repeat' split) <;> first | rfl | (exfalso; omega)), (by unfold dpR drN endP; rw [if_neg (by omega)]; (repeat' split) <;> first | rfl | omega | (exfalso; omega)), hO⟩)
      · refine q_iconst hx hb dX6_dropped_78 ?_
        exact q_retMi C0 hret rfl hlk dX6_dropped_79 hP hD hS (⟨rfl, MP_eq hC (by unfold dpS drN endP; rw [if_neg (by omega)]; (repeat' split) <;> first | rfl | (exfalso; omega)), (by unfold dpR drN endP; rw [if_neg (by omega)]; (repeat' split) <;> first | rfl | omega | (exfalso; omega)), hO⟩)
  · refine q_iconst hx hb dX6_dropped_10 ?_
    refine lv_istore (lv' := [(5, .int (iI 0)), (0, .ref ((ubg G))), (1, .ref ((urh G i))), (2, .int (iI t)), (3, .int (iI lo)), (4, .int (iI hi))]) hx hb dX6_dropped_11 hl (by decide) rfl (fun ls hl => ?_)
    refine lv_iload_n hx hb dX6_dropped_13 rfl (lv_at hl 4 rfl) ?_
    refine lv_istore (lv' := [(6, .int (iI lo)), (5, .int (iI 0)), (0, .ref ((ubg G))), (1, .ref ((urh G i))), (2, .int (iI t)), (3, .int (iI lo)), (4, .int (iI hi))]) hx hb dX6_dropped_14 hl (by decide) rfl (fun ls hl => ?_)
    have LP16 : ∀ (n_LP16 : Nat) (r : Int) (gv : Int → Int) (bv : Int) (a : Int) (Fv : Nat → va_E) (H : Heap) (locs : List Loc), (lo ≤ r ∧ r ≤ 1001) → (va_P D vwCl (va_pl L Fv) H) → (va_D (AL L sz) (va_pl L Fv)) → (va_S (AL L sz) s.heap H locs) → (MP y L Fv O G (tM (tWr μ i) i gv bv)) → (OE O F Fv) → (clX μ i lo hi = itrP (clU (vwk μ) i (vod μ i)) r hi (gv, bv, a)) → (hi + 1 - r).toNat = n_LP16 → ∀ ls : Array Slot, lv_has ls 7 [(0, .ref ((ubg G))), (1, .ref ((urh G i))), (2, .int (iI t)), (3, .int (iI lo)), (4, .int (iI hi)), (5, .int (iI a)), (6, .int (iI r))] → W p l e ({ frames := 2, cells := 0, slots := 0, locals := 45 } : Room) s m [.ref ((ubg G)), .ref ((urh G i)), .int (iI t), .int (iI lo), .int (iI hi)].toArray below meth c H locs 0 0 (MQ below (cMi D (AL L sz) (fun r L1 F1 => L = L1 ∧ MP y L1 F1 O G (dpS μ i t lo hi) ∧ r = dpR μ i t lo hi ∧ OE O F F1)) [.ref ((ubg G)), .ref ((urh G i)), .int (iI t), .int (iI lo), .int (iI hi)].toArray s 0 0 (AL L sz)) (F0 m 16 ls []) := by
      intro n_LP16
      induction n_LP16 using Nat.strongRecOn with
      | ind n_LP16 ih_LP16 =>
        intro r gv bv a Fv H locs hr hP hD hS hC hO hI hm_LP16 ls hl
        refine lv_iload hx hb dX6_dropped_16 (lv_at hl 6 rfl) ?_
        refine lv_iload hx hb dX6_dropped_18 (lv_at hl 4 rfl) ?_
        refine q_icmp_gt hx hb dX6_dropped_20 (tgt := 46) (by decide) (by omega) (by omega) (fun c17 => ?_) (fun c17 => ?_)
        · refine lv_iload hx hb dX6_dropped_46 (lv_at hl 5 rfl) ?_
          exact q_retMi C0 hret rfl hlk dX6_dropped_48 hP hD hS (⟨rfl, MP_eq hC (by unfold dpS tX; rw [if_pos (by omega), hI, itrP_e (by omega)]), (by unfold dpR; rw [if_pos (by omega), hI, itrP_e (by omega)]), hO⟩)
        · refine lv_iload hx hb dX6_dropped_23 (lv_at hl 5 rfl) ?_
          refine lv_aload_n hx hb dX6_dropped_25 rfl (lv_at hl 0 rfl) ?_
          refine lv_aload_n hx hb dX6_dropped_26 rfl (lv_at hl 1 rfl) ?_
          refine lv_aload_n hx hb dX6_dropped_27 rfl (lv_at hl 1 rfl) ?_
          refine lv_iload hx hb dX6_dropped_28 (lv_at hl 6 rfl) ?_
          refine q_vS C0 lX6_100 (c_X5_key l D y L Fv (urh G i) (urw G i) (vod μ i) gv r (MP_rx hC hi0 (rfl) (va_up_self _ _ _)) (by omega)) ⟨rfl, rfl⟩ rfl hP (MP_rx hC hi0 (rfl) (va_up_self _ _ _)).1 (MP_rx hC hi0 (rfl) (va_up_self _ _ _)).2.1 rfl rfl rfl hl rfl (Nat.le_of_ble_eq_true rfl) dX6_dropped_30 ⟨Nat.zero_le _, Nat.zero_le _⟩ (fun r18 e_r18 => ?_)
          subst e_r18
          have b_19 := @turn_b (vod μ i) r (by omega)
          refine q_iconst hx hb dX6_dropped_33 ?_
          refine q_vMi C0 lX6_103 (c_X6_set l D y L Fv _ O G (tM (tWr μ i) i gv bv) i (turn (vod μ i) r) (-1) hC hi0 hW.2.2.2.1 (by omega) (by omega)) ⟨rfl, rfl⟩ rfl hP hD hS hA hC.1.1 hC.1.2 rfl rfl rfl hl rfl (Nat.le_of_ble_eq_true rfl) dX6_dropped_34 ⟨Nat.le_of_ble_eq_true rfl, Nat.le_of_ble_eq_true rfl⟩ (fun r20 H locs L21 F21 hP hD hS hz21 hp21 => ?_)
          obtain ⟨eL, hC, er, hO1⟩ := hp21
          subst eL
          rw [tM_st] at er
          replace er : (seC gv (turn (vod μ i) (turn (vod μ i) r)) (-1)) = r20 := er.symm
          subst er
          have hO := hO.tr hO1
          replace hC := MP_eq hC (tSe_tM _ _ _ _ _ _)
          refine q_iadd hx hb dX6_dropped_37 ?_
          refine lv_istore (lv' := [(5, .int (iI ((a + (seC gv (turn (vod μ i) (turn (vod μ i) r)) (-1)))))), (0, .ref ((ubg G))), (1, .ref ((urh G i))), (2, .int (iI t)), (3, .int (iI lo)), (4, .int (iI hi)), (6, .int (iI r))]) hx hb dX6_dropped_38 hl (by decide) rfl (fun ls hl => ?_)
          refine q_iinc (x := r) (n := 1) (lv' := [(6, .int (iI ((r + 1)))), (5, .int (iI ((a + (seC gv (turn (vod μ i) (turn (vod μ i) r)) (-1)))))), (0, .ref ((ubg G))), (1, .ref ((urh G i))), (2, .int (iI t)), (3, .int (iI lo)), (4, .int (iI hi))]) hx hb dX6_dropped_40 hl (k := 6) rfl (by decide) rfl (fun ls hl => ?_)
          refine lv_goto (tgt := 16) hx hb dX6_dropped_43 (by decide) ?_
          exact ih_LP16 _ (by omega) (r + 1) (iu gv (turn (vod μ i) (turn (vod μ i) r)) (-1)) (seB (vwk μ) i gv (turn (vod μ i) (turn (vod μ i) r)) (-1) bv) (a + (seC gv (turn (vod μ i) (turn (vod μ i) r)) (-1))) F21 _ _ (by omega) (hP) (hD) (hS) (hC) (hO) (by rw [hI, itrP_s (by omega)]; unfold clU; first | (rw [if_pos (by omega)]; done) | (rw [if_neg (by omega)]; done) | (rw [if_pos (by omega)]; rfl) | (rw [if_neg (by omega)]; rfl) | rfl) rfl ls (lv_sub hl [2, 3, 4, 5, 6, 1, 0] rfl)
    exact LP16 _ lo (vst μ i) (vbr μ) 0 F2 _ _ (by omega) (hP) (hD) (hS) (MP_eq hC (tM_0 _ _)) (hO) (rfl) rfl ls (lv_sub hl [2, 3, 4, 5, 6, 1, 0] rfl)
set_option maxHeartbeats 3000000 in
set_option maxRecDepth 100000 in
theorem c_X6_drop (l : Launch) (D : va_G) (y : Nat → ClassId) (L : List Nat) (F : Nat → va_E) (sz : Nat) (O : Nat → Prop) (G : MG) (μ : MS) (xb : Int) (xt : Int) (hC : MP y L F O G μ) (hW : MW μ) (h_xb : -2147483648 ≤ xb ∧ xb ≤ 2147483647) (h_xt : -2147483648 ≤ xt ∧ xt ≤ 2147483647) : Met l yX6_drop (.code yX6_drop cX6_drop 3 (some .int) :: Tt) ({ frames := 3, cells := 0, slots := 0, locals := 71 }) (PcM D y L F sz [.ref ((ubg G)), .int (iI xb), .int (iI xt)]) (cMi D (AL L sz) (fun r L1 F1 => r = jR_drop μ xb xt ∧ ∃ (O1 : Nat → Prop) (G1 : MG), MP y L1 F1 O1 G1 (jS_drop μ xb xt) ∧ ubg G1 = ubg G ∧ Ext O O1 L L1 F F1)) 0 0 (AL L sz) := by
  have hO : OE O F F := fun _ _ => rfl
  have hw5 := hW.2.2.2.2.2.1
  have hw6 := hW.2.2.2.2.2.2.1
  have hw7 := hW.2.2.2.2.2.2.2.1
  refine q_ofM (lv := [(0, .ref ((ubg G))), (1, .int (iI xb)), (2, .int (iI xt))]) (by decide) (Nat.le_of_ble_eq_true rfl) rfl (fun p e s m below meth c C0 hret hlk hnm hA hP hD hS ls hl => ?_)
  have hx := C0.1.1
  have hb := C0.1.2.1
  have hts := C0.1.2.2.2.2
  refine lv_aload_n hx hb dX6_drop_0 rfl (lv_at hl 0 rfl) ?_
  refine lv_iload_n hx hb dX6_drop_1 rfl (lv_at hl 1 rfl) ?_
  refine q_sS C0 lX6_60 (c_X6_isBook l D y L F xb (by omega)) ⟨rfl, rfl⟩ rfl hP rfl hl rfl (Nat.le_of_ble_eq_true rfl) dX6_drop_2 ⟨Nat.zero_le _, Nat.zero_le _⟩ (fun r1 e_r1 => ?_)
  subst e_r1
  have b_2 := inR_d xb 0 3
  refine lv_iload_n hx hb dX6_drop_5 rfl (lv_at hl 2 rfl) ?_
  refine q_iconst hx hb dX6_drop_6 ?_
  refine q_iconst hx hb dX6_drop_7 ?_
  refine q_sS C0 lX6_41 (c_X6_isIn l D y L F xt 0 2 (by omega) (by omega) (by omega)) ⟨rfl, rfl⟩ rfl hP rfl hl rfl (Nat.le_of_ble_eq_true rfl) dX6_drop_8 ⟨Nat.zero_le _, Nat.zero_le _⟩ (fun r3 e_r3 => ?_)
  subst e_r3
  have b_4 := inR_d xt 0 2
  refine q_vMi C0 lX6_63 (c_X6_isLet l D y L F _ O G μ (inR xb 0 3) (inR xt 0 2) hC (by omega) (by omega)) ⟨rfl, rfl⟩ rfl hP hD hS hA hC.1.1 hC.1.2 rfl rfl rfl hl rfl (Nat.le_of_ble_eq_true rfl) dX6_drop_11 ⟨Nat.le_of_ble_eq_true rfl, Nat.le_of_ble_eq_true rfl⟩ (fun r5 H locs L6 F6 hP hD hS hz6 hp6 => ?_)
  obtain ⟨eL, hC, er, hO1⟩ := hp6
  subst eL
  replace er := er.symm
  subst er
  have hO := hO.tr hO1
  have k_7 := okR_d (inR xb 0 3) (inR xt 0 2)
  refine q_if_eq hx hb dX6_drop_14 (tgt := 38) (by decide) (by omega) (fun c8 => ?_) (fun c8 => ?_)
  · replace k_7 := k_7.resolve_left (fun h => absurd (h.1.symm.trans c8) (by decide))
    refine q_iconst hx hb dX6_drop_38 ?_
    exact q_retMi C0 hret rfl hlk dX6_drop_39 hP hD hS (⟨(by unfold jR_drop; rw [if_neg (by omega)]), O, G, MP_eq hC (by have lt_ := ltR_d (inR xb 0 3) (inR xt 0 2); unfold jS_drop; rcases lt_ with lt_ | lt_ | lt_ <;> first | (rw [if_neg (by omega), lt_.1]; done) | (rw [if_pos (by omega), if_neg (by omega), lt_.1]; done) | (exfalso; omega)), rfl, Ext0 hO⟩)
  · replace k_7 := k_7.resolve_right (fun h => c8 h.1)
    refine lv_aload_n hx hb dX6_drop_17 rfl (lv_at hl 0 rfl) ?_
    refine lv_aload_n hx hb dX6_drop_18 rfl (lv_at hl 0 rfl) ?_
    refine lv_aload_n hx hb dX6_drop_19 rfl (lv_at hl 0 rfl) ?_
    refine q_get C0 iX6 hP hC.1.1 hC.1.2 rfl 0 (by decide) flX6_11 rfl (v := .ref ((uab G))) rfl dX6_drop_20 ?_
    refine lv_iload_n hx hb dX6_drop_23 rfl (lv_at hl 1 rfl) ?_
    refine q_aald C0 hP hC.2.1.1 hC.2.1.2 (t := 3) rfl (by omega) (by decide) (v := .ref ((urh G (vbk μ xb)))) rfl dX6_drop_24 ?_
    refine lv_iload_n hx hb dX6_drop_25 rfl (lv_at hl 2 rfl) ?_
    refine q_iconst hx hb dX6_drop_26 ?_
    refine q_bipush hx hb dX6_drop_27 (by decide) ?_
    refine q_vMi C0 lX6_120 (c_X6_dropped l D y L F6 _ O G (tTh μ (ltR (inR xb 0 3) (inR xt 0 2))) (vbk μ xb) xt 0 99 hC hW (hW.1 xb) (by omega) (by omega) (by omega)) ⟨rfl, rfl⟩ rfl hP hD hS hA hC.1.1 hC.1.2 rfl rfl rfl hl rfl (Nat.le_of_ble_eq_true rfl) dX6_drop_29 ⟨Nat.le_of_ble_eq_true rfl, Nat.le_of_ble_eq_true rfl⟩ (fun r9 H locs L10 F10 hP hD hS hz10 hp10 => ?_)
    have dr_11 := dpR_b hC (hW.1 xb) xt 0 99
    obtain ⟨eL, hC, er, hO1⟩ := hp10
    subst eL
    replace er : (dpR (tTh μ (ltR (inR xb 0 3) (inR xt 0 2))) (vbk μ xb) xt 0 99) = r9 := er.symm
    subst er
    have hO := hO.tr hO1
    refine q_vMi C0 lX6_71 (c_X6_did l D y L F10 _ O G (dpS (tTh μ (ltR (inR xb 0 3) (inR xt 0 2))) (vbk μ xb) xt 0 99) (dpR (tTh μ (ltR (inR xb 0 3) (inR xt 0 2))) (vbk μ xb) xt 0 99) hC) ⟨rfl, rfl⟩ rfl hP hD hS hA hC.1.1 hC.1.2 rfl rfl rfl hl rfl (Nat.le_of_ble_eq_true rfl) dX6_drop_32 ⟨Nat.le_of_ble_eq_true rfl, Nat.le_of_ble_eq_true rfl⟩ (fun r12 H locs L13 F13 hP hD hS hz13 hp13 => ?_)
    obtain ⟨eL, hC, er, hO1⟩ := hp13
    subst eL
    replace er : (dpR (tTh μ (ltR (inR xb 0 3) (inR xt 0 2))) (vbk μ xb) xt 0 99) = r12 := er.symm
    subst er
    have hO := hO.tr hO1
    refine lv_goto (tgt := 39) hx hb dX6_drop_35 (by decide) ?_
    exact q_retMi C0 hret rfl hlk dX6_drop_39 hP hD hS (⟨(by 
    have lt_ := ltR_d (inR xb 0 3) (inR xt 0 2)
    unfold jR_drop ; (try rw [show ltR (inR xb 0 3) (inR xt 0 2) = 0 by omega]); (repeat (first | rw [if_pos (by omega)] | rw [if_neg (by omega)]))
    all_goals (first | rfl | omega)), O, G, MP_eq hC (by 
    have lt_ := ltR_d (inR xb 0 3) (inR xt 0 2)
    unfold jS_drop ; rw [show ltR (inR xb 0 3) (inR xt 0 2) = 0 by omega]; (repeat (first | rw [if_pos (by omega)] | rw [if_neg (by omega)]))
    all_goals rfl), rfl, Ext0 hO⟩)
set_option maxHeartbeats 3000000 in
set_option maxRecDepth 100000 in
theorem c_X6_viewDrop (l : Launch) (D : va_G) (y : Nat → ClassId) (L : List Nat) (F : Nat → va_E) (sz : Nat) (O : Nat → Prop) (G : MG) (μ : MS) (xv : Int) (xt : Int) (hC : MP y L F O G μ) (hW : MW μ) (h_xv : -2147483648 ≤ xv ∧ xv ≤ 2147483647) (h_xt : -2147483648 ≤ xt ∧ xt ≤ 2147483647) : Met l yX6_viewDrop (.code yX6_viewDrop cX6_viewDrop 3 (some .int) :: Tt) ({ frames := 3, cells := 0, slots := 0, locals := 71 }) (PcM D y L F sz [.ref ((ubg G)), .int (iI xv), .int (iI xt)]) (cMi D (AL L sz) (fun r L1 F1 => r = jR_viewDrop μ xv xt ∧ ∃ (O1 : Nat → Prop) (G1 : MG), MP y L1 F1 O1 G1 (jS_viewDrop μ xv xt) ∧ ubg G1 = ubg G ∧ Ext O O1 L L1 F F1)) 0 0 (AL L sz) := by
  have hO : OE O F F := fun _ _ => rfl
  have hw5 := hW.2.2.2.2.2.1
  have hw6 := hW.2.2.2.2.2.2.1
  have hw7 := hW.2.2.2.2.2.2.2.1
  have vb_ := hW.2.2.2.2.1 xv
  refine q_ofM (lv := [(0, .ref ((ubg G))), (1, .int (iI xv)), (2, .int (iI xt))]) (by decide) (Nat.le_of_ble_eq_true rfl) rfl (fun p e s m below meth c C0 hret hlk hnm hA hP hD hS ls hl => ?_)
  have hx := C0.1.1
  have hb := C0.1.2.1
  have hts := C0.1.2.2.2.2
  refine lv_aload_n hx hb dX6_viewDrop_0 rfl (lv_at hl 0 rfl) ?_
  refine lv_iload_n hx hb dX6_viewDrop_1 rfl (lv_at hl 1 rfl) ?_
  refine q_sS C0 lX6_168 (c_X6_isView l D y L F xv (by omega)) ⟨rfl, rfl⟩ rfl hP rfl hl rfl (Nat.le_of_ble_eq_true rfl) dX6_viewDrop_2 ⟨Nat.zero_le _, Nat.zero_le _⟩ (fun r1 e_r1 => ?_)
  subst e_r1
  have b_2 := inR_d xv 0 1
  refine lv_iload_n hx hb dX6_viewDrop_5 rfl (lv_at hl 2 rfl) ?_
  refine q_iconst hx hb dX6_viewDrop_6 ?_
  refine q_iconst hx hb dX6_viewDrop_7 ?_
  refine q_sS C0 lX6_41 (c_X6_isIn l D y L F xt 0 2 (by omega) (by omega) (by omega)) ⟨rfl, rfl⟩ rfl hP rfl hl rfl (Nat.le_of_ble_eq_true rfl) dX6_viewDrop_8 ⟨Nat.zero_le _, Nat.zero_le _⟩ (fun r3 e_r3 => ?_)
  subst e_r3
  have b_4 := inR_d xt 0 2
  refine q_vMi C0 lX6_63 (c_X6_isLet l D y L F _ O G μ (inR xv 0 1) (inR xt 0 2) hC (by omega) (by omega)) ⟨rfl, rfl⟩ rfl hP hD hS hA hC.1.1 hC.1.2 rfl rfl rfl hl rfl (Nat.le_of_ble_eq_true rfl) dX6_viewDrop_11 ⟨Nat.le_of_ble_eq_true rfl, Nat.le_of_ble_eq_true rfl⟩ (fun r5 H locs L6 F6 hP hD hS hz6 hp6 => ?_)
  obtain ⟨eL, hC, er, hO1⟩ := hp6
  subst eL
  replace er := er.symm
  subst er
  have hO := hO.tr hO1
  have k_7 := okR_d (inR xv 0 1) (inR xt 0 2)
  refine q_if_eq hx hb dX6_viewDrop_14 (tgt := 47) (by decide) (by omega) (fun c8 => ?_) (fun c8 => ?_)
  · replace k_7 := k_7.resolve_left (fun h => absurd (h.1.symm.trans c8) (by decide))
    refine q_iconst hx hb dX6_viewDrop_47 ?_
    exact q_retMi C0 hret rfl hlk dX6_viewDrop_48 hP hD hS (⟨(by unfold jR_viewDrop; rw [if_neg (by omega)]), O, G, MP_eq hC (by have lt_ := ltR_d (inR xv 0 1) (inR xt 0 2); unfold jS_viewDrop; rcases lt_ with lt_ | lt_ | lt_ <;> first | (rw [if_neg (by omega), lt_.1]; done) | (rw [if_pos (by omega), if_neg (by omega), lt_.1]; done) | (exfalso; omega)), rfl, Ext0 hO⟩)
  · replace k_7 := k_7.resolve_right (fun h => c8 h.1)
    refine lv_aload_n hx hb dX6_viewDrop_17 rfl (lv_at hl 0 rfl) ?_
    refine lv_aload_n hx hb dX6_viewDrop_18 rfl (lv_at hl 0 rfl) ?_
    refine lv_aload_n hx hb dX6_viewDrop_19 rfl (lv_at hl 0 rfl) ?_
    refine q_get C0 iX6 hP hC.1.1 hC.1.2 rfl 2 (by decide) flX6_18 rfl (v := .ref ((uav G))) rfl dX6_viewDrop_20 ?_
    refine lv_iload_n hx hb dX6_viewDrop_23 rfl (lv_at hl 1 rfl) ?_
    refine q_aald C0 hP hC.2.2.2.1.1 hC.2.2.2.1.2 (t := 3) rfl (by omega) (by decide) (v := .ref ((urh G (vvw μ xv)))) rfl dX6_viewDrop_24 ?_
    refine lv_iload_n hx hb dX6_viewDrop_25 rfl (lv_at hl 2 rfl) ?_
    refine lv_aload_n hx hb dX6_viewDrop_26 rfl (lv_at hl 0 rfl) ?_
    refine q_get C0 iX6 hP hC.1.1 hC.1.2 rfl 3 (by decide) flX6_21 rfl (v := .ref ((uaf G))) rfl dX6_viewDrop_27 ?_
    refine lv_iload_n hx hb dX6_viewDrop_30 rfl (lv_at hl 1 rfl) ?_
    refine q_iald C0 hP (f := (vvl μ)) hC.2.2.2.2.1.1 hC.2.2.2.2.1.2 (by omega) (by decide) dX6_viewDrop_31 ?_
    refine lv_aload_n hx hb dX6_viewDrop_32 rfl (lv_at hl 0 rfl) ?_
    refine q_get C0 iX6 hP hC.1.1 hC.1.2 rfl 4 (by decide) flX6_25 rfl (v := .ref ((uat G))) rfl dX6_viewDrop_33 ?_
    refine lv_iload_n hx hb dX6_viewDrop_36 rfl (lv_at hl 1 rfl) ?_
    refine q_iald C0 hP (f := (vvh μ)) hC.2.2.2.2.2.1.1 hC.2.2.2.2.2.1.2 (by omega) (by decide) dX6_viewDrop_37 ?_
    refine q_vMi C0 lX6_120 (c_X6_dropped l D y L F6 _ O G (tTh μ (ltR (inR xv 0 1) (inR xt 0 2))) (vvw μ xv) xt ((vvl μ) xv) ((vvh μ) xv) hC hW (hW.2.2.1 xv) (by omega) (by omega) (by omega)) ⟨rfl, rfl⟩ rfl hP hD hS hA hC.1.1 hC.1.2 rfl rfl rfl hl rfl (Nat.le_of_ble_eq_true rfl) dX6_viewDrop_38 ⟨Nat.le_of_ble_eq_true rfl, Nat.le_of_ble_eq_true rfl⟩ (fun r9 H locs L10 F10 hP hD hS hz10 hp10 => ?_)
    have dr_11 := dpR_b hC (hW.2.2.1 xv) xt ((vvl μ) xv) ((vvh μ) xv)
    obtain ⟨eL, hC, er, hO1⟩ := hp10
    subst eL
    replace er : (dpR (tTh μ (ltR (inR xv 0 1) (inR xt 0 2))) (vvw μ xv) xt ((vvl μ) xv) ((vvh μ) xv)) = r9 := er.symm
    subst er
    have hO := hO.tr hO1
    refine q_vMi C0 lX6_71 (c_X6_did l D y L F10 _ O G (dpS (tTh μ (ltR (inR xv 0 1) (inR xt 0 2))) (vvw μ xv) xt ((vvl μ) xv) ((vvh μ) xv)) (dpR (tTh μ (ltR (inR xv 0 1) (inR xt 0 2))) (vvw μ xv) xt ((vvl μ) xv) ((vvh μ) xv)) hC) ⟨rfl, rfl⟩ rfl hP hD hS hA hC.1.1 hC.1.2 rfl rfl rfl hl rfl (Nat.le_of_ble_eq_true rfl) dX6_viewDrop_41 ⟨Nat.le_of_ble_eq_true rfl, Nat.le_of_ble_eq_true rfl⟩ (fun r12 H locs L13 F13 hP hD hS hz13 hp13 => ?_)
    obtain ⟨eL, hC, er, hO1⟩ := hp13
    subst eL
    replace er : (dpR (tTh μ (ltR (inR xv 0 1) (inR xt 0 2))) (vvw μ xv) xt ((vvl μ) xv) ((vvh μ) xv)) = r12 := er.symm
    subst er
    have hO := hO.tr hO1
    refine lv_goto (tgt := 48) hx hb dX6_viewDrop_44 (by decide) ?_
    exact q_retMi C0 hret rfl hlk dX6_viewDrop_48 hP hD hS (⟨(by 
    have lt_ := ltR_d (inR xv 0 1) (inR xt 0 2)
    unfold jR_viewDrop ; (try rw [show ltR (inR xv 0 1) (inR xt 0 2) = 0 by omega]); (repeat (first | rw [if_pos (by omega)] | rw [if_neg (by omega)]))
    all_goals (first | rfl | omega)), O, G, MP_eq hC (by 
    have lt_ := ltR_d (inR xv 0 1) (inR xt 0 2)
    unfold jS_viewDrop ; rw [show ltR (inR xv 0 1) (inR xt 0 2) = 0 by omega]; (repeat (first | rw [if_pos (by omega)] | rw [if_neg (by omega)]))
    all_goals rfl), rfl, Ext0 hO⟩)
set_option maxHeartbeats 3000000 in
set_option maxRecDepth 100000 in
theorem c_X6_shelfDrop (l : Launch) (D : va_G) (y : Nat → ClassId) (L : List Nat) (F : Nat → va_E) (sz : Nat) (O : Nat → Prop) (G : MG) (μ : MS) (xb : Int) (xt : Int) (hC : MP y L F O G μ) (hW : MW μ) (h_xb : -2147483648 ≤ xb ∧ xb ≤ 2147483647) (h_xt : -2147483648 ≤ xt ∧ xt ≤ 2147483647) : Met l yX6_shelfDrop (.code yX6_shelfDrop cX6_shelfDrop 4 (some .int) :: Tt) ({ frames := 3, cells := 0, slots := 0, locals := 71 }) (PcM D y L F sz [.ref ((ubg G)), .int (iI xb), .int (iI xt)]) (cMi D (AL L sz) (fun r L1 F1 => r = jR_shelfDrop μ xb xt ∧ ∃ (O1 : Nat → Prop) (G1 : MG), MP y L1 F1 O1 G1 (jS_shelfDrop μ xb xt) ∧ ubg G1 = ubg G ∧ Ext O O1 L L1 F F1)) 0 0 (AL L sz) := by
  have hO : OE O F F := fun _ _ => rfl
  have hw5 := hW.2.2.2.2.2.1
  have hw6 := hW.2.2.2.2.2.2.1
  have hw7 := hW.2.2.2.2.2.2.2.1
  refine q_ofM (lv := [(0, .ref ((ubg G))), (1, .int (iI xb)), (2, .int (iI xt))]) (by decide) (Nat.le_of_ble_eq_true rfl) rfl (fun p e s m below meth c C0 hret hlk hnm hA hP hD hS ls hl => ?_)
  have hx := C0.1.1
  have hb := C0.1.2.1
  have hts := C0.1.2.2.2.2
  refine lv_aload_n hx hb dX6_shelfDrop_0 rfl (lv_at hl 0 rfl) ?_
  refine lv_iload_n hx hb dX6_shelfDrop_1 rfl (lv_at hl 1 rfl) ?_
  refine q_sS C0 lX6_193 (c_X6_isShelf l D y L F xb (by omega)) ⟨rfl, rfl⟩ rfl hP rfl hl rfl (Nat.le_of_ble_eq_true rfl) dX6_shelfDrop_2 ⟨Nat.zero_le _, Nat.zero_le _⟩ (fun r1 e_r1 => ?_)
  subst e_r1
  have b_2 := inR_d xb 0 2
  refine lv_iload_n hx hb dX6_shelfDrop_5 rfl (lv_at hl 2 rfl) ?_
  refine q_iconst hx hb dX6_shelfDrop_6 ?_
  refine q_iconst hx hb dX6_shelfDrop_7 ?_
  refine q_sS C0 lX6_41 (c_X6_isIn l D y L F xt 0 2 (by omega) (by omega) (by omega)) ⟨rfl, rfl⟩ rfl hP rfl hl rfl (Nat.le_of_ble_eq_true rfl) dX6_shelfDrop_8 ⟨Nat.zero_le _, Nat.zero_le _⟩ (fun r3 e_r3 => ?_)
  subst e_r3
  have b_4 := inR_d xt 0 2
  refine q_vMi C0 lX6_63 (c_X6_isLet l D y L F _ O G μ (inR xb 0 2) (inR xt 0 2) hC (by omega) (by omega)) ⟨rfl, rfl⟩ rfl hP hD hS hA hC.1.1 hC.1.2 rfl rfl rfl hl rfl (Nat.le_of_ble_eq_true rfl) dX6_shelfDrop_11 ⟨Nat.le_of_ble_eq_true rfl, Nat.le_of_ble_eq_true rfl⟩ (fun r5 H locs L6 F6 hP hD hS hz6 hp6 => ?_)
  obtain ⟨eL, hC, er, hO1⟩ := hp6
  subst eL
  replace er := er.symm
  subst er
  have hO := hO.tr hO1
  have k_7 := okR_d (inR xb 0 2) (inR xt 0 2)
  refine q_if_ne hx hb dX6_shelfDrop_14 (tgt := 19) (by decide) (by omega) (fun c8 => ?_) (fun c8 => ?_)
  · replace k_7 := k_7.resolve_right (fun h => c8 h.1)
    refine lv_aload_n hx hb dX6_shelfDrop_19 rfl (lv_at hl 0 rfl) ?_
    refine lv_aload_n hx hb dX6_shelfDrop_20 rfl (lv_at hl 0 rfl) ?_
    refine q_get C0 iX6 hP hC.1.1 hC.1.2 rfl 1 (by decide) flX6_15 rfl (v := .ref ((uas G))) rfl dX6_shelfDrop_21 ?_
    refine lv_iload_n hx hb dX6_shelfDrop_24 rfl (lv_at hl 1 rfl) ?_
    refine q_aald C0 hP hC.2.2.1.1 hC.2.2.1.2 (t := 3) rfl (by omega) (by decide) (v := .ref ((urh G (vsh μ xb)))) rfl dX6_shelfDrop_25 ?_
    refine lv_iload_n hx hb dX6_shelfDrop_26 rfl (lv_at hl 2 rfl) ?_
    refine q_iconst hx hb dX6_shelfDrop_27 ?_
    refine q_bipush hx hb dX6_shelfDrop_28 (by decide) ?_
    refine q_vMi C0 lX6_120 (c_X6_dropped l D y L F6 _ O G (tTh μ (ltR (inR xb 0 2) (inR xt 0 2))) (vsh μ xb) xt 0 99 hC hW (hW.2.1 xb) (by omega) (by omega) (by omega)) ⟨rfl, rfl⟩ rfl hP hD hS hA hC.1.1 hC.1.2 rfl rfl rfl hl rfl (Nat.le_of_ble_eq_true rfl) dX6_shelfDrop_30 ⟨Nat.le_of_ble_eq_true rfl, Nat.le_of_ble_eq_true rfl⟩ (fun r9 H locs L10 F10 hP hD hS hz10 hp10 => ?_)
    have dr_11 := dpR_b hC (hW.2.1 xb) xt 0 99
    obtain ⟨eL, hC, er, hO1⟩ := hp10
    subst eL
    replace er : (dpR (tTh μ (ltR (inR xb 0 2) (inR xt 0 2))) (vsh μ xb) xt 0 99) = r9 := er.symm
    subst er
    have hO := hO.tr hO1
    refine lv_istore_n (lv' := [(3, .int (iI ((dpR (tTh μ (ltR (inR xb 0 2) (inR xt 0 2))) (vsh μ xb) xt 0 99)))), (0, .ref ((ubg G))), (1, .int (iI xb)), (2, .int (iI xt))]) hx hb dX6_shelfDrop_33 rfl hl (by decide) rfl (fun ls hl => ?_)
    refine lv_aload_n hx hb dX6_shelfDrop_34 rfl (lv_at hl 1 rfl) ?_
    refine lv_iload_n hx hb dX6_shelfDrop_35 rfl (lv_at hl 3 rfl) ?_
    refine q_iconst hx hb dX6_shelfDrop_36 ?_
    refine q_icmp_ne hx hb dX6_shelfDrop_37 (tgt := 44) (by decide) (by omega) (by omega) (fun c12 => ?_) (fun c12 => ?_)
    · refine lv_iload_n hx hb dX6_shelfDrop_44 rfl (lv_at hl 0 rfl) ?_
      refine q_sS C0 lX6_199 (c_X6_key l D y L F10 (dpR (tTh μ (ltR (inR xb 0 2) (inR xt 0 2))) (vsh μ xb) xt 0 99) (by omega)) ⟨rfl, rfl⟩ rfl hP rfl hl rfl (Nat.le_of_ble_eq_true rfl) dX6_shelfDrop_45 ⟨Nat.zero_le _, Nat.zero_le _⟩ (fun r13 e_r13 => ?_)
      subst e_r13
      refine q_vMi C0 lX6_196 (c_X6_laid l D y L F10 _ O G (dpS (tTh μ (ltR (inR xb 0 2) (inR xt 0 2))) (vsh μ xb) xt 0 99) (k100 (dpR (tTh μ (ltR (inR xb 0 2) (inR xt 0 2))) (vsh μ xb) xt 0 99)) hC) ⟨rfl, rfl⟩ rfl hP hD hS hA hC.1.1 hC.1.2 rfl rfl rfl hl rfl (Nat.le_of_ble_eq_true rfl) dX6_shelfDrop_48 ⟨Nat.le_of_ble_eq_true rfl, Nat.le_of_ble_eq_true rfl⟩ (fun r14 H locs L15 F15 hP hD hS hz15 hp15 => ?_)
      obtain ⟨eL, hC, er, hO1⟩ := hp15
      subst eL
      replace er : (k100 (dpR (tTh μ (ltR (inR xb 0 2) (inR xt 0 2))) (vsh μ xb) xt 0 99)) = r14 := er.symm
      subst er
      have hO := hO.tr hO1
      exact q_retMi C0 hret rfl hlk dX6_shelfDrop_51 hP hD hS (⟨(by 
    have lt_ := ltR_d (inR xb 0 2) (inR xt 0 2)
    unfold jR_shelfDrop ; (try rw [show ltR (inR xb 0 2) (inR xt 0 2) = 0 by omega]); (repeat (first | rw [if_pos (by omega)] | rw [if_neg (by omega)]))
    all_goals (first | rfl | omega)), O, G, MP_eq hC (by 
    have lt_ := ltR_d (inR xb 0 2) (inR xt 0 2)
    unfold jS_shelfDrop ; rw [show ltR (inR xb 0 2) (inR xt 0 2) = 0 by omega]; (repeat (first | rw [if_pos (by omega)] | rw [if_neg (by omega)]))
    all_goals rfl), rfl, Ext0 hO⟩)
    · refine lv_iload_n hx hb dX6_shelfDrop_40 rfl (lv_at hl 0 rfl) ?_
      refine lv_goto (tgt := 48) hx hb dX6_shelfDrop_41 (by decide) ?_
      refine q_vMi C0 lX6_196 (c_X6_laid l D y L F10 _ O G (dpS (tTh μ (ltR (inR xb 0 2) (inR xt 0 2))) (vsh μ xb) xt 0 99) (dpR (tTh μ (ltR (inR xb 0 2) (inR xt 0 2))) (vsh μ xb) xt 0 99) hC) ⟨rfl, rfl⟩ rfl hP hD hS hA hC.1.1 hC.1.2 rfl rfl rfl hl rfl (Nat.le_of_ble_eq_true rfl) dX6_shelfDrop_48 ⟨Nat.le_of_ble_eq_true rfl, Nat.le_of_ble_eq_true rfl⟩ (fun r16 H locs L17 F17 hP hD hS hz17 hp17 => ?_)
      obtain ⟨eL, hC, er, hO1⟩ := hp17
      subst eL
      replace er : (dpR (tTh μ (ltR (inR xb 0 2) (inR xt 0 2))) (vsh μ xb) xt 0 99) = r16 := er.symm
      subst er
      have hO := hO.tr hO1
      exact q_retMi C0 hret rfl hlk dX6_shelfDrop_51 hP hD hS (⟨(by 
    have lt_ := ltR_d (inR xb 0 2) (inR xt 0 2)
    unfold jR_shelfDrop ; (try rw [show ltR (inR xb 0 2) (inR xt 0 2) = 0 by omega]); (repeat (first | rw [if_pos (by omega)] | rw [if_neg (by omega)]))
    all_goals (first | rfl | omega)), O, G, MP_eq hC (by 
    have lt_ := ltR_d (inR xb 0 2) (inR xt 0 2)
    unfold jS_shelfDrop ; rw [show ltR (inR xb 0 2) (inR xt 0 2) = 0 by omega]; (repeat (first | rw [if_pos (by omega)] | rw [if_neg (by omega)]))
    all_goals rfl), rfl, Ext0 hO⟩)
  · replace k_7 := k_7.resolve_left (fun h => absurd (h.1.symm.trans c8) (by decide))
    refine q_iconst hx hb dX6_shelfDrop_17 ?_
    exact q_retMi C0 hret rfl hlk dX6_shelfDrop_18 hP hD hS (⟨(by unfold jR_shelfDrop; rw [if_neg (by omega)]), O, G, MP_eq hC (by have lt_ := ltR_d (inR xb 0 2) (inR xt 0 2); unfold jS_shelfDrop; rcases lt_ with lt_ | lt_ | lt_ <;> first | (rw [if_neg (by omega), lt_.1]; done) | (rw [if_pos (by omega), if_neg (by omega), lt_.1]; done) | (exfalso; omega)), rfl, Ext0 hO⟩)
set_option maxHeartbeats 3000000 in
set_option maxRecDepth 100000 in
theorem c_X6_fill (l : Launch) (D : va_G) (y : Nat → ClassId) (L : List Nat) (F : Nat → va_E) (sz : Nat) (O : Nat → Prop) (G : MG) (μ : MS) (xb : Int) (xf : Int) (xs : Int) (xn : Int) (xw : Int) (hC : MP y L F O G μ) (hW : MW μ) (h_xb : -2147483648 ≤ xb ∧ xb ≤ 2147483647) (h_xf : -2147483648 ≤ xf ∧ xf ≤ 2147483647) (h_xs : -2147483648 ≤ xs ∧ xs ≤ 2147483647) (h_xn : -2147483648 ≤ xn ∧ xn ≤ 2147483647) (h_xw : -2147483648 ≤ xw ∧ xw ≤ 2147483647) : Met l yX6_fill (.code yX6_fill cX6_fill 8 (some .int) :: Tt) ({ frames := 2, cells := 0, slots := 0, locals := 45 }) (PcM D y L F sz [.ref ((ubg G)), .int (iI xb), .int (iI xf), .int (iI xs), .int (iI xn), .int (iI xw)]) (cMi D (AL L sz) (fun r L1 F1 => r = jR_fill μ xb xf xs xn xw ∧ ∃ (O1 : Nat → Prop) (G1 : MG), MP y L1 F1 O1 G1 (jS_fill μ xb xf xs xn xw) ∧ ubg G1 = ubg G ∧ Ext O O1 L L1 F F1)) 0 0 (AL L sz) := by
  have hO : OE O F F := fun _ _ => rfl
  have hw5 := hW.2.2.2.2.2.1
  have hw6 := hW.2.2.2.2.2.2.1
  have hw7 := hW.2.2.2.2.2.2.2.1
  refine q_ofM (lv := [(0, .ref ((ubg G))), (1, .int (iI xb)), (2, .int (iI xf)), (3, .int (iI xs)), (4, .int (iI xn)), (5, .int (iI xw))]) (by decide) (Nat.le_of_ble_eq_true rfl) rfl (fun p e s m below meth c C0 hret hlk hnm hA hP hD hS ls hl => ?_)
  have hx := C0.1.1
  have hb := C0.1.2.1
  have hts := C0.1.2.2.2.2
  refine lv_aload_n hx hb dX6_fill_0 rfl (lv_at hl 0 rfl) ?_
  refine lv_iload_n hx hb dX6_fill_1 rfl (lv_at hl 1 rfl) ?_
  refine q_sS C0 lX6_60 (c_X6_isBook l D y L F xb (by omega)) ⟨rfl, rfl⟩ rfl hP rfl hl rfl (Nat.le_of_ble_eq_true rfl) dX6_fill_2 ⟨Nat.zero_le _, Nat.zero_le _⟩ (fun r1 e_r1 => ?_)
  subst e_r1
  have b_2 := inR_d xb 0 3
  refine lv_iload_n hx hb dX6_fill_5 rfl (lv_at hl 2 rfl) ?_
  refine q_sS C0 lX6_86 (c_X6_isKey l D y L F xf (by omega)) ⟨rfl, rfl⟩ rfl hP rfl hl rfl (Nat.le_of_ble_eq_true rfl) dX6_fill_6 ⟨Nat.zero_le _, Nat.zero_le _⟩ (fun r3 e_r3 => ?_)
  subst e_r3
  have b_4 := inR_d xf 0 99
  refine q_if_eq hx hb dX6_fill_9 (tgt := 45) (by decide) (by omega) (fun c5 => ?_) (fun c5 => ?_)
  · replace b_4 := b_4.resolve_left (fun h => absurd (h.1.symm.trans c5) (by decide))
    refine q_iconst hx hb dX6_fill_45 ?_
    refine q_vMi C0 lX6_63 (c_X6_isLet l D y L F _ O G μ (inR xb 0 3) 0 hC (by omega) (by omega)) ⟨rfl, rfl⟩ rfl hP hD hS hA hC.1.1 hC.1.2 rfl rfl rfl hl rfl (Nat.le_of_ble_eq_true rfl) dX6_fill_46 ⟨Nat.le_of_ble_eq_true rfl, Nat.le_of_ble_eq_true rfl⟩ (fun r6 H locs L7 F7 hP hD hS hz7 hp7 => ?_)
    obtain ⟨eL, hC, er, hO1⟩ := hp7
    subst eL
    replace er := (er.trans (okR_z _)).symm
    subst er
    have hO := hO.tr hO1
    refine q_if_ne hx hb dX6_fill_49 (tgt := 54) (by decide) (by omega) (fun c8 => absurd c8 (by omega)) (fun c8 => ?_)
    refine q_iconst hx hb dX6_fill_52 ?_
    exact q_retMi C0 hret rfl hlk dX6_fill_53 hP hD hS (⟨(by unfold jR_fill; rw [if_neg (by omega)]), O, G, MP_eq hC (by have lt_ := ltR_d (inR xb 0 3) 0; unfold jS_fill; rcases lt_ with lt_ | lt_ | lt_ <;> first | (rw [if_neg (by omega), lt_.1]; done) | (rw [if_pos (by omega), if_neg (by omega), lt_.1]; done) | (exfalso; omega)), rfl, Ext0 hO⟩)
  · replace b_4 := b_4.resolve_right (fun h => c5 h.1)
    refine lv_iload_n hx hb dX6_fill_12 rfl (lv_at hl 3 rfl) ?_
    refine q_sS C0 lX6_86 (c_X6_isKey l D y L F xs (by omega)) ⟨rfl, rfl⟩ rfl hP rfl hl rfl (Nat.le_of_ble_eq_true rfl) dX6_fill_13 ⟨Nat.zero_le _, Nat.zero_le _⟩ (fun r9 e_r9 => ?_)
    subst e_r9
    have b_10 := inR_d xs 0 99
    refine q_if_eq hx hb dX6_fill_16 (tgt := 45) (by decide) (by omega) (fun c11 => ?_) (fun c11 => ?_)
    · replace b_10 := b_10.resolve_left (fun h => absurd (h.1.symm.trans c11) (by decide))
      refine q_iconst hx hb dX6_fill_45 ?_
      refine q_vMi C0 lX6_63 (c_X6_isLet l D y L F _ O G μ (inR xb 0 3) 0 hC (by omega) (by omega)) ⟨rfl, rfl⟩ rfl hP hD hS hA hC.1.1 hC.1.2 rfl rfl rfl hl rfl (Nat.le_of_ble_eq_true rfl) dX6_fill_46 ⟨Nat.le_of_ble_eq_true rfl, Nat.le_of_ble_eq_true rfl⟩ (fun r12 H locs L13 F13 hP hD hS hz13 hp13 => ?_)
      obtain ⟨eL, hC, er, hO1⟩ := hp13
      subst eL
      replace er := (er.trans (okR_z _)).symm
      subst er
      have hO := hO.tr hO1
      refine q_if_ne hx hb dX6_fill_49 (tgt := 54) (by decide) (by omega) (fun c14 => absurd c14 (by omega)) (fun c14 => ?_)
      refine q_iconst hx hb dX6_fill_52 ?_
      exact q_retMi C0 hret rfl hlk dX6_fill_53 hP hD hS (⟨(by unfold jR_fill; rw [if_neg (by omega)]), O, G, MP_eq hC (by have lt_ := ltR_d (inR xb 0 3) 0; unfold jS_fill; rcases lt_ with lt_ | lt_ | lt_ <;> first | (rw [if_neg (by omega), lt_.1]; done) | (rw [if_pos (by omega), if_neg (by omega), lt_.1]; done) | (exfalso; omega)), rfl, Ext0 hO⟩)
    · replace b_10 := b_10.resolve_right (fun h => c11 h.1)
      refine lv_iload hx hb dX6_fill_19 (lv_at hl 4 rfl) ?_
      refine q_iconst hx hb dX6_fill_21 ?_
      refine q_bipush hx hb dX6_fill_22 (by decide) ?_
      refine q_sS C0 lX6_41 (c_X6_isIn l D y L F xn 0 100 (by omega) (by omega) (by omega)) ⟨rfl, rfl⟩ rfl hP rfl hl rfl (Nat.le_of_ble_eq_true rfl) dX6_fill_24 ⟨Nat.zero_le _, Nat.zero_le _⟩ (fun r15 e_r15 => ?_)
      subst e_r15
      have b_16 := inR_d xn 0 100
      refine q_if_eq hx hb dX6_fill_27 (tgt := 45) (by decide) (by omega) (fun c17 => ?_) (fun c17 => ?_)
      · replace b_16 := b_16.resolve_left (fun h => absurd (h.1.symm.trans c17) (by decide))
        refine q_iconst hx hb dX6_fill_45 ?_
        refine q_vMi C0 lX6_63 (c_X6_isLet l D y L F _ O G μ (inR xb 0 3) 0 hC (by omega) (by omega)) ⟨rfl, rfl⟩ rfl hP hD hS hA hC.1.1 hC.1.2 rfl rfl rfl hl rfl (Nat.le_of_ble_eq_true rfl) dX6_fill_46 ⟨Nat.le_of_ble_eq_true rfl, Nat.le_of_ble_eq_true rfl⟩ (fun r18 H locs L19 F19 hP hD hS hz19 hp19 => ?_)
        obtain ⟨eL, hC, er, hO1⟩ := hp19
        subst eL
        replace er := (er.trans (okR_z _)).symm
        subst er
        have hO := hO.tr hO1
        refine q_if_ne hx hb dX6_fill_49 (tgt := 54) (by decide) (by omega) (fun c20 => absurd c20 (by omega)) (fun c20 => ?_)
        refine q_iconst hx hb dX6_fill_52 ?_
        exact q_retMi C0 hret rfl hlk dX6_fill_53 hP hD hS (⟨(by unfold jR_fill; rw [if_neg (by omega)]), O, G, MP_eq hC (by have lt_ := ltR_d (inR xb 0 3) 0; unfold jS_fill; rcases lt_ with lt_ | lt_ | lt_ <;> first | (rw [if_neg (by omega), lt_.1]; done) | (rw [if_pos (by omega), if_neg (by omega), lt_.1]; done) | (exfalso; omega)), rfl, Ext0 hO⟩)
      · replace b_16 := b_16.resolve_right (fun h => c17 h.1)
        refine lv_iload hx hb dX6_fill_30 (lv_at hl 5 rfl) ?_
        refine q_iconst hx hb dX6_fill_32 ?_
        refine q_bipush hx hb dX6_fill_33 (by decide) ?_
        refine q_sS C0 lX6_41 (c_X6_isIn l D y L F xw (-1) 99 (by omega) (by omega) (by omega)) ⟨rfl, rfl⟩ rfl hP rfl hl rfl (Nat.le_of_ble_eq_true rfl) dX6_fill_35 ⟨Nat.zero_le _, Nat.zero_le _⟩ (fun r21 e_r21 => ?_)
        subst e_r21
        have b_22 := inR_d xw (-1) 99
        refine q_if_eq hx hb dX6_fill_38 (tgt := 45) (by decide) (by omega) (fun c23 => ?_) (fun c23 => ?_)
        · replace b_22 := b_22.resolve_left (fun h => absurd (h.1.symm.trans c23) (by decide))
          refine q_iconst hx hb dX6_fill_45 ?_
          refine q_vMi C0 lX6_63 (c_X6_isLet l D y L F _ O G μ (inR xb 0 3) 0 hC (by omega) (by omega)) ⟨rfl, rfl⟩ rfl hP hD hS hA hC.1.1 hC.1.2 rfl rfl rfl hl rfl (Nat.le_of_ble_eq_true rfl) dX6_fill_46 ⟨Nat.le_of_ble_eq_true rfl, Nat.le_of_ble_eq_true rfl⟩ (fun r24 H locs L25 F25 hP hD hS hz25 hp25 => ?_)
          obtain ⟨eL, hC, er, hO1⟩ := hp25
          subst eL
          replace er := (er.trans (okR_z _)).symm
          subst er
          have hO := hO.tr hO1
          refine q_if_ne hx hb dX6_fill_49 (tgt := 54) (by decide) (by omega) (fun c26 => absurd c26 (by omega)) (fun c26 => ?_)
          refine q_iconst hx hb dX6_fill_52 ?_
          exact q_retMi C0 hret rfl hlk dX6_fill_53 hP hD hS (⟨(by unfold jR_fill; rw [if_neg (by omega)]), O, G, MP_eq hC (by have lt_ := ltR_d (inR xb 0 3) 0; unfold jS_fill; rcases lt_ with lt_ | lt_ | lt_ <;> first | (rw [if_neg (by omega), lt_.1]; done) | (rw [if_pos (by omega), if_neg (by omega), lt_.1]; done) | (exfalso; omega)), rfl, Ext0 hO⟩)
        · replace b_22 := b_22.resolve_right (fun h => c23 h.1)
          refine q_iconst hx hb dX6_fill_41 ?_
          refine lv_goto (tgt := 46) hx hb dX6_fill_42 (by decide) ?_
          refine q_vMi C0 lX6_63 (c_X6_isLet l D y L F _ O G μ (inR xb 0 3) 1 hC (by omega) (by omega)) ⟨rfl, rfl⟩ rfl hP hD hS hA hC.1.1 hC.1.2 rfl rfl rfl hl rfl (Nat.le_of_ble_eq_true rfl) dX6_fill_46 ⟨Nat.le_of_ble_eq_true rfl, Nat.le_of_ble_eq_true rfl⟩ (fun r27 H locs L28 F28 hP hD hS hz28 hp28 => ?_)
          obtain ⟨eL, hC, er, hO1⟩ := hp28
          subst eL
          replace er := er.symm
          subst er
          have hO := hO.tr hO1
          have k_29 := okR_d (inR xb 0 3) 1
          refine q_if_ne hx hb dX6_fill_49 (tgt := 54) (by decide) (by omega) (fun c30 => ?_) (fun c30 => ?_)
          · replace k_29 := k_29.resolve_right (fun h => c30 h.1)
            refine lv_aload_n hx hb dX6_fill_54 rfl (lv_at hl 0 rfl) ?_
            refine lv_aload_n hx hb dX6_fill_55 rfl (lv_at hl 0 rfl) ?_
            refine q_get C0 iX6 hP hC.1.1 hC.1.2 rfl 0 (by decide) flX6_11 rfl (v := .ref ((uab G))) rfl dX6_fill_56 ?_
            refine lv_iload_n hx hb dX6_fill_59 rfl (lv_at hl 1 rfl) ?_
            refine q_aald C0 hP hC.2.1.1 hC.2.1.2 (t := 3) rfl (by omega) (by decide) (v := .ref ((urh G (vbk μ xb)))) rfl dX6_fill_60 ?_
            refine q_vMv C0 lX6_96 (c_X6_write l D y L F28 _ O G (tTh μ (ltR (inR xb 0 3) 1)) (vbk μ xb) hC (hW.1 xb) hW.2.2.2.1) ⟨rfl, rfl⟩ rfl hP hD hS hA hC.1.1 hC.1.2 rfl rfl rfl hl rfl (Nat.le_of_ble_eq_true rfl) dX6_fill_61 ⟨Nat.le_of_ble_eq_true rfl, Nat.le_of_ble_eq_true rfl⟩ (fun _ H locs L32 F32 hP hD hS hz32 hp32 => ?_)
            obtain ⟨eL, hC, er, hO1⟩ := hp32
            subst eL
            have hO := hO.tr hO1
            refine q_iconst hx hb dX6_fill_64 ?_
            refine lv_istore (lv' := [(6, .int (iI 0)), (0, .ref ((ubg G))), (1, .int (iI xb)), (2, .int (iI xf)), (3, .int (iI xs)), (4, .int (iI xn)), (5, .int (iI xw))]) hx hb dX6_fill_65 hl (by decide) rfl (fun ls hl => ?_)
            refine q_iconst hx hb dX6_fill_67 ?_
            refine lv_istore (lv' := [(7, .int (iI 0)), (6, .int (iI 0)), (0, .ref ((ubg G))), (1, .int (iI xb)), (2, .int (iI xf)), (3, .int (iI xs)), (4, .int (iI xn)), (5, .int (iI xw))]) hx hb dX6_fill_68 hl (by decide) rfl (fun ls hl => ?_)
            have LP70 : ∀ (n_LP70 : Nat) (r : Int) (gv : Int → Int) (bv : Int) (a : Int) (Fv : Nat → va_E) (H : Heap) (locs : List Loc), (0 ≤ r ∧ r ≤ 100) → (va_P D vwCl (va_pl L Fv) H) → (va_D (AL L sz) (va_pl L Fv)) → (va_S (AL L sz) s.heap H locs) → (MP y L Fv O G (tM (tWr (tTh μ (ltR (inR xb 0 3) 1)) (vbk μ xb)) (vbk μ xb) gv bv)) → (OE O F Fv) → (fiX μ (vbk μ xb) xf xs xn xw = itrP (fiU (vwk μ) (vbk μ xb) (vod μ (vbk μ xb)) xf xs xw) r (xn - 1) (gv, bv, a)) → (xn - r).toNat = n_LP70 → ∀ ls : Array Slot, lv_has ls 8 [(0, .ref ((ubg G))), (1, .int (iI xb)), (2, .int (iI xf)), (3, .int (iI xs)), (4, .int (iI xn)), (5, .int (iI xw)), (6, .int (iI a)), (7, .int (iI r))] → W p l e ({ frames := 2, cells := 0, slots := 0, locals := 45 } : Room) s m [.ref ((ubg G)), .int (iI xb), .int (iI xf), .int (iI xs), .int (iI xn), .int (iI xw)].toArray below meth c H locs 0 0 (MQ below (cMi D (AL L sz) (fun r L1 F1 => r = jR_fill μ xb xf xs xn xw ∧ ∃ (O1 : Nat → Prop) (G1 : MG), MP y L1 F1 O1 G1 (jS_fill μ xb xf xs xn xw) ∧ ubg G1 = ubg G ∧ Ext O O1 L L1 F F1)) [.ref ((ubg G)), .int (iI xb), .int (iI xf), .int (iI xs), .int (iI xn), .int (iI xw)].toArray s 0 0 (AL L sz)) (F0 m 70 ls []) := by
              intro n_LP70
              induction n_LP70 using Nat.strongRecOn with
              | ind n_LP70 ih_LP70 =>
                intro r gv bv a Fv H locs hr hP hD hS hC hO hI hm_LP70 ls hl
                refine lv_iload hx hb dX6_fill_70 (lv_at hl 7 rfl) ?_
                refine lv_iload hx hb dX6_fill_72 (lv_at hl 4 rfl) ?_
                refine q_icmp_ge hx hb dX6_fill_74 (tgt := 125) (by decide) (by omega) (by omega) (fun c33 => ?_) (fun c33 => ?_)
                · refine lv_aload_n hx hb dX6_fill_125 rfl (lv_at hl 0 rfl) ?_
                  refine lv_iload hx hb dX6_fill_126 (lv_at hl 6 rfl) ?_
                  refine q_vMi C0 lX6_71 (c_X6_did l D y L Fv _ O G (tM (tWr (tTh μ (ltR (inR xb 0 3) 1)) (vbk μ xb)) (vbk μ xb) gv bv) a hC) ⟨rfl, rfl⟩ rfl hP hD hS hA hC.1.1 hC.1.2 rfl rfl rfl hl rfl (Nat.le_of_ble_eq_true rfl) dX6_fill_128 ⟨Nat.le_of_ble_eq_true rfl, Nat.le_of_ble_eq_true rfl⟩ (fun r34 H locs L35 F35 hP hD hS hz35 hp35 => ?_)
                  obtain ⟨eL, hC, er, hO1⟩ := hp35
                  subst eL
                  replace er : a = r34 := er.symm
                  subst er
                  have hO := hO.tr hO1
                  exact q_retMi C0 hret rfl hlk dX6_fill_131 hP hD hS (⟨(by 
    have lt_ := ltR_d (inR xb 0 3) 1
    unfold jR_fill ; (try rw [show ltR (inR xb 0 3) 1 = 0 by omega]); (repeat (first | rw [if_pos (by omega)] | rw [if_neg (by omega)])); rw [hI, itrP_e (by omega)]
    all_goals (first | rfl | omega)), O, G, MP_eq hC (by 
    have lt_ := ltR_d (inR xb 0 3) 1
    unfold jS_fill tX; rw [show ltR (inR xb 0 3) 1 = 0 by omega]; (repeat (first | rw [if_pos (by omega)] | rw [if_neg (by omega)])); rw [hI, itrP_e (by omega)]
    all_goals rfl), rfl, Ext0 hO⟩)
                · have mb_ := mul99 (a := r) (b := xs) (by omega) (by omega)
                  refine lv_iload hx hb dX6_fill_77 (lv_at hl 6 rfl) ?_
                  refine lv_aload_n hx hb dX6_fill_79 rfl (lv_at hl 0 rfl) ?_
                  refine lv_aload_n hx hb dX6_fill_80 rfl (lv_at hl 0 rfl) ?_
                  refine q_get C0 iX6 hP hC.1.1 hC.1.2 rfl 0 (by decide) flX6_11 rfl (v := .ref ((uab G))) rfl dX6_fill_81 ?_
                  refine lv_iload_n hx hb dX6_fill_84 rfl (lv_at hl 1 rfl) ?_
                  refine q_aald C0 hP hC.2.1.1 hC.2.1.2 (t := 3) rfl (by omega) (by decide) (v := .ref ((urh G (vbk μ xb)))) rfl dX6_fill_85 ?_
                  refine lv_iload_n hx hb dX6_fill_86 rfl (lv_at hl 2 rfl) ?_
                  refine lv_iload hx hb dX6_fill_87 (lv_at hl 7 rfl) ?_
                  refine lv_iload_n hx hb dX6_fill_89 rfl (lv_at hl 3 rfl) ?_
                  refine q_imul hx hb dX6_fill_90 ?_
                  refine q_iadd hx hb dX6_fill_91 ?_
                  refine q_bipush hx hb dX6_fill_92 (by decide) ?_
                  refine q_irem hx hb dX6_fill_94 (by omega) (by omega) ?_
                  refine lv_iload hx hb dX6_fill_95 (lv_at hl 5 rfl) ?_
                  refine q_iconst hx hb dX6_fill_97 ?_
                  refine q_icmp_ne hx hb dX6_fill_98 (tgt := 105) (by decide) (by omega) (by omega) (fun c36 => ?_) (fun c36 => ?_)
                  · refine lv_iload hx hb dX6_fill_105 (lv_at hl 5 rfl) ?_
                    refine lv_iload hx hb dX6_fill_107 (lv_at hl 7 rfl) ?_
                    refine q_iadd hx hb dX6_fill_109 ?_
                    refine q_bipush hx hb dX6_fill_110 (by decide) ?_
                    refine q_irem hx hb dX6_fill_112 (by omega) (by omega) ?_
                    refine q_vMi C0 lX6_103 (c_X6_set l D y L Fv _ O G (tM (tWr (tTh μ (ltR (inR xb 0 3) 1)) (vbk μ xb)) (vbk μ xb) gv bv) (vbk μ xb) ((xf + (r * xs)) % 100) ((xw + r) % 100) hC (hW.1 xb) hW.2.2.2.1 (by omega) (by omega)) ⟨rfl, rfl⟩ rfl hP hD hS hA hC.1.1 hC.1.2 rfl rfl rfl hl rfl (Nat.le_of_ble_eq_true rfl) dX6_fill_113 ⟨Nat.le_of_ble_eq_true rfl, Nat.le_of_ble_eq_true rfl⟩ (fun r37 H locs L38 F38 hP hD hS hz38 hp38 => ?_)
                    obtain ⟨eL, hC, er, hO1⟩ := hp38
                    subst eL
                    rw [tM_st] at er
                    replace er : (seC gv (turn (vod μ (vbk μ xb)) ((xf + (r * xs)) % 100)) ((xw + r) % 100)) = r37 := er.symm
                    subst er
                    have hO := hO.tr hO1
                    replace hC := MP_eq hC (tSe_tM _ _ _ _ _ _)
                    refine q_iadd hx hb dX6_fill_116 ?_
                    refine lv_istore (lv' := [(6, .int (iI ((a + (seC gv (turn (vod μ (vbk μ xb)) ((xf + (r * xs)) % 100)) ((xw + r) % 100)))))), (0, .ref ((ubg G))), (1, .int (iI xb)), (2, .int (iI xf)), (3, .int (iI xs)), (4, .int (iI xn)), (5, .int (iI xw)), (7, .int (iI r))]) hx hb dX6_fill_117 hl (by decide) rfl (fun ls hl => ?_)
                    refine q_iinc (x := r) (n := 1) (lv' := [(7, .int (iI ((r + 1)))), (6, .int (iI ((a + (seC gv (turn (vod μ (vbk μ xb)) ((xf + (r * xs)) % 100)) ((xw + r) % 100)))))), (0, .ref ((ubg G))), (1, .int (iI xb)), (2, .int (iI xf)), (3, .int (iI xs)), (4, .int (iI xn)), (5, .int (iI xw))]) hx hb dX6_fill_119 hl (k := 7) rfl (by decide) rfl (fun ls hl => ?_)
                    refine lv_goto (tgt := 70) hx hb dX6_fill_122 (by decide) ?_
                    exact ih_LP70 _ (by omega) (r + 1) (iu gv (turn (vod μ (vbk μ xb)) ((xf + (r * xs)) % 100)) ((xw + r) % 100)) (seB (vwk μ) (vbk μ xb) gv (turn (vod μ (vbk μ xb)) ((xf + (r * xs)) % 100)) ((xw + r) % 100) bv) (a + (seC gv (turn (vod μ (vbk μ xb)) ((xf + (r * xs)) % 100)) ((xw + r) % 100))) F38 _ _ (by omega) (hP) (hD) (hS) (hC) (hO) (by rw [hI, itrP_s (by omega)]; unfold fiU; first | (rw [if_pos (by omega)]; done) | (rw [if_neg (by omega)]; done) | (rw [if_pos (by omega)]; rfl) | (rw [if_neg (by omega)]; rfl) | rfl) rfl ls (lv_sub hl [2, 3, 4, 5, 6, 7, 1, 0] rfl)
                  · refine q_iconst hx hb dX6_fill_101 ?_
                    refine lv_goto (tgt := 113) hx hb dX6_fill_102 (by decide) ?_
                    refine q_vMi C0 lX6_103 (c_X6_set l D y L Fv _ O G (tM (tWr (tTh μ (ltR (inR xb 0 3) 1)) (vbk μ xb)) (vbk μ xb) gv bv) (vbk μ xb) ((xf + (r * xs)) % 100) (-1) hC (hW.1 xb) hW.2.2.2.1 (by omega) (by omega)) ⟨rfl, rfl⟩ rfl hP hD hS hA hC.1.1 hC.1.2 rfl rfl rfl hl rfl (Nat.le_of_ble_eq_true rfl) dX6_fill_113 ⟨Nat.le_of_ble_eq_true rfl, Nat.le_of_ble_eq_true rfl⟩ (fun r39 H locs L40 F40 hP hD hS hz40 hp40 => ?_)
                    obtain ⟨eL, hC, er, hO1⟩ := hp40
                    subst eL
                    rw [tM_st] at er
                    replace er : (seC gv (turn (vod μ (vbk μ xb)) ((xf + (r * xs)) % 100)) (-1)) = r39 := er.symm
                    subst er
                    have hO := hO.tr hO1
                    replace hC := MP_eq hC (tSe_tM _ _ _ _ _ _)
                    refine q_iadd hx hb dX6_fill_116 ?_
                    refine lv_istore (lv' := [(6, .int (iI ((a + (seC gv (turn (vod μ (vbk μ xb)) ((xf + (r * xs)) % 100)) (-1)))))), (0, .ref ((ubg G))), (1, .int (iI xb)), (2, .int (iI xf)), (3, .int (iI xs)), (4, .int (iI xn)), (5, .int (iI xw)), (7, .int (iI r))]) hx hb dX6_fill_117 hl (by decide) rfl (fun ls hl => ?_)
                    refine q_iinc (x := r) (n := 1) (lv' := [(7, .int (iI ((r + 1)))), (6, .int (iI ((a + (seC gv (turn (vod μ (vbk μ xb)) ((xf + (r * xs)) % 100)) (-1)))))), (0, .ref ((ubg G))), (1, .int (iI xb)), (2, .int (iI xf)), (3, .int (iI xs)), (4, .int (iI xn)), (5, .int (iI xw))]) hx hb dX6_fill_119 hl (k := 7) rfl (by decide) rfl (fun ls hl => ?_)
                    refine lv_goto (tgt := 70) hx hb dX6_fill_122 (by decide) ?_
                    exact ih_LP70 _ (by omega) (r + 1) (iu gv (turn (vod μ (vbk μ xb)) ((xf + (r * xs)) % 100)) (-1)) (seB (vwk μ) (vbk μ xb) gv (turn (vod μ (vbk μ xb)) ((xf + (r * xs)) % 100)) (-1) bv) (a + (seC gv (turn (vod μ (vbk μ xb)) ((xf + (r * xs)) % 100)) (-1))) F40 _ _ (by omega) (hP) (hD) (hS) (hC) (hO) (by rw [hI, itrP_s (by omega)]; unfold fiU; first | (rw [if_pos (by omega)]; done) | (rw [if_neg (by omega)]; done) | (rw [if_pos (by omega)]; rfl) | (rw [if_neg (by omega)]; rfl) | rfl) rfl ls (lv_sub hl [2, 3, 4, 5, 6, 7, 1, 0] rfl)
            exact LP70 _ 0 (vst μ (vbk μ xb)) (vbr μ) 0 F32 _ _ (by omega) (hP) (hD) (hS) (MP_eq hC (tM_0 _ _)) (hO) (rfl) rfl ls (lv_sub hl [2, 3, 4, 5, 6, 7, 1, 0] rfl)
          · replace k_29 := k_29.resolve_left (fun h => absurd (h.1.symm.trans c30) (by decide))
            refine q_iconst hx hb dX6_fill_52 ?_
            exact q_retMi C0 hret rfl hlk dX6_fill_53 hP hD hS (⟨(by unfold jR_fill; rw [if_neg (by omega)]), O, G, MP_eq hC (by have lt_ := ltR_d (inR xb 0 3) 1; unfold jS_fill; rcases lt_ with lt_ | lt_ | lt_ <;> first | (rw [if_neg (by omega), lt_.1]; done) | (rw [if_pos (by omega), if_neg (by omega), lt_.1]; done) | (exfalso; omega)), rfl, Ext0 hO⟩)
set_option maxHeartbeats 3000000 in
set_option maxRecDepth 100000 in
theorem c_X6_lay (l : Launch) (D : va_G) (y : Nat → ClassId) (L : List Nat) (F : Nat → va_E) (sz : Nat) (O : Nat → Prop) (G : MG) (μ : MS) (xb : Int) (xf : Int) (xs : Int) (xn : Int) (xz : Int) (hC : MP y L F O G μ) (hW : MW μ) (h_xb : -2147483648 ≤ xb ∧ xb ≤ 2147483647) (h_xf : -2147483648 ≤ xf ∧ xf ≤ 2147483647) (h_xs : -2147483648 ≤ xs ∧ xs ≤ 2147483647) (h_xn : -2147483648 ≤ xn ∧ xn ≤ 2147483647) (h_xz : 0 ≤ xz ∧ xz ≤ 1) : Met l yX6_lay (.code yX6_lay cX6_lay 8 (some .int) :: Tt) ({ frames := 2, cells := 0, slots := 0, locals := 45 }) (PcM D y L F sz [.ref ((ubg G)), .int (iI xb), .int (iI xf), .int (iI xs), .int (iI xn), .int (iI xz)]) (cMi D (AL L sz) (fun r L1 F1 => r = jR_lay μ xb xf xs xn xz ∧ ∃ (O1 : Nat → Prop) (G1 : MG), MP y L1 F1 O1 G1 (jS_lay μ xb xf xs xn xz) ∧ ubg G1 = ubg G ∧ Ext O O1 L L1 F F1)) 0 0 (AL L sz) := by
  have hO : OE O F F := fun _ _ => rfl
  have hw5 := hW.2.2.2.2.2.1
  have hw6 := hW.2.2.2.2.2.2.1
  have hw7 := hW.2.2.2.2.2.2.2.1
  refine q_ofM (lv := [(0, .ref ((ubg G))), (1, .int (iI xb)), (2, .int (iI xf)), (3, .int (iI xs)), (4, .int (iI xn)), (5, .int (iI xz))]) (by decide) (Nat.le_of_ble_eq_true rfl) rfl (fun p e s m below meth c C0 hret hlk hnm hA hP hD hS ls hl => ?_)
  have hx := C0.1.1
  have hb := C0.1.2.1
  have hts := C0.1.2.2.2.2
  refine lv_aload_n hx hb dX6_lay_0 rfl (lv_at hl 0 rfl) ?_
  refine lv_iload_n hx hb dX6_lay_1 rfl (lv_at hl 1 rfl) ?_
  refine q_sS C0 lX6_193 (c_X6_isShelf l D y L F xb (by omega)) ⟨rfl, rfl⟩ rfl hP rfl hl rfl (Nat.le_of_ble_eq_true rfl) dX6_lay_2 ⟨Nat.zero_le _, Nat.zero_le _⟩ (fun r1 e_r1 => ?_)
  subst e_r1
  have b_2 := inR_d xb 0 2
  refine lv_iload_n hx hb dX6_lay_5 rfl (lv_at hl 2 rfl) ?_
  refine q_sS C0 lX6_86 (c_X6_isKey l D y L F xf (by omega)) ⟨rfl, rfl⟩ rfl hP rfl hl rfl (Nat.le_of_ble_eq_true rfl) dX6_lay_6 ⟨Nat.zero_le _, Nat.zero_le _⟩ (fun r3 e_r3 => ?_)
  subst e_r3
  have b_4 := inR_d xf 0 99
  refine q_if_eq hx hb dX6_lay_9 (tgt := 34) (by decide) (by omega) (fun c5 => ?_) (fun c5 => ?_)
  · replace b_4 := b_4.resolve_left (fun h => absurd (h.1.symm.trans c5) (by decide))
    refine q_iconst hx hb dX6_lay_34 ?_
    refine q_vMi C0 lX6_63 (c_X6_isLet l D y L F _ O G μ (inR xb 0 2) 0 hC (by omega) (by omega)) ⟨rfl, rfl⟩ rfl hP hD hS hA hC.1.1 hC.1.2 rfl rfl rfl hl rfl (Nat.le_of_ble_eq_true rfl) dX6_lay_35 ⟨Nat.le_of_ble_eq_true rfl, Nat.le_of_ble_eq_true rfl⟩ (fun r6 H locs L7 F7 hP hD hS hz7 hp7 => ?_)
    obtain ⟨eL, hC, er, hO1⟩ := hp7
    subst eL
    replace er := (er.trans (okR_z _)).symm
    subst er
    have hO := hO.tr hO1
    refine q_if_ne hx hb dX6_lay_38 (tgt := 43) (by decide) (by omega) (fun c8 => absurd c8 (by omega)) (fun c8 => ?_)
    refine q_iconst hx hb dX6_lay_41 ?_
    exact q_retMi C0 hret rfl hlk dX6_lay_42 hP hD hS (⟨(by unfold jR_lay; rw [if_neg (by omega)]), O, G, MP_eq hC (by have lt_ := ltR_d (inR xb 0 2) 0; unfold jS_lay; rcases lt_ with lt_ | lt_ | lt_ <;> first | (rw [if_neg (by omega), lt_.1]; done) | (rw [if_pos (by omega), if_neg (by omega), lt_.1]; done) | (exfalso; omega)), rfl, Ext0 hO⟩)
  · replace b_4 := b_4.resolve_right (fun h => c5 h.1)
    refine lv_iload_n hx hb dX6_lay_12 rfl (lv_at hl 3 rfl) ?_
    refine q_sS C0 lX6_86 (c_X6_isKey l D y L F xs (by omega)) ⟨rfl, rfl⟩ rfl hP rfl hl rfl (Nat.le_of_ble_eq_true rfl) dX6_lay_13 ⟨Nat.zero_le _, Nat.zero_le _⟩ (fun r9 e_r9 => ?_)
    subst e_r9
    have b_10 := inR_d xs 0 99
    refine q_if_eq hx hb dX6_lay_16 (tgt := 34) (by decide) (by omega) (fun c11 => ?_) (fun c11 => ?_)
    · replace b_10 := b_10.resolve_left (fun h => absurd (h.1.symm.trans c11) (by decide))
      refine q_iconst hx hb dX6_lay_34 ?_
      refine q_vMi C0 lX6_63 (c_X6_isLet l D y L F _ O G μ (inR xb 0 2) 0 hC (by omega) (by omega)) ⟨rfl, rfl⟩ rfl hP hD hS hA hC.1.1 hC.1.2 rfl rfl rfl hl rfl (Nat.le_of_ble_eq_true rfl) dX6_lay_35 ⟨Nat.le_of_ble_eq_true rfl, Nat.le_of_ble_eq_true rfl⟩ (fun r12 H locs L13 F13 hP hD hS hz13 hp13 => ?_)
      obtain ⟨eL, hC, er, hO1⟩ := hp13
      subst eL
      replace er := (er.trans (okR_z _)).symm
      subst er
      have hO := hO.tr hO1
      refine q_if_ne hx hb dX6_lay_38 (tgt := 43) (by decide) (by omega) (fun c14 => absurd c14 (by omega)) (fun c14 => ?_)
      refine q_iconst hx hb dX6_lay_41 ?_
      exact q_retMi C0 hret rfl hlk dX6_lay_42 hP hD hS (⟨(by unfold jR_lay; rw [if_neg (by omega)]), O, G, MP_eq hC (by have lt_ := ltR_d (inR xb 0 2) 0; unfold jS_lay; rcases lt_ with lt_ | lt_ | lt_ <;> first | (rw [if_neg (by omega), lt_.1]; done) | (rw [if_pos (by omega), if_neg (by omega), lt_.1]; done) | (exfalso; omega)), rfl, Ext0 hO⟩)
    · replace b_10 := b_10.resolve_right (fun h => c11 h.1)
      refine lv_iload hx hb dX6_lay_19 (lv_at hl 4 rfl) ?_
      refine q_iconst hx hb dX6_lay_21 ?_
      refine q_bipush hx hb dX6_lay_22 (by decide) ?_
      refine q_sS C0 lX6_41 (c_X6_isIn l D y L F xn 0 100 (by omega) (by omega) (by omega)) ⟨rfl, rfl⟩ rfl hP rfl hl rfl (Nat.le_of_ble_eq_true rfl) dX6_lay_24 ⟨Nat.zero_le _, Nat.zero_le _⟩ (fun r15 e_r15 => ?_)
      subst e_r15
      have b_16 := inR_d xn 0 100
      refine q_if_eq hx hb dX6_lay_27 (tgt := 34) (by decide) (by omega) (fun c17 => ?_) (fun c17 => ?_)
      · replace b_16 := b_16.resolve_left (fun h => absurd (h.1.symm.trans c17) (by decide))
        refine q_iconst hx hb dX6_lay_34 ?_
        refine q_vMi C0 lX6_63 (c_X6_isLet l D y L F _ O G μ (inR xb 0 2) 0 hC (by omega) (by omega)) ⟨rfl, rfl⟩ rfl hP hD hS hA hC.1.1 hC.1.2 rfl rfl rfl hl rfl (Nat.le_of_ble_eq_true rfl) dX6_lay_35 ⟨Nat.le_of_ble_eq_true rfl, Nat.le_of_ble_eq_true rfl⟩ (fun r18 H locs L19 F19 hP hD hS hz19 hp19 => ?_)
        obtain ⟨eL, hC, er, hO1⟩ := hp19
        subst eL
        replace er := (er.trans (okR_z _)).symm
        subst er
        have hO := hO.tr hO1
        refine q_if_ne hx hb dX6_lay_38 (tgt := 43) (by decide) (by omega) (fun c20 => absurd c20 (by omega)) (fun c20 => ?_)
        refine q_iconst hx hb dX6_lay_41 ?_
        exact q_retMi C0 hret rfl hlk dX6_lay_42 hP hD hS (⟨(by unfold jR_lay; rw [if_neg (by omega)]), O, G, MP_eq hC (by have lt_ := ltR_d (inR xb 0 2) 0; unfold jS_lay; rcases lt_ with lt_ | lt_ | lt_ <;> first | (rw [if_neg (by omega), lt_.1]; done) | (rw [if_pos (by omega), if_neg (by omega), lt_.1]; done) | (exfalso; omega)), rfl, Ext0 hO⟩)
      · replace b_16 := b_16.resolve_right (fun h => c17 h.1)
        refine q_iconst hx hb dX6_lay_30 ?_
        refine lv_goto (tgt := 35) hx hb dX6_lay_31 (by decide) ?_
        refine q_vMi C0 lX6_63 (c_X6_isLet l D y L F _ O G μ (inR xb 0 2) 1 hC (by omega) (by omega)) ⟨rfl, rfl⟩ rfl hP hD hS hA hC.1.1 hC.1.2 rfl rfl rfl hl rfl (Nat.le_of_ble_eq_true rfl) dX6_lay_35 ⟨Nat.le_of_ble_eq_true rfl, Nat.le_of_ble_eq_true rfl⟩ (fun r21 H locs L22 F22 hP hD hS hz22 hp22 => ?_)
        obtain ⟨eL, hC, er, hO1⟩ := hp22
        subst eL
        replace er := er.symm
        subst er
        have hO := hO.tr hO1
        have k_23 := okR_d (inR xb 0 2) 1
        refine q_if_ne hx hb dX6_lay_38 (tgt := 43) (by decide) (by omega) (fun c24 => ?_) (fun c24 => ?_)
        · replace k_23 := k_23.resolve_right (fun h => c24 h.1)
          refine q_iconst hx hb dX6_lay_43 ?_
          refine lv_istore (lv' := [(6, .int (iI 0)), (0, .ref ((ubg G))), (1, .int (iI xb)), (2, .int (iI xf)), (3, .int (iI xs)), (4, .int (iI xn)), (5, .int (iI xz))]) hx hb dX6_lay_44 hl (by decide) rfl (fun ls hl => ?_)
          refine q_iconst hx hb dX6_lay_46 ?_
          refine lv_istore (lv' := [(7, .int (iI 0)), (6, .int (iI 0)), (0, .ref ((ubg G))), (1, .int (iI xb)), (2, .int (iI xf)), (3, .int (iI xs)), (4, .int (iI xn)), (5, .int (iI xz))]) hx hb dX6_lay_47 hl (by decide) rfl (fun ls hl => ?_)
          have LP49 : ∀ (n_LP49 : Nat) (r : Int) (gv : Int → Int) (bv : Int) (a : Int) (Fv : Nat → va_E) (H : Heap) (locs : List Loc), (0 ≤ r ∧ r ≤ 100) → (va_P D vwCl (va_pl L Fv) H) → (va_D (AL L sz) (va_pl L Fv)) → (va_S (AL L sz) s.heap H locs) → (MP y L Fv O G (tM (tTh μ (ltR (inR xb 0 2) 1)) (vsh μ xb) gv bv)) → (OE O F Fv) → (laX μ (vsh μ xb) xf xs xn xz = itrP (laU (vwk μ) (vsh μ xb) (vod μ (vsh μ xb)) xf xs xz) r (xn - 1) (gv, bv, a)) → (xn - r).toNat = n_LP49 → ∀ ls : Array Slot, lv_has ls 8 [(0, .ref ((ubg G))), (1, .int (iI xb)), (2, .int (iI xf)), (3, .int (iI xs)), (4, .int (iI xn)), (5, .int (iI xz)), (6, .int (iI a)), (7, .int (iI r))] → W p l e ({ frames := 2, cells := 0, slots := 0, locals := 45 } : Room) s m [.ref ((ubg G)), .int (iI xb), .int (iI xf), .int (iI xs), .int (iI xn), .int (iI xz)].toArray below meth c H locs 0 0 (MQ below (cMi D (AL L sz) (fun r L1 F1 => r = jR_lay μ xb xf xs xn xz ∧ ∃ (O1 : Nat → Prop) (G1 : MG), MP y L1 F1 O1 G1 (jS_lay μ xb xf xs xn xz) ∧ ubg G1 = ubg G ∧ Ext O O1 L L1 F F1)) [.ref ((ubg G)), .int (iI xb), .int (iI xf), .int (iI xs), .int (iI xn), .int (iI xz)].toArray s 0 0 (AL L sz)) (F0 m 49 ls []) := by
            intro n_LP49
            induction n_LP49 using Nat.strongRecOn with
            | ind n_LP49 ih_LP49 =>
              intro r gv bv a Fv H locs hr hP hD hS hC hO hI hm_LP49 ls hl
              refine lv_iload hx hb dX6_lay_49 (lv_at hl 7 rfl) ?_
              refine lv_iload hx hb dX6_lay_51 (lv_at hl 4 rfl) ?_
              refine q_icmp_ge hx hb dX6_lay_53 (tgt := 96) (by decide) (by omega) (by omega) (fun c25 => ?_) (fun c25 => ?_)
              · refine lv_aload_n hx hb dX6_lay_96 rfl (lv_at hl 0 rfl) ?_
                refine lv_iload hx hb dX6_lay_97 (lv_at hl 6 rfl) ?_
                refine q_vMi C0 lX6_196 (c_X6_laid l D y L Fv _ O G (tM (tTh μ (ltR (inR xb 0 2) 1)) (vsh μ xb) gv bv) a hC) ⟨rfl, rfl⟩ rfl hP hD hS hA hC.1.1 hC.1.2 rfl rfl rfl hl rfl (Nat.le_of_ble_eq_true rfl) dX6_lay_99 ⟨Nat.le_of_ble_eq_true rfl, Nat.le_of_ble_eq_true rfl⟩ (fun r26 H locs L27 F27 hP hD hS hz27 hp27 => ?_)
                obtain ⟨eL, hC, er, hO1⟩ := hp27
                subst eL
                replace er : a = r26 := er.symm
                subst er
                have hO := hO.tr hO1
                exact q_retMi C0 hret rfl hlk dX6_lay_102 hP hD hS (⟨(by 
    have lt_ := ltR_d (inR xb 0 2) 1
    unfold jR_lay ; (try rw [show ltR (inR xb 0 2) 1 = 0 by omega]); (repeat (first | rw [if_pos (by omega)] | rw [if_neg (by omega)])); rw [hI, itrP_e (by omega)]
    all_goals (first | rfl | omega)), O, G, MP_eq hC (by 
    have lt_ := ltR_d (inR xb 0 2) 1
    unfold jS_lay tX; rw [show ltR (inR xb 0 2) 1 = 0 by omega]; (repeat (first | rw [if_pos (by omega)] | rw [if_neg (by omega)])); rw [hI, itrP_e (by omega)]
    all_goals rfl), rfl, Ext0 hO⟩)
              · have mb_ := mul99 (a := r) (b := xs) (by omega) (by omega)
                refine lv_iload hx hb dX6_lay_56 (lv_at hl 6 rfl) ?_
                refine lv_aload_n hx hb dX6_lay_58 rfl (lv_at hl 0 rfl) ?_
                refine lv_aload_n hx hb dX6_lay_59 rfl (lv_at hl 0 rfl) ?_
                refine q_get C0 iX6 hP hC.1.1 hC.1.2 rfl 1 (by decide) flX6_15 rfl (v := .ref ((uas G))) rfl dX6_lay_60 ?_
                refine lv_iload_n hx hb dX6_lay_63 rfl (lv_at hl 1 rfl) ?_
                refine q_aald C0 hP hC.2.2.1.1 hC.2.2.1.2 (t := 3) rfl (by omega) (by decide) (v := .ref ((urh G (vsh μ xb)))) rfl dX6_lay_64 ?_
                refine lv_iload_n hx hb dX6_lay_65 rfl (lv_at hl 2 rfl) ?_
                refine lv_iload hx hb dX6_lay_66 (lv_at hl 7 rfl) ?_
                refine lv_iload_n hx hb dX6_lay_68 rfl (lv_at hl 3 rfl) ?_
                refine q_imul hx hb dX6_lay_69 ?_
                refine q_iadd hx hb dX6_lay_70 ?_
                refine q_bipush hx hb dX6_lay_71 (by decide) ?_
                refine q_irem hx hb dX6_lay_73 (by omega) (by omega) ?_
                refine lv_iload hx hb dX6_lay_74 (lv_at hl 5 rfl) ?_
                refine q_if_eq hx hb dX6_lay_76 (tgt := 83) (by decide) (by omega) (fun c28 => ?_) (fun c28 => ?_)
                · refine q_iconst hx hb dX6_lay_83 ?_
                  refine q_vMi C0 lX6_103 (c_X6_set l D y L Fv _ O G (tM (tTh μ (ltR (inR xb 0 2) 1)) (vsh μ xb) gv bv) (vsh μ xb) ((xf + (r * xs)) % 100) (-1) hC (hW.2.1 xb) hW.2.2.2.1 (by omega) (by omega)) ⟨rfl, rfl⟩ rfl hP hD hS hA hC.1.1 hC.1.2 rfl rfl rfl hl rfl (Nat.le_of_ble_eq_true rfl) dX6_lay_84 ⟨Nat.le_of_ble_eq_true rfl, Nat.le_of_ble_eq_true rfl⟩ (fun r29 H locs L30 F30 hP hD hS hz30 hp30 => ?_)
                  obtain ⟨eL, hC, er, hO1⟩ := hp30
                  subst eL
                  rw [tM_st] at er
                  replace er : (seC gv (turn (vod μ (vsh μ xb)) ((xf + (r * xs)) % 100)) (-1)) = r29 := er.symm
                  subst er
                  have hO := hO.tr hO1
                  replace hC := MP_eq hC (tSe_tM _ _ _ _ _ _)
                  refine q_iadd hx hb dX6_lay_87 ?_
                  refine lv_istore (lv' := [(6, .int (iI ((a + (seC gv (turn (vod μ (vsh μ xb)) ((xf + (r * xs)) % 100)) (-1)))))), (0, .ref ((ubg G))), (1, .int (iI xb)), (2, .int (iI xf)), (3, .int (iI xs)), (4, .int (iI xn)), (5, .int (iI xz)), (7, .int (iI r))]) hx hb dX6_lay_88 hl (by decide) rfl (fun ls hl => ?_)
                  refine q_iinc (x := r) (n := 1) (lv' := [(7, .int (iI ((r + 1)))), (6, .int (iI ((a + (seC gv (turn (vod μ (vsh μ xb)) ((xf + (r * xs)) % 100)) (-1)))))), (0, .ref ((ubg G))), (1, .int (iI xb)), (2, .int (iI xf)), (3, .int (iI xs)), (4, .int (iI xn)), (5, .int (iI xz))]) hx hb dX6_lay_90 hl (k := 7) rfl (by decide) rfl (fun ls hl => ?_)
                  refine lv_goto (tgt := 49) hx hb dX6_lay_93 (by decide) ?_
                  exact ih_LP49 _ (by omega) (r + 1) (iu gv (turn (vod μ (vsh μ xb)) ((xf + (r * xs)) % 100)) (-1)) (seB (vwk μ) (vsh μ xb) gv (turn (vod μ (vsh μ xb)) ((xf + (r * xs)) % 100)) (-1) bv) (a + (seC gv (turn (vod μ (vsh μ xb)) ((xf + (r * xs)) % 100)) (-1))) F30 _ _ (by omega) (hP) (hD) (hS) (hC) (hO) (by rw [hI, itrP_s (by omega)]; unfold laU; first | (rw [if_pos (by omega)]; done) | (rw [if_neg (by omega)]; done) | (rw [if_pos (by omega)]; rfl) | (rw [if_neg (by omega)]; rfl) | rfl) rfl ls (lv_sub hl [2, 3, 4, 5, 6, 7, 1, 0] rfl)
                · refine q_iconst hx hb dX6_lay_79 ?_
                  refine lv_goto (tgt := 84) hx hb dX6_lay_80 (by decide) ?_
                  refine q_vMi C0 lX6_103 (c_X6_set l D y L Fv _ O G (tM (tTh μ (ltR (inR xb 0 2) 1)) (vsh μ xb) gv bv) (vsh μ xb) ((xf + (r * xs)) % 100) 0 hC (hW.2.1 xb) hW.2.2.2.1 (by omega) (by omega)) ⟨rfl, rfl⟩ rfl hP hD hS hA hC.1.1 hC.1.2 rfl rfl rfl hl rfl (Nat.le_of_ble_eq_true rfl) dX6_lay_84 ⟨Nat.le_of_ble_eq_true rfl, Nat.le_of_ble_eq_true rfl⟩ (fun r31 H locs L32 F32 hP hD hS hz32 hp32 => ?_)
                  obtain ⟨eL, hC, er, hO1⟩ := hp32
                  subst eL
                  rw [tM_st] at er
                  replace er : (seC gv (turn (vod μ (vsh μ xb)) ((xf + (r * xs)) % 100)) 0) = r31 := er.symm
                  subst er
                  have hO := hO.tr hO1
                  replace hC := MP_eq hC (tSe_tM _ _ _ _ _ _)
                  refine q_iadd hx hb dX6_lay_87 ?_
                  refine lv_istore (lv' := [(6, .int (iI ((a + (seC gv (turn (vod μ (vsh μ xb)) ((xf + (r * xs)) % 100)) 0))))), (0, .ref ((ubg G))), (1, .int (iI xb)), (2, .int (iI xf)), (3, .int (iI xs)), (4, .int (iI xn)), (5, .int (iI xz)), (7, .int (iI r))]) hx hb dX6_lay_88 hl (by decide) rfl (fun ls hl => ?_)
                  refine q_iinc (x := r) (n := 1) (lv' := [(7, .int (iI ((r + 1)))), (6, .int (iI ((a + (seC gv (turn (vod μ (vsh μ xb)) ((xf + (r * xs)) % 100)) 0))))), (0, .ref ((ubg G))), (1, .int (iI xb)), (2, .int (iI xf)), (3, .int (iI xs)), (4, .int (iI xn)), (5, .int (iI xz))]) hx hb dX6_lay_90 hl (k := 7) rfl (by decide) rfl (fun ls hl => ?_)
                  refine lv_goto (tgt := 49) hx hb dX6_lay_93 (by decide) ?_
                  exact ih_LP49 _ (by omega) (r + 1) (iu gv (turn (vod μ (vsh μ xb)) ((xf + (r * xs)) % 100)) 0) (seB (vwk μ) (vsh μ xb) gv (turn (vod μ (vsh μ xb)) ((xf + (r * xs)) % 100)) 0 bv) (a + (seC gv (turn (vod μ (vsh μ xb)) ((xf + (r * xs)) % 100)) 0)) F32 _ _ (by omega) (hP) (hD) (hS) (hC) (hO) (by rw [hI, itrP_s (by omega)]; unfold laU; first | (rw [if_pos (by omega)]; done) | (rw [if_neg (by omega)]; done) | (rw [if_pos (by omega)]; rfl) | (rw [if_neg (by omega)]; rfl) | rfl) rfl ls (lv_sub hl [2, 3, 4, 5, 6, 7, 1, 0] rfl)
          exact LP49 _ 0 (vst μ (vsh μ xb)) (vbr μ) 0 F22 _ _ (by omega) (hP) (hD) (hS) (MP_eq hC (tM_0 _ _)) (hO) (rfl) rfl ls (lv_sub hl [2, 3, 4, 5, 6, 7, 1, 0] rfl)
        · replace k_23 := k_23.resolve_left (fun h => absurd (h.1.symm.trans c24) (by decide))
          refine q_iconst hx hb dX6_lay_41 ?_
          exact q_retMi C0 hret rfl hlk dX6_lay_42 hP hD hS (⟨(by unfold jR_lay; rw [if_neg (by omega)]), O, G, MP_eq hC (by have lt_ := ltR_d (inR xb 0 2) 1; unfold jS_lay; rcases lt_ with lt_ | lt_ | lt_ <;> first | (rw [if_neg (by omega), lt_.1]; done) | (rw [if_pos (by omega), if_neg (by omega), lt_.1]; done) | (exfalso; omega)), rfl, Ext0 hO⟩)
