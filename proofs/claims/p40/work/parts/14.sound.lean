theorem sumF_01 (u : Int → Int) (hu : ∀ r, 0 ≤ u r ∧ u r ≤ 1) : ∀ (n : Nat) (a : Int), 0 ≤ sumF u a n ∧ sumF u a n ≤ n := by
  intro n
  induction n with
  | zero => intro a; unfold sumF; omega
  | succ n ih =>
    intro a
    unfold sumF
    have := ih (a + 1)
    have := hu a
    omega
theorem cntP_b (f : Int → Int) {lo hi : Int} (h1 : -900 ≤ lo) (h2 : hi ≤ 900) : 0 ≤ cntP f lo hi ∧ cntP f lo hi ≤ 1801 := by
  have := sumF_01 (isT f) (fun r => isT_b f r) (hi + 1 - lo).toNat lo
  unfold cntP sumP
  omega
/-- isRowSound -/
def rsnd (o k : Int) (f : Int → Int) : Int := if inOrd o f 0 99 k = 0 then 0 else if bwOrd o f k = 0 then 0 else if nbP o f 0 (-1) = 0 then 0 else sameR o o f (addS o o f 0 99 (0, 0, emp)).2.2
theorem rsnd_b (o k : Int) (f : Int → Int) : 0 ≤ rsnd o k f ∧ rsnd o k f ≤ 1 := by
  have := sameR_b o o f (addS o o f 0 99 (0, 0, emp)).2.2
  unfold rsnd
  (repeat' split) <;> omega
/-- isRowSound of the row i -/
def rS (σ : CS) (i : Nat) : Int := rsnd (zod σ i) (zst σ i).1 (zst σ i).2.2
theorem rS_b (σ : CS) (i : Nat) : 0 ≤ rS σ i ∧ rS σ i ≤ 1 := rsnd_b _ _ _
/-- isViewSound -/
def vS (σ : CS) (v : Int) : Int := if cntP (zst σ (zvw σ v)).2.2 (zvl σ v) (zvh σ v) ≤ (zst σ (zvw σ v)).1 then inOrd (zod σ (zvw σ v)) (zst σ (zvw σ v)).2.2 (zvl σ v) (zvh σ v) (cntP (zst σ (zvw σ v)).2.2 (zvl σ v) (zvh σ v)) else 0
theorem vS_b (σ : CS) (v : Int) : 0 ≤ vS σ v ∧ vS σ v ≤ 1 := by
  have := inOrd_b (zod σ (zvw σ v)) (zst σ (zvw σ v)).2.2 (zvl σ v) (zvh σ v) (cntP (zst σ (zvw σ v)).2.2 (zvl σ v) (zvh σ v))
  unfold vS
  split <;> omega
def kR_isSound (σ : CS) : Int := if rS σ (zbk σ 0) = 0 then 0 else if rS σ (zbk σ 1) = 0 then 0 else if rS σ (zbk σ 2) = 0 then 0 else if rS σ (zbk σ 3) = 0 then 0 else if rS σ (zsh σ 0) = 0 then 0 else if rS σ (zsh σ 1) = 0 then 0 else if rS σ (zsh σ 2) = 0 then 0 else if vS σ 0 = 0 then 0 else if vS σ 1 = 0 then 0 else 1
theorem kR_isSound_b (σ : CS) : 0 ≤ kR_isSound σ ∧ kR_isSound σ ≤ 1 := by
  unfold kR_isSound
  (repeat' split) <;> omega
def mxd (s : Int64) (n : Int) : Int64 := s * 31 + (iI n).toInt64
/-- u r of every rank r that is there -/
def mxF (u f : Int → Int) : Nat → Int → Int64 → Int64
  | 0, _, s => s
  | n + 1, r, s => if isT f r ≠ 0 then mxF u f n (r + 1) (mxd s (u r)) else mxF u f n (r + 1) s
def mxP (u f : Int → Int) (r : Int) (s : Int64) : Int64 := mxF u f (100 - r).toNat r s
theorem mxP_u {u f : Int → Int} {r : Int} {s : Int64} (h : r < 100) : mxP u f r s = if isT f r ≠ 0 then mxP u f (r + 1) (mxd s (u r)) else mxP u f (r + 1) s := by
  unfold mxP
  rw [show (100 - r).toNat = (100 - (r + 1)).toNat + 1 by omega, mxF]
theorem mxP_e {u f : Int → Int} {r : Int} {s : Int64} (h : 100 ≤ r) : mxP u f r s = s := by
  unfold mxP
  rw [show (100 - r).toNat = 0 by omega, mxF]
def dgB (o k : Int) (f : Int → Int) (s : Int64) : Int64 := mxP (pairR o f) f 0 (mxd (mxd (mxd s (bfact o k f 0)) (bfact o k f 1)) (bfact o k f 2))
def dgS (o k : Int) (f : Int → Int) (s : Int64) : Int64 := mxP (keyR o) f 0 (mxd (mxd (mxd s (sfact o k f 0)) (sfact o k f 1)) (sfact o k f 2))
def dgV (σ : CS) (v : Int) (s : Int64) : Int64 := mxd (mxd (mxd (mxd s (cntP (zst σ (zvw σ v)).2.2 (zvl σ v) (zvh σ v))) (keyR (zod σ (zvw σ v)) (endP (zst σ (zvw σ v)).2.2 (zvl σ v) (zvh σ v) 0))) (keyR (zod σ (zvw σ v)) (endP (zst σ (zvw σ v)).2.2 (zvl σ v) (zvh σ v) 1))) (worP (zst σ (zvw σ v)).2.2 (zvl σ v) (zvh σ v))
def dgBk (σ : CS) (i : Nat) (s : Int64) : Int64 := dgB (zod σ i) (zst σ i).1 (zst σ i).2.2 s
def dgSh (σ : CS) (i : Nat) (s : Int64) : Int64 := dgS (zod σ i) (zst σ i).1 (zst σ i).2.2 s
def dgA (σ : CS) (a b : Int) : Int64 := mxd (mxd (mxd (mxd (dgSh σ (zsh σ 2) (dgSh σ (zsh σ 1) (dgSh σ (zsh σ 0) (mxd (mxd (dgV σ 1 (dgV σ 0 (dgBk σ (zbk σ 3) (dgBk σ (zbk σ 2) (dgBk σ (zbk σ 1) (dgBk σ (zbk σ 0) 17706)))))) a) b)))) (hfact σ 0)) (hfact σ 1)) (hfact σ 2)) (hfact σ 3)
def kR_digest0 (σ : CS) : Int64 := mxd (dgA σ 0 (-1)) (kR_isSound σ)
def kR_digest1 (σ : CS) (j : Nat) : Int64 := mxd (dgA σ (goI σ j) (if zwt σ = 0 then -1 else keyR (zod σ j) (zwl σ))) (kR_isSound σ)
/-- a picture stays where cells are made -/
theorem CP_mono {y : Nat → ClassId} {L L1 : List Nat} {F F1 : Nat → va_E} {O : Nat → Prop} {G : CG} {σ : CS} (h : CP y L F O G σ) (hL : ∀ a ∈ L, a ∈ L1) (hf : ∀ a ∈ L, F1 a = F a) : CP y L1 F1 O G σ := by
  obtain ⟨h1, h2, h3, h4, h5, h6, h7, h8⟩ := h
  exact ⟨⟨hL _ h1.1, (hf _ h1.1).trans h1.2⟩, ⟨hL _ h2.1, (hf _ h2.1).trans h2.2⟩, ⟨hL _ h3.1, (hf _ h3.1).trans h3.2⟩, ⟨hL _ h4.1, (hf _ h4.1).trans h4.2⟩, fun i a b => ⟨hL _ (h5 i a b).1, (hf _ (h5 i a b).1).trans (h5 i a b).2⟩, ⟨hL _ h6.1, (hf _ h6.1).trans h6.2⟩, fun i hi => Rw_mono (h7 i hi) hL hf, h8⟩
set_option maxHeartbeats 800000 in
set_option maxRecDepth 100000 in
theorem c_X3_isToldInOrder (l : Launch) (D : va_G) (y : Nat → ClassId) (L : List Nat) (F : Nat → va_E) (h : Nat) (w : Nat) (o : Int) (k : Int) (g : Int) (f : Int → Int) (lo : Int) (hi : Int) (n : Int) (hR : Rw y L F h w o k g f) (hlo : -900 ≤ lo ∧ lo ≤ 900) (hhi : -900 ≤ hi ∧ hi ≤ 900) (hm : -2147483648 ≤ n ∧ n ≤ 2147483647) : Met l yX3_isToldInOrder (.code yX3_isToldInOrder cX3_isToldInOrder 7 (some .boolean) :: Tt) ({ frames := 3, cells := 0, slots := 0, locals := 69 }) (PcR D y L F [.ref h, .int (iI lo), .int (iI hi), .int (iI n)]) (cS (fun r => r = inOrd o f lo hi n)) 0 0 (fun _ => False) := by
  have hR0 := hR
  obtain ⟨ha, hF, hw, hFw, ho, hfb⟩ := hR0
  refine q_ofR (lv := [(0, .ref h), (1, .int (iI lo)), (2, .int (iI hi)), (3, .int (iI n))]) (by decide) (Nat.le_of_ble_eq_true rfl) rfl (fun p e s m below meth c C0 hret hlk hP ls hl => ?_)
  have hx := C0.1.1
  have hb := C0.1.2.1
  have hts := C0.1.2.2.2.2
  refine lv_aload_n hx hb dX3_isToldInOrder_0 rfl (lv_at hl 0 rfl) ?_
  refine lv_iload_n hx hb dX3_isToldInOrder_1 rfl (lv_at hl 1 rfl) ?_
  refine lv_iload_n hx hb dX3_isToldInOrder_2 rfl (lv_at hl 2 rfl) ?_
  refine q_iconst hx hb dX3_isToldInOrder_3 ?_
  refine q_vS C0 lX3_135 (c_X0_endOfPart l D y L F h w o k g f lo hi 0 hR (by omega) (by omega) (by omega)) ⟨rfl, rfl⟩ rfl hP ha hF rfl rfl rfl hl rfl (Nat.le_of_ble_eq_true rfl) dX3_isToldInOrder_4 ⟨Nat.zero_le _, Nat.zero_le _⟩ (fun r1 e_r1 => ?_)
  subst e_r1
  have b_2 := endP_r f lo hi 0
  refine lv_istore (lv' := [(4, .int (iI ((endP f lo hi 0)))), (0, .ref h), (1, .int (iI lo)), (2, .int (iI hi)), (3, .int (iI n))]) hx hb dX3_isToldInOrder_7 hl (by decide) rfl (fun ls hl => ?_)
  refine q_iconst hx hb dX3_isToldInOrder_9 ?_
  refine lv_istore (lv' := [(5, .int (iI 0)), (4, .int (iI ((endP f lo hi 0)))), (0, .ref h), (1, .int (iI lo)), (2, .int (iI hi)), (3, .int (iI n))]) hx hb dX3_isToldInOrder_10 hl (by decide) rfl (fun ls hl => ?_)
  have LP12 : ∀ (n_LP12 : Nat) (r : Int) (t : Int), (-1 ≤ r ∧ r ≤ 99) → (0 ≤ t ∧ t ≤ 100) → (inOrd o f lo hi n = tioP (ioNx o f lo hi) (ioBad o f lo hi) n r t) → (100 - t).toNat = n_LP12 → ∀ ls : Array Slot, lv_has ls 7 [(0, .ref h), (1, .int (iI lo)), (2, .int (iI hi)), (3, .int (iI n)), (4, .int (iI r)), (5, .int (iI t))] → W p l e ({ frames := 3, cells := 0, slots := 0, locals := 69 } : Room) s m [.ref h, .int (iI lo), .int (iI hi), .int (iI n)].toArray below meth c s.heap [] 0 0 (MQ below (cS (fun r => r = inOrd o f lo hi n)) [.ref h, .int (iI lo), .int (iI hi), .int (iI n)].toArray s 0 0 (fun _ => False)) (F0 m 12 ls []) := by
    intro n_LP12
    induction n_LP12 using Nat.strongRecOn with
    | ind n_LP12 ih_LP12 =>
      intro r t hr ht hI hm_LP12 ls hl
      refine lv_iload hx hb dX3_isToldInOrder_12 (lv_at hl 4 rfl) ?_
      refine q_iconst hx hb dX3_isToldInOrder_14 ?_
      refine q_icmp_eq hx hb dX3_isToldInOrder_15 (tgt := 86) (by decide) (by omega) (by omega) (fun c3 => ?_) (fun c3 => ?_)
      · refine lv_iload hx hb dX3_isToldInOrder_86 (lv_at hl 4 rfl) ?_
        refine q_iconst hx hb dX3_isToldInOrder_88 ?_
        refine q_icmp_ne hx hb dX3_isToldInOrder_89 (tgt := 102) (by decide) (by omega) (by omega) (fun c4 => ?_) (fun c4 => ?_)
        · refine q_iconst hx hb dX3_isToldInOrder_102 ?_
          exact q_iretS C0 hret hlk dX3_isToldInOrder_103 (by decide) (by first | (rw [hI, show r = -1 by omega, tioP_1, if_pos (by omega)]; done) | (rw [hI, show r = -1 by omega, tioP_1, if_neg (by omega)]; done) | (rw [hI, tioP_e (by omega), if_neg (by omega)]; done) | (rw [hI, tioP_s (by omega), if_neg (by omega), if_pos (by unfold ioBad ioNx; (repeat' split) <;> first | omega | (exfalso; omega))]))
        · refine lv_iload hx hb dX3_isToldInOrder_92 (lv_at hl 5 rfl) ?_
          refine lv_iload_n hx hb dX3_isToldInOrder_94 rfl (lv_at hl 3 rfl) ?_
          refine q_icmp_ne hx hb dX3_isToldInOrder_95 (tgt := 102) (by decide) (by omega) (by omega) (fun c5 => ?_) (fun c5 => ?_)
          · refine q_iconst hx hb dX3_isToldInOrder_102 ?_
            exact q_iretS C0 hret hlk dX3_isToldInOrder_103 (by decide) (by first | (rw [hI, show r = -1 by omega, tioP_1, if_pos (by omega)]; done) | (rw [hI, show r = -1 by omega, tioP_1, if_neg (by omega)]; done) | (rw [hI, tioP_e (by omega), if_neg (by omega)]; done) | (rw [hI, tioP_s (by omega), if_neg (by omega), if_pos (by unfold ioBad ioNx; (repeat' split) <;> first | omega | (exfalso; omega))]))
          · refine q_iconst hx hb dX3_isToldInOrder_98 ?_
            refine lv_goto (tgt := 103) hx hb dX3_isToldInOrder_99 (by decide) ?_
            exact q_iretS C0 hret hlk dX3_isToldInOrder_103 (by decide) (by first | (rw [hI, show r = -1 by omega, tioP_1, if_pos (by omega)]; done) | (rw [hI, show r = -1 by omega, tioP_1, if_neg (by omega)]; done) | (rw [hI, tioP_e (by omega), if_neg (by omega)]; done) | (rw [hI, tioP_s (by omega), if_neg (by omega), if_pos (by unfold ioBad ioNx; (repeat' split) <;> first | omega | (exfalso; omega))]))
      · refine lv_iload hx hb dX3_isToldInOrder_18 (lv_at hl 5 rfl) ?_
        refine q_bipush hx hb dX3_isToldInOrder_20 (by decide) ?_
        refine q_icmp_ge hx hb dX3_isToldInOrder_22 (tgt := 86) (by decide) (by omega) (by omega) (fun c6 => ?_) (fun c6 => ?_)
        · refine lv_iload hx hb dX3_isToldInOrder_86 (lv_at hl 4 rfl) ?_
          refine q_iconst hx hb dX3_isToldInOrder_88 ?_
          refine q_icmp_ne hx hb dX3_isToldInOrder_89 (tgt := 102) (by decide) (by omega) (by omega) (fun c7 => ?_) (fun c7 => ?_)
          · refine q_iconst hx hb dX3_isToldInOrder_102 ?_
            exact q_iretS C0 hret hlk dX3_isToldInOrder_103 (by decide) (by first | (rw [hI, show r = -1 by omega, tioP_1, if_pos (by omega)]; done) | (rw [hI, show r = -1 by omega, tioP_1, if_neg (by omega)]; done) | (rw [hI, tioP_e (by omega), if_neg (by omega)]; done) | (rw [hI, tioP_s (by omega), if_neg (by omega), if_pos (by unfold ioBad ioNx; (repeat' split) <;> first | omega | (exfalso; omega))]))
          · refine lv_iload hx hb dX3_isToldInOrder_92 (lv_at hl 5 rfl) ?_
            refine lv_iload_n hx hb dX3_isToldInOrder_94 rfl (lv_at hl 3 rfl) ?_
            refine q_icmp_ne hx hb dX3_isToldInOrder_95 (tgt := 102) (by decide) (by omega) (by omega) (fun c8 => ?_) (fun c8 => ?_)
            · refine q_iconst hx hb dX3_isToldInOrder_102 ?_
              exact q_iretS C0 hret hlk dX3_isToldInOrder_103 (by decide) (by first | (rw [hI, show r = -1 by omega, tioP_1, if_pos (by omega)]; done) | (rw [hI, show r = -1 by omega, tioP_1, if_neg (by omega)]; done) | (rw [hI, tioP_e (by omega), if_neg (by omega)]; done) | (rw [hI, tioP_s (by omega), if_neg (by omega), if_pos (by unfold ioBad ioNx; (repeat' split) <;> first | omega | (exfalso; omega))]))
            · refine q_iconst hx hb dX3_isToldInOrder_98 ?_
              refine lv_goto (tgt := 103) hx hb dX3_isToldInOrder_99 (by decide) ?_
              exact q_iretS C0 hret hlk dX3_isToldInOrder_103 (by decide) (by first | (rw [hI, show r = -1 by omega, tioP_1, if_pos (by omega)]; done) | (rw [hI, show r = -1 by omega, tioP_1, if_neg (by omega)]; done) | (rw [hI, tioP_e (by omega), if_neg (by omega)]; done) | (rw [hI, tioP_s (by omega), if_neg (by omega), if_pos (by unfold ioBad ioNx; (repeat' split) <;> first | omega | (exfalso; omega))]))
        · refine q_iinc (x := t) (n := 1) (lv' := [(5, .int (iI ((t + 1)))), (0, .ref h), (1, .int (iI lo)), (2, .int (iI hi)), (3, .int (iI n)), (4, .int (iI r))]) hx hb dX3_isToldInOrder_25 hl (k := 5) rfl (by decide) rfl (fun ls hl => ?_)
          refine lv_aload_n hx hb dX3_isToldInOrder_28 rfl (lv_at hl 1 rfl) ?_
          refine lv_iload_n hx hb dX3_isToldInOrder_29 rfl (lv_at hl 2 rfl) ?_
          refine lv_iload_n hx hb dX3_isToldInOrder_30 rfl (lv_at hl 3 rfl) ?_
          refine lv_aload_n hx hb dX3_isToldInOrder_31 rfl (lv_at hl 1 rfl) ?_
          refine lv_iload hx hb dX3_isToldInOrder_32 (lv_at hl 5 rfl) ?_
          refine q_vS C0 lX3_132 (c_X0_keyOf l D y L F h w o k g f r hR (by omega)) ⟨rfl, rfl⟩ rfl hP ha hF rfl rfl rfl hl rfl (Nat.le_of_ble_eq_true rfl) dX3_isToldInOrder_34 ⟨Nat.zero_le _, Nat.zero_le _⟩ (fun r9 e_r9 => ?_)
          subst e_r9
          have b_10 := @keyR_b o r (by omega)
          refine q_iconst hx hb dX3_isToldInOrder_37 ?_
          refine q_vS C0 lX3_126 (c_X0_nearInPart l D y L F h w o k g f lo hi (keyR o r) 3 hR (by omega) (by omega) (by omega) (by omega)) ⟨rfl, rfl⟩ rfl hP ha hF rfl rfl rfl hl rfl (Nat.le_of_ble_eq_true rfl) dX3_isToldInOrder_38 ⟨Nat.zero_le _, Nat.zero_le _⟩ (fun r11 e_r11 => ?_)
          subst e_r11
          have b_12 := nearP_r o f lo hi (keyR o r) 3
          refine lv_istore (lv' := [(6, .int (iI ((nearP o f lo hi (keyR o r) 3)))), (5, .int (iI ((t + 1)))), (0, .ref h), (1, .int (iI lo)), (2, .int (iI hi)), (3, .int (iI n)), (4, .int (iI r))]) hx hb dX3_isToldInOrder_41 hl (by decide) rfl (fun ls hl => ?_)
          refine lv_aload_n hx hb dX3_isToldInOrder_43 rfl (lv_at hl 2 rfl) ?_
          refine lv_iload hx hb dX3_isToldInOrder_44 (lv_at hl 6 rfl) ?_
          refine q_vS C0 lX3_119 (c_X0_isThere l D y L F h w o k g f r hR (by omega)) ⟨rfl, rfl⟩ rfl hP ha hF rfl rfl rfl hl rfl (Nat.le_of_ble_eq_true rfl) dX3_isToldInOrder_46 ⟨Nat.zero_le _, Nat.zero_le _⟩ (fun r13 e_r13 => ?_)
          subst e_r13
          have b_14 := isT_b f r
          refine q_if_eq hx hb dX3_isToldInOrder_49 (tgt := 77) (by decide) (by omega) (fun c15 => ?_) (fun c15 => ?_)
          · refine q_iconst hx hb dX3_isToldInOrder_77 ?_
            exact q_iretS C0 hret hlk dX3_isToldInOrder_78 (by decide) (by first | (rw [hI, show r = -1 by omega, tioP_1, if_pos (by omega)]; done) | (rw [hI, show r = -1 by omega, tioP_1, if_neg (by omega)]; done) | (rw [hI, tioP_e (by omega), if_neg (by omega)]; done) | (rw [hI, tioP_s (by omega), if_neg (by omega), if_pos (by unfold ioBad ioNx; (repeat' split) <;> first | omega | (exfalso; omega))]))
          · refine lv_iload hx hb dX3_isToldInOrder_52 (lv_at hl 0 rfl) ?_
            refine q_iconst hx hb dX3_isToldInOrder_54 ?_
            refine q_icmp_eq hx hb dX3_isToldInOrder_55 (tgt := 79) (by decide) (by omega) (by omega) (fun c16 => ?_) (fun c16 => ?_)
            · refine lv_iload hx hb dX3_isToldInOrder_79 (lv_at hl 0 rfl) ?_
              refine lv_istore (lv' := [(4, .int (iI ((nearP o f lo hi (keyR o r) 3)))), (6, .int (iI ((nearP o f lo hi (keyR o r) 3)))), (5, .int (iI ((t + 1)))), (0, .ref h), (1, .int (iI lo)), (2, .int (iI hi)), (3, .int (iI n))]) hx hb dX3_isToldInOrder_81 hl (by decide) rfl (fun ls hl => ?_)
              refine lv_goto (tgt := 12) hx hb dX3_isToldInOrder_83 (by decide) ?_
              exact ih_LP12 _ (by omega) (nearP o f lo hi (keyR o r) 3) (t + 1) (by omega) (by omega) (by rw [hI, tioP_s (by omega), if_neg (by omega), if_neg (by unfold ioBad ioNx; (repeat' split) <;> first | omega | (exfalso; omega))]; rfl) rfl ls (lv_sub hl [3, 4, 5, 6, 0, 2] rfl)
            · refine lv_aload_n hx hb dX3_isToldInOrder_58 rfl (lv_at hl 2 rfl) ?_
              refine lv_aload_n hx hb dX3_isToldInOrder_59 rfl (lv_at hl 2 rfl) ?_
              refine lv_iload hx hb dX3_isToldInOrder_60 (lv_at hl 6 rfl) ?_
              refine q_vS C0 lX3_132 (c_X0_keyOf l D y L F h w o k g f r hR (by omega)) ⟨rfl, rfl⟩ rfl hP ha hF rfl rfl rfl hl rfl (Nat.le_of_ble_eq_true rfl) dX3_isToldInOrder_62 ⟨Nat.zero_le _, Nat.zero_le _⟩ (fun r17 e_r17 => ?_)
              subst e_r17
              have b_18 := @keyR_b o r (by omega)
              refine lv_aload_n hx hb dX3_isToldInOrder_65 rfl (lv_at hl 2 rfl) ?_
              refine lv_iload hx hb dX3_isToldInOrder_66 (lv_at hl 0 rfl) ?_
              refine q_vS C0 lX3_132 (c_X0_keyOf l D y L F h w o k g f (nearP o f lo hi (keyR o r) 3) hR (by omega)) ⟨rfl, rfl⟩ rfl hP ha hF rfl rfl rfl hl rfl (Nat.le_of_ble_eq_true rfl) dX3_isToldInOrder_68 ⟨Nat.zero_le _, Nat.zero_le _⟩ (fun r19 e_r19 => ?_)
              subst e_r19
              have b_20 := @keyR_b o (nearP o f lo hi (keyR o r) 3) (by omega)
              refine q_vS C0 lX3_316 (c_X0_isAhead l D y L F h w o k g f (keyR o r) (keyR o (nearP o f lo hi (keyR o r) 3)) hR (by omega) (by omega)) ⟨rfl, rfl⟩ rfl hP ha hF rfl rfl rfl hl rfl (Nat.le_of_ble_eq_true rfl) dX3_isToldInOrder_71 ⟨Nat.zero_le _, Nat.zero_le _⟩ (fun r21 e_r21 => ?_)
              subst e_r21
              have b_22 := ahd_b o (keyR o r) (keyR o (nearP o f lo hi (keyR o r) 3))
              refine q_if_ne hx hb dX3_isToldInOrder_74 (tgt := 79) (by decide) (by omega) (fun c23 => ?_) (fun c23 => ?_)
              · refine lv_iload hx hb dX3_isToldInOrder_79 (lv_at hl 0 rfl) ?_
                refine lv_istore (lv' := [(4, .int (iI ((nearP o f lo hi (keyR o r) 3)))), (6, .int (iI ((nearP o f lo hi (keyR o r) 3)))), (5, .int (iI ((t + 1)))), (0, .ref h), (1, .int (iI lo)), (2, .int (iI hi)), (3, .int (iI n))]) hx hb dX3_isToldInOrder_81 hl (by decide) rfl (fun ls hl => ?_)
                refine lv_goto (tgt := 12) hx hb dX3_isToldInOrder_83 (by decide) ?_
                exact ih_LP12 _ (by omega) (nearP o f lo hi (keyR o r) 3) (t + 1) (by omega) (by omega) (by rw [hI, tioP_s (by omega), if_neg (by omega), if_neg (by unfold ioBad ioNx; (repeat' split) <;> first | omega | (exfalso; omega))]; rfl) rfl ls (lv_sub hl [3, 4, 5, 6, 0, 2] rfl)
              · refine q_iconst hx hb dX3_isToldInOrder_77 ?_
                exact q_iretS C0 hret hlk dX3_isToldInOrder_78 (by decide) (by first | (rw [hI, show r = -1 by omega, tioP_1, if_pos (by omega)]; done) | (rw [hI, show r = -1 by omega, tioP_1, if_neg (by omega)]; done) | (rw [hI, tioP_e (by omega), if_neg (by omega)]; done) | (rw [hI, tioP_s (by omega), if_neg (by omega), if_pos (by unfold ioBad ioNx; (repeat' split) <;> first | omega | (exfalso; omega))]))
  exact LP12 _ (endP f lo hi 0) 0 (by omega) (by omega) (rfl) rfl ls (lv_sub hl [2, 3, 4, 5, 1, 0] rfl)
set_option maxHeartbeats 800000 in
set_option maxRecDepth 100000 in
theorem c_X3_isToldBackwards (l : Launch) (D : va_G) (y : Nat → ClassId) (L : List Nat) (F : Nat → va_E) (h : Nat) (w : Nat) (o : Int) (k : Int) (g : Int) (f : Int → Int) (hR : Rw y L F h w o k g f) (hm : -2147483648 ≤ k ∧ k ≤ 2147483647) : Met l yX3_isToldBackwards (.code yX3_isToldBackwards cX3_isToldBackwards 4 (some .boolean) :: Tt) ({ frames := 3, cells := 0, slots := 0, locals := 69 }) (PcR D y L F [.ref h]) (cS (fun r => r = bwOrd o f k)) 0 0 (fun _ => False) := by
  have hR0 := hR
  obtain ⟨ha, hF, hw, hFw, ho, hfb⟩ := hR0
  refine q_ofR (lv := [(0, .ref h)]) (by decide) (Nat.le_of_ble_eq_true rfl) rfl (fun p e s m below meth c C0 hret hlk hP ls hl => ?_)
  have hx := C0.1.1
  have hb := C0.1.2.1
  have hts := C0.1.2.2.2.2
  refine lv_aload_n hx hb dX3_isToldBackwards_0 rfl (lv_at hl 0 rfl) ?_
  refine q_iconst hx hb dX3_isToldBackwards_1 ?_
  refine q_bipush hx hb dX3_isToldBackwards_2 (by decide) ?_
  refine q_iconst hx hb dX3_isToldBackwards_4 ?_
  refine q_vS C0 lX3_135 (c_X0_endOfPart l D y L F h w o k g f 0 99 1 hR (by omega) (by omega) (by omega)) ⟨rfl, rfl⟩ rfl hP ha hF rfl rfl rfl hl rfl (Nat.le_of_ble_eq_true rfl) dX3_isToldBackwards_5 ⟨Nat.zero_le _, Nat.zero_le _⟩ (fun r1 e_r1 => ?_)
  subst e_r1
  have b_2 := endP_r f 0 99 1
  refine lv_istore_n (lv' := [(1, .int (iI ((endP f 0 99 1)))), (0, .ref h)]) hx hb dX3_isToldBackwards_8 rfl hl (by decide) rfl (fun ls hl => ?_)
  refine q_iconst hx hb dX3_isToldBackwards_9 ?_
  refine lv_istore_n (lv' := [(2, .int (iI 0)), (1, .int (iI ((endP f 0 99 1)))), (0, .ref h)]) hx hb dX3_isToldBackwards_10 rfl hl (by decide) rfl (fun ls hl => ?_)
  have LP11 : ∀ (n_LP11 : Nat) (r : Int) (t : Int), (-1 ≤ r ∧ r ≤ 99) → (0 ≤ t ∧ t ≤ 100) → (bwOrd o f k = tioP (bwNx o f) (bwBad o f) k r t) → (100 - t).toNat = n_LP11 → ∀ ls : Array Slot, lv_has ls 4 [(0, .ref h), (1, .int (iI r)), (2, .int (iI t))] → W p l e ({ frames := 3, cells := 0, slots := 0, locals := 69 } : Room) s m [.ref h].toArray below meth c s.heap [] 0 0 (MQ below (cS (fun r => r = bwOrd o f k)) [.ref h].toArray s 0 0 (fun _ => False)) (F0 m 11 ls []) := by
    intro n_LP11
    induction n_LP11 using Nat.strongRecOn with
    | ind n_LP11 ih_LP11 =>
      intro r t hr ht hI hm_LP11 ls hl
      refine lv_iload_n hx hb dX3_isToldBackwards_11 rfl (lv_at hl 1 rfl) ?_
      refine q_iconst hx hb dX3_isToldBackwards_12 ?_
      refine q_icmp_eq hx hb dX3_isToldBackwards_13 (tgt := 68) (by decide) (by omega) (by omega) (fun c3 => ?_) (fun c3 => ?_)
      · refine lv_iload_n hx hb dX3_isToldBackwards_68 rfl (lv_at hl 1 rfl) ?_
        refine q_iconst hx hb dX3_isToldBackwards_69 ?_
        refine q_icmp_ne hx hb dX3_isToldBackwards_70 (tgt := 85) (by decide) (by omega) (by omega) (fun c4 => ?_) (fun c4 => ?_)
        · refine q_iconst hx hb dX3_isToldBackwards_85 ?_
          exact q_iretS C0 hret hlk dX3_isToldBackwards_86 (by decide) (by first | (rw [hI, show r = -1 by omega, tioP_1, if_pos (by omega)]; done) | (rw [hI, show r = -1 by omega, tioP_1, if_neg (by omega)]; done) | (rw [hI, tioP_e (by omega), if_neg (by omega)]; done) | (rw [hI, tioP_s (by omega), if_neg (by omega), if_pos (by unfold bwBad bwNx; (repeat' split) <;> first | omega | (exfalso; omega))]))
        · refine lv_iload_n hx hb dX3_isToldBackwards_73 rfl (lv_at hl 2 rfl) ?_
          refine lv_aload_n hx hb dX3_isToldBackwards_74 rfl (lv_at hl 0 rfl) ?_
          refine q_get C0 iX0 hP ha hF rfl 2 (by decide) flX3_49 rfl rfl dX3_isToldBackwards_75 ?_
          refine q_icmp_ne hx hb dX3_isToldBackwards_78 (tgt := 85) (by decide) (by omega) (by omega) (fun c5 => ?_) (fun c5 => ?_)
          · refine q_iconst hx hb dX3_isToldBackwards_85 ?_
            exact q_iretS C0 hret hlk dX3_isToldBackwards_86 (by decide) (by first | (rw [hI, show r = -1 by omega, tioP_1, if_pos (by omega)]; done) | (rw [hI, show r = -1 by omega, tioP_1, if_neg (by omega)]; done) | (rw [hI, tioP_e (by omega), if_neg (by omega)]; done) | (rw [hI, tioP_s (by omega), if_neg (by omega), if_pos (by unfold bwBad bwNx; (repeat' split) <;> first | omega | (exfalso; omega))]))
          · refine q_iconst hx hb dX3_isToldBackwards_81 ?_
            refine lv_goto (tgt := 86) hx hb dX3_isToldBackwards_82 (by decide) ?_
            exact q_iretS C0 hret hlk dX3_isToldBackwards_86 (by decide) (by first | (rw [hI, show r = -1 by omega, tioP_1, if_pos (by omega)]; done) | (rw [hI, show r = -1 by omega, tioP_1, if_neg (by omega)]; done) | (rw [hI, tioP_e (by omega), if_neg (by omega)]; done) | (rw [hI, tioP_s (by omega), if_neg (by omega), if_pos (by unfold bwBad bwNx; (repeat' split) <;> first | omega | (exfalso; omega))]))
      · refine lv_iload_n hx hb dX3_isToldBackwards_16 rfl (lv_at hl 2 rfl) ?_
        refine q_bipush hx hb dX3_isToldBackwards_17 (by decide) ?_
        refine q_icmp_ge hx hb dX3_isToldBackwards_19 (tgt := 68) (by decide) (by omega) (by omega) (fun c6 => ?_) (fun c6 => ?_)
        · refine lv_iload_n hx hb dX3_isToldBackwards_68 rfl (lv_at hl 1 rfl) ?_
          refine q_iconst hx hb dX3_isToldBackwards_69 ?_
          refine q_icmp_ne hx hb dX3_isToldBackwards_70 (tgt := 85) (by decide) (by omega) (by omega) (fun c7 => ?_) (fun c7 => ?_)
          · refine q_iconst hx hb dX3_isToldBackwards_85 ?_
            exact q_iretS C0 hret hlk dX3_isToldBackwards_86 (by decide) (by first | (rw [hI, show r = -1 by omega, tioP_1, if_pos (by omega)]; done) | (rw [hI, show r = -1 by omega, tioP_1, if_neg (by omega)]; done) | (rw [hI, tioP_e (by omega), if_neg (by omega)]; done) | (rw [hI, tioP_s (by omega), if_neg (by omega), if_pos (by unfold bwBad bwNx; (repeat' split) <;> first | omega | (exfalso; omega))]))
          · refine lv_iload_n hx hb dX3_isToldBackwards_73 rfl (lv_at hl 2 rfl) ?_
            refine lv_aload_n hx hb dX3_isToldBackwards_74 rfl (lv_at hl 0 rfl) ?_
            refine q_get C0 iX0 hP ha hF rfl 2 (by decide) flX3_49 rfl rfl dX3_isToldBackwards_75 ?_
            refine q_icmp_ne hx hb dX3_isToldBackwards_78 (tgt := 85) (by decide) (by omega) (by omega) (fun c8 => ?_) (fun c8 => ?_)
            · refine q_iconst hx hb dX3_isToldBackwards_85 ?_
              exact q_iretS C0 hret hlk dX3_isToldBackwards_86 (by decide) (by first | (rw [hI, show r = -1 by omega, tioP_1, if_pos (by omega)]; done) | (rw [hI, show r = -1 by omega, tioP_1, if_neg (by omega)]; done) | (rw [hI, tioP_e (by omega), if_neg (by omega)]; done) | (rw [hI, tioP_s (by omega), if_neg (by omega), if_pos (by unfold bwBad bwNx; (repeat' split) <;> first | omega | (exfalso; omega))]))
            · refine q_iconst hx hb dX3_isToldBackwards_81 ?_
              refine lv_goto (tgt := 86) hx hb dX3_isToldBackwards_82 (by decide) ?_
              exact q_iretS C0 hret hlk dX3_isToldBackwards_86 (by decide) (by first | (rw [hI, show r = -1 by omega, tioP_1, if_pos (by omega)]; done) | (rw [hI, show r = -1 by omega, tioP_1, if_neg (by omega)]; done) | (rw [hI, tioP_e (by omega), if_neg (by omega)]; done) | (rw [hI, tioP_s (by omega), if_neg (by omega), if_pos (by unfold bwBad bwNx; (repeat' split) <;> first | omega | (exfalso; omega))]))
        · refine q_iinc (x := t) (n := 1) (lv' := [(2, .int (iI ((t + 1)))), (0, .ref h), (1, .int (iI r))]) hx hb dX3_isToldBackwards_22 hl (k := 2) rfl (by decide) rfl (fun ls hl => ?_)
          refine lv_aload_n hx hb dX3_isToldBackwards_25 rfl (lv_at hl 1 rfl) ?_
          refine q_iconst hx hb dX3_isToldBackwards_26 ?_
          refine q_bipush hx hb dX3_isToldBackwards_27 (by decide) ?_
          refine lv_aload_n hx hb dX3_isToldBackwards_29 rfl (lv_at hl 1 rfl) ?_
          refine lv_iload_n hx hb dX3_isToldBackwards_30 rfl (lv_at hl 2 rfl) ?_
          refine q_vS C0 lX3_132 (c_X0_keyOf l D y L F h w o k g f r hR (by omega)) ⟨rfl, rfl⟩ rfl hP ha hF rfl rfl rfl hl rfl (Nat.le_of_ble_eq_true rfl) dX3_isToldBackwards_31 ⟨Nat.zero_le _, Nat.zero_le _⟩ (fun r9 e_r9 => ?_)
          subst e_r9
          have b_10 := @keyR_b o r (by omega)
          refine q_iconst hx hb dX3_isToldBackwards_34 ?_
          refine q_vS C0 lX3_126 (c_X0_nearInPart l D y L F h w o k g f 0 99 (keyR o r) 2 hR (by omega) (by omega) (by omega) (by omega)) ⟨rfl, rfl⟩ rfl hP ha hF rfl rfl rfl hl rfl (Nat.le_of_ble_eq_true rfl) dX3_isToldBackwards_35 ⟨Nat.zero_le _, Nat.zero_le _⟩ (fun r11 e_r11 => ?_)
          subst e_r11
          have b_12 := nearP_r o f 0 99 (keyR o r) 2
          refine lv_istore_n (lv' := [(3, .int (iI ((nearP o f 0 99 (keyR o r) 2)))), (2, .int (iI ((t + 1)))), (0, .ref h), (1, .int (iI r))]) hx hb dX3_isToldBackwards_38 rfl hl (by decide) rfl (fun ls hl => ?_)
          refine lv_iload_n hx hb dX3_isToldBackwards_39 rfl (lv_at hl 0 rfl) ?_
          refine q_iconst hx hb dX3_isToldBackwards_40 ?_
          refine q_icmp_eq hx hb dX3_isToldBackwards_41 (tgt := 63) (by decide) (by omega) (by omega) (fun c13 => ?_) (fun c13 => ?_)
          · refine lv_iload_n hx hb dX3_isToldBackwards_63 rfl (lv_at hl 0 rfl) ?_
            refine lv_istore_n (lv' := [(1, .int (iI ((nearP o f 0 99 (keyR o r) 2)))), (3, .int (iI ((nearP o f 0 99 (keyR o r) 2)))), (2, .int (iI ((t + 1)))), (0, .ref h)]) hx hb dX3_isToldBackwards_64 rfl hl (by decide) rfl (fun ls hl => ?_)
            refine lv_goto (tgt := 11) hx hb dX3_isToldBackwards_65 (by decide) ?_
            exact ih_LP11 _ (by omega) (nearP o f 0 99 (keyR o r) 2) (t + 1) (by omega) (by omega) (by rw [hI, tioP_s (by omega), if_neg (by omega), if_neg (by unfold bwBad bwNx; (repeat' split) <;> first | omega | (exfalso; omega))]; rfl) rfl ls (lv_sub hl [3, 0, 2] rfl)
          · refine lv_aload_n hx hb dX3_isToldBackwards_44 rfl (lv_at hl 2 rfl) ?_
            refine lv_aload_n hx hb dX3_isToldBackwards_45 rfl (lv_at hl 2 rfl) ?_
            refine lv_iload_n hx hb dX3_isToldBackwards_46 rfl (lv_at hl 0 rfl) ?_
            refine q_vS C0 lX3_132 (c_X0_keyOf l D y L F h w o k g f (nearP o f 0 99 (keyR o r) 2) hR (by omega)) ⟨rfl, rfl⟩ rfl hP ha hF rfl rfl rfl hl rfl (Nat.le_of_ble_eq_true rfl) dX3_isToldBackwards_47 ⟨Nat.zero_le _, Nat.zero_le _⟩ (fun r14 e_r14 => ?_)
            subst e_r14
            have b_15 := @keyR_b o (nearP o f 0 99 (keyR o r) 2) (by omega)
            refine lv_aload_n hx hb dX3_isToldBackwards_50 rfl (lv_at hl 2 rfl) ?_
            refine lv_iload_n hx hb dX3_isToldBackwards_51 rfl (lv_at hl 3 rfl) ?_
            refine q_vS C0 lX3_132 (c_X0_keyOf l D y L F h w o k g f r hR (by omega)) ⟨rfl, rfl⟩ rfl hP ha hF rfl rfl rfl hl rfl (Nat.le_of_ble_eq_true rfl) dX3_isToldBackwards_52 ⟨Nat.zero_le _, Nat.zero_le _⟩ (fun r16 e_r16 => ?_)
            subst e_r16
            have b_17 := @keyR_b o r (by omega)
            refine q_vS C0 lX3_316 (c_X0_isAhead l D y L F h w o k g f (keyR o (nearP o f 0 99 (keyR o r) 2)) (keyR o r) hR (by omega) (by omega)) ⟨rfl, rfl⟩ rfl hP ha hF rfl rfl rfl hl rfl (Nat.le_of_ble_eq_true rfl) dX3_isToldBackwards_55 ⟨Nat.zero_le _, Nat.zero_le _⟩ (fun r18 e_r18 => ?_)
            subst e_r18
            have b_19 := ahd_b o (keyR o (nearP o f 0 99 (keyR o r) 2)) (keyR o r)
            refine q_if_ne hx hb dX3_isToldBackwards_58 (tgt := 63) (by decide) (by omega) (fun c20 => ?_) (fun c20 => ?_)
            · refine lv_iload_n hx hb dX3_isToldBackwards_63 rfl (lv_at hl 0 rfl) ?_
              refine lv_istore_n (lv' := [(1, .int (iI ((nearP o f 0 99 (keyR o r) 2)))), (3, .int (iI ((nearP o f 0 99 (keyR o r) 2)))), (2, .int (iI ((t + 1)))), (0, .ref h)]) hx hb dX3_isToldBackwards_64 rfl hl (by decide) rfl (fun ls hl => ?_)
              refine lv_goto (tgt := 11) hx hb dX3_isToldBackwards_65 (by decide) ?_
              exact ih_LP11 _ (by omega) (nearP o f 0 99 (keyR o r) 2) (t + 1) (by omega) (by omega) (by rw [hI, tioP_s (by omega), if_neg (by omega), if_neg (by unfold bwBad bwNx; (repeat' split) <;> first | omega | (exfalso; omega))]; rfl) rfl ls (lv_sub hl [3, 0, 2] rfl)
            · refine q_iconst hx hb dX3_isToldBackwards_61 ?_
              exact q_iretS C0 hret hlk dX3_isToldBackwards_62 (by decide) (by first | (rw [hI, show r = -1 by omega, tioP_1, if_pos (by omega)]; done) | (rw [hI, show r = -1 by omega, tioP_1, if_neg (by omega)]; done) | (rw [hI, tioP_e (by omega), if_neg (by omega)]; done) | (rw [hI, tioP_s (by omega), if_neg (by omega), if_pos (by unfold bwBad bwNx; (repeat' split) <;> first | omega | (exfalso; omega))]))
  exact LP11 _ (endP f 0 99 1) 0 (by omega) (by omega) (rfl) rfl ls (lv_sub hl [2, 1, 0] rfl)
set_option maxHeartbeats 800000 in
set_option maxRecDepth 100000 in
theorem c_X3_areNeighboursFound (l : Launch) (D : va_G) (y : Nat → ClassId) (L : List Nat) (F : Nat → va_E) (h : Nat) (w : Nat) (o : Int) (k : Int) (g : Int) (f : Int → Int) (hR : Rw y L F h w o k g f) : Met l yX3_areNeighboursFound (.code yX3_areNeighboursFound cX3_areNeighboursFound 7 (some .boolean) :: Tt) ({ frames := 3, cells := 0, slots := 0, locals := 69 }) (PcR D y L F [.ref h]) (cS (fun r => r = nbP o f 0 (-1))) 0 0 (fun _ => False) := by
  have hR0 := hR
  obtain ⟨ha, hF, hw, hFw, ho, hfb⟩ := hR0
  refine q_ofR (lv := [(0, .ref h)]) (by decide) (Nat.le_of_ble_eq_true rfl) rfl (fun p e s m below meth c C0 hret hlk hP ls hl => ?_)
  have hx := C0.1.1
  have hb := C0.1.2.1
  have hts := C0.1.2.2.2.2
  refine q_iconst hx hb dX3_areNeighboursFound_0 ?_
  refine lv_istore_n (lv' := [(1, .int (iI ((-1)))), (0, .ref h)]) hx hb dX3_areNeighboursFound_1 rfl hl (by decide) rfl (fun ls hl => ?_)
  refine q_iconst hx hb dX3_areNeighboursFound_2 ?_
  refine lv_istore_n (lv' := [(2, .int (iI 0)), (1, .int (iI ((-1)))), (0, .ref h)]) hx hb dX3_areNeighboursFound_3 rfl hl (by decide) rfl (fun ls hl => ?_)
  have LP4 : ∀ (n_LP4 : Nat) (r : Int) (w9 : Int), (0 ≤ r ∧ r ≤ 100) → (-1 ≤ w9 ∧ w9 ≤ 99) → (nbP o f 0 (-1) = nbP o f r w9) → (100 - r).toNat = n_LP4 → ∀ ls : Array Slot, lv_has ls 7 [(0, .ref h), (1, .int (iI w9)), (2, .int (iI r))] → W p l e ({ frames := 3, cells := 0, slots := 0, locals := 69 } : Room) s m [.ref h].toArray below meth c s.heap [] 0 0 (MQ below (cS (fun r => r = nbP o f 0 (-1))) [.ref h].toArray s 0 0 (fun _ => False)) (F0 m 4 ls []) := by
    intro n_LP4
    induction n_LP4 using Nat.strongRecOn with
    | ind n_LP4 ih_LP4 =>
      intro r w9 hr hw9 hI hm_LP4 ls hl
      refine lv_iload_n hx hb dX3_areNeighboursFound_4 rfl (lv_at hl 2 rfl) ?_
      refine q_bipush hx hb dX3_areNeighboursFound_5 (by decide) ?_
      refine q_icmp_ge hx hb dX3_areNeighboursFound_7 (tgt := 144) (by decide) (by omega) (by omega) (fun c1 => ?_) (fun c1 => ?_)
      · refine q_iconst hx hb dX3_areNeighboursFound_144 ?_
        exact q_iretS C0 hret hlk dX3_areNeighboursFound_145 (by decide) (by rw [hI, nbP_e (by omega)])
      · refine lv_aload_n hx hb dX3_areNeighboursFound_10 rfl (lv_at hl 0 rfl) ?_
        refine lv_iload_n hx hb dX3_areNeighboursFound_11 rfl (lv_at hl 2 rfl) ?_
        refine q_vS C0 lX3_119 (c_X0_isThere l D y L F h w o k g f r hR (by omega)) ⟨rfl, rfl⟩ rfl hP ha hF rfl rfl rfl hl rfl (Nat.le_of_ble_eq_true rfl) dX3_areNeighboursFound_12 ⟨Nat.zero_le _, Nat.zero_le _⟩ (fun r2 e_r2 => ?_)
        subst e_r2
        have b_3 := isT_b f r
        refine q_if_eq hx hb dX3_areNeighboursFound_15 (tgt := 138) (by decide) (by omega) (fun c4 => ?_) (fun c4 => ?_)
        · refine q_iinc (x := r) (n := 1) (lv' := [(2, .int (iI ((r + 1)))), (0, .ref h), (1, .int (iI w9))]) hx hb dX3_areNeighboursFound_138 hl (k := 2) rfl (by decide) rfl (fun ls hl => ?_)
          refine lv_goto (tgt := 4) hx hb dX3_areNeighboursFound_141 (by decide) ?_
          exact ih_LP4 _ (by omega) (r + 1) w9 (by omega) (by omega) (by first | (rw [hI, nbP_s (by omega), if_pos (by omega)]; done) | (rw [hI, nbP_s (by omega), if_neg (by omega), if_neg (by unfold nbOk; (repeat' split) <;> first | omega | (exfalso; omega))])) rfl ls (lv_sub hl [1, 2, 0] rfl)
        · refine lv_aload_n hx hb dX3_areNeighboursFound_18 rfl (lv_at hl 0 rfl) ?_
          refine lv_iload_n hx hb dX3_areNeighboursFound_19 rfl (lv_at hl 2 rfl) ?_
          refine q_vS C0 lX3_132 (c_X0_keyOf l D y L F h w o k g f r hR (by omega)) ⟨rfl, rfl⟩ rfl hP ha hF rfl rfl rfl hl rfl (Nat.le_of_ble_eq_true rfl) dX3_areNeighboursFound_20 ⟨Nat.zero_le _, Nat.zero_le _⟩ (fun r5 e_r5 => ?_)
          subst e_r5
          have b_6 := @keyR_b o r (by omega)
          refine lv_istore_n (lv' := [(3, .int (iI ((keyR o r)))), (0, .ref h), (1, .int (iI w9)), (2, .int (iI r))]) hx hb dX3_areNeighboursFound_23 rfl hl (by decide) rfl (fun ls hl => ?_)
          refine lv_aload_n hx hb dX3_areNeighboursFound_24 rfl (lv_at hl 1 rfl) ?_
          refine q_iconst hx hb dX3_areNeighboursFound_25 ?_
          refine q_bipush hx hb dX3_areNeighboursFound_26 (by decide) ?_
          refine lv_iload_n hx hb dX3_areNeighboursFound_28 rfl (lv_at hl 0 rfl) ?_
          refine q_iconst hx hb dX3_areNeighboursFound_29 ?_
          refine q_vS C0 lX3_126 (c_X0_nearInPart l D y L F h w o k g f 0 99 (keyR o r) 0 hR (by omega) (by omega) (by omega) (by omega)) ⟨rfl, rfl⟩ rfl hP ha hF rfl rfl rfl hl rfl (Nat.le_of_ble_eq_true rfl) dX3_areNeighboursFound_30 ⟨Nat.zero_le _, Nat.zero_le _⟩ (fun r7 e_r7 => ?_)
          subst e_r7
          have b_8 := nearP_r o f 0 99 (keyR o r) 0
          refine lv_iload_n hx hb dX3_areNeighboursFound_33 rfl (lv_at hl 3 rfl) ?_
          refine q_icmp_ne hx hb dX3_areNeighboursFound_34 (tgt := 67) (by decide) (by omega) (by omega) (fun c9 => ?_) (fun c9 => ?_)
          · refine q_iconst hx hb dX3_areNeighboursFound_67 ?_
            refine lv_istore (lv' := [(4, .int (iI 0)), (3, .int (iI ((keyR o r)))), (0, .ref h), (1, .int (iI w9)), (2, .int (iI r))]) hx hb dX3_areNeighboursFound_68 hl (by decide) rfl (fun ls hl => ?_)
            refine lv_aload_n hx hb dX3_areNeighboursFound_70 rfl (lv_at hl 2 rfl) ?_
            refine q_iconst hx hb dX3_areNeighboursFound_71 ?_
            refine q_bipush hx hb dX3_areNeighboursFound_72 (by decide) ?_
            refine lv_iload_n hx hb dX3_areNeighboursFound_74 rfl (lv_at hl 1 rfl) ?_
            refine q_iconst hx hb dX3_areNeighboursFound_75 ?_
            refine q_vS C0 lX3_126 (c_X0_nearInPart l D y L F h w o k g f 0 99 (keyR o r) 2 hR (by omega) (by omega) (by omega) (by omega)) ⟨rfl, rfl⟩ rfl hP ha hF rfl rfl rfl hl rfl (Nat.le_of_ble_eq_true rfl) dX3_areNeighboursFound_76 ⟨Nat.zero_le _, Nat.zero_le _⟩ (fun r10 e_r10 => ?_)
            subst e_r10
            have b_11 := nearP_r o f 0 99 (keyR o r) 2
            refine lv_iload_n hx hb dX3_areNeighboursFound_79 rfl (lv_at hl 3 rfl) ?_
            refine q_icmp_ne hx hb dX3_areNeighboursFound_80 (tgt := 87) (by decide) (by omega) (by omega) (fun c12 => ?_) (fun c12 => ?_)
            · refine q_iconst hx hb dX3_areNeighboursFound_87 ?_
              refine lv_istore (lv' := [(5, .int (iI 0)), (4, .int (iI 0)), (3, .int (iI ((keyR o r)))), (0, .ref h), (1, .int (iI w9)), (2, .int (iI r))]) hx hb dX3_areNeighboursFound_88 hl (by decide) rfl (fun ls hl => ?_)
              refine lv_iload_n hx hb dX3_areNeighboursFound_90 rfl (lv_at hl 4 rfl) ?_
              refine q_iconst hx hb dX3_areNeighboursFound_91 ?_
              refine q_icmp_eq hx hb dX3_areNeighboursFound_92 (tgt := 112) (by decide) (by omega) (by omega) (fun c13 => ?_) (fun c13 => ?_)
              · refine q_iconst hx hb dX3_areNeighboursFound_112 ?_
                refine lv_goto (tgt := 117) hx hb dX3_areNeighboursFound_113 (by decide) ?_
                refine lv_istore (lv' := [(6, .int (iI 1)), (5, .int (iI 0)), (4, .int (iI 0)), (3, .int (iI ((keyR o r)))), (0, .ref h), (1, .int (iI w9)), (2, .int (iI r))]) hx hb dX3_areNeighboursFound_117 hl (by decide) rfl (fun ls hl => ?_)
                refine lv_iload hx hb dX3_areNeighboursFound_119 (lv_at hl 2 rfl) ?_
                refine q_if_eq hx hb dX3_areNeighboursFound_121 (tgt := 134) (by decide) (by omega) (fun c14 => ?_) (fun c14 => absurd c14 (by omega))
                refine q_iconst hx hb dX3_areNeighboursFound_134 ?_
                exact q_iretS C0 hret hlk dX3_areNeighboursFound_135 (by decide) (by rw [hI, nbP_s (by omega), if_neg (by omega), if_pos (by unfold nbOk; (repeat' split) <;> first | omega | (exfalso; omega))])
              · refine lv_aload_n hx hb dX3_areNeighboursFound_95 rfl (lv_at hl 3 rfl) ?_
                refine q_iconst hx hb dX3_areNeighboursFound_96 ?_
                refine q_bipush hx hb dX3_areNeighboursFound_97 (by decide) ?_
                refine lv_aload_n hx hb dX3_areNeighboursFound_99 rfl (lv_at hl 3 rfl) ?_
                refine lv_iload_n hx hb dX3_areNeighboursFound_100 rfl (lv_at hl 4 rfl) ?_
                refine q_vS C0 lX3_132 (c_X0_keyOf l D y L F h w o k g f w9 hR (by omega)) ⟨rfl, rfl⟩ rfl hP ha hF rfl rfl rfl hl rfl (Nat.le_of_ble_eq_true rfl) dX3_areNeighboursFound_101 ⟨Nat.zero_le _, Nat.zero_le _⟩ (fun r15 e_r15 => ?_)
                subst e_r15
                have b_16 := @keyR_b o w9 (by omega)
                refine q_iconst hx hb dX3_areNeighboursFound_104 ?_
                refine q_vS C0 lX3_126 (c_X0_nearInPart l D y L F h w o k g f 0 99 (keyR o w9) 3 hR (by omega) (by omega) (by omega) (by omega)) ⟨rfl, rfl⟩ rfl hP ha hF rfl rfl rfl hl rfl (Nat.le_of_ble_eq_true rfl) dX3_areNeighboursFound_105 ⟨Nat.zero_le _, Nat.zero_le _⟩ (fun r17 e_r17 => ?_)
                subst e_r17
                have b_18 := nearP_r o f 0 99 (keyR o w9) 3
                refine lv_iload_n hx hb dX3_areNeighboursFound_108 rfl (lv_at hl 5 rfl) ?_
                refine q_icmp_ne hx hb dX3_areNeighboursFound_109 (tgt := 116) (by decide) (by omega) (by omega) (fun c19 => ?_) (fun c19 => ?_)
                · refine q_iconst hx hb dX3_areNeighboursFound_116 ?_
                  refine lv_istore (lv' := [(6, .int (iI 0)), (5, .int (iI 0)), (4, .int (iI 0)), (3, .int (iI ((keyR o r)))), (0, .ref h), (1, .int (iI w9)), (2, .int (iI r))]) hx hb dX3_areNeighboursFound_117 hl (by decide) rfl (fun ls hl => ?_)
                  refine lv_iload hx hb dX3_areNeighboursFound_119 (lv_at hl 2 rfl) ?_
                  refine q_if_eq hx hb dX3_areNeighboursFound_121 (tgt := 134) (by decide) (by omega) (fun c20 => ?_) (fun c20 => absurd c20 (by omega))
                  refine q_iconst hx hb dX3_areNeighboursFound_134 ?_
                  exact q_iretS C0 hret hlk dX3_areNeighboursFound_135 (by decide) (by rw [hI, nbP_s (by omega), if_neg (by omega), if_pos (by unfold nbOk; (repeat' split) <;> first | omega | (exfalso; omega))])
                · refine q_iconst hx hb dX3_areNeighboursFound_112 ?_
                  refine lv_goto (tgt := 117) hx hb dX3_areNeighboursFound_113 (by decide) ?_
                  refine lv_istore (lv' := [(6, .int (iI 1)), (5, .int (iI 0)), (4, .int (iI 0)), (3, .int (iI ((keyR o r)))), (0, .ref h), (1, .int (iI w9)), (2, .int (iI r))]) hx hb dX3_areNeighboursFound_117 hl (by decide) rfl (fun ls hl => ?_)
                  refine lv_iload hx hb dX3_areNeighboursFound_119 (lv_at hl 2 rfl) ?_
                  refine q_if_eq hx hb dX3_areNeighboursFound_121 (tgt := 134) (by decide) (by omega) (fun c21 => ?_) (fun c21 => absurd c21 (by omega))
                  refine q_iconst hx hb dX3_areNeighboursFound_134 ?_
                  exact q_iretS C0 hret hlk dX3_areNeighboursFound_135 (by decide) (by rw [hI, nbP_s (by omega), if_neg (by omega), if_pos (by unfold nbOk; (repeat' split) <;> first | omega | (exfalso; omega))])
            · refine q_iconst hx hb dX3_areNeighboursFound_83 ?_
              refine lv_goto (tgt := 88) hx hb dX3_areNeighboursFound_84 (by decide) ?_
              refine lv_istore (lv' := [(5, .int (iI 1)), (4, .int (iI 0)), (3, .int (iI ((keyR o r)))), (0, .ref h), (1, .int (iI w9)), (2, .int (iI r))]) hx hb dX3_areNeighboursFound_88 hl (by decide) rfl (fun ls hl => ?_)
              refine lv_iload_n hx hb dX3_areNeighboursFound_90 rfl (lv_at hl 4 rfl) ?_
              refine q_iconst hx hb dX3_areNeighboursFound_91 ?_
              refine q_icmp_eq hx hb dX3_areNeighboursFound_92 (tgt := 112) (by decide) (by omega) (by omega) (fun c22 => ?_) (fun c22 => ?_)
              · refine q_iconst hx hb dX3_areNeighboursFound_112 ?_
                refine lv_goto (tgt := 117) hx hb dX3_areNeighboursFound_113 (by decide) ?_
                refine lv_istore (lv' := [(6, .int (iI 1)), (5, .int (iI 1)), (4, .int (iI 0)), (3, .int (iI ((keyR o r)))), (0, .ref h), (1, .int (iI w9)), (2, .int (iI r))]) hx hb dX3_areNeighboursFound_117 hl (by decide) rfl (fun ls hl => ?_)
                refine lv_iload hx hb dX3_areNeighboursFound_119 (lv_at hl 2 rfl) ?_
                refine q_if_eq hx hb dX3_areNeighboursFound_121 (tgt := 134) (by decide) (by omega) (fun c23 => ?_) (fun c23 => absurd c23 (by omega))
                refine q_iconst hx hb dX3_areNeighboursFound_134 ?_
                exact q_iretS C0 hret hlk dX3_areNeighboursFound_135 (by decide) (by rw [hI, nbP_s (by omega), if_neg (by omega), if_pos (by unfold nbOk; (repeat' split) <;> first | omega | (exfalso; omega))])
              · refine lv_aload_n hx hb dX3_areNeighboursFound_95 rfl (lv_at hl 3 rfl) ?_
                refine q_iconst hx hb dX3_areNeighboursFound_96 ?_
                refine q_bipush hx hb dX3_areNeighboursFound_97 (by decide) ?_
                refine lv_aload_n hx hb dX3_areNeighboursFound_99 rfl (lv_at hl 3 rfl) ?_
                refine lv_iload_n hx hb dX3_areNeighboursFound_100 rfl (lv_at hl 4 rfl) ?_
                refine q_vS C0 lX3_132 (c_X0_keyOf l D y L F h w o k g f w9 hR (by omega)) ⟨rfl, rfl⟩ rfl hP ha hF rfl rfl rfl hl rfl (Nat.le_of_ble_eq_true rfl) dX3_areNeighboursFound_101 ⟨Nat.zero_le _, Nat.zero_le _⟩ (fun r24 e_r24 => ?_)
                subst e_r24
                have b_25 := @keyR_b o w9 (by omega)
                refine q_iconst hx hb dX3_areNeighboursFound_104 ?_
                refine q_vS C0 lX3_126 (c_X0_nearInPart l D y L F h w o k g f 0 99 (keyR o w9) 3 hR (by omega) (by omega) (by omega) (by omega)) ⟨rfl, rfl⟩ rfl hP ha hF rfl rfl rfl hl rfl (Nat.le_of_ble_eq_true rfl) dX3_areNeighboursFound_105 ⟨Nat.zero_le _, Nat.zero_le _⟩ (fun r26 e_r26 => ?_)
                subst e_r26
                have b_27 := nearP_r o f 0 99 (keyR o w9) 3
                refine lv_iload_n hx hb dX3_areNeighboursFound_108 rfl (lv_at hl 5 rfl) ?_
                refine q_icmp_ne hx hb dX3_areNeighboursFound_109 (tgt := 116) (by decide) (by omega) (by omega) (fun c28 => ?_) (fun c28 => ?_)
                · refine q_iconst hx hb dX3_areNeighboursFound_116 ?_
                  refine lv_istore (lv' := [(6, .int (iI 0)), (5, .int (iI 1)), (4, .int (iI 0)), (3, .int (iI ((keyR o r)))), (0, .ref h), (1, .int (iI w9)), (2, .int (iI r))]) hx hb dX3_areNeighboursFound_117 hl (by decide) rfl (fun ls hl => ?_)
                  refine lv_iload hx hb dX3_areNeighboursFound_119 (lv_at hl 2 rfl) ?_
                  refine q_if_eq hx hb dX3_areNeighboursFound_121 (tgt := 134) (by decide) (by omega) (fun c29 => ?_) (fun c29 => absurd c29 (by omega))
                  refine q_iconst hx hb dX3_areNeighboursFound_134 ?_
                  exact q_iretS C0 hret hlk dX3_areNeighboursFound_135 (by decide) (by rw [hI, nbP_s (by omega), if_neg (by omega), if_pos (by unfold nbOk; (repeat' split) <;> first | omega | (exfalso; omega))])
                · refine q_iconst hx hb dX3_areNeighboursFound_112 ?_
                  refine lv_goto (tgt := 117) hx hb dX3_areNeighboursFound_113 (by decide) ?_
                  refine lv_istore (lv' := [(6, .int (iI 1)), (5, .int (iI 1)), (4, .int (iI 0)), (3, .int (iI ((keyR o r)))), (0, .ref h), (1, .int (iI w9)), (2, .int (iI r))]) hx hb dX3_areNeighboursFound_117 hl (by decide) rfl (fun ls hl => ?_)
                  refine lv_iload hx hb dX3_areNeighboursFound_119 (lv_at hl 2 rfl) ?_
                  refine q_if_eq hx hb dX3_areNeighboursFound_121 (tgt := 134) (by decide) (by omega) (fun c30 => ?_) (fun c30 => absurd c30 (by omega))
                  refine q_iconst hx hb dX3_areNeighboursFound_134 ?_
                  exact q_iretS C0 hret hlk dX3_areNeighboursFound_135 (by decide) (by rw [hI, nbP_s (by omega), if_neg (by omega), if_pos (by unfold nbOk; (repeat' split) <;> first | omega | (exfalso; omega))])
          · refine lv_aload_n hx hb dX3_areNeighboursFound_37 rfl (lv_at hl 1 rfl) ?_
            refine q_iconst hx hb dX3_areNeighboursFound_38 ?_
            refine q_bipush hx hb dX3_areNeighboursFound_39 (by decide) ?_
            refine lv_iload_n hx hb dX3_areNeighboursFound_41 rfl (lv_at hl 0 rfl) ?_
            refine q_iconst hx hb dX3_areNeighboursFound_42 ?_
            refine q_vS C0 lX3_126 (c_X0_nearInPart l D y L F h w o k g f 0 99 (keyR o r) 1 hR (by omega) (by omega) (by omega) (by omega)) ⟨rfl, rfl⟩ rfl hP ha hF rfl rfl rfl hl rfl (Nat.le_of_ble_eq_true rfl) dX3_areNeighboursFound_43 ⟨Nat.zero_le _, Nat.zero_le _⟩ (fun r31 e_r31 => ?_)
            subst e_r31
            have b_32 := nearP_r o f 0 99 (keyR o r) 1
            refine lv_iload_n hx hb dX3_areNeighboursFound_46 rfl (lv_at hl 3 rfl) ?_
            refine q_icmp_ne hx hb dX3_areNeighboursFound_47 (tgt := 67) (by decide) (by omega) (by omega) (fun c33 => ?_) (fun c33 => ?_)
            · refine q_iconst hx hb dX3_areNeighboursFound_67 ?_
              refine lv_istore (lv' := [(4, .int (iI 0)), (3, .int (iI ((keyR o r)))), (0, .ref h), (1, .int (iI w9)), (2, .int (iI r))]) hx hb dX3_areNeighboursFound_68 hl (by decide) rfl (fun ls hl => ?_)
              refine lv_aload_n hx hb dX3_areNeighboursFound_70 rfl (lv_at hl 2 rfl) ?_
              refine q_iconst hx hb dX3_areNeighboursFound_71 ?_
              refine q_bipush hx hb dX3_areNeighboursFound_72 (by decide) ?_
              refine lv_iload_n hx hb dX3_areNeighboursFound_74 rfl (lv_at hl 1 rfl) ?_
              refine q_iconst hx hb dX3_areNeighboursFound_75 ?_
              refine q_vS C0 lX3_126 (c_X0_nearInPart l D y L F h w o k g f 0 99 (keyR o r) 2 hR (by omega) (by omega) (by omega) (by omega)) ⟨rfl, rfl⟩ rfl hP ha hF rfl rfl rfl hl rfl (Nat.le_of_ble_eq_true rfl) dX3_areNeighboursFound_76 ⟨Nat.zero_le _, Nat.zero_le _⟩ (fun r34 e_r34 => ?_)
              subst e_r34
              have b_35 := nearP_r o f 0 99 (keyR o r) 2
              refine lv_iload_n hx hb dX3_areNeighboursFound_79 rfl (lv_at hl 3 rfl) ?_
              refine q_icmp_ne hx hb dX3_areNeighboursFound_80 (tgt := 87) (by decide) (by omega) (by omega) (fun c36 => ?_) (fun c36 => ?_)
              · refine q_iconst hx hb dX3_areNeighboursFound_87 ?_
                refine lv_istore (lv' := [(5, .int (iI 0)), (4, .int (iI 0)), (3, .int (iI ((keyR o r)))), (0, .ref h), (1, .int (iI w9)), (2, .int (iI r))]) hx hb dX3_areNeighboursFound_88 hl (by decide) rfl (fun ls hl => ?_)
                refine lv_iload_n hx hb dX3_areNeighboursFound_90 rfl (lv_at hl 4 rfl) ?_
                refine q_iconst hx hb dX3_areNeighboursFound_91 ?_
                refine q_icmp_eq hx hb dX3_areNeighboursFound_92 (tgt := 112) (by decide) (by omega) (by omega) (fun c37 => ?_) (fun c37 => ?_)
                · refine q_iconst hx hb dX3_areNeighboursFound_112 ?_
                  refine lv_goto (tgt := 117) hx hb dX3_areNeighboursFound_113 (by decide) ?_
                  refine lv_istore (lv' := [(6, .int (iI 1)), (5, .int (iI 0)), (4, .int (iI 0)), (3, .int (iI ((keyR o r)))), (0, .ref h), (1, .int (iI w9)), (2, .int (iI r))]) hx hb dX3_areNeighboursFound_117 hl (by decide) rfl (fun ls hl => ?_)
                  refine lv_iload hx hb dX3_areNeighboursFound_119 (lv_at hl 2 rfl) ?_
                  refine q_if_eq hx hb dX3_areNeighboursFound_121 (tgt := 134) (by decide) (by omega) (fun c38 => ?_) (fun c38 => absurd c38 (by omega))
                  refine q_iconst hx hb dX3_areNeighboursFound_134 ?_
                  exact q_iretS C0 hret hlk dX3_areNeighboursFound_135 (by decide) (by rw [hI, nbP_s (by omega), if_neg (by omega), if_pos (by unfold nbOk; (repeat' split) <;> first | omega | (exfalso; omega))])
                · refine lv_aload_n hx hb dX3_areNeighboursFound_95 rfl (lv_at hl 3 rfl) ?_
                  refine q_iconst hx hb dX3_areNeighboursFound_96 ?_
                  refine q_bipush hx hb dX3_areNeighboursFound_97 (by decide) ?_
                  refine lv_aload_n hx hb dX3_areNeighboursFound_99 rfl (lv_at hl 3 rfl) ?_
                  refine lv_iload_n hx hb dX3_areNeighboursFound_100 rfl (lv_at hl 4 rfl) ?_
                  refine q_vS C0 lX3_132 (c_X0_keyOf l D y L F h w o k g f w9 hR (by omega)) ⟨rfl, rfl⟩ rfl hP ha hF rfl rfl rfl hl rfl (Nat.le_of_ble_eq_true rfl) dX3_areNeighboursFound_101 ⟨Nat.zero_le _, Nat.zero_le _⟩ (fun r39 e_r39 => ?_)
                  subst e_r39
                  have b_40 := @keyR_b o w9 (by omega)
                  refine q_iconst hx hb dX3_areNeighboursFound_104 ?_
                  refine q_vS C0 lX3_126 (c_X0_nearInPart l D y L F h w o k g f 0 99 (keyR o w9) 3 hR (by omega) (by omega) (by omega) (by omega)) ⟨rfl, rfl⟩ rfl hP ha hF rfl rfl rfl hl rfl (Nat.le_of_ble_eq_true rfl) dX3_areNeighboursFound_105 ⟨Nat.zero_le _, Nat.zero_le _⟩ (fun r41 e_r41 => ?_)
                  subst e_r41
                  have b_42 := nearP_r o f 0 99 (keyR o w9) 3
                  refine lv_iload_n hx hb dX3_areNeighboursFound_108 rfl (lv_at hl 5 rfl) ?_
                  refine q_icmp_ne hx hb dX3_areNeighboursFound_109 (tgt := 116) (by decide) (by omega) (by omega) (fun c43 => ?_) (fun c43 => ?_)
                  · refine q_iconst hx hb dX3_areNeighboursFound_116 ?_
                    refine lv_istore (lv' := [(6, .int (iI 0)), (5, .int (iI 0)), (4, .int (iI 0)), (3, .int (iI ((keyR o r)))), (0, .ref h), (1, .int (iI w9)), (2, .int (iI r))]) hx hb dX3_areNeighboursFound_117 hl (by decide) rfl (fun ls hl => ?_)
                    refine lv_iload hx hb dX3_areNeighboursFound_119 (lv_at hl 2 rfl) ?_
                    refine q_if_eq hx hb dX3_areNeighboursFound_121 (tgt := 134) (by decide) (by omega) (fun c44 => ?_) (fun c44 => absurd c44 (by omega))
                    refine q_iconst hx hb dX3_areNeighboursFound_134 ?_
                    exact q_iretS C0 hret hlk dX3_areNeighboursFound_135 (by decide) (by rw [hI, nbP_s (by omega), if_neg (by omega), if_pos (by unfold nbOk; (repeat' split) <;> first | omega | (exfalso; omega))])
                  · refine q_iconst hx hb dX3_areNeighboursFound_112 ?_
                    refine lv_goto (tgt := 117) hx hb dX3_areNeighboursFound_113 (by decide) ?_
                    refine lv_istore (lv' := [(6, .int (iI 1)), (5, .int (iI 0)), (4, .int (iI 0)), (3, .int (iI ((keyR o r)))), (0, .ref h), (1, .int (iI w9)), (2, .int (iI r))]) hx hb dX3_areNeighboursFound_117 hl (by decide) rfl (fun ls hl => ?_)
                    refine lv_iload hx hb dX3_areNeighboursFound_119 (lv_at hl 2 rfl) ?_
                    refine q_if_eq hx hb dX3_areNeighboursFound_121 (tgt := 134) (by decide) (by omega) (fun c45 => ?_) (fun c45 => absurd c45 (by omega))
                    refine q_iconst hx hb dX3_areNeighboursFound_134 ?_
                    exact q_iretS C0 hret hlk dX3_areNeighboursFound_135 (by decide) (by rw [hI, nbP_s (by omega), if_neg (by omega), if_pos (by unfold nbOk; (repeat' split) <;> first | omega | (exfalso; omega))])
              · refine q_iconst hx hb dX3_areNeighboursFound_83 ?_
                refine lv_goto (tgt := 88) hx hb dX3_areNeighboursFound_84 (by decide) ?_
                refine lv_istore (lv' := [(5, .int (iI 1)), (4, .int (iI 0)), (3, .int (iI ((keyR o r)))), (0, .ref h), (1, .int (iI w9)), (2, .int (iI r))]) hx hb dX3_areNeighboursFound_88 hl (by decide) rfl (fun ls hl => ?_)
                refine lv_iload_n hx hb dX3_areNeighboursFound_90 rfl (lv_at hl 4 rfl) ?_
                refine q_iconst hx hb dX3_areNeighboursFound_91 ?_
                refine q_icmp_eq hx hb dX3_areNeighboursFound_92 (tgt := 112) (by decide) (by omega) (by omega) (fun c46 => ?_) (fun c46 => ?_)
                · refine q_iconst hx hb dX3_areNeighboursFound_112 ?_
                  refine lv_goto (tgt := 117) hx hb dX3_areNeighboursFound_113 (by decide) ?_
                  refine lv_istore (lv' := [(6, .int (iI 1)), (5, .int (iI 1)), (4, .int (iI 0)), (3, .int (iI ((keyR o r)))), (0, .ref h), (1, .int (iI w9)), (2, .int (iI r))]) hx hb dX3_areNeighboursFound_117 hl (by decide) rfl (fun ls hl => ?_)
                  refine lv_iload hx hb dX3_areNeighboursFound_119 (lv_at hl 2 rfl) ?_
                  refine q_if_eq hx hb dX3_areNeighboursFound_121 (tgt := 134) (by decide) (by omega) (fun c47 => ?_) (fun c47 => absurd c47 (by omega))
                  refine q_iconst hx hb dX3_areNeighboursFound_134 ?_
                  exact q_iretS C0 hret hlk dX3_areNeighboursFound_135 (by decide) (by rw [hI, nbP_s (by omega), if_neg (by omega), if_pos (by unfold nbOk; (repeat' split) <;> first | omega | (exfalso; omega))])
                · refine lv_aload_n hx hb dX3_areNeighboursFound_95 rfl (lv_at hl 3 rfl) ?_
                  refine q_iconst hx hb dX3_areNeighboursFound_96 ?_
                  refine q_bipush hx hb dX3_areNeighboursFound_97 (by decide) ?_
                  refine lv_aload_n hx hb dX3_areNeighboursFound_99 rfl (lv_at hl 3 rfl) ?_
                  refine lv_iload_n hx hb dX3_areNeighboursFound_100 rfl (lv_at hl 4 rfl) ?_
                  refine q_vS C0 lX3_132 (c_X0_keyOf l D y L F h w o k g f w9 hR (by omega)) ⟨rfl, rfl⟩ rfl hP ha hF rfl rfl rfl hl rfl (Nat.le_of_ble_eq_true rfl) dX3_areNeighboursFound_101 ⟨Nat.zero_le _, Nat.zero_le _⟩ (fun r48 e_r48 => ?_)
                  subst e_r48
                  have b_49 := @keyR_b o w9 (by omega)
                  refine q_iconst hx hb dX3_areNeighboursFound_104 ?_
                  refine q_vS C0 lX3_126 (c_X0_nearInPart l D y L F h w o k g f 0 99 (keyR o w9) 3 hR (by omega) (by omega) (by omega) (by omega)) ⟨rfl, rfl⟩ rfl hP ha hF rfl rfl rfl hl rfl (Nat.le_of_ble_eq_true rfl) dX3_areNeighboursFound_105 ⟨Nat.zero_le _, Nat.zero_le _⟩ (fun r50 e_r50 => ?_)
                  subst e_r50
                  have b_51 := nearP_r o f 0 99 (keyR o w9) 3
                  refine lv_iload_n hx hb dX3_areNeighboursFound_108 rfl (lv_at hl 5 rfl) ?_
                  refine q_icmp_ne hx hb dX3_areNeighboursFound_109 (tgt := 116) (by decide) (by omega) (by omega) (fun c52 => ?_) (fun c52 => ?_)
                  · refine q_iconst hx hb dX3_areNeighboursFound_116 ?_
                    refine lv_istore (lv' := [(6, .int (iI 0)), (5, .int (iI 1)), (4, .int (iI 0)), (3, .int (iI ((keyR o r)))), (0, .ref h), (1, .int (iI w9)), (2, .int (iI r))]) hx hb dX3_areNeighboursFound_117 hl (by decide) rfl (fun ls hl => ?_)
                    refine lv_iload hx hb dX3_areNeighboursFound_119 (lv_at hl 2 rfl) ?_
                    refine q_if_eq hx hb dX3_areNeighboursFound_121 (tgt := 134) (by decide) (by omega) (fun c53 => ?_) (fun c53 => absurd c53 (by omega))
                    refine q_iconst hx hb dX3_areNeighboursFound_134 ?_
                    exact q_iretS C0 hret hlk dX3_areNeighboursFound_135 (by decide) (by rw [hI, nbP_s (by omega), if_neg (by omega), if_pos (by unfold nbOk; (repeat' split) <;> first | omega | (exfalso; omega))])
                  · refine q_iconst hx hb dX3_areNeighboursFound_112 ?_
                    refine lv_goto (tgt := 117) hx hb dX3_areNeighboursFound_113 (by decide) ?_
                    refine lv_istore (lv' := [(6, .int (iI 1)), (5, .int (iI 1)), (4, .int (iI 0)), (3, .int (iI ((keyR o r)))), (0, .ref h), (1, .int (iI w9)), (2, .int (iI r))]) hx hb dX3_areNeighboursFound_117 hl (by decide) rfl (fun ls hl => ?_)
                    refine lv_iload hx hb dX3_areNeighboursFound_119 (lv_at hl 2 rfl) ?_
                    refine q_if_eq hx hb dX3_areNeighboursFound_121 (tgt := 134) (by decide) (by omega) (fun c54 => ?_) (fun c54 => absurd c54 (by omega))
                    refine q_iconst hx hb dX3_areNeighboursFound_134 ?_
                    exact q_iretS C0 hret hlk dX3_areNeighboursFound_135 (by decide) (by rw [hI, nbP_s (by omega), if_neg (by omega), if_pos (by unfold nbOk; (repeat' split) <;> first | omega | (exfalso; omega))])
            · refine lv_aload_n hx hb dX3_areNeighboursFound_50 rfl (lv_at hl 1 rfl) ?_
              refine q_iconst hx hb dX3_areNeighboursFound_51 ?_
              refine q_bipush hx hb dX3_areNeighboursFound_52 (by decide) ?_
              refine lv_iload_n hx hb dX3_areNeighboursFound_54 rfl (lv_at hl 0 rfl) ?_
              refine q_iconst hx hb dX3_areNeighboursFound_55 ?_
              refine q_vS C0 lX3_126 (c_X0_nearInPart l D y L F h w o k g f 0 99 (keyR o r) 4 hR (by omega) (by omega) (by omega) (by omega)) ⟨rfl, rfl⟩ rfl hP ha hF rfl rfl rfl hl rfl (Nat.le_of_ble_eq_true rfl) dX3_areNeighboursFound_56 ⟨Nat.zero_le _, Nat.zero_le _⟩ (fun r55 e_r55 => ?_)
              subst e_r55
              have b_56 := nearP_r o f 0 99 (keyR o r) 4
              refine lv_iload_n hx hb dX3_areNeighboursFound_59 rfl (lv_at hl 3 rfl) ?_
              refine q_icmp_ne hx hb dX3_areNeighboursFound_60 (tgt := 67) (by decide) (by omega) (by omega) (fun c57 => ?_) (fun c57 => ?_)
              · refine q_iconst hx hb dX3_areNeighboursFound_67 ?_
                refine lv_istore (lv' := [(4, .int (iI 0)), (3, .int (iI ((keyR o r)))), (0, .ref h), (1, .int (iI w9)), (2, .int (iI r))]) hx hb dX3_areNeighboursFound_68 hl (by decide) rfl (fun ls hl => ?_)
                refine lv_aload_n hx hb dX3_areNeighboursFound_70 rfl (lv_at hl 2 rfl) ?_
                refine q_iconst hx hb dX3_areNeighboursFound_71 ?_
                refine q_bipush hx hb dX3_areNeighboursFound_72 (by decide) ?_
                refine lv_iload_n hx hb dX3_areNeighboursFound_74 rfl (lv_at hl 1 rfl) ?_
                refine q_iconst hx hb dX3_areNeighboursFound_75 ?_
                refine q_vS C0 lX3_126 (c_X0_nearInPart l D y L F h w o k g f 0 99 (keyR o r) 2 hR (by omega) (by omega) (by omega) (by omega)) ⟨rfl, rfl⟩ rfl hP ha hF rfl rfl rfl hl rfl (Nat.le_of_ble_eq_true rfl) dX3_areNeighboursFound_76 ⟨Nat.zero_le _, Nat.zero_le _⟩ (fun r58 e_r58 => ?_)
                subst e_r58
                have b_59 := nearP_r o f 0 99 (keyR o r) 2
                refine lv_iload_n hx hb dX3_areNeighboursFound_79 rfl (lv_at hl 3 rfl) ?_
                refine q_icmp_ne hx hb dX3_areNeighboursFound_80 (tgt := 87) (by decide) (by omega) (by omega) (fun c60 => ?_) (fun c60 => ?_)
                · refine q_iconst hx hb dX3_areNeighboursFound_87 ?_
                  refine lv_istore (lv' := [(5, .int (iI 0)), (4, .int (iI 0)), (3, .int (iI ((keyR o r)))), (0, .ref h), (1, .int (iI w9)), (2, .int (iI r))]) hx hb dX3_areNeighboursFound_88 hl (by decide) rfl (fun ls hl => ?_)
                  refine lv_iload_n hx hb dX3_areNeighboursFound_90 rfl (lv_at hl 4 rfl) ?_
                  refine q_iconst hx hb dX3_areNeighboursFound_91 ?_
                  refine q_icmp_eq hx hb dX3_areNeighboursFound_92 (tgt := 112) (by decide) (by omega) (by omega) (fun c61 => ?_) (fun c61 => ?_)
                  · refine q_iconst hx hb dX3_areNeighboursFound_112 ?_
                    refine lv_goto (tgt := 117) hx hb dX3_areNeighboursFound_113 (by decide) ?_
                    refine lv_istore (lv' := [(6, .int (iI 1)), (5, .int (iI 0)), (4, .int (iI 0)), (3, .int (iI ((keyR o r)))), (0, .ref h), (1, .int (iI w9)), (2, .int (iI r))]) hx hb dX3_areNeighboursFound_117 hl (by decide) rfl (fun ls hl => ?_)
                    refine lv_iload hx hb dX3_areNeighboursFound_119 (lv_at hl 2 rfl) ?_
                    refine q_if_eq hx hb dX3_areNeighboursFound_121 (tgt := 134) (by decide) (by omega) (fun c62 => ?_) (fun c62 => absurd c62 (by omega))
                    refine q_iconst hx hb dX3_areNeighboursFound_134 ?_
                    exact q_iretS C0 hret hlk dX3_areNeighboursFound_135 (by decide) (by rw [hI, nbP_s (by omega), if_neg (by omega), if_pos (by unfold nbOk; (repeat' split) <;> first | omega | (exfalso; omega))])
                  · refine lv_aload_n hx hb dX3_areNeighboursFound_95 rfl (lv_at hl 3 rfl) ?_
                    refine q_iconst hx hb dX3_areNeighboursFound_96 ?_
                    refine q_bipush hx hb dX3_areNeighboursFound_97 (by decide) ?_
                    refine lv_aload_n hx hb dX3_areNeighboursFound_99 rfl (lv_at hl 3 rfl) ?_
                    refine lv_iload_n hx hb dX3_areNeighboursFound_100 rfl (lv_at hl 4 rfl) ?_
                    refine q_vS C0 lX3_132 (c_X0_keyOf l D y L F h w o k g f w9 hR (by omega)) ⟨rfl, rfl⟩ rfl hP ha hF rfl rfl rfl hl rfl (Nat.le_of_ble_eq_true rfl) dX3_areNeighboursFound_101 ⟨Nat.zero_le _, Nat.zero_le _⟩ (fun r63 e_r63 => ?_)
                    subst e_r63
                    have b_64 := @keyR_b o w9 (by omega)
                    refine q_iconst hx hb dX3_areNeighboursFound_104 ?_
                    refine q_vS C0 lX3_126 (c_X0_nearInPart l D y L F h w o k g f 0 99 (keyR o w9) 3 hR (by omega) (by omega) (by omega) (by omega)) ⟨rfl, rfl⟩ rfl hP ha hF rfl rfl rfl hl rfl (Nat.le_of_ble_eq_true rfl) dX3_areNeighboursFound_105 ⟨Nat.zero_le _, Nat.zero_le _⟩ (fun r65 e_r65 => ?_)
                    subst e_r65
                    have b_66 := nearP_r o f 0 99 (keyR o w9) 3
                    refine lv_iload_n hx hb dX3_areNeighboursFound_108 rfl (lv_at hl 5 rfl) ?_
                    refine q_icmp_ne hx hb dX3_areNeighboursFound_109 (tgt := 116) (by decide) (by omega) (by omega) (fun c67 => ?_) (fun c67 => ?_)
                    · refine q_iconst hx hb dX3_areNeighboursFound_116 ?_
                      refine lv_istore (lv' := [(6, .int (iI 0)), (5, .int (iI 0)), (4, .int (iI 0)), (3, .int (iI ((keyR o r)))), (0, .ref h), (1, .int (iI w9)), (2, .int (iI r))]) hx hb dX3_areNeighboursFound_117 hl (by decide) rfl (fun ls hl => ?_)
                      refine lv_iload hx hb dX3_areNeighboursFound_119 (lv_at hl 2 rfl) ?_
                      refine q_if_eq hx hb dX3_areNeighboursFound_121 (tgt := 134) (by decide) (by omega) (fun c68 => ?_) (fun c68 => absurd c68 (by omega))
                      refine q_iconst hx hb dX3_areNeighboursFound_134 ?_
                      exact q_iretS C0 hret hlk dX3_areNeighboursFound_135 (by decide) (by rw [hI, nbP_s (by omega), if_neg (by omega), if_pos (by unfold nbOk; (repeat' split) <;> first | omega | (exfalso; omega))])
                    · refine q_iconst hx hb dX3_areNeighboursFound_112 ?_
                      refine lv_goto (tgt := 117) hx hb dX3_areNeighboursFound_113 (by decide) ?_
                      refine lv_istore (lv' := [(6, .int (iI 1)), (5, .int (iI 0)), (4, .int (iI 0)), (3, .int (iI ((keyR o r)))), (0, .ref h), (1, .int (iI w9)), (2, .int (iI r))]) hx hb dX3_areNeighboursFound_117 hl (by decide) rfl (fun ls hl => ?_)
                      refine lv_iload hx hb dX3_areNeighboursFound_119 (lv_at hl 2 rfl) ?_
                      refine q_if_eq hx hb dX3_areNeighboursFound_121 (tgt := 134) (by decide) (by omega) (fun c69 => ?_) (fun c69 => absurd c69 (by omega))
                      refine q_iconst hx hb dX3_areNeighboursFound_134 ?_
                      exact q_iretS C0 hret hlk dX3_areNeighboursFound_135 (by decide) (by rw [hI, nbP_s (by omega), if_neg (by omega), if_pos (by unfold nbOk; (repeat' split) <;> first | omega | (exfalso; omega))])
                · refine q_iconst hx hb dX3_areNeighboursFound_83 ?_
                  refine lv_goto (tgt := 88) hx hb dX3_areNeighboursFound_84 (by decide) ?_
                  refine lv_istore (lv' := [(5, .int (iI 1)), (4, .int (iI 0)), (3, .int (iI ((keyR o r)))), (0, .ref h), (1, .int (iI w9)), (2, .int (iI r))]) hx hb dX3_areNeighboursFound_88 hl (by decide) rfl (fun ls hl => ?_)
                  refine lv_iload_n hx hb dX3_areNeighboursFound_90 rfl (lv_at hl 4 rfl) ?_
                  refine q_iconst hx hb dX3_areNeighboursFound_91 ?_
                  refine q_icmp_eq hx hb dX3_areNeighboursFound_92 (tgt := 112) (by decide) (by omega) (by omega) (fun c70 => ?_) (fun c70 => ?_)
                  · refine q_iconst hx hb dX3_areNeighboursFound_112 ?_
                    refine lv_goto (tgt := 117) hx hb dX3_areNeighboursFound_113 (by decide) ?_
                    refine lv_istore (lv' := [(6, .int (iI 1)), (5, .int (iI 1)), (4, .int (iI 0)), (3, .int (iI ((keyR o r)))), (0, .ref h), (1, .int (iI w9)), (2, .int (iI r))]) hx hb dX3_areNeighboursFound_117 hl (by decide) rfl (fun ls hl => ?_)
                    refine lv_iload hx hb dX3_areNeighboursFound_119 (lv_at hl 2 rfl) ?_
                    refine q_if_eq hx hb dX3_areNeighboursFound_121 (tgt := 134) (by decide) (by omega) (fun c71 => ?_) (fun c71 => absurd c71 (by omega))
                    refine q_iconst hx hb dX3_areNeighboursFound_134 ?_
                    exact q_iretS C0 hret hlk dX3_areNeighboursFound_135 (by decide) (by rw [hI, nbP_s (by omega), if_neg (by omega), if_pos (by unfold nbOk; (repeat' split) <;> first | omega | (exfalso; omega))])
                  · refine lv_aload_n hx hb dX3_areNeighboursFound_95 rfl (lv_at hl 3 rfl) ?_
                    refine q_iconst hx hb dX3_areNeighboursFound_96 ?_
                    refine q_bipush hx hb dX3_areNeighboursFound_97 (by decide) ?_
                    refine lv_aload_n hx hb dX3_areNeighboursFound_99 rfl (lv_at hl 3 rfl) ?_
                    refine lv_iload_n hx hb dX3_areNeighboursFound_100 rfl (lv_at hl 4 rfl) ?_
                    refine q_vS C0 lX3_132 (c_X0_keyOf l D y L F h w o k g f w9 hR (by omega)) ⟨rfl, rfl⟩ rfl hP ha hF rfl rfl rfl hl rfl (Nat.le_of_ble_eq_true rfl) dX3_areNeighboursFound_101 ⟨Nat.zero_le _, Nat.zero_le _⟩ (fun r72 e_r72 => ?_)
                    subst e_r72
                    have b_73 := @keyR_b o w9 (by omega)
                    refine q_iconst hx hb dX3_areNeighboursFound_104 ?_
                    refine q_vS C0 lX3_126 (c_X0_nearInPart l D y L F h w o k g f 0 99 (keyR o w9) 3 hR (by omega) (by omega) (by omega) (by omega)) ⟨rfl, rfl⟩ rfl hP ha hF rfl rfl rfl hl rfl (Nat.le_of_ble_eq_true rfl) dX3_areNeighboursFound_105 ⟨Nat.zero_le _, Nat.zero_le _⟩ (fun r74 e_r74 => ?_)
                    subst e_r74
                    have b_75 := nearP_r o f 0 99 (keyR o w9) 3
                    refine lv_iload_n hx hb dX3_areNeighboursFound_108 rfl (lv_at hl 5 rfl) ?_
                    refine q_icmp_ne hx hb dX3_areNeighboursFound_109 (tgt := 116) (by decide) (by omega) (by omega) (fun c76 => ?_) (fun c76 => ?_)
                    · refine q_iconst hx hb dX3_areNeighboursFound_116 ?_
                      refine lv_istore (lv' := [(6, .int (iI 0)), (5, .int (iI 1)), (4, .int (iI 0)), (3, .int (iI ((keyR o r)))), (0, .ref h), (1, .int (iI w9)), (2, .int (iI r))]) hx hb dX3_areNeighboursFound_117 hl (by decide) rfl (fun ls hl => ?_)
                      refine lv_iload hx hb dX3_areNeighboursFound_119 (lv_at hl 2 rfl) ?_
                      refine q_if_eq hx hb dX3_areNeighboursFound_121 (tgt := 134) (by decide) (by omega) (fun c77 => ?_) (fun c77 => absurd c77 (by omega))
                      refine q_iconst hx hb dX3_areNeighboursFound_134 ?_
                      exact q_iretS C0 hret hlk dX3_areNeighboursFound_135 (by decide) (by rw [hI, nbP_s (by omega), if_neg (by omega), if_pos (by unfold nbOk; (repeat' split) <;> first | omega | (exfalso; omega))])
                    · refine q_iconst hx hb dX3_areNeighboursFound_112 ?_
                      refine lv_goto (tgt := 117) hx hb dX3_areNeighboursFound_113 (by decide) ?_
                      refine lv_istore (lv' := [(6, .int (iI 1)), (5, .int (iI 1)), (4, .int (iI 0)), (3, .int (iI ((keyR o r)))), (0, .ref h), (1, .int (iI w9)), (2, .int (iI r))]) hx hb dX3_areNeighboursFound_117 hl (by decide) rfl (fun ls hl => ?_)
                      refine lv_iload hx hb dX3_areNeighboursFound_119 (lv_at hl 2 rfl) ?_
                      refine q_if_eq hx hb dX3_areNeighboursFound_121 (tgt := 134) (by decide) (by omega) (fun c78 => ?_) (fun c78 => absurd c78 (by omega))
                      refine q_iconst hx hb dX3_areNeighboursFound_134 ?_
                      exact q_iretS C0 hret hlk dX3_areNeighboursFound_135 (by decide) (by rw [hI, nbP_s (by omega), if_neg (by omega), if_pos (by unfold nbOk; (repeat' split) <;> first | omega | (exfalso; omega))])
              · refine q_iconst hx hb dX3_areNeighboursFound_63 ?_
                refine lv_goto (tgt := 68) hx hb dX3_areNeighboursFound_64 (by decide) ?_
                refine lv_istore (lv' := [(4, .int (iI 1)), (3, .int (iI ((keyR o r)))), (0, .ref h), (1, .int (iI w9)), (2, .int (iI r))]) hx hb dX3_areNeighboursFound_68 hl (by decide) rfl (fun ls hl => ?_)
                refine lv_aload_n hx hb dX3_areNeighboursFound_70 rfl (lv_at hl 2 rfl) ?_
                refine q_iconst hx hb dX3_areNeighboursFound_71 ?_
                refine q_bipush hx hb dX3_areNeighboursFound_72 (by decide) ?_
                refine lv_iload_n hx hb dX3_areNeighboursFound_74 rfl (lv_at hl 1 rfl) ?_
                refine q_iconst hx hb dX3_areNeighboursFound_75 ?_
                refine q_vS C0 lX3_126 (c_X0_nearInPart l D y L F h w o k g f 0 99 (keyR o r) 2 hR (by omega) (by omega) (by omega) (by omega)) ⟨rfl, rfl⟩ rfl hP ha hF rfl rfl rfl hl rfl (Nat.le_of_ble_eq_true rfl) dX3_areNeighboursFound_76 ⟨Nat.zero_le _, Nat.zero_le _⟩ (fun r79 e_r79 => ?_)
                subst e_r79
                have b_80 := nearP_r o f 0 99 (keyR o r) 2
                refine lv_iload_n hx hb dX3_areNeighboursFound_79 rfl (lv_at hl 3 rfl) ?_
                refine q_icmp_ne hx hb dX3_areNeighboursFound_80 (tgt := 87) (by decide) (by omega) (by omega) (fun c81 => ?_) (fun c81 => ?_)
                · refine q_iconst hx hb dX3_areNeighboursFound_87 ?_
                  refine lv_istore (lv' := [(5, .int (iI 0)), (4, .int (iI 1)), (3, .int (iI ((keyR o r)))), (0, .ref h), (1, .int (iI w9)), (2, .int (iI r))]) hx hb dX3_areNeighboursFound_88 hl (by decide) rfl (fun ls hl => ?_)
                  refine lv_iload_n hx hb dX3_areNeighboursFound_90 rfl (lv_at hl 4 rfl) ?_
                  refine q_iconst hx hb dX3_areNeighboursFound_91 ?_
                  refine q_icmp_eq hx hb dX3_areNeighboursFound_92 (tgt := 112) (by decide) (by omega) (by omega) (fun c82 => ?_) (fun c82 => ?_)
                  · refine q_iconst hx hb dX3_areNeighboursFound_112 ?_
                    refine lv_goto (tgt := 117) hx hb dX3_areNeighboursFound_113 (by decide) ?_
                    refine lv_istore (lv' := [(6, .int (iI 1)), (5, .int (iI 0)), (4, .int (iI 1)), (3, .int (iI ((keyR o r)))), (0, .ref h), (1, .int (iI w9)), (2, .int (iI r))]) hx hb dX3_areNeighboursFound_117 hl (by decide) rfl (fun ls hl => ?_)
                    refine lv_iload hx hb dX3_areNeighboursFound_119 (lv_at hl 2 rfl) ?_
                    refine q_if_eq hx hb dX3_areNeighboursFound_121 (tgt := 134) (by decide) (by omega) (fun c83 => absurd c83 (by omega)) (fun c83 => ?_)
                    refine lv_iload hx hb dX3_areNeighboursFound_124 (lv_at hl 1 rfl) ?_
                    refine q_if_eq hx hb dX3_areNeighboursFound_126 (tgt := 134) (by decide) (by omega) (fun c84 => ?_) (fun c84 => absurd c84 (by omega))
                    refine q_iconst hx hb dX3_areNeighboursFound_134 ?_
                    exact q_iretS C0 hret hlk dX3_areNeighboursFound_135 (by decide) (by rw [hI, nbP_s (by omega), if_neg (by omega), if_pos (by unfold nbOk; (repeat' split) <;> first | omega | (exfalso; omega))])
                  · refine lv_aload_n hx hb dX3_areNeighboursFound_95 rfl (lv_at hl 3 rfl) ?_
                    refine q_iconst hx hb dX3_areNeighboursFound_96 ?_
                    refine q_bipush hx hb dX3_areNeighboursFound_97 (by decide) ?_
                    refine lv_aload_n hx hb dX3_areNeighboursFound_99 rfl (lv_at hl 3 rfl) ?_
                    refine lv_iload_n hx hb dX3_areNeighboursFound_100 rfl (lv_at hl 4 rfl) ?_
                    refine q_vS C0 lX3_132 (c_X0_keyOf l D y L F h w o k g f w9 hR (by omega)) ⟨rfl, rfl⟩ rfl hP ha hF rfl rfl rfl hl rfl (Nat.le_of_ble_eq_true rfl) dX3_areNeighboursFound_101 ⟨Nat.zero_le _, Nat.zero_le _⟩ (fun r85 e_r85 => ?_)
                    subst e_r85
                    have b_86 := @keyR_b o w9 (by omega)
                    refine q_iconst hx hb dX3_areNeighboursFound_104 ?_
                    refine q_vS C0 lX3_126 (c_X0_nearInPart l D y L F h w o k g f 0 99 (keyR o w9) 3 hR (by omega) (by omega) (by omega) (by omega)) ⟨rfl, rfl⟩ rfl hP ha hF rfl rfl rfl hl rfl (Nat.le_of_ble_eq_true rfl) dX3_areNeighboursFound_105 ⟨Nat.zero_le _, Nat.zero_le _⟩ (fun r87 e_r87 => ?_)
                    subst e_r87
                    have b_88 := nearP_r o f 0 99 (keyR o w9) 3
                    refine lv_iload_n hx hb dX3_areNeighboursFound_108 rfl (lv_at hl 5 rfl) ?_
                    refine q_icmp_ne hx hb dX3_areNeighboursFound_109 (tgt := 116) (by decide) (by omega) (by omega) (fun c89 => ?_) (fun c89 => ?_)
                    · refine q_iconst hx hb dX3_areNeighboursFound_116 ?_
                      refine lv_istore (lv' := [(6, .int (iI 0)), (5, .int (iI 0)), (4, .int (iI 1)), (3, .int (iI ((keyR o r)))), (0, .ref h), (1, .int (iI w9)), (2, .int (iI r))]) hx hb dX3_areNeighboursFound_117 hl (by decide) rfl (fun ls hl => ?_)
                      refine lv_iload hx hb dX3_areNeighboursFound_119 (lv_at hl 2 rfl) ?_
                      refine q_if_eq hx hb dX3_areNeighboursFound_121 (tgt := 134) (by decide) (by omega) (fun c90 => absurd c90 (by omega)) (fun c90 => ?_)
                      refine lv_iload hx hb dX3_areNeighboursFound_124 (lv_at hl 1 rfl) ?_
                      refine q_if_eq hx hb dX3_areNeighboursFound_126 (tgt := 134) (by decide) (by omega) (fun c91 => ?_) (fun c91 => absurd c91 (by omega))
                      refine q_iconst hx hb dX3_areNeighboursFound_134 ?_
                      exact q_iretS C0 hret hlk dX3_areNeighboursFound_135 (by decide) (by rw [hI, nbP_s (by omega), if_neg (by omega), if_pos (by unfold nbOk; (repeat' split) <;> first | omega | (exfalso; omega))])
                    · refine q_iconst hx hb dX3_areNeighboursFound_112 ?_
                      refine lv_goto (tgt := 117) hx hb dX3_areNeighboursFound_113 (by decide) ?_
                      refine lv_istore (lv' := [(6, .int (iI 1)), (5, .int (iI 0)), (4, .int (iI 1)), (3, .int (iI ((keyR o r)))), (0, .ref h), (1, .int (iI w9)), (2, .int (iI r))]) hx hb dX3_areNeighboursFound_117 hl (by decide) rfl (fun ls hl => ?_)
                      refine lv_iload hx hb dX3_areNeighboursFound_119 (lv_at hl 2 rfl) ?_
                      refine q_if_eq hx hb dX3_areNeighboursFound_121 (tgt := 134) (by decide) (by omega) (fun c92 => absurd c92 (by omega)) (fun c92 => ?_)
                      refine lv_iload hx hb dX3_areNeighboursFound_124 (lv_at hl 1 rfl) ?_
                      refine q_if_eq hx hb dX3_areNeighboursFound_126 (tgt := 134) (by decide) (by omega) (fun c93 => ?_) (fun c93 => absurd c93 (by omega))
                      refine q_iconst hx hb dX3_areNeighboursFound_134 ?_
                      exact q_iretS C0 hret hlk dX3_areNeighboursFound_135 (by decide) (by rw [hI, nbP_s (by omega), if_neg (by omega), if_pos (by unfold nbOk; (repeat' split) <;> first | omega | (exfalso; omega))])
                · refine q_iconst hx hb dX3_areNeighboursFound_83 ?_
                  refine lv_goto (tgt := 88) hx hb dX3_areNeighboursFound_84 (by decide) ?_
                  refine lv_istore (lv' := [(5, .int (iI 1)), (4, .int (iI 1)), (3, .int (iI ((keyR o r)))), (0, .ref h), (1, .int (iI w9)), (2, .int (iI r))]) hx hb dX3_areNeighboursFound_88 hl (by decide) rfl (fun ls hl => ?_)
                  refine lv_iload_n hx hb dX3_areNeighboursFound_90 rfl (lv_at hl 4 rfl) ?_
                  refine q_iconst hx hb dX3_areNeighboursFound_91 ?_
                  refine q_icmp_eq hx hb dX3_areNeighboursFound_92 (tgt := 112) (by decide) (by omega) (by omega) (fun c94 => ?_) (fun c94 => ?_)
                  · refine q_iconst hx hb dX3_areNeighboursFound_112 ?_
                    refine lv_goto (tgt := 117) hx hb dX3_areNeighboursFound_113 (by decide) ?_
                    refine lv_istore (lv' := [(6, .int (iI 1)), (5, .int (iI 1)), (4, .int (iI 1)), (3, .int (iI ((keyR o r)))), (0, .ref h), (1, .int (iI w9)), (2, .int (iI r))]) hx hb dX3_areNeighboursFound_117 hl (by decide) rfl (fun ls hl => ?_)
                    refine lv_iload hx hb dX3_areNeighboursFound_119 (lv_at hl 2 rfl) ?_
                    refine q_if_eq hx hb dX3_areNeighboursFound_121 (tgt := 134) (by decide) (by omega) (fun c95 => absurd c95 (by omega)) (fun c95 => ?_)
                    refine lv_iload hx hb dX3_areNeighboursFound_124 (lv_at hl 1 rfl) ?_
                    refine q_if_eq hx hb dX3_areNeighboursFound_126 (tgt := 134) (by decide) (by omega) (fun c96 => absurd c96 (by omega)) (fun c96 => ?_)
                    refine lv_iload hx hb dX3_areNeighboursFound_129 (lv_at hl 0 rfl) ?_
                    refine q_if_ne hx hb dX3_areNeighboursFound_131 (tgt := 136) (by decide) (by omega) (fun c97 => ?_) (fun c97 => absurd c97 (by omega))
                    refine lv_iload_n hx hb dX3_areNeighboursFound_136 rfl (lv_at hl 6 rfl) ?_
                    refine lv_istore_n (lv' := [(1, .int (iI r)), (6, .int (iI 1)), (5, .int (iI 1)), (4, .int (iI 1)), (3, .int (iI ((keyR o r)))), (0, .ref h), (2, .int (iI r))]) hx hb dX3_areNeighboursFound_137 rfl hl (by decide) rfl (fun ls hl => ?_)
                    refine q_iinc (x := r) (n := 1) (lv' := [(2, .int (iI ((r + 1)))), (1, .int (iI r)), (6, .int (iI 1)), (5, .int (iI 1)), (4, .int (iI 1)), (3, .int (iI ((keyR o r)))), (0, .ref h)]) hx hb dX3_areNeighboursFound_138 hl (k := 6) rfl (by decide) rfl (fun ls hl => ?_)
                    refine lv_goto (tgt := 4) hx hb dX3_areNeighboursFound_141 (by decide) ?_
                    exact ih_LP4 _ (by omega) (r + 1) r (by omega) (by omega) (by first | (rw [hI, nbP_s (by omega), if_pos (by omega)]; done) | (rw [hI, nbP_s (by omega), if_neg (by omega), if_neg (by unfold nbOk; (repeat' split) <;> first | omega | (exfalso; omega))])) rfl ls (lv_sub hl [6, 1, 0] rfl)
                  · refine lv_aload_n hx hb dX3_areNeighboursFound_95 rfl (lv_at hl 3 rfl) ?_
                    refine q_iconst hx hb dX3_areNeighboursFound_96 ?_
                    refine q_bipush hx hb dX3_areNeighboursFound_97 (by decide) ?_
                    refine lv_aload_n hx hb dX3_areNeighboursFound_99 rfl (lv_at hl 3 rfl) ?_
                    refine lv_iload_n hx hb dX3_areNeighboursFound_100 rfl (lv_at hl 4 rfl) ?_
                    refine q_vS C0 lX3_132 (c_X0_keyOf l D y L F h w o k g f w9 hR (by omega)) ⟨rfl, rfl⟩ rfl hP ha hF rfl rfl rfl hl rfl (Nat.le_of_ble_eq_true rfl) dX3_areNeighboursFound_101 ⟨Nat.zero_le _, Nat.zero_le _⟩ (fun r98 e_r98 => ?_)
                    subst e_r98
                    have b_99 := @keyR_b o w9 (by omega)
                    refine q_iconst hx hb dX3_areNeighboursFound_104 ?_
                    refine q_vS C0 lX3_126 (c_X0_nearInPart l D y L F h w o k g f 0 99 (keyR o w9) 3 hR (by omega) (by omega) (by omega) (by omega)) ⟨rfl, rfl⟩ rfl hP ha hF rfl rfl rfl hl rfl (Nat.le_of_ble_eq_true rfl) dX3_areNeighboursFound_105 ⟨Nat.zero_le _, Nat.zero_le _⟩ (fun r100 e_r100 => ?_)
                    subst e_r100
                    have b_101 := nearP_r o f 0 99 (keyR o w9) 3
                    refine lv_iload_n hx hb dX3_areNeighboursFound_108 rfl (lv_at hl 5 rfl) ?_
                    refine q_icmp_ne hx hb dX3_areNeighboursFound_109 (tgt := 116) (by decide) (by omega) (by omega) (fun c102 => ?_) (fun c102 => ?_)
                    · refine q_iconst hx hb dX3_areNeighboursFound_116 ?_
                      refine lv_istore (lv' := [(6, .int (iI 0)), (5, .int (iI 1)), (4, .int (iI 1)), (3, .int (iI ((keyR o r)))), (0, .ref h), (1, .int (iI w9)), (2, .int (iI r))]) hx hb dX3_areNeighboursFound_117 hl (by decide) rfl (fun ls hl => ?_)
                      refine lv_iload hx hb dX3_areNeighboursFound_119 (lv_at hl 2 rfl) ?_
                      refine q_if_eq hx hb dX3_areNeighboursFound_121 (tgt := 134) (by decide) (by omega) (fun c103 => absurd c103 (by omega)) (fun c103 => ?_)
                      refine lv_iload hx hb dX3_areNeighboursFound_124 (lv_at hl 1 rfl) ?_
                      refine q_if_eq hx hb dX3_areNeighboursFound_126 (tgt := 134) (by decide) (by omega) (fun c104 => absurd c104 (by omega)) (fun c104 => ?_)
                      refine lv_iload hx hb dX3_areNeighboursFound_129 (lv_at hl 0 rfl) ?_
                      refine q_if_ne hx hb dX3_areNeighboursFound_131 (tgt := 136) (by decide) (by omega) (fun c105 => absurd c105 (by omega)) (fun c105 => ?_)
                      refine q_iconst hx hb dX3_areNeighboursFound_134 ?_
                      exact q_iretS C0 hret hlk dX3_areNeighboursFound_135 (by decide) (by rw [hI, nbP_s (by omega), if_neg (by omega), if_pos (by unfold nbOk; (repeat' split) <;> first | omega | (exfalso; omega))])
                    · refine q_iconst hx hb dX3_areNeighboursFound_112 ?_
                      refine lv_goto (tgt := 117) hx hb dX3_areNeighboursFound_113 (by decide) ?_
                      refine lv_istore (lv' := [(6, .int (iI 1)), (5, .int (iI 1)), (4, .int (iI 1)), (3, .int (iI ((keyR o r)))), (0, .ref h), (1, .int (iI w9)), (2, .int (iI r))]) hx hb dX3_areNeighboursFound_117 hl (by decide) rfl (fun ls hl => ?_)
                      refine lv_iload hx hb dX3_areNeighboursFound_119 (lv_at hl 2 rfl) ?_
                      refine q_if_eq hx hb dX3_areNeighboursFound_121 (tgt := 134) (by decide) (by omega) (fun c106 => absurd c106 (by omega)) (fun c106 => ?_)
                      refine lv_iload hx hb dX3_areNeighboursFound_124 (lv_at hl 1 rfl) ?_
                      refine q_if_eq hx hb dX3_areNeighboursFound_126 (tgt := 134) (by decide) (by omega) (fun c107 => absurd c107 (by omega)) (fun c107 => ?_)
                      refine lv_iload hx hb dX3_areNeighboursFound_129 (lv_at hl 0 rfl) ?_
                      refine q_if_ne hx hb dX3_areNeighboursFound_131 (tgt := 136) (by decide) (by omega) (fun c108 => ?_) (fun c108 => absurd c108 (by omega))
                      refine lv_iload_n hx hb dX3_areNeighboursFound_136 rfl (lv_at hl 6 rfl) ?_
                      refine lv_istore_n (lv' := [(1, .int (iI r)), (6, .int (iI 1)), (5, .int (iI 1)), (4, .int (iI 1)), (3, .int (iI ((keyR o r)))), (0, .ref h), (2, .int (iI r))]) hx hb dX3_areNeighboursFound_137 rfl hl (by decide) rfl (fun ls hl => ?_)
                      refine q_iinc (x := r) (n := 1) (lv' := [(2, .int (iI ((r + 1)))), (1, .int (iI r)), (6, .int (iI 1)), (5, .int (iI 1)), (4, .int (iI 1)), (3, .int (iI ((keyR o r)))), (0, .ref h)]) hx hb dX3_areNeighboursFound_138 hl (k := 6) rfl (by decide) rfl (fun ls hl => ?_)
                      refine lv_goto (tgt := 4) hx hb dX3_areNeighboursFound_141 (by decide) ?_
                      exact ih_LP4 _ (by omega) (r + 1) r (by omega) (by omega) (by first | (rw [hI, nbP_s (by omega), if_pos (by omega)]; done) | (rw [hI, nbP_s (by omega), if_neg (by omega), if_neg (by unfold nbOk; (repeat' split) <;> first | omega | (exfalso; omega))])) rfl ls (lv_sub hl [6, 1, 0] rfl)
  exact LP4 _ 0 (-1) (by omega) (by omega) (rfl) rfl ls (lv_sub hl [2, 1, 0] rfl)
set_option maxHeartbeats 800000 in
set_option maxRecDepth 100000 in
theorem c_X3_isRowSound (l : Launch) (D : va_G) (y : Nat → ClassId) (L : List Nat) (F : Nat → va_E) (sz : Nat) (h : Nat) (w : Nat) (o : Int) (k : Int) (g : Int) (f : Int → Int) (hR : Rw y L F h w o k g f) (hk : -1000000 ≤ k ∧ k ≤ 1000000) : Met l yX3_isRowSound (.code yX3_isRowSound cX3_isRowSound 1 (some .boolean) :: Tt) ({ frames := 4, cells := 2, slots := 104, locals := 95 }) (PcM D y L F sz [.ref h]) (cMi D (AL L sz) (fun r L1 F1 => r = rsnd o k f ∧ (∀ a ∈ L, a ∈ L1) ∧ ∀ a ∈ L, F1 a = F a)) 2 104 (AL L sz) := by
  have hfr : ∀ a ∈ L, F a = F a := fun _ _ => rfl
  have hLs : ∀ a ∈ L, a ∈ L := fun _ h => h
  have ho := hR.2.2.2.2.1
  have qb_ := sameR_b o o f (addS o o f 0 99 (0, 0, emp)).2.2
  refine q_ofM (lv := [(0, .ref h)]) (by decide) (Nat.le_of_ble_eq_true rfl) rfl (fun p e s m below meth c C0 hret hlk hnm hA hP hD hS ls hl => ?_)
  have hx := C0.1.1
  have hb := C0.1.2.1
  have hts := C0.1.2.2.2.2
  refine lv_aload_n hx hb dX3_isRowSound_0 rfl (lv_at hl 0 rfl) ?_
  refine q_iconst hx hb dX3_isRowSound_1 ?_
  refine q_bipush hx hb dX3_isRowSound_2 (by decide) ?_
  refine lv_aload_n hx hb dX3_isRowSound_4 rfl (lv_at hl 0 rfl) ?_
  refine q_get C0 iX0 hP hR.1 hR.2.1 rfl 2 (by decide) flX3_49 rfl rfl dX3_isRowSound_5 ?_
  refine q_sS C0 lX3_306 (c_X3_isToldInOrder l D y L F h w o k g f 0 99 k hR (by omega) (by omega) (by omega)) ⟨rfl, rfl⟩ rfl hP rfl hl rfl (Nat.le_of_ble_eq_true rfl) dX3_isRowSound_8 ⟨Nat.zero_le _, Nat.zero_le _⟩ (fun r1 e_r1 => ?_)
  subst e_r1
  have b_2 := inOrd_b o f 0 99 k
  refine q_if_eq hx hb dX3_isRowSound_11 (tgt := 50) (by decide) (by omega) (fun c3 => ?_) (fun c3 => ?_)
  · refine q_iconst hx hb dX3_isRowSound_50 ?_
    refine W.widen (k := 2) (n := 104) (Nat.le_of_ble_eq_true rfl) (Nat.le_of_ble_eq_true rfl) ?_
    exact q_retMi C0 hret (by decide) hlk dX3_isRowSound_51 hP hD hS (⟨(by unfold rsnd; (repeat' split) <;> first | rfl | omega | (exfalso; omega)), hLs, hfr⟩)
  · refine lv_aload_n hx hb dX3_isRowSound_14 rfl (lv_at hl 0 rfl) ?_
    refine q_sS C0 lX3_310 (c_X3_isToldBackwards l D y L F h w o k g f hR (by omega)) ⟨rfl, rfl⟩ rfl hP rfl hl rfl (Nat.le_of_ble_eq_true rfl) dX3_isRowSound_15 ⟨Nat.zero_le _, Nat.zero_le _⟩ (fun r4 e_r4 => ?_)
    subst e_r4
    have b_5 := bwOrd_b o f k
    refine q_if_eq hx hb dX3_isRowSound_18 (tgt := 50) (by decide) (by omega) (fun c6 => ?_) (fun c6 => ?_)
    · refine q_iconst hx hb dX3_isRowSound_50 ?_
      refine W.widen (k := 2) (n := 104) (Nat.le_of_ble_eq_true rfl) (Nat.le_of_ble_eq_true rfl) ?_
      exact q_retMi C0 hret (by decide) hlk dX3_isRowSound_51 hP hD hS (⟨(by unfold rsnd; (repeat' split) <;> first | rfl | omega | (exfalso; omega)), hLs, hfr⟩)
    · refine lv_aload_n hx hb dX3_isRowSound_21 rfl (lv_at hl 0 rfl) ?_
      refine q_sS C0 lX3_313 (c_X3_areNeighboursFound l D y L F h w o k g f hR) ⟨rfl, rfl⟩ rfl hP rfl hl rfl (Nat.le_of_ble_eq_true rfl) dX3_isRowSound_22 ⟨Nat.zero_le _, Nat.zero_le _⟩ (fun r7 e_r7 => ?_)
      subst e_r7
      have b_8 := nbP_b o f 0 (-1)
      refine q_if_eq hx hb dX3_isRowSound_25 (tgt := 50) (by decide) (by omega) (fun c9 => ?_) (fun c9 => ?_)
      · refine q_iconst hx hb dX3_isRowSound_50 ?_
        refine W.widen (k := 2) (n := 104) (Nat.le_of_ble_eq_true rfl) (Nat.le_of_ble_eq_true rfl) ?_
        exact q_retMi C0 hret (by decide) hlk dX3_isRowSound_51 hP hD hS (⟨(by unfold rsnd; (repeat' split) <;> first | rfl | omega | (exfalso; omega)), hLs, hfr⟩)
      · refine lv_aload_n hx hb dX3_isRowSound_28 rfl (lv_at hl 0 rfl) ?_
        refine lv_aload_n hx hb dX3_isRowSound_29 rfl (lv_at hl 0 rfl) ?_
        refine q_iconst hx hb dX3_isRowSound_30 ?_
        refine q_bipush hx hb dX3_isRowSound_31 (by decide) ?_
        refine lv_aload_n hx hb dX3_isRowSound_33 rfl (lv_at hl 0 rfl) ?_
        refine q_get C0 iX0 hP hR.1 hR.2.1 rfl 0 (by decide) flX3_74 rfl rfl dX3_isRowSound_34 ?_
        refine q_vMa C0 lX3_56 (c_X0_copyOfPart l D y L F _ h w o k g f 0 99 o hR (by omega) (by omega) (by omega)) ⟨rfl, rfl⟩ rfl hP hD hS hA hR.1 hR.2.1 rfl rfl rfl hl rfl (Nat.le_of_ble_eq_true rfl) dX3_isRowSound_37 ⟨Nat.le_of_ble_eq_true rfl, Nat.le_of_ble_eq_true rfl⟩ (fun r10 H locs L11 F11 hP hD hS hz11 hp11 => ?_)
        refine W.widen (k := 2) (n := 104) (Nat.le_of_ble_eq_true rfl) (Nat.le_of_ble_eq_true rfl) ?_
        obtain ⟨r10q, eL, hr_, hq_, hrq_, hRn, hfn⟩ := hp11
        subst eL
        have hfr : ∀ a ∈ L, F11 a = F a := fun a h1 => (hfn a h1).trans (hfr a h1)
        have hLs : ∀ a ∈ L, a ∈ ((L ++ [r10]) ++ [r10q]) := fun a h1 => List.mem_append_left _ (List.mem_append_left _ h1)
        have hR := Rw_mono hR hLs hfr
        refine q_vS C0 lX3_167 (c_X0_isSameAs l D y ((L ++ [r10]) ++ [r10q]) F11 h w o k g f r10 r10q o ((addS o o f 0 99 (0, 0, emp)).1) ((addS o o f 0 99 (0, 0, emp)).2.1) ((addS o o f 0 99 (0, 0, emp)).2.2) hR hRn) ⟨rfl, rfl⟩ rfl hP hR.1 hR.2.1 rfl rfl rfl hl rfl (Nat.le_of_ble_eq_true rfl) dX3_isRowSound_40 ⟨Nat.le_of_ble_eq_true rfl, Nat.le_of_ble_eq_true rfl⟩ (fun r12 e_r12 => ?_)
        subst e_r12
        have b_13 := sameR_b o o f ((addS o o f 0 99 (0, 0, emp)).2.2)
        refine q_if_eq hx hb dX3_isRowSound_43 (tgt := 50) (by decide) (by omega) (fun c14 => ?_) (fun c14 => ?_)
        · refine q_iconst hx hb dX3_isRowSound_50 ?_
          exact q_retMi C0 hret (by decide) hlk dX3_isRowSound_51 hP hD hS (⟨(by unfold rsnd; (repeat' split) <;> first | rfl | omega | (exfalso; omega)), hLs, hfr⟩)
        · refine q_iconst hx hb dX3_isRowSound_46 ?_
          refine lv_goto (tgt := 51) hx hb dX3_isRowSound_47 (by decide) ?_
          exact q_retMi C0 hret (by decide) hlk dX3_isRowSound_51 hP hD hS (⟨(by unfold rsnd; (repeat' split) <;> first | rfl | omega | (exfalso; omega)), hLs, hfr⟩)
set_option maxHeartbeats 800000 in
set_option maxRecDepth 100000 in
theorem c_X3_isViewSound (l : Launch) (D : va_G) (y : Nat → ClassId) (L : List Nat) (F : Nat → va_E) (O : Nat → Prop) (G : CG) (σ : CS) (v : Int) (hC : CP y L F O G σ) (hv : 0 ≤ v ∧ v < 2) (hi : zvw σ v < zn σ) (hvl : -900 ≤ zvl σ v ∧ zvl σ v ≤ 900) (hvh : -900 ≤ zvh σ v ∧ zvh σ v ≤ 900) (hk : -1000000 ≤ (zst σ (zvw σ v)).1 ∧ (zst σ (zvw σ v)).1 ≤ 1000000) : Met l yX3_isViewSound (.code yX3_isViewSound cX3_isViewSound 2 (some .boolean) :: Tt) ({ frames := 4, cells := 0, slots := 0, locals := 95 }) (PcR D y L F [.ref ((gva G v))]) (cS (fun r => r = vS σ v)) 0 0 (fun _ => False) := by
  have cb_ := cntP_b (zst σ (zvw σ v)).2.2 (lo := zvl σ v) (hi := zvh σ v) (by omega) (by omega)
  refine q_ofR (lv := [(0, .ref ((gva G v)))]) (by decide) (Nat.le_of_ble_eq_true rfl) rfl (fun p e s m below meth c C0 hret hlk hP ls hl => ?_)
  have hx := C0.1.1
  have hb := C0.1.2.1
  have hts := C0.1.2.2.2.2
  refine lv_aload_n hx hb dX3_isViewSound_0 rfl (lv_at hl 0 rfl) ?_
  refine q_get C0 iX1 hP (CP_v hC hv).1 (CP_v hC hv).2 rfl 0 (by decide) flX3_178 rfl rfl dX3_isViewSound_1 ?_
  refine lv_aload_n hx hb dX3_isViewSound_4 rfl (lv_at hl 0 rfl) ?_
  refine q_get C0 iX1 hP (CP_v hC hv).1 (CP_v hC hv).2 rfl 1 (by decide) flX3_182 rfl rfl dX3_isViewSound_5 ?_
  refine lv_aload_n hx hb dX3_isViewSound_8 rfl (lv_at hl 0 rfl) ?_
  refine q_get C0 iX1 hP (CP_v hC hv).1 (CP_v hC hv).2 rfl 2 (by decide) flX3_185 rfl rfl dX3_isViewSound_9 ?_
  refine q_vS C0 lX3_188 (c_X0_countOfPart l D y L F (grh G (zvw σ v)) (grw G (zvw σ v)) (zod σ (zvw σ v)) ((zst σ (zvw σ v)).1) ((zst σ (zvw σ v)).2.1) ((zst σ (zvw σ v)).2.2) (zvl σ v) (zvh σ v) (CP_r hC hi) (by omega) (by omega)) ⟨rfl, rfl⟩ rfl hP (CP_r hC hi).1 (CP_r hC hi).2.1 rfl rfl rfl hl rfl (Nat.le_of_ble_eq_true rfl) dX3_isViewSound_12 ⟨Nat.zero_le _, Nat.zero_le _⟩ (fun r1 e_r1 => ?_)
  subst e_r1
  refine lv_istore_n (lv' := [(1, .int (iI ((cntP ((zst σ (zvw σ v)).2.2) (zvl σ v) (zvh σ v))))), (0, .ref ((gva G v)))]) hx hb dX3_isViewSound_15 rfl hl (by decide) rfl (fun ls hl => ?_)
  refine lv_iload_n hx hb dX3_isViewSound_16 rfl (lv_at hl 0 rfl) ?_
  refine lv_aload_n hx hb dX3_isViewSound_17 rfl (lv_at hl 1 rfl) ?_
  refine q_get C0 iX1 hP (CP_v hC hv).1 (CP_v hC hv).2 rfl 0 (by decide) flX3_178 rfl rfl dX3_isViewSound_18 ?_
  refine q_get C0 iX0 hP (CP_r hC hi).1 (CP_r hC hi).2.1 rfl 2 (by decide) flX3_49 rfl rfl dX3_isViewSound_21 ?_
  refine q_icmp_gt hx hb dX3_isViewSound_24 (tgt := 50) (by decide) (by omega) (by omega) (fun c2 => ?_) (fun c2 => ?_)
  · refine q_iconst hx hb dX3_isViewSound_50 ?_
    exact q_iretS C0 hret hlk dX3_isViewSound_51 (by decide) (by unfold vS; (repeat' split) <;> first | rfl | omega | (exfalso; omega))
  · refine lv_aload_n hx hb dX3_isViewSound_27 rfl (lv_at hl 1 rfl) ?_
    refine q_get C0 iX1 hP (CP_v hC hv).1 (CP_v hC hv).2 rfl 0 (by decide) flX3_178 rfl rfl dX3_isViewSound_28 ?_
    refine lv_aload_n hx hb dX3_isViewSound_31 rfl (lv_at hl 1 rfl) ?_
    refine q_get C0 iX1 hP (CP_v hC hv).1 (CP_v hC hv).2 rfl 1 (by decide) flX3_182 rfl rfl dX3_isViewSound_32 ?_
    refine lv_aload_n hx hb dX3_isViewSound_35 rfl (lv_at hl 1 rfl) ?_
    refine q_get C0 iX1 hP (CP_v hC hv).1 (CP_v hC hv).2 rfl 2 (by decide) flX3_185 rfl rfl dX3_isViewSound_36 ?_
    refine lv_iload_n hx hb dX3_isViewSound_39 rfl (lv_at hl 0 rfl) ?_
    refine q_sS C0 lX3_306 (c_X3_isToldInOrder l D y L F (grh G (zvw σ v)) (grw G (zvw σ v)) (zod σ (zvw σ v)) ((zst σ (zvw σ v)).1) ((zst σ (zvw σ v)).2.1) ((zst σ (zvw σ v)).2.2) (zvl σ v) (zvh σ v) (cntP ((zst σ (zvw σ v)).2.2) (zvl σ v) (zvh σ v)) (CP_r hC hi) (by omega) (by omega) (by omega)) ⟨rfl, rfl⟩ rfl hP rfl hl rfl (Nat.le_of_ble_eq_true rfl) dX3_isViewSound_40 ⟨Nat.zero_le _, Nat.zero_le _⟩ (fun r3 e_r3 => ?_)
    subst e_r3
    have b_4 := inOrd_b (zod σ (zvw σ v)) ((zst σ (zvw σ v)).2.2) (zvl σ v) (zvh σ v) (cntP ((zst σ (zvw σ v)).2.2) (zvl σ v) (zvh σ v))
    refine q_if_eq hx hb dX3_isViewSound_43 (tgt := 50) (by decide) (by omega) (fun c5 => ?_) (fun c5 => ?_)
    · refine q_iconst hx hb dX3_isViewSound_50 ?_
      exact q_iretS C0 hret hlk dX3_isViewSound_51 (by decide) (by unfold vS; (repeat' split) <;> first | rfl | omega | (exfalso; omega))
    · refine q_iconst hx hb dX3_isViewSound_46 ?_
      refine lv_goto (tgt := 51) hx hb dX3_isViewSound_47 (by decide) ?_
      exact q_iretS C0 hret hlk dX3_isViewSound_51 (by decide) (by unfold vS; (repeat' split) <;> first | rfl | omega | (exfalso; omega))
set_option maxHeartbeats 800000 in
set_option maxRecDepth 100000 in
theorem c_X3_mixed (l : Launch) (D : va_G) (y : Nat → ClassId) (L : List Nat) (F : Nat → va_E) (s0 : Int64) (n : Int)  : Met l yX3_mixed (.code yX3_mixed cX3_mixed 3 (some .long) :: Tt) ({ frames := 0, cells := 0, slots := 0, locals := 0 }) (PcR D y L F [.long (s0), .int (iI n)]) (cSl (fun r => r = mxd s0 n)) 0 0 (fun _ => False) := by
  refine q_ofR (lv := [(0, .long (s0)), (2, .int (iI n))]) (by decide) (Nat.le_of_ble_eq_true rfl) rfl (fun p e s m below meth c C0 hret hlk hP ls hl => ?_)
  have hx := C0.1.1
  have hb := C0.1.2.1
  have hts := C0.1.2.2.2.2
  refine lv_lload_n hx hb dX3_mixed_0 rfl (lv_at hl 0 rfl) ?_
  refine lv_ldc2 (v := 31) hx hb C0.1.2.2.2.1 (hts _ (List.mem_cons_of_mem _ cLX3_320)) dX3_mixed_1 ?_
  refine lv_lmul hx hb dX3_mixed_4 ?_
  refine lv_iload_n hx hb dX3_mixed_5 rfl (lv_at hl 1 rfl) ?_
  refine lv_i2l hx hb dX3_mixed_6 rfl ?_
  refine lv_ladd hx hb dX3_mixed_7 ?_
  exact q_lretS C0 hret hlk dX3_mixed_8 (rfl)
set_option maxHeartbeats 800000 in
set_option maxRecDepth 100000 in
theorem c_X3_digestBook (l : Launch) (D : va_G) (y : Nat → ClassId) (L : List Nat) (F : Nat → va_E) (h : Nat) (w : Nat) (o : Int) (k : Int) (g : Int) (f : Int → Int) (s0 : Int64) (hR : Rw y L F h w o k g f) (hk : -1000000 ≤ k ∧ k ≤ 1000000) : Met l yX3_digestBook (.code yX3_digestBook cX3_digestBook 6 (some .long) :: Tt) ({ frames := 4, cells := 0, slots := 0, locals := 85 }) (PcR D y L F [.long (s0), .ref h]) (cSl (fun r => r = dgB o k f s0)) 0 0 (fun _ => False) := by
  have hR0 := hR
  obtain ⟨ha, hF, hw, hFw, ho, hfb⟩ := hR0
  refine q_ofR (lv := [(0, .long (s0)), (2, .ref h)]) (by decide) (Nat.le_of_ble_eq_true rfl) rfl (fun p e s m below meth c C0 hret hlk hP ls hl => ?_)
  have hx := C0.1.1
  have hb := C0.1.2.1
  have hts := C0.1.2.2.2.2
  refine lv_lload_n hx hb dX3_digestBook_0 rfl (lv_at hl 0 rfl) ?_
  refine lv_lstore_n (lv' := [(3, .long (s0)), (0, .long (s0)), (2, .ref h)]) hx hb dX3_digestBook_1 rfl hl (by decide) rfl (fun ls hl => ?_)
  refine q_iconst hx hb dX3_digestBook_2 ?_
  refine lv_istore (lv' := [(5, .int (iI 0)), (3, .long (s0)), (0, .long (s0)), (2, .ref h)]) hx hb dX3_digestBook_3 hl (by decide) rfl (fun ls hl => ?_)
  refine lv_iload hx hb dX3_digestBook_5 (lv_at hl 0 rfl) ?_
  refine q_iconst hx hb dX3_digestBook_7 ?_
  refine q_icmp_gt hx hb dX3_digestBook_8 (tgt := 28) (by decide) (by omega) (by omega) (fun c1 => absurd c1 (by omega)) (fun c1 => ?_)
  refine lv_lload_n hx hb dX3_digestBook_11 rfl (lv_at hl 1 rfl) ?_
  refine lv_aload_n hx hb dX3_digestBook_12 rfl (lv_at hl 3 rfl) ?_
  refine lv_iload hx hb dX3_digestBook_13 (lv_at hl 0 rfl) ?_
  refine q_sS C0 lX3_145 (c_X3_bookFact l D y L F h w o k g f 0 hR (by omega) (by omega)) ⟨rfl, rfl⟩ rfl hP rfl hl rfl (Nat.le_of_ble_eq_true rfl) dX3_digestBook_15 ⟨Nat.zero_le _, Nat.zero_le _⟩ (fun r2 e_r2 => ?_)
  replace e_r2 := e_r2.symm
  subst e_r2
  refine q_sSl C0 lX3_261 (c_X3_mixed l D y L F s0 (bfact o k f 0)) ⟨rfl, rfl⟩ rfl hP rfl hl rfl (Nat.le_of_ble_eq_true rfl) dX3_digestBook_18 ⟨Nat.zero_le _, Nat.zero_le _⟩ (fun r3 e_r3 => ?_)
  replace e_r3 := e_r3.symm
  subst e_r3
  refine lv_lstore_n (lv' := [(3, .long ((mxd s0 (bfact o k f 0)))), (5, .int (iI 0)), (0, .long (s0)), (2, .ref h)]) hx hb dX3_digestBook_21 rfl hl (by decide) rfl (fun ls hl => ?_)
  refine q_iinc (x := 0) (n := 1) (lv' := [(5, .int (iI 1)), (3, .long ((mxd s0 (bfact o k f 0)))), (0, .long (s0)), (2, .ref h)]) hx hb dX3_digestBook_22 hl (k := 1) rfl (by decide) rfl (fun ls hl => ?_)
  refine lv_goto (tgt := 5) hx hb dX3_digestBook_25 (by decide) ?_
  refine lv_iload hx hb dX3_digestBook_5 (lv_at hl 0 rfl) ?_
  refine q_iconst hx hb dX3_digestBook_7 ?_
  refine q_icmp_gt hx hb dX3_digestBook_8 (tgt := 28) (by decide) (by omega) (by omega) (fun c4 => absurd c4 (by omega)) (fun c4 => ?_)
  refine lv_lload_n hx hb dX3_digestBook_11 rfl (lv_at hl 1 rfl) ?_
  refine lv_aload_n hx hb dX3_digestBook_12 rfl (lv_at hl 3 rfl) ?_
  refine lv_iload hx hb dX3_digestBook_13 (lv_at hl 0 rfl) ?_
  refine q_sS C0 lX3_145 (c_X3_bookFact l D y L F h w o k g f 1 hR (by omega) (by omega)) ⟨rfl, rfl⟩ rfl hP rfl hl rfl (Nat.le_of_ble_eq_true rfl) dX3_digestBook_15 ⟨Nat.zero_le _, Nat.zero_le _⟩ (fun r5 e_r5 => ?_)
  replace e_r5 := e_r5.symm
  subst e_r5
  refine q_sSl C0 lX3_261 (c_X3_mixed l D y L F (mxd s0 (bfact o k f 0)) (bfact o k f 1)) ⟨rfl, rfl⟩ rfl hP rfl hl rfl (Nat.le_of_ble_eq_true rfl) dX3_digestBook_18 ⟨Nat.zero_le _, Nat.zero_le _⟩ (fun r6 e_r6 => ?_)
  replace e_r6 := e_r6.symm
  subst e_r6
  refine lv_lstore_n (lv' := [(3, .long ((mxd (mxd s0 (bfact o k f 0)) (bfact o k f 1)))), (5, .int (iI 1)), (0, .long (s0)), (2, .ref h)]) hx hb dX3_digestBook_21 rfl hl (by decide) rfl (fun ls hl => ?_)
  refine q_iinc (x := 1) (n := 1) (lv' := [(5, .int (iI 2)), (3, .long ((mxd (mxd s0 (bfact o k f 0)) (bfact o k f 1)))), (0, .long (s0)), (2, .ref h)]) hx hb dX3_digestBook_22 hl (k := 1) rfl (by decide) rfl (fun ls hl => ?_)
  refine lv_goto (tgt := 5) hx hb dX3_digestBook_25 (by decide) ?_
  refine lv_iload hx hb dX3_digestBook_5 (lv_at hl 0 rfl) ?_
  refine q_iconst hx hb dX3_digestBook_7 ?_
  refine q_icmp_gt hx hb dX3_digestBook_8 (tgt := 28) (by decide) (by omega) (by omega) (fun c7 => absurd c7 (by omega)) (fun c7 => ?_)
  refine lv_lload_n hx hb dX3_digestBook_11 rfl (lv_at hl 1 rfl) ?_
  refine lv_aload_n hx hb dX3_digestBook_12 rfl (lv_at hl 3 rfl) ?_
  refine lv_iload hx hb dX3_digestBook_13 (lv_at hl 0 rfl) ?_
  refine q_sS C0 lX3_145 (c_X3_bookFact l D y L F h w o k g f 2 hR (by omega) (by omega)) ⟨rfl, rfl⟩ rfl hP rfl hl rfl (Nat.le_of_ble_eq_true rfl) dX3_digestBook_15 ⟨Nat.zero_le _, Nat.zero_le _⟩ (fun r8 e_r8 => ?_)
  replace e_r8 := e_r8.symm
  subst e_r8
  refine q_sSl C0 lX3_261 (c_X3_mixed l D y L F (mxd (mxd s0 (bfact o k f 0)) (bfact o k f 1)) (bfact o k f 2)) ⟨rfl, rfl⟩ rfl hP rfl hl rfl (Nat.le_of_ble_eq_true rfl) dX3_digestBook_18 ⟨Nat.zero_le _, Nat.zero_le _⟩ (fun r9 e_r9 => ?_)
  replace e_r9 := e_r9.symm
  subst e_r9
  refine lv_lstore_n (lv' := [(3, .long ((mxd (mxd (mxd s0 (bfact o k f 0)) (bfact o k f 1)) (bfact o k f 2)))), (5, .int (iI 2)), (0, .long (s0)), (2, .ref h)]) hx hb dX3_digestBook_21 rfl hl (by decide) rfl (fun ls hl => ?_)
  refine q_iinc (x := 2) (n := 1) (lv' := [(5, .int (iI 3)), (3, .long ((mxd (mxd (mxd s0 (bfact o k f 0)) (bfact o k f 1)) (bfact o k f 2)))), (0, .long (s0)), (2, .ref h)]) hx hb dX3_digestBook_22 hl (k := 1) rfl (by decide) rfl (fun ls hl => ?_)
  refine lv_goto (tgt := 5) hx hb dX3_digestBook_25 (by decide) ?_
  refine lv_iload hx hb dX3_digestBook_5 (lv_at hl 0 rfl) ?_
  refine q_iconst hx hb dX3_digestBook_7 ?_
  refine q_icmp_gt hx hb dX3_digestBook_8 (tgt := 28) (by decide) (by omega) (by omega) (fun c10 => ?_) (fun c10 => absurd c10 (by omega))
  refine q_iconst hx hb dX3_digestBook_28 ?_
  refine lv_istore (lv' := [(5, .int (iI 0)), (3, .long ((mxd (mxd (mxd s0 (bfact o k f 0)) (bfact o k f 1)) (bfact o k f 2)))), (0, .long (s0)), (2, .ref h)]) hx hb dX3_digestBook_29 hl (by decide) rfl (fun ls hl => ?_)
  have LP31 : ∀ (n_LP31 : Nat) (r : Int) (q : Int64), (0 ≤ r ∧ r ≤ 100) → (dgB o k f s0 = mxP (pairR o f) f r q) → (100 - r).toNat = n_LP31 → ∀ ls : Array Slot, lv_has ls 6 [(2, .ref h), (3, .long (q)), (5, .int (iI r))] → W p l e ({ frames := 4, cells := 0, slots := 0, locals := 85 } : Room) s m [.long (s0), .ref h].toArray below meth c s.heap [] 0 0 (MQ below (cSl (fun r => r = dgB o k f s0)) [.long (s0), .ref h].toArray s 0 0 (fun _ => False)) (F0 m 31 ls []) := by
    intro n_LP31
    induction n_LP31 using Nat.strongRecOn with
    | ind n_LP31 ih_LP31 =>
      intro r q hr hI hm_LP31 ls hl
      refine lv_iload hx hb dX3_digestBook_31 (lv_at hl 2 rfl) ?_
      refine q_bipush hx hb dX3_digestBook_33 (by decide) ?_
      refine q_icmp_ge hx hb dX3_digestBook_35 (tgt := 64) (by decide) (by omega) (by omega) (fun c11 => ?_) (fun c11 => ?_)
      · refine lv_lload_n hx hb dX3_digestBook_64 rfl (lv_at hl 1 rfl) ?_
        exact q_lretS C0 hret hlk dX3_digestBook_65 (by rw [hI, mxP_e (by omega)])
      · refine lv_aload_n hx hb dX3_digestBook_38 rfl (lv_at hl 0 rfl) ?_
        refine lv_iload hx hb dX3_digestBook_39 (lv_at hl 2 rfl) ?_
        refine q_vS C0 lX3_119 (c_X0_isThere l D y L F h w o k g f r hR (by omega)) ⟨rfl, rfl⟩ rfl hP ha hF rfl rfl rfl hl rfl (Nat.le_of_ble_eq_true rfl) dX3_digestBook_41 ⟨Nat.zero_le _, Nat.zero_le _⟩ (fun r12 e_r12 => ?_)
        replace e_r12 := e_r12.symm
        subst e_r12
        have b_13 := isT_b f r
        refine q_if_eq hx hb dX3_digestBook_44 (tgt := 58) (by decide) (by omega) (fun c14 => ?_) (fun c14 => ?_)
        · refine q_iinc (x := r) (n := 1) (lv' := [(5, .int (iI ((r + 1)))), (2, .ref h), (3, .long (q))]) hx hb dX3_digestBook_58 hl (k := 2) rfl (by decide) rfl (fun ls hl => ?_)
          refine lv_goto (tgt := 31) hx hb dX3_digestBook_61 (by decide) ?_
          exact ih_LP31 _ (by omega) (r + 1) q (by omega) (by first | (rw [hI, mxP_u (by omega), if_pos (by omega)]; done) | (rw [hI, mxP_u (by omega), if_neg (by omega)])) rfl ls (lv_sub hl [1, 2, 0] rfl)
        · refine lv_lload_n hx hb dX3_digestBook_47 rfl (lv_at hl 1 rfl) ?_
          refine lv_aload_n hx hb dX3_digestBook_48 rfl (lv_at hl 0 rfl) ?_
          refine lv_iload hx hb dX3_digestBook_49 (lv_at hl 2 rfl) ?_
          refine q_vS C0 lX3_129 (c_X0_pairAt l D y L F h w o k g f r hR (by omega)) ⟨rfl, rfl⟩ rfl hP ha hF rfl rfl rfl hl rfl (Nat.le_of_ble_eq_true rfl) dX3_digestBook_51 ⟨Nat.zero_le _, Nat.zero_le _⟩ (fun r15 e_r15 => ?_)
          replace e_r15 := e_r15.symm
          subst e_r15
          refine q_sSl C0 lX3_261 (c_X3_mixed l D y L F q (pairR o f r)) ⟨rfl, rfl⟩ rfl hP rfl hl rfl (Nat.le_of_ble_eq_true rfl) dX3_digestBook_54 ⟨Nat.zero_le _, Nat.zero_le _⟩ (fun r16 e_r16 => ?_)
          replace e_r16 := e_r16.symm
          subst e_r16
          refine lv_lstore_n (lv' := [(3, .long ((mxd q (pairR o f r)))), (2, .ref h), (5, .int (iI r))]) hx hb dX3_digestBook_57 rfl hl (by decide) rfl (fun ls hl => ?_)
          refine q_iinc (x := r) (n := 1) (lv' := [(5, .int (iI ((r + 1)))), (3, .long ((mxd q (pairR o f r)))), (2, .ref h)]) hx hb dX3_digestBook_58 hl (k := 2) rfl (by decide) rfl (fun ls hl => ?_)
          refine lv_goto (tgt := 31) hx hb dX3_digestBook_61 (by decide) ?_
          exact ih_LP31 _ (by omega) (r + 1) (mxd q (pairR o f r)) (by omega) (by first | (rw [hI, mxP_u (by omega), if_pos (by omega)]; done) | (rw [hI, mxP_u (by omega), if_neg (by omega)])) rfl ls (lv_sub hl [2, 1, 0] rfl)
  exact LP31 _ 0 (mxd (mxd (mxd s0 (bfact o k f 0)) (bfact o k f 1)) (bfact o k f 2)) (by omega) (rfl) rfl ls (lv_sub hl [3, 1, 0] rfl)
set_option maxHeartbeats 800000 in
set_option maxRecDepth 100000 in
theorem c_X3_digestShelf (l : Launch) (D : va_G) (y : Nat → ClassId) (L : List Nat) (F : Nat → va_E) (h : Nat) (w : Nat) (o : Int) (k : Int) (g : Int) (f : Int → Int) (s0 : Int64) (hR : Rw y L F h w o k g f) (hk : -1000000 ≤ k ∧ k ≤ 1000000) : Met l yX3_digestShelf (.code yX3_digestShelf cX3_digestShelf 6 (some .long) :: Tt) ({ frames := 4, cells := 0, slots := 0, locals := 85 }) (PcR D y L F [.long (s0), .ref h]) (cSl (fun r => r = dgS o k f s0)) 0 0 (fun _ => False) := by
  have hR0 := hR
  obtain ⟨ha, hF, hw, hFw, ho, hfb⟩ := hR0
  refine q_ofR (lv := [(0, .long (s0)), (2, .ref h)]) (by decide) (Nat.le_of_ble_eq_true rfl) rfl (fun p e s m below meth c C0 hret hlk hP ls hl => ?_)
  have hx := C0.1.1
  have hb := C0.1.2.1
  have hts := C0.1.2.2.2.2
  refine lv_lload_n hx hb dX3_digestShelf_0 rfl (lv_at hl 0 rfl) ?_
  refine lv_lstore_n (lv' := [(3, .long (s0)), (0, .long (s0)), (2, .ref h)]) hx hb dX3_digestShelf_1 rfl hl (by decide) rfl (fun ls hl => ?_)
  refine q_iconst hx hb dX3_digestShelf_2 ?_
  refine lv_istore (lv' := [(5, .int (iI 0)), (3, .long (s0)), (0, .long (s0)), (2, .ref h)]) hx hb dX3_digestShelf_3 hl (by decide) rfl (fun ls hl => ?_)
  refine lv_iload hx hb dX3_digestShelf_5 (lv_at hl 0 rfl) ?_
  refine q_iconst hx hb dX3_digestShelf_7 ?_
  refine q_icmp_gt hx hb dX3_digestShelf_8 (tgt := 28) (by decide) (by omega) (by omega) (fun c1 => absurd c1 (by omega)) (fun c1 => ?_)
  refine lv_lload_n hx hb dX3_digestShelf_11 rfl (lv_at hl 1 rfl) ?_
  refine lv_aload_n hx hb dX3_digestShelf_12 rfl (lv_at hl 3 rfl) ?_
  refine lv_iload hx hb dX3_digestShelf_13 (lv_at hl 0 rfl) ?_
  refine q_sS C0 lX3_232 (c_X3_shelfFact l D y L F h w o k g f 0 hR (by omega)) ⟨rfl, rfl⟩ rfl hP rfl hl rfl (Nat.le_of_ble_eq_true rfl) dX3_digestShelf_15 ⟨Nat.zero_le _, Nat.zero_le _⟩ (fun r2 e_r2 => ?_)
  replace e_r2 := e_r2.symm
  subst e_r2
  refine q_sSl C0 lX3_261 (c_X3_mixed l D y L F s0 (sfact o k f 0)) ⟨rfl, rfl⟩ rfl hP rfl hl rfl (Nat.le_of_ble_eq_true rfl) dX3_digestShelf_18 ⟨Nat.zero_le _, Nat.zero_le _⟩ (fun r3 e_r3 => ?_)
  replace e_r3 := e_r3.symm
  subst e_r3
  refine lv_lstore_n (lv' := [(3, .long ((mxd s0 (sfact o k f 0)))), (5, .int (iI 0)), (0, .long (s0)), (2, .ref h)]) hx hb dX3_digestShelf_21 rfl hl (by decide) rfl (fun ls hl => ?_)
  refine q_iinc (x := 0) (n := 1) (lv' := [(5, .int (iI 1)), (3, .long ((mxd s0 (sfact o k f 0)))), (0, .long (s0)), (2, .ref h)]) hx hb dX3_digestShelf_22 hl (k := 1) rfl (by decide) rfl (fun ls hl => ?_)
  refine lv_goto (tgt := 5) hx hb dX3_digestShelf_25 (by decide) ?_
  refine lv_iload hx hb dX3_digestShelf_5 (lv_at hl 0 rfl) ?_
  refine q_iconst hx hb dX3_digestShelf_7 ?_
  refine q_icmp_gt hx hb dX3_digestShelf_8 (tgt := 28) (by decide) (by omega) (by omega) (fun c4 => absurd c4 (by omega)) (fun c4 => ?_)
  refine lv_lload_n hx hb dX3_digestShelf_11 rfl (lv_at hl 1 rfl) ?_
  refine lv_aload_n hx hb dX3_digestShelf_12 rfl (lv_at hl 3 rfl) ?_
  refine lv_iload hx hb dX3_digestShelf_13 (lv_at hl 0 rfl) ?_
  refine q_sS C0 lX3_232 (c_X3_shelfFact l D y L F h w o k g f 1 hR (by omega)) ⟨rfl, rfl⟩ rfl hP rfl hl rfl (Nat.le_of_ble_eq_true rfl) dX3_digestShelf_15 ⟨Nat.zero_le _, Nat.zero_le _⟩ (fun r5 e_r5 => ?_)
  replace e_r5 := e_r5.symm
  subst e_r5
  refine q_sSl C0 lX3_261 (c_X3_mixed l D y L F (mxd s0 (sfact o k f 0)) (sfact o k f 1)) ⟨rfl, rfl⟩ rfl hP rfl hl rfl (Nat.le_of_ble_eq_true rfl) dX3_digestShelf_18 ⟨Nat.zero_le _, Nat.zero_le _⟩ (fun r6 e_r6 => ?_)
  replace e_r6 := e_r6.symm
  subst e_r6
  refine lv_lstore_n (lv' := [(3, .long ((mxd (mxd s0 (sfact o k f 0)) (sfact o k f 1)))), (5, .int (iI 1)), (0, .long (s0)), (2, .ref h)]) hx hb dX3_digestShelf_21 rfl hl (by decide) rfl (fun ls hl => ?_)
  refine q_iinc (x := 1) (n := 1) (lv' := [(5, .int (iI 2)), (3, .long ((mxd (mxd s0 (sfact o k f 0)) (sfact o k f 1)))), (0, .long (s0)), (2, .ref h)]) hx hb dX3_digestShelf_22 hl (k := 1) rfl (by decide) rfl (fun ls hl => ?_)
  refine lv_goto (tgt := 5) hx hb dX3_digestShelf_25 (by decide) ?_
  refine lv_iload hx hb dX3_digestShelf_5 (lv_at hl 0 rfl) ?_
  refine q_iconst hx hb dX3_digestShelf_7 ?_
  refine q_icmp_gt hx hb dX3_digestShelf_8 (tgt := 28) (by decide) (by omega) (by omega) (fun c7 => absurd c7 (by omega)) (fun c7 => ?_)
  refine lv_lload_n hx hb dX3_digestShelf_11 rfl (lv_at hl 1 rfl) ?_
  refine lv_aload_n hx hb dX3_digestShelf_12 rfl (lv_at hl 3 rfl) ?_
  refine lv_iload hx hb dX3_digestShelf_13 (lv_at hl 0 rfl) ?_
  refine q_sS C0 lX3_232 (c_X3_shelfFact l D y L F h w o k g f 2 hR (by omega)) ⟨rfl, rfl⟩ rfl hP rfl hl rfl (Nat.le_of_ble_eq_true rfl) dX3_digestShelf_15 ⟨Nat.zero_le _, Nat.zero_le _⟩ (fun r8 e_r8 => ?_)
  replace e_r8 := e_r8.symm
  subst e_r8
  refine q_sSl C0 lX3_261 (c_X3_mixed l D y L F (mxd (mxd s0 (sfact o k f 0)) (sfact o k f 1)) (sfact o k f 2)) ⟨rfl, rfl⟩ rfl hP rfl hl rfl (Nat.le_of_ble_eq_true rfl) dX3_digestShelf_18 ⟨Nat.zero_le _, Nat.zero_le _⟩ (fun r9 e_r9 => ?_)
  replace e_r9 := e_r9.symm
  subst e_r9
  refine lv_lstore_n (lv' := [(3, .long ((mxd (mxd (mxd s0 (sfact o k f 0)) (sfact o k f 1)) (sfact o k f 2)))), (5, .int (iI 2)), (0, .long (s0)), (2, .ref h)]) hx hb dX3_digestShelf_21 rfl hl (by decide) rfl (fun ls hl => ?_)
  refine q_iinc (x := 2) (n := 1) (lv' := [(5, .int (iI 3)), (3, .long ((mxd (mxd (mxd s0 (sfact o k f 0)) (sfact o k f 1)) (sfact o k f 2)))), (0, .long (s0)), (2, .ref h)]) hx hb dX3_digestShelf_22 hl (k := 1) rfl (by decide) rfl (fun ls hl => ?_)
  refine lv_goto (tgt := 5) hx hb dX3_digestShelf_25 (by decide) ?_
  refine lv_iload hx hb dX3_digestShelf_5 (lv_at hl 0 rfl) ?_
  refine q_iconst hx hb dX3_digestShelf_7 ?_
  refine q_icmp_gt hx hb dX3_digestShelf_8 (tgt := 28) (by decide) (by omega) (by omega) (fun c10 => ?_) (fun c10 => absurd c10 (by omega))
  refine q_iconst hx hb dX3_digestShelf_28 ?_
  refine lv_istore (lv' := [(5, .int (iI 0)), (3, .long ((mxd (mxd (mxd s0 (sfact o k f 0)) (sfact o k f 1)) (sfact o k f 2)))), (0, .long (s0)), (2, .ref h)]) hx hb dX3_digestShelf_29 hl (by decide) rfl (fun ls hl => ?_)
  have LP31 : ∀ (n_LP31 : Nat) (r : Int) (q : Int64), (0 ≤ r ∧ r ≤ 100) → (dgS o k f s0 = mxP (keyR o) f r q) → (100 - r).toNat = n_LP31 → ∀ ls : Array Slot, lv_has ls 6 [(2, .ref h), (3, .long (q)), (5, .int (iI r))] → W p l e ({ frames := 4, cells := 0, slots := 0, locals := 85 } : Room) s m [.long (s0), .ref h].toArray below meth c s.heap [] 0 0 (MQ below (cSl (fun r => r = dgS o k f s0)) [.long (s0), .ref h].toArray s 0 0 (fun _ => False)) (F0 m 31 ls []) := by
    intro n_LP31
    induction n_LP31 using Nat.strongRecOn with
    | ind n_LP31 ih_LP31 =>
      intro r q hr hI hm_LP31 ls hl
      refine lv_iload hx hb dX3_digestShelf_31 (lv_at hl 2 rfl) ?_
      refine q_bipush hx hb dX3_digestShelf_33 (by decide) ?_
      refine q_icmp_ge hx hb dX3_digestShelf_35 (tgt := 64) (by decide) (by omega) (by omega) (fun c11 => ?_) (fun c11 => ?_)
      · refine lv_lload_n hx hb dX3_digestShelf_64 rfl (lv_at hl 1 rfl) ?_
        exact q_lretS C0 hret hlk dX3_digestShelf_65 (by rw [hI, mxP_e (by omega)])
      · refine lv_aload_n hx hb dX3_digestShelf_38 rfl (lv_at hl 0 rfl) ?_
        refine lv_iload hx hb dX3_digestShelf_39 (lv_at hl 2 rfl) ?_
        refine q_vS C0 lX3_119 (c_X0_isThere l D y L F h w o k g f r hR (by omega)) ⟨rfl, rfl⟩ rfl hP ha hF rfl rfl rfl hl rfl (Nat.le_of_ble_eq_true rfl) dX3_digestShelf_41 ⟨Nat.zero_le _, Nat.zero_le _⟩ (fun r12 e_r12 => ?_)
        replace e_r12 := e_r12.symm
        subst e_r12
        have b_13 := isT_b f r
        refine q_if_eq hx hb dX3_digestShelf_44 (tgt := 58) (by decide) (by omega) (fun c14 => ?_) (fun c14 => ?_)
        · refine q_iinc (x := r) (n := 1) (lv' := [(5, .int (iI ((r + 1)))), (2, .ref h), (3, .long (q))]) hx hb dX3_digestShelf_58 hl (k := 2) rfl (by decide) rfl (fun ls hl => ?_)
          refine lv_goto (tgt := 31) hx hb dX3_digestShelf_61 (by decide) ?_
          exact ih_LP31 _ (by omega) (r + 1) q (by omega) (by first | (rw [hI, mxP_u (by omega), if_pos (by omega)]; done) | (rw [hI, mxP_u (by omega), if_neg (by omega)])) rfl ls (lv_sub hl [1, 2, 0] rfl)
        · refine lv_lload_n hx hb dX3_digestShelf_47 rfl (lv_at hl 1 rfl) ?_
          refine lv_aload_n hx hb dX3_digestShelf_48 rfl (lv_at hl 0 rfl) ?_
          refine lv_iload hx hb dX3_digestShelf_49 (lv_at hl 2 rfl) ?_
          refine q_vS C0 lX3_132 (c_X0_keyOf l D y L F h w o k g f r hR (by omega)) ⟨rfl, rfl⟩ rfl hP ha hF rfl rfl rfl hl rfl (Nat.le_of_ble_eq_true rfl) dX3_digestShelf_51 ⟨Nat.zero_le _, Nat.zero_le _⟩ (fun r15 e_r15 => ?_)
          replace e_r15 := e_r15.symm
          subst e_r15
          have b_16 := @keyR_b o r (by omega)
          refine q_sSl C0 lX3_261 (c_X3_mixed l D y L F q (keyR o r)) ⟨rfl, rfl⟩ rfl hP rfl hl rfl (Nat.le_of_ble_eq_true rfl) dX3_digestShelf_54 ⟨Nat.zero_le _, Nat.zero_le _⟩ (fun r17 e_r17 => ?_)
          replace e_r17 := e_r17.symm
          subst e_r17
          refine lv_lstore_n (lv' := [(3, .long ((mxd q (keyR o r)))), (2, .ref h), (5, .int (iI r))]) hx hb dX3_digestShelf_57 rfl hl (by decide) rfl (fun ls hl => ?_)
          refine q_iinc (x := r) (n := 1) (lv' := [(5, .int (iI ((r + 1)))), (3, .long ((mxd q (keyR o r)))), (2, .ref h)]) hx hb dX3_digestShelf_58 hl (k := 2) rfl (by decide) rfl (fun ls hl => ?_)
          refine lv_goto (tgt := 31) hx hb dX3_digestShelf_61 (by decide) ?_
          exact ih_LP31 _ (by omega) (r + 1) (mxd q (keyR o r)) (by omega) (by first | (rw [hI, mxP_u (by omega), if_pos (by omega)]; done) | (rw [hI, mxP_u (by omega), if_neg (by omega)])) rfl ls (lv_sub hl [2, 1, 0] rfl)
  exact LP31 _ 0 (mxd (mxd (mxd s0 (sfact o k f 0)) (sfact o k f 1)) (sfact o k f 2)) (by omega) (rfl) rfl ls (lv_sub hl [3, 1, 0] rfl)
set_option maxHeartbeats 800000 in
set_option maxRecDepth 100000 in
theorem c_X3_digestView (l : Launch) (D : va_G) (y : Nat → ClassId) (L : List Nat) (F : Nat → va_E) (O : Nat → Prop) (G : CG) (σ : CS) (v : Int) (s0 : Int64) (hC : CP y L F O G σ) (hv : 0 ≤ v ∧ v < 2) (hi : zvw σ v < zn σ) (hvl : -900 ≤ zvl σ v ∧ zvl σ v ≤ 900) (hvh : -900 ≤ zvh σ v ∧ zvh σ v ≤ 900) : Met l yX3_digestView (.code yX3_digestView cX3_digestView 6 (some .long) :: Tt) ({ frames := 3, cells := 0, slots := 0, locals := 67 }) (PcR D y L F [.long (s0), .ref ((gva G v))]) (cSl (fun r => r = dgV σ v s0)) 0 0 (fun _ => False) := by
  refine q_ofR (lv := [(0, .long (s0)), (2, .ref ((gva G v)))]) (by decide) (Nat.le_of_ble_eq_true rfl) rfl (fun p e s m below meth c C0 hret hlk hP ls hl => ?_)
  have hx := C0.1.1
  have hb := C0.1.2.1
  have hts := C0.1.2.2.2.2
  refine lv_aload_n hx hb dX3_digestView_0 rfl (lv_at hl 1 rfl) ?_
  refine q_get C0 iX1 hP (CP_v hC hv).1 (CP_v hC hv).2 rfl 0 (by decide) flX3_178 rfl rfl dX3_digestView_1 ?_
  refine lv_astore_n (lv' := [(3, .ref ((grh G (zvw σ v)))), (0, .long (s0)), (2, .ref ((gva G v)))]) hx hb dX3_digestView_4 rfl hl (by decide) rfl (fun ls hl => ?_)
  refine lv_lload_n hx hb dX3_digestView_5 rfl (lv_at hl 1 rfl) ?_
  refine lv_aload_n hx hb dX3_digestView_6 rfl (lv_at hl 0 rfl) ?_
  refine lv_aload_n hx hb dX3_digestView_7 rfl (lv_at hl 2 rfl) ?_
  refine q_get C0 iX1 hP (CP_v hC hv).1 (CP_v hC hv).2 rfl 1 (by decide) flX3_182 rfl rfl dX3_digestView_8 ?_
  refine lv_aload_n hx hb dX3_digestView_11 rfl (lv_at hl 2 rfl) ?_
  refine q_get C0 iX1 hP (CP_v hC hv).1 (CP_v hC hv).2 rfl 2 (by decide) flX3_185 rfl rfl dX3_digestView_12 ?_
  refine q_vS C0 lX3_188 (c_X0_countOfPart l D y L F (grh G (zvw σ v)) (grw G (zvw σ v)) (zod σ (zvw σ v)) ((zst σ (zvw σ v)).1) ((zst σ (zvw σ v)).2.1) ((zst σ (zvw σ v)).2.2) (zvl σ v) (zvh σ v) (CP_r hC hi) (by omega) (by omega)) ⟨rfl, rfl⟩ rfl hP (CP_r hC hi).1 (CP_r hC hi).2.1 rfl rfl rfl hl rfl (Nat.le_of_ble_eq_true rfl) dX3_digestView_15 ⟨Nat.zero_le _, Nat.zero_le _⟩ (fun r1 e_r1 => ?_)
  subst e_r1
  refine q_sSl C0 lX3_261 (c_X3_mixed l D y L F s0 (cntP ((zst σ (zvw σ v)).2.2) (zvl σ v) (zvh σ v))) ⟨rfl, rfl⟩ rfl hP rfl hl rfl (Nat.le_of_ble_eq_true rfl) dX3_digestView_18 ⟨Nat.zero_le _, Nat.zero_le _⟩ (fun r2 e_r2 => ?_)
  subst e_r2
  refine lv_lstore (lv' := [(4, .long ((mxd s0 (cntP ((zst σ (zvw σ v)).2.2) (zvl σ v) (zvh σ v))))), (3, .ref ((grh G (zvw σ v)))), (0, .long (s0)), (2, .ref ((gva G v)))]) hx hb dX3_digestView_21 hl (by decide) rfl (fun ls hl => ?_)
  refine lv_lload hx hb dX3_digestView_23 (lv_at hl 0 rfl) ?_
  refine lv_aload_n hx hb dX3_digestView_25 rfl (lv_at hl 1 rfl) ?_
  refine lv_aload_n hx hb dX3_digestView_26 rfl (lv_at hl 1 rfl) ?_
  refine lv_aload_n hx hb dX3_digestView_27 rfl (lv_at hl 3 rfl) ?_
  refine q_get C0 iX1 hP (CP_v hC hv).1 (CP_v hC hv).2 rfl 1 (by decide) flX3_182 rfl rfl dX3_digestView_28 ?_
  refine lv_aload_n hx hb dX3_digestView_31 rfl (lv_at hl 3 rfl) ?_
  refine q_get C0 iX1 hP (CP_v hC hv).1 (CP_v hC hv).2 rfl 2 (by decide) flX3_185 rfl rfl dX3_digestView_32 ?_
  refine q_iconst hx hb dX3_digestView_35 ?_
  refine q_vS C0 lX3_135 (c_X0_endOfPart l D y L F (grh G (zvw σ v)) (grw G (zvw σ v)) (zod σ (zvw σ v)) ((zst σ (zvw σ v)).1) ((zst σ (zvw σ v)).2.1) ((zst σ (zvw σ v)).2.2) (zvl σ v) (zvh σ v) 0 (CP_r hC hi) (by omega) (by omega) (by omega)) ⟨rfl, rfl⟩ rfl hP (CP_r hC hi).1 (CP_r hC hi).2.1 rfl rfl rfl hl rfl (Nat.le_of_ble_eq_true rfl) dX3_digestView_36 ⟨Nat.zero_le _, Nat.zero_le _⟩ (fun r3 e_r3 => ?_)
  subst e_r3
  have b_4 := endP_r ((zst σ (zvw σ v)).2.2) (zvl σ v) (zvh σ v) 0
  refine q_vS C0 lX3_132 (c_X0_keyOf l D y L F (grh G (zvw σ v)) (grw G (zvw σ v)) (zod σ (zvw σ v)) ((zst σ (zvw σ v)).1) ((zst σ (zvw σ v)).2.1) ((zst σ (zvw σ v)).2.2) (endP ((zst σ (zvw σ v)).2.2) (zvl σ v) (zvh σ v) 0) (CP_r hC hi) (by omega)) ⟨rfl, rfl⟩ rfl hP (CP_r hC hi).1 (CP_r hC hi).2.1 rfl rfl rfl hl rfl (Nat.le_of_ble_eq_true rfl) dX3_digestView_39 ⟨Nat.zero_le _, Nat.zero_le _⟩ (fun r5 e_r5 => ?_)
  subst e_r5
  have b_6 := @keyR_b (zod σ (zvw σ v)) (endP ((zst σ (zvw σ v)).2.2) (zvl σ v) (zvh σ v) 0) (by omega)
  refine q_sSl C0 lX3_261 (c_X3_mixed l D y L F (mxd s0 (cntP ((zst σ (zvw σ v)).2.2) (zvl σ v) (zvh σ v))) (keyR (zod σ (zvw σ v)) (endP ((zst σ (zvw σ v)).2.2) (zvl σ v) (zvh σ v) 0))) ⟨rfl, rfl⟩ rfl hP rfl hl rfl (Nat.le_of_ble_eq_true rfl) dX3_digestView_42 ⟨Nat.zero_le _, Nat.zero_le _⟩ (fun r7 e_r7 => ?_)
  subst e_r7
  refine lv_lstore (lv' := [(4, .long ((mxd (mxd s0 (cntP ((zst σ (zvw σ v)).2.2) (zvl σ v) (zvh σ v))) (keyR (zod σ (zvw σ v)) (endP ((zst σ (zvw σ v)).2.2) (zvl σ v) (zvh σ v) 0))))), (3, .ref ((grh G (zvw σ v)))), (0, .long (s0)), (2, .ref ((gva G v)))]) hx hb dX3_digestView_45 hl (by decide) rfl (fun ls hl => ?_)
  refine lv_lload hx hb dX3_digestView_47 (lv_at hl 0 rfl) ?_
  refine lv_aload_n hx hb dX3_digestView_49 rfl (lv_at hl 1 rfl) ?_
  refine lv_aload_n hx hb dX3_digestView_50 rfl (lv_at hl 1 rfl) ?_
  refine lv_aload_n hx hb dX3_digestView_51 rfl (lv_at hl 3 rfl) ?_
  refine q_get C0 iX1 hP (CP_v hC hv).1 (CP_v hC hv).2 rfl 1 (by decide) flX3_182 rfl rfl dX3_digestView_52 ?_
  refine lv_aload_n hx hb dX3_digestView_55 rfl (lv_at hl 3 rfl) ?_
  refine q_get C0 iX1 hP (CP_v hC hv).1 (CP_v hC hv).2 rfl 2 (by decide) flX3_185 rfl rfl dX3_digestView_56 ?_
  refine q_iconst hx hb dX3_digestView_59 ?_
  refine q_vS C0 lX3_135 (c_X0_endOfPart l D y L F (grh G (zvw σ v)) (grw G (zvw σ v)) (zod σ (zvw σ v)) ((zst σ (zvw σ v)).1) ((zst σ (zvw σ v)).2.1) ((zst σ (zvw σ v)).2.2) (zvl σ v) (zvh σ v) 1 (CP_r hC hi) (by omega) (by omega) (by omega)) ⟨rfl, rfl⟩ rfl hP (CP_r hC hi).1 (CP_r hC hi).2.1 rfl rfl rfl hl rfl (Nat.le_of_ble_eq_true rfl) dX3_digestView_60 ⟨Nat.zero_le _, Nat.zero_le _⟩ (fun r8 e_r8 => ?_)
  subst e_r8
  have b_9 := endP_r ((zst σ (zvw σ v)).2.2) (zvl σ v) (zvh σ v) 1
  refine q_vS C0 lX3_132 (c_X0_keyOf l D y L F (grh G (zvw σ v)) (grw G (zvw σ v)) (zod σ (zvw σ v)) ((zst σ (zvw σ v)).1) ((zst σ (zvw σ v)).2.1) ((zst σ (zvw σ v)).2.2) (endP ((zst σ (zvw σ v)).2.2) (zvl σ v) (zvh σ v) 1) (CP_r hC hi) (by omega)) ⟨rfl, rfl⟩ rfl hP (CP_r hC hi).1 (CP_r hC hi).2.1 rfl rfl rfl hl rfl (Nat.le_of_ble_eq_true rfl) dX3_digestView_63 ⟨Nat.zero_le _, Nat.zero_le _⟩ (fun r10 e_r10 => ?_)
  subst e_r10
  have b_11 := @keyR_b (zod σ (zvw σ v)) (endP ((zst σ (zvw σ v)).2.2) (zvl σ v) (zvh σ v) 1) (by omega)
  refine q_sSl C0 lX3_261 (c_X3_mixed l D y L F (mxd (mxd s0 (cntP ((zst σ (zvw σ v)).2.2) (zvl σ v) (zvh σ v))) (keyR (zod σ (zvw σ v)) (endP ((zst σ (zvw σ v)).2.2) (zvl σ v) (zvh σ v) 0))) (keyR (zod σ (zvw σ v)) (endP ((zst σ (zvw σ v)).2.2) (zvl σ v) (zvh σ v) 1))) ⟨rfl, rfl⟩ rfl hP rfl hl rfl (Nat.le_of_ble_eq_true rfl) dX3_digestView_66 ⟨Nat.zero_le _, Nat.zero_le _⟩ (fun r12 e_r12 => ?_)
  subst e_r12
  refine lv_lstore (lv' := [(4, .long ((mxd (mxd (mxd s0 (cntP ((zst σ (zvw σ v)).2.2) (zvl σ v) (zvh σ v))) (keyR (zod σ (zvw σ v)) (endP ((zst σ (zvw σ v)).2.2) (zvl σ v) (zvh σ v) 0))) (keyR (zod σ (zvw σ v)) (endP ((zst σ (zvw σ v)).2.2) (zvl σ v) (zvh σ v) 1))))), (3, .ref ((grh G (zvw σ v)))), (0, .long (s0)), (2, .ref ((gva G v)))]) hx hb dX3_digestView_69 hl (by decide) rfl (fun ls hl => ?_)
  refine lv_lload hx hb dX3_digestView_71 (lv_at hl 0 rfl) ?_
  refine lv_aload_n hx hb dX3_digestView_73 rfl (lv_at hl 1 rfl) ?_
  refine lv_aload_n hx hb dX3_digestView_74 rfl (lv_at hl 3 rfl) ?_
  refine q_get C0 iX1 hP (CP_v hC hv).1 (CP_v hC hv).2 rfl 1 (by decide) flX3_182 rfl rfl dX3_digestView_75 ?_
  refine lv_aload_n hx hb dX3_digestView_78 rfl (lv_at hl 3 rfl) ?_
  refine q_get C0 iX1 hP (CP_v hC hv).1 (CP_v hC hv).2 rfl 2 (by decide) flX3_185 rfl rfl dX3_digestView_79 ?_
  refine q_vS C0 lX3_194 (c_X0_worthsOfPart l D y L F (grh G (zvw σ v)) (grw G (zvw σ v)) (zod σ (zvw σ v)) ((zst σ (zvw σ v)).1) ((zst σ (zvw σ v)).2.1) ((zst σ (zvw σ v)).2.2) (zvl σ v) (zvh σ v) (CP_r hC hi) (by omega) (by omega)) ⟨rfl, rfl⟩ rfl hP (CP_r hC hi).1 (CP_r hC hi).2.1 rfl rfl rfl hl rfl (Nat.le_of_ble_eq_true rfl) dX3_digestView_82 ⟨Nat.zero_le _, Nat.zero_le _⟩ (fun r13 e_r13 => ?_)
  subst e_r13
  refine q_sSl C0 lX3_261 (c_X3_mixed l D y L F (mxd (mxd (mxd s0 (cntP ((zst σ (zvw σ v)).2.2) (zvl σ v) (zvh σ v))) (keyR (zod σ (zvw σ v)) (endP ((zst σ (zvw σ v)).2.2) (zvl σ v) (zvh σ v) 0))) (keyR (zod σ (zvw σ v)) (endP ((zst σ (zvw σ v)).2.2) (zvl σ v) (zvh σ v) 1))) (worP ((zst σ (zvw σ v)).2.2) (zvl σ v) (zvh σ v))) ⟨rfl, rfl⟩ rfl hP rfl hl rfl (Nat.le_of_ble_eq_true rfl) dX3_digestView_85 ⟨Nat.zero_le _, Nat.zero_le _⟩ (fun r14 e_r14 => ?_)
  subst e_r14
  exact q_lretS C0 hret hlk dX3_digestView_88 (rfl)
set_option maxHeartbeats 800000 in
set_option maxRecDepth 100000 in
theorem c_X3_isSound (l : Launch) (D : va_G) (y : Nat → ClassId) (L : List Nat) (F : Nat → va_E) (sz : Nat) (O : Nat → Prop) (G : CG) (σ : CS) (hC : CP y L F O G σ) (hW : CW σ) : Met l yX3_isSound (.code yX3_isSound cX3_isSound 2 (some .boolean) :: Tt) ({ frames := 5, cells := 14, slots := 728, locals := 116 }) (PcM D y L F sz [.ref ((gbg G))]) (cMi D (AL L sz) (fun r L1 F1 => r = kR_isSound σ ∧ CP y L1 F1 O G σ ∧ (∀ a ∈ L, a ∈ L1) ∧ ∀ a ∈ L, F1 a = F a)) 14 728 (AL L sz) := by
  have hfr : ∀ a ∈ L, F a = F a := fun _ _ => rfl
  have hLs : ∀ a ∈ L, a ∈ L := fun _ h => h
  refine q_ofM (lv := [(0, .ref ((gbg G)))]) (by decide) (Nat.le_of_ble_eq_true rfl) rfl (fun p e s m below meth c C0 hret hlk hnm hA hP hD hS ls hl => ?_)
  have hx := C0.1.1
  have hb := C0.1.2.1
  have hts := C0.1.2.2.2.2
  refine q_iconst hx hb dX3_isSound_0 ?_
  refine lv_istore_n (lv' := [(1, .int (iI 0)), (0, .ref ((gbg G)))]) hx hb dX3_isSound_1 rfl hl (by decide) rfl (fun ls hl => ?_)
  refine lv_iload_n hx hb dX3_isSound_2 rfl (lv_at hl 0 rfl) ?_
  refine q_iconst hx hb dX3_isSound_3 ?_
  refine q_icmp_ge hx hb dX3_isSound_4 (tgt := 27) (by decide) (by omega) (by omega) (fun c1 => absurd c1 (by omega)) (fun c1 => ?_)
  refine lv_aload_n hx hb dX3_isSound_7 rfl (lv_at hl 1 rfl) ?_
  refine q_get C0 iX3 hP hC.1.1 hC.1.2 rfl 0 (by decide) flX3_11 rfl rfl dX3_isSound_8 ?_
  refine lv_iload_n hx hb dX3_isSound_11 rfl (lv_at hl 0 rfl) ?_
  refine q_aald C0 hP hC.2.1.1 hC.2.1.2 (t := 1) rfl (by omega) (by decide) (v := .ref ((grh G (zbk σ 0)))) rfl dX3_isSound_12 ?_
  refine q_sMi C0 lX3_244 (c_X3_isRowSound l D y L F _ (grh G (zbk σ 0)) (grw G (zbk σ 0)) (zod σ (zbk σ 0)) ((zst σ (zbk σ 0)).1) ((zst σ (zbk σ 0)).2.1) ((zst σ (zbk σ 0)).2.2) (CP_r hC (hW.1 0)) (by have := hW.2.2.2.2.2.2.2.2.2.1 _ (hW.1 0); omega)) ⟨rfl, rfl⟩ rfl hP hD hS hA rfl hl rfl (Nat.le_of_ble_eq_true rfl) dX3_isSound_13 ⟨Nat.le_of_ble_eq_true rfl, Nat.le_of_ble_eq_true rfl⟩ (fun r2 H locs L3 F3 hP hD hS hz3 hp3 => ?_)
  refine W.widen (k := 2) (n := 104) (Nat.le_of_ble_eq_true rfl) (Nat.le_of_ble_eq_true rfl) ?_
  obtain ⟨er, hLs4, hfr4⟩ := hp3
  replace er : (rS σ (zbk σ 0)) = r2 := er.symm
  subst er
  have hfr : ∀ a ∈ L, F3 a = F a := fun a h1 => (hfr4 a (hLs a h1)).trans (hfr a h1)
  have hLs : ∀ a ∈ L, a ∈ L3 := fun a h1 => hLs4 a (hLs a h1)
  have hC := CP_mono hC hLs4 hfr4
  have b_r2 := rS_b σ (zbk σ 0)
  refine q_if_ne hx hb dX3_isSound_16 (tgt := 21) (by decide) (by omega) (fun c5 => ?_) (fun c5 => ?_)
  · refine q_iinc (x := 0) (n := 1) (lv' := [(1, .int (iI 1)), (0, .ref ((gbg G)))]) hx hb dX3_isSound_21 hl (k := 0) rfl (by decide) rfl (fun ls hl => ?_)
    refine lv_goto (tgt := 2) hx hb dX3_isSound_24 (by decide) ?_
    refine lv_iload_n hx hb dX3_isSound_2 rfl (lv_at hl 0 rfl) ?_
    refine q_iconst hx hb dX3_isSound_3 ?_
    refine q_icmp_ge hx hb dX3_isSound_4 (tgt := 27) (by decide) (by omega) (by omega) (fun c6 => absurd c6 (by omega)) (fun c6 => ?_)
    refine lv_aload_n hx hb dX3_isSound_7 rfl (lv_at hl 1 rfl) ?_
    refine q_get C0 iX3 hP hC.1.1 hC.1.2 rfl 0 (by decide) flX3_11 rfl rfl dX3_isSound_8 ?_
    refine lv_iload_n hx hb dX3_isSound_11 rfl (lv_at hl 0 rfl) ?_
    refine q_aald C0 hP hC.2.1.1 hC.2.1.2 (t := 1) rfl (by omega) (by decide) (v := .ref ((grh G (zbk σ 1)))) rfl dX3_isSound_12 ?_
    refine q_sMi C0 lX3_244 (c_X3_isRowSound l D y L3 F3 _ (grh G (zbk σ 1)) (grw G (zbk σ 1)) (zod σ (zbk σ 1)) ((zst σ (zbk σ 1)).1) ((zst σ (zbk σ 1)).2.1) ((zst σ (zbk σ 1)).2.2) (CP_r hC (hW.1 1)) (by have := hW.2.2.2.2.2.2.2.2.2.1 _ (hW.1 1); omega)) ⟨rfl, rfl⟩ rfl hP hD hS hA rfl hl rfl (Nat.le_of_ble_eq_true rfl) dX3_isSound_13 ⟨Nat.le_of_ble_eq_true rfl, Nat.le_of_ble_eq_true rfl⟩ (fun r7 H locs L8 F8 hP hD hS hz8 hp8 => ?_)
    refine W.widen (k := 4) (n := 208) (Nat.le_of_ble_eq_true rfl) (Nat.le_of_ble_eq_true rfl) ?_
    obtain ⟨er, hLs9, hfr9⟩ := hp8
    replace er : (rS σ (zbk σ 1)) = r7 := er.symm
    subst er
    have hfr : ∀ a ∈ L, F8 a = F a := fun a h1 => (hfr9 a (hLs a h1)).trans (hfr a h1)
    have hLs : ∀ a ∈ L, a ∈ L8 := fun a h1 => hLs9 a (hLs a h1)
    have hC := CP_mono hC hLs9 hfr9
    have b_r7 := rS_b σ (zbk σ 1)
    refine q_if_ne hx hb dX3_isSound_16 (tgt := 21) (by decide) (by omega) (fun c10 => ?_) (fun c10 => ?_)
    · refine q_iinc (x := 1) (n := 1) (lv' := [(1, .int (iI 2)), (0, .ref ((gbg G)))]) hx hb dX3_isSound_21 hl (k := 0) rfl (by decide) rfl (fun ls hl => ?_)
      refine lv_goto (tgt := 2) hx hb dX3_isSound_24 (by decide) ?_
      refine lv_iload_n hx hb dX3_isSound_2 rfl (lv_at hl 0 rfl) ?_
      refine q_iconst hx hb dX3_isSound_3 ?_
      refine q_icmp_ge hx hb dX3_isSound_4 (tgt := 27) (by decide) (by omega) (by omega) (fun c11 => absurd c11 (by omega)) (fun c11 => ?_)
      refine lv_aload_n hx hb dX3_isSound_7 rfl (lv_at hl 1 rfl) ?_
      refine q_get C0 iX3 hP hC.1.1 hC.1.2 rfl 0 (by decide) flX3_11 rfl rfl dX3_isSound_8 ?_
      refine lv_iload_n hx hb dX3_isSound_11 rfl (lv_at hl 0 rfl) ?_
      refine q_aald C0 hP hC.2.1.1 hC.2.1.2 (t := 1) rfl (by omega) (by decide) (v := .ref ((grh G (zbk σ 2)))) rfl dX3_isSound_12 ?_
      refine q_sMi C0 lX3_244 (c_X3_isRowSound l D y L8 F8 _ (grh G (zbk σ 2)) (grw G (zbk σ 2)) (zod σ (zbk σ 2)) ((zst σ (zbk σ 2)).1) ((zst σ (zbk σ 2)).2.1) ((zst σ (zbk σ 2)).2.2) (CP_r hC (hW.1 2)) (by have := hW.2.2.2.2.2.2.2.2.2.1 _ (hW.1 2); omega)) ⟨rfl, rfl⟩ rfl hP hD hS hA rfl hl rfl (Nat.le_of_ble_eq_true rfl) dX3_isSound_13 ⟨Nat.le_of_ble_eq_true rfl, Nat.le_of_ble_eq_true rfl⟩ (fun r12 H locs L13 F13 hP hD hS hz13 hp13 => ?_)
      refine W.widen (k := 6) (n := 312) (Nat.le_of_ble_eq_true rfl) (Nat.le_of_ble_eq_true rfl) ?_
      obtain ⟨er, hLs14, hfr14⟩ := hp13
      replace er : (rS σ (zbk σ 2)) = r12 := er.symm
      subst er
      have hfr : ∀ a ∈ L, F13 a = F a := fun a h1 => (hfr14 a (hLs a h1)).trans (hfr a h1)
      have hLs : ∀ a ∈ L, a ∈ L13 := fun a h1 => hLs14 a (hLs a h1)
      have hC := CP_mono hC hLs14 hfr14
      have b_r12 := rS_b σ (zbk σ 2)
      refine q_if_ne hx hb dX3_isSound_16 (tgt := 21) (by decide) (by omega) (fun c15 => ?_) (fun c15 => ?_)
      · refine q_iinc (x := 2) (n := 1) (lv' := [(1, .int (iI 3)), (0, .ref ((gbg G)))]) hx hb dX3_isSound_21 hl (k := 0) rfl (by decide) rfl (fun ls hl => ?_)
        refine lv_goto (tgt := 2) hx hb dX3_isSound_24 (by decide) ?_
        refine lv_iload_n hx hb dX3_isSound_2 rfl (lv_at hl 0 rfl) ?_
        refine q_iconst hx hb dX3_isSound_3 ?_
        refine q_icmp_ge hx hb dX3_isSound_4 (tgt := 27) (by decide) (by omega) (by omega) (fun c16 => absurd c16 (by omega)) (fun c16 => ?_)
        refine lv_aload_n hx hb dX3_isSound_7 rfl (lv_at hl 1 rfl) ?_
        refine q_get C0 iX3 hP hC.1.1 hC.1.2 rfl 0 (by decide) flX3_11 rfl rfl dX3_isSound_8 ?_
        refine lv_iload_n hx hb dX3_isSound_11 rfl (lv_at hl 0 rfl) ?_
        refine q_aald C0 hP hC.2.1.1 hC.2.1.2 (t := 1) rfl (by omega) (by decide) (v := .ref ((grh G (zbk σ 3)))) rfl dX3_isSound_12 ?_
        refine q_sMi C0 lX3_244 (c_X3_isRowSound l D y L13 F13 _ (grh G (zbk σ 3)) (grw G (zbk σ 3)) (zod σ (zbk σ 3)) ((zst σ (zbk σ 3)).1) ((zst σ (zbk σ 3)).2.1) ((zst σ (zbk σ 3)).2.2) (CP_r hC (hW.1 3)) (by have := hW.2.2.2.2.2.2.2.2.2.1 _ (hW.1 3); omega)) ⟨rfl, rfl⟩ rfl hP hD hS hA rfl hl rfl (Nat.le_of_ble_eq_true rfl) dX3_isSound_13 ⟨Nat.le_of_ble_eq_true rfl, Nat.le_of_ble_eq_true rfl⟩ (fun r17 H locs L18 F18 hP hD hS hz18 hp18 => ?_)
        refine W.widen (k := 8) (n := 416) (Nat.le_of_ble_eq_true rfl) (Nat.le_of_ble_eq_true rfl) ?_
        obtain ⟨er, hLs19, hfr19⟩ := hp18
        replace er : (rS σ (zbk σ 3)) = r17 := er.symm
        subst er
        have hfr : ∀ a ∈ L, F18 a = F a := fun a h1 => (hfr19 a (hLs a h1)).trans (hfr a h1)
        have hLs : ∀ a ∈ L, a ∈ L18 := fun a h1 => hLs19 a (hLs a h1)
        have hC := CP_mono hC hLs19 hfr19
        have b_r17 := rS_b σ (zbk σ 3)
        refine q_if_ne hx hb dX3_isSound_16 (tgt := 21) (by decide) (by omega) (fun c20 => ?_) (fun c20 => ?_)
        · refine q_iinc (x := 3) (n := 1) (lv' := [(1, .int (iI 4)), (0, .ref ((gbg G)))]) hx hb dX3_isSound_21 hl (k := 0) rfl (by decide) rfl (fun ls hl => ?_)
          refine lv_goto (tgt := 2) hx hb dX3_isSound_24 (by decide) ?_
          refine lv_iload_n hx hb dX3_isSound_2 rfl (lv_at hl 0 rfl) ?_
          refine q_iconst hx hb dX3_isSound_3 ?_
          refine q_icmp_ge hx hb dX3_isSound_4 (tgt := 27) (by decide) (by omega) (by omega) (fun c21 => ?_) (fun c21 => absurd c21 (by omega))
          refine q_iconst hx hb dX3_isSound_27 ?_
          refine lv_istore_n (lv' := [(1, .int (iI 0)), (0, .ref ((gbg G)))]) hx hb dX3_isSound_28 rfl hl (by decide) rfl (fun ls hl => ?_)
          refine lv_iload_n hx hb dX3_isSound_29 rfl (lv_at hl 0 rfl) ?_
          refine q_iconst hx hb dX3_isSound_30 ?_
          refine q_icmp_ge hx hb dX3_isSound_31 (tgt := 54) (by decide) (by omega) (by omega) (fun c22 => absurd c22 (by omega)) (fun c22 => ?_)
          refine lv_aload_n hx hb dX3_isSound_34 rfl (lv_at hl 1 rfl) ?_
          refine q_get C0 iX3 hP hC.1.1 hC.1.2 rfl 1 (by decide) flX3_18 rfl rfl dX3_isSound_35 ?_
          refine lv_iload_n hx hb dX3_isSound_38 rfl (lv_at hl 0 rfl) ?_
          refine q_aald C0 hP hC.2.2.1.1 hC.2.2.1.2 (t := 1) rfl (by omega) (by decide) (v := .ref ((grh G (zsh σ 0)))) rfl dX3_isSound_39 ?_
          refine q_sMi C0 lX3_244 (c_X3_isRowSound l D y L18 F18 _ (grh G (zsh σ 0)) (grw G (zsh σ 0)) (zod σ (zsh σ 0)) ((zst σ (zsh σ 0)).1) ((zst σ (zsh σ 0)).2.1) ((zst σ (zsh σ 0)).2.2) (CP_r hC (hW.2.1 0)) (by have := hW.2.2.2.2.2.2.2.2.2.1 _ (hW.2.1 0); omega)) ⟨rfl, rfl⟩ rfl hP hD hS hA rfl hl rfl (Nat.le_of_ble_eq_true rfl) dX3_isSound_40 ⟨Nat.le_of_ble_eq_true rfl, Nat.le_of_ble_eq_true rfl⟩ (fun r23 H locs L24 F24 hP hD hS hz24 hp24 => ?_)
          refine W.widen (k := 10) (n := 520) (Nat.le_of_ble_eq_true rfl) (Nat.le_of_ble_eq_true rfl) ?_
          obtain ⟨er, hLs25, hfr25⟩ := hp24
          replace er : (rS σ (zsh σ 0)) = r23 := er.symm
          subst er
          have hfr : ∀ a ∈ L, F24 a = F a := fun a h1 => (hfr25 a (hLs a h1)).trans (hfr a h1)
          have hLs : ∀ a ∈ L, a ∈ L24 := fun a h1 => hLs25 a (hLs a h1)
          have hC := CP_mono hC hLs25 hfr25
          have b_r23 := rS_b σ (zsh σ 0)
          refine q_if_ne hx hb dX3_isSound_43 (tgt := 48) (by decide) (by omega) (fun c26 => ?_) (fun c26 => ?_)
          · refine q_iinc (x := 0) (n := 1) (lv' := [(1, .int (iI 1)), (0, .ref ((gbg G)))]) hx hb dX3_isSound_48 hl (k := 0) rfl (by decide) rfl (fun ls hl => ?_)
            refine lv_goto (tgt := 29) hx hb dX3_isSound_51 (by decide) ?_
            refine lv_iload_n hx hb dX3_isSound_29 rfl (lv_at hl 0 rfl) ?_
            refine q_iconst hx hb dX3_isSound_30 ?_
            refine q_icmp_ge hx hb dX3_isSound_31 (tgt := 54) (by decide) (by omega) (by omega) (fun c27 => absurd c27 (by omega)) (fun c27 => ?_)
            refine lv_aload_n hx hb dX3_isSound_34 rfl (lv_at hl 1 rfl) ?_
            refine q_get C0 iX3 hP hC.1.1 hC.1.2 rfl 1 (by decide) flX3_18 rfl rfl dX3_isSound_35 ?_
            refine lv_iload_n hx hb dX3_isSound_38 rfl (lv_at hl 0 rfl) ?_
            refine q_aald C0 hP hC.2.2.1.1 hC.2.2.1.2 (t := 1) rfl (by omega) (by decide) (v := .ref ((grh G (zsh σ 1)))) rfl dX3_isSound_39 ?_
            refine q_sMi C0 lX3_244 (c_X3_isRowSound l D y L24 F24 _ (grh G (zsh σ 1)) (grw G (zsh σ 1)) (zod σ (zsh σ 1)) ((zst σ (zsh σ 1)).1) ((zst σ (zsh σ 1)).2.1) ((zst σ (zsh σ 1)).2.2) (CP_r hC (hW.2.1 1)) (by have := hW.2.2.2.2.2.2.2.2.2.1 _ (hW.2.1 1); omega)) ⟨rfl, rfl⟩ rfl hP hD hS hA rfl hl rfl (Nat.le_of_ble_eq_true rfl) dX3_isSound_40 ⟨Nat.le_of_ble_eq_true rfl, Nat.le_of_ble_eq_true rfl⟩ (fun r28 H locs L29 F29 hP hD hS hz29 hp29 => ?_)
            refine W.widen (k := 12) (n := 624) (Nat.le_of_ble_eq_true rfl) (Nat.le_of_ble_eq_true rfl) ?_
            obtain ⟨er, hLs30, hfr30⟩ := hp29
            replace er : (rS σ (zsh σ 1)) = r28 := er.symm
            subst er
            have hfr : ∀ a ∈ L, F29 a = F a := fun a h1 => (hfr30 a (hLs a h1)).trans (hfr a h1)
            have hLs : ∀ a ∈ L, a ∈ L29 := fun a h1 => hLs30 a (hLs a h1)
            have hC := CP_mono hC hLs30 hfr30
            have b_r28 := rS_b σ (zsh σ 1)
            refine q_if_ne hx hb dX3_isSound_43 (tgt := 48) (by decide) (by omega) (fun c31 => ?_) (fun c31 => ?_)
            · refine q_iinc (x := 1) (n := 1) (lv' := [(1, .int (iI 2)), (0, .ref ((gbg G)))]) hx hb dX3_isSound_48 hl (k := 0) rfl (by decide) rfl (fun ls hl => ?_)
              refine lv_goto (tgt := 29) hx hb dX3_isSound_51 (by decide) ?_
              refine lv_iload_n hx hb dX3_isSound_29 rfl (lv_at hl 0 rfl) ?_
              refine q_iconst hx hb dX3_isSound_30 ?_
              refine q_icmp_ge hx hb dX3_isSound_31 (tgt := 54) (by decide) (by omega) (by omega) (fun c32 => absurd c32 (by omega)) (fun c32 => ?_)
              refine lv_aload_n hx hb dX3_isSound_34 rfl (lv_at hl 1 rfl) ?_
              refine q_get C0 iX3 hP hC.1.1 hC.1.2 rfl 1 (by decide) flX3_18 rfl rfl dX3_isSound_35 ?_
              refine lv_iload_n hx hb dX3_isSound_38 rfl (lv_at hl 0 rfl) ?_
              refine q_aald C0 hP hC.2.2.1.1 hC.2.2.1.2 (t := 1) rfl (by omega) (by decide) (v := .ref ((grh G (zsh σ 2)))) rfl dX3_isSound_39 ?_
              refine q_sMi C0 lX3_244 (c_X3_isRowSound l D y L29 F29 _ (grh G (zsh σ 2)) (grw G (zsh σ 2)) (zod σ (zsh σ 2)) ((zst σ (zsh σ 2)).1) ((zst σ (zsh σ 2)).2.1) ((zst σ (zsh σ 2)).2.2) (CP_r hC (hW.2.1 2)) (by have := hW.2.2.2.2.2.2.2.2.2.1 _ (hW.2.1 2); omega)) ⟨rfl, rfl⟩ rfl hP hD hS hA rfl hl rfl (Nat.le_of_ble_eq_true rfl) dX3_isSound_40 ⟨Nat.le_of_ble_eq_true rfl, Nat.le_of_ble_eq_true rfl⟩ (fun r33 H locs L34 F34 hP hD hS hz34 hp34 => ?_)
              refine W.widen (k := 14) (n := 728) (Nat.le_of_ble_eq_true rfl) (Nat.le_of_ble_eq_true rfl) ?_
              obtain ⟨er, hLs35, hfr35⟩ := hp34
              replace er : (rS σ (zsh σ 2)) = r33 := er.symm
              subst er
              have hfr : ∀ a ∈ L, F34 a = F a := fun a h1 => (hfr35 a (hLs a h1)).trans (hfr a h1)
              have hLs : ∀ a ∈ L, a ∈ L34 := fun a h1 => hLs35 a (hLs a h1)
              have hC := CP_mono hC hLs35 hfr35
              have b_r33 := rS_b σ (zsh σ 2)
              refine q_if_ne hx hb dX3_isSound_43 (tgt := 48) (by decide) (by omega) (fun c36 => ?_) (fun c36 => ?_)
              · refine q_iinc (x := 2) (n := 1) (lv' := [(1, .int (iI 3)), (0, .ref ((gbg G)))]) hx hb dX3_isSound_48 hl (k := 0) rfl (by decide) rfl (fun ls hl => ?_)
                refine lv_goto (tgt := 29) hx hb dX3_isSound_51 (by decide) ?_
                refine lv_iload_n hx hb dX3_isSound_29 rfl (lv_at hl 0 rfl) ?_
                refine q_iconst hx hb dX3_isSound_30 ?_
                refine q_icmp_ge hx hb dX3_isSound_31 (tgt := 54) (by decide) (by omega) (by omega) (fun c37 => ?_) (fun c37 => absurd c37 (by omega))
                refine q_iconst hx hb dX3_isSound_54 ?_
                refine lv_istore_n (lv' := [(1, .int (iI 0)), (0, .ref ((gbg G)))]) hx hb dX3_isSound_55 rfl hl (by decide) rfl (fun ls hl => ?_)
                refine lv_iload_n hx hb dX3_isSound_56 rfl (lv_at hl 0 rfl) ?_
                refine q_iconst hx hb dX3_isSound_57 ?_
                refine q_icmp_ge hx hb dX3_isSound_58 (tgt := 81) (by decide) (by omega) (by omega) (fun c38 => absurd c38 (by omega)) (fun c38 => ?_)
                refine lv_aload_n hx hb dX3_isSound_61 rfl (lv_at hl 1 rfl) ?_
                refine q_get C0 iX3 hP hC.1.1 hC.1.2 rfl 2 (by decide) flX3_23 rfl rfl dX3_isSound_62 ?_
                refine lv_iload_n hx hb dX3_isSound_65 rfl (lv_at hl 0 rfl) ?_
                refine q_aald C0 hP hC.2.2.2.1.1 hC.2.2.2.1.2 (t := 2) rfl (by omega) (by decide) (v := .ref ((gva G 0))) rfl dX3_isSound_66 ?_
                refine q_sS C0 lX3_247 (c_X3_isViewSound l D y L34 F34 O G σ 0 hC (by omega) (hW.2.2.1 0) (by have := hW.2.2.2.2.1 0; omega) (by have := hW.2.2.2.2.1 0; omega) (by have := hW.2.2.2.2.2.2.2.2.2.1 _ (hW.2.2.1 0); omega)) ⟨rfl, rfl⟩ rfl hP rfl hl rfl (Nat.le_of_ble_eq_true rfl) dX3_isSound_67 ⟨Nat.le_of_ble_eq_true rfl, Nat.le_of_ble_eq_true rfl⟩ (fun r39 e_r39 => ?_)
                replace e_r39 := e_r39.symm
                subst e_r39
                have b_40 := vS_b σ 0
                refine q_if_ne hx hb dX3_isSound_70 (tgt := 75) (by decide) (by omega) (fun c41 => ?_) (fun c41 => ?_)
                · refine q_iinc (x := 0) (n := 1) (lv' := [(1, .int (iI 1)), (0, .ref ((gbg G)))]) hx hb dX3_isSound_75 hl (k := 0) rfl (by decide) rfl (fun ls hl => ?_)
                  refine lv_goto (tgt := 56) hx hb dX3_isSound_78 (by decide) ?_
                  refine lv_iload_n hx hb dX3_isSound_56 rfl (lv_at hl 0 rfl) ?_
                  refine q_iconst hx hb dX3_isSound_57 ?_
                  refine q_icmp_ge hx hb dX3_isSound_58 (tgt := 81) (by decide) (by omega) (by omega) (fun c42 => absurd c42 (by omega)) (fun c42 => ?_)
                  refine lv_aload_n hx hb dX3_isSound_61 rfl (lv_at hl 1 rfl) ?_
                  refine q_get C0 iX3 hP hC.1.1 hC.1.2 rfl 2 (by decide) flX3_23 rfl rfl dX3_isSound_62 ?_
                  refine lv_iload_n hx hb dX3_isSound_65 rfl (lv_at hl 0 rfl) ?_
                  refine q_aald C0 hP hC.2.2.2.1.1 hC.2.2.2.1.2 (t := 2) rfl (by omega) (by decide) (v := .ref ((gva G 1))) rfl dX3_isSound_66 ?_
                  refine q_sS C0 lX3_247 (c_X3_isViewSound l D y L34 F34 O G σ 1 hC (by omega) (hW.2.2.1 1) (by have := hW.2.2.2.2.1 1; omega) (by have := hW.2.2.2.2.1 1; omega) (by have := hW.2.2.2.2.2.2.2.2.2.1 _ (hW.2.2.1 1); omega)) ⟨rfl, rfl⟩ rfl hP rfl hl rfl (Nat.le_of_ble_eq_true rfl) dX3_isSound_67 ⟨Nat.le_of_ble_eq_true rfl, Nat.le_of_ble_eq_true rfl⟩ (fun r43 e_r43 => ?_)
                  replace e_r43 := e_r43.symm
                  subst e_r43
                  have b_44 := vS_b σ 1
                  refine q_if_ne hx hb dX3_isSound_70 (tgt := 75) (by decide) (by omega) (fun c45 => ?_) (fun c45 => ?_)
                  · refine q_iinc (x := 1) (n := 1) (lv' := [(1, .int (iI 2)), (0, .ref ((gbg G)))]) hx hb dX3_isSound_75 hl (k := 0) rfl (by decide) rfl (fun ls hl => ?_)
                    refine lv_goto (tgt := 56) hx hb dX3_isSound_78 (by decide) ?_
                    refine lv_iload_n hx hb dX3_isSound_56 rfl (lv_at hl 0 rfl) ?_
                    refine q_iconst hx hb dX3_isSound_57 ?_
                    refine q_icmp_ge hx hb dX3_isSound_58 (tgt := 81) (by decide) (by omega) (by omega) (fun c46 => ?_) (fun c46 => absurd c46 (by omega))
                    refine q_iconst hx hb dX3_isSound_81 ?_
                    exact q_retMi C0 hret (by decide) hlk dX3_isSound_82 hP hD hS (⟨(by unfold kR_isSound; (repeat' split) <;> first | rfl | omega | (exfalso; omega)), hC, hLs, hfr⟩)
                  · refine q_iconst hx hb dX3_isSound_73 ?_
                    exact q_retMi C0 hret (by decide) hlk dX3_isSound_74 hP hD hS (⟨(by unfold kR_isSound; (repeat' split) <;> first | rfl | omega | (exfalso; omega)), hC, hLs, hfr⟩)
                · refine q_iconst hx hb dX3_isSound_73 ?_
                  exact q_retMi C0 hret (by decide) hlk dX3_isSound_74 hP hD hS (⟨(by unfold kR_isSound; (repeat' split) <;> first | rfl | omega | (exfalso; omega)), hC, hLs, hfr⟩)
              · refine q_iconst hx hb dX3_isSound_46 ?_
                exact q_retMi C0 hret (by decide) hlk dX3_isSound_47 hP hD hS (⟨(by unfold kR_isSound; (repeat' split) <;> first | rfl | omega | (exfalso; omega)), hC, hLs, hfr⟩)
            · refine q_iconst hx hb dX3_isSound_46 ?_
              refine W.widen (k := 14) (n := 728) (Nat.le_of_ble_eq_true rfl) (Nat.le_of_ble_eq_true rfl) ?_
              exact q_retMi C0 hret (by decide) hlk dX3_isSound_47 hP hD hS (⟨(by unfold kR_isSound; (repeat' split) <;> first | rfl | omega | (exfalso; omega)), hC, hLs, hfr⟩)
          · refine q_iconst hx hb dX3_isSound_46 ?_
            refine W.widen (k := 14) (n := 728) (Nat.le_of_ble_eq_true rfl) (Nat.le_of_ble_eq_true rfl) ?_
            exact q_retMi C0 hret (by decide) hlk dX3_isSound_47 hP hD hS (⟨(by unfold kR_isSound; (repeat' split) <;> first | rfl | omega | (exfalso; omega)), hC, hLs, hfr⟩)
        · refine q_iconst hx hb dX3_isSound_19 ?_
          refine W.widen (k := 14) (n := 728) (Nat.le_of_ble_eq_true rfl) (Nat.le_of_ble_eq_true rfl) ?_
          exact q_retMi C0 hret (by decide) hlk dX3_isSound_20 hP hD hS (⟨(by unfold kR_isSound; (repeat' split) <;> first | rfl | omega | (exfalso; omega)), hC, hLs, hfr⟩)
      · refine q_iconst hx hb dX3_isSound_19 ?_
        refine W.widen (k := 14) (n := 728) (Nat.le_of_ble_eq_true rfl) (Nat.le_of_ble_eq_true rfl) ?_
        exact q_retMi C0 hret (by decide) hlk dX3_isSound_20 hP hD hS (⟨(by unfold kR_isSound; (repeat' split) <;> first | rfl | omega | (exfalso; omega)), hC, hLs, hfr⟩)
    · refine q_iconst hx hb dX3_isSound_19 ?_
      refine W.widen (k := 14) (n := 728) (Nat.le_of_ble_eq_true rfl) (Nat.le_of_ble_eq_true rfl) ?_
      exact q_retMi C0 hret (by decide) hlk dX3_isSound_20 hP hD hS (⟨(by unfold kR_isSound; (repeat' split) <;> first | rfl | omega | (exfalso; omega)), hC, hLs, hfr⟩)
  · refine q_iconst hx hb dX3_isSound_19 ?_
    refine W.widen (k := 14) (n := 728) (Nat.le_of_ble_eq_true rfl) (Nat.le_of_ble_eq_true rfl) ?_
    exact q_retMi C0 hret (by decide) hlk dX3_isSound_20 hP hD hS (⟨(by unfold kR_isSound; (repeat' split) <;> first | rfl | omega | (exfalso; omega)), hC, hLs, hfr⟩)
set_option maxHeartbeats 800000 in
set_option maxRecDepth 100000 in
theorem c_X3_digest0 (l : Launch) (D : va_G) (y : Nat → ClassId) (L : List Nat) (F : Nat → va_E) (sz : Nat) (O : Nat → Prop) (G : CG) (σ : CS) (hC : CP y L F O G σ) (hW : CW σ) (hwk : zwk σ = none) : Met l yX3_digest (.code yX3_digest cX3_digest 4 (some .long) :: Tt) ({ frames := 6, cells := 14, slots := 728, locals := 137 }) (PcM D y L F sz [.ref ((gbg G))]) (cMl D (AL L sz) (fun r L1 F1 => r = kR_digest0 σ ∧ CP y L1 F1 O G σ ∧ (∀ a ∈ L, a ∈ L1) ∧ ∀ a ∈ L, F1 a = F a)) 14 728 (AL L sz) := by
  have hfr : ∀ a ∈ L, F a = F a := fun _ _ => rfl
  have hLs : ∀ a ∈ L, a ∈ L := fun _ h => h
  have hw4 := hW.2.2.2.2.2.1
  have hw5 := hW.2.2.2.2.2.2.1
  have hw6 := hW.2.2.2.2.2.2.2.2.2.2
  refine q_ofM (lv := [(0, .ref ((gbg G)))]) (by decide) (Nat.le_of_ble_eq_true rfl) rfl (fun p e s m below meth c C0 hret hlk hnm hA hP hD hS ls hl => ?_)
  have hx := C0.1.1
  have hb := C0.1.2.1
  have hts := C0.1.2.2.2.2
  refine lv_ldc2 (v := 17706) hx hb C0.1.2.2.2.1 (hts _ (List.mem_cons_of_mem _ cLX3_251)) dX3_digest_0 ?_
  refine lv_lstore_n (lv' := [(1, .long (17706)), (0, .ref ((gbg G)))]) hx hb dX3_digest_3 rfl hl (by decide) rfl (fun ls hl => ?_)
  refine q_iconst hx hb dX3_digest_4 ?_
  refine lv_istore_n (lv' := [(3, .int (iI 0)), (1, .long (17706)), (0, .ref ((gbg G)))]) hx hb dX3_digest_5 rfl hl (by decide) rfl (fun ls hl => ?_)
  refine lv_iload_n hx hb dX3_digest_6 rfl (lv_at hl 0 rfl) ?_
  refine q_iconst hx hb dX3_digest_7 ?_
  refine q_icmp_ge hx hb dX3_digest_8 (tgt := 28) (by decide) (by omega) (by omega) (fun c1 => absurd c1 (by omega)) (fun c1 => ?_)
  refine lv_lload_n hx hb dX3_digest_11 rfl (lv_at hl 1 rfl) ?_
  refine lv_aload_n hx hb dX3_digest_12 rfl (lv_at hl 2 rfl) ?_
  refine q_get C0 iX3 hP hC.1.1 hC.1.2 rfl 0 (by decide) flX3_11 rfl rfl dX3_digest_13 ?_
  refine lv_iload_n hx hb dX3_digest_16 rfl (lv_at hl 0 rfl) ?_
  refine q_aald C0 hP hC.2.1.1 hC.2.1.2 (t := 1) rfl (by omega) (by decide) (v := .ref ((grh G (zbk σ 0)))) rfl dX3_digest_17 ?_
  refine q_sSl C0 lX3_253 (c_X3_digestBook l D y L F (grh G (zbk σ 0)) (grw G (zbk σ 0)) (zod σ (zbk σ 0)) ((zst σ (zbk σ 0)).1) ((zst σ (zbk σ 0)).2.1) ((zst σ (zbk σ 0)).2.2) 17706 (CP_r hC (hW.1 0)) (by have := hW.2.2.2.2.2.2.2.2.2.1 _ (hW.1 0); omega)) ⟨rfl, rfl⟩ rfl hP rfl hl rfl (Nat.le_of_ble_eq_true rfl) dX3_digest_18 ⟨Nat.zero_le _, Nat.zero_le _⟩ (fun r2 e_r2 => ?_)
  replace e_r2 := e_r2.symm
  subst e_r2
  refine lv_lstore_n (lv' := [(1, .long ((dgB (zod σ (zbk σ 0)) ((zst σ (zbk σ 0)).1) ((zst σ (zbk σ 0)).2.2) 17706))), (3, .int (iI 0)), (0, .ref ((gbg G)))]) hx hb dX3_digest_21 rfl hl (by decide) rfl (fun ls hl => ?_)
  refine q_iinc (x := 0) (n := 1) (lv' := [(3, .int (iI 1)), (1, .long ((dgB (zod σ (zbk σ 0)) ((zst σ (zbk σ 0)).1) ((zst σ (zbk σ 0)).2.2) 17706))), (0, .ref ((gbg G)))]) hx hb dX3_digest_22 hl (k := 1) rfl (by decide) rfl (fun ls hl => ?_)
  refine lv_goto (tgt := 6) hx hb dX3_digest_25 (by decide) ?_
  refine lv_iload_n hx hb dX3_digest_6 rfl (lv_at hl 0 rfl) ?_
  refine q_iconst hx hb dX3_digest_7 ?_
  refine q_icmp_ge hx hb dX3_digest_8 (tgt := 28) (by decide) (by omega) (by omega) (fun c3 => absurd c3 (by omega)) (fun c3 => ?_)
  refine lv_lload_n hx hb dX3_digest_11 rfl (lv_at hl 1 rfl) ?_
  refine lv_aload_n hx hb dX3_digest_12 rfl (lv_at hl 2 rfl) ?_
  refine q_get C0 iX3 hP hC.1.1 hC.1.2 rfl 0 (by decide) flX3_11 rfl rfl dX3_digest_13 ?_
  refine lv_iload_n hx hb dX3_digest_16 rfl (lv_at hl 0 rfl) ?_
  refine q_aald C0 hP hC.2.1.1 hC.2.1.2 (t := 1) rfl (by omega) (by decide) (v := .ref ((grh G (zbk σ 1)))) rfl dX3_digest_17 ?_
  refine q_sSl C0 lX3_253 (c_X3_digestBook l D y L F (grh G (zbk σ 1)) (grw G (zbk σ 1)) (zod σ (zbk σ 1)) ((zst σ (zbk σ 1)).1) ((zst σ (zbk σ 1)).2.1) ((zst σ (zbk σ 1)).2.2) (dgB (zod σ (zbk σ 0)) ((zst σ (zbk σ 0)).1) ((zst σ (zbk σ 0)).2.2) 17706) (CP_r hC (hW.1 1)) (by have := hW.2.2.2.2.2.2.2.2.2.1 _ (hW.1 1); omega)) ⟨rfl, rfl⟩ rfl hP rfl hl rfl (Nat.le_of_ble_eq_true rfl) dX3_digest_18 ⟨Nat.zero_le _, Nat.zero_le _⟩ (fun r4 e_r4 => ?_)
  replace e_r4 := e_r4.symm
  subst e_r4
  refine lv_lstore_n (lv' := [(1, .long ((dgB (zod σ (zbk σ 1)) ((zst σ (zbk σ 1)).1) ((zst σ (zbk σ 1)).2.2) (dgB (zod σ (zbk σ 0)) ((zst σ (zbk σ 0)).1) ((zst σ (zbk σ 0)).2.2) 17706)))), (3, .int (iI 1)), (0, .ref ((gbg G)))]) hx hb dX3_digest_21 rfl hl (by decide) rfl (fun ls hl => ?_)
  refine q_iinc (x := 1) (n := 1) (lv' := [(3, .int (iI 2)), (1, .long ((dgB (zod σ (zbk σ 1)) ((zst σ (zbk σ 1)).1) ((zst σ (zbk σ 1)).2.2) (dgB (zod σ (zbk σ 0)) ((zst σ (zbk σ 0)).1) ((zst σ (zbk σ 0)).2.2) 17706)))), (0, .ref ((gbg G)))]) hx hb dX3_digest_22 hl (k := 1) rfl (by decide) rfl (fun ls hl => ?_)
  refine lv_goto (tgt := 6) hx hb dX3_digest_25 (by decide) ?_
  refine lv_iload_n hx hb dX3_digest_6 rfl (lv_at hl 0 rfl) ?_
  refine q_iconst hx hb dX3_digest_7 ?_
  refine q_icmp_ge hx hb dX3_digest_8 (tgt := 28) (by decide) (by omega) (by omega) (fun c5 => absurd c5 (by omega)) (fun c5 => ?_)
  refine lv_lload_n hx hb dX3_digest_11 rfl (lv_at hl 1 rfl) ?_
  refine lv_aload_n hx hb dX3_digest_12 rfl (lv_at hl 2 rfl) ?_
  refine q_get C0 iX3 hP hC.1.1 hC.1.2 rfl 0 (by decide) flX3_11 rfl rfl dX3_digest_13 ?_
  refine lv_iload_n hx hb dX3_digest_16 rfl (lv_at hl 0 rfl) ?_
  refine q_aald C0 hP hC.2.1.1 hC.2.1.2 (t := 1) rfl (by omega) (by decide) (v := .ref ((grh G (zbk σ 2)))) rfl dX3_digest_17 ?_
  refine q_sSl C0 lX3_253 (c_X3_digestBook l D y L F (grh G (zbk σ 2)) (grw G (zbk σ 2)) (zod σ (zbk σ 2)) ((zst σ (zbk σ 2)).1) ((zst σ (zbk σ 2)).2.1) ((zst σ (zbk σ 2)).2.2) (dgB (zod σ (zbk σ 1)) ((zst σ (zbk σ 1)).1) ((zst σ (zbk σ 1)).2.2) (dgB (zod σ (zbk σ 0)) ((zst σ (zbk σ 0)).1) ((zst σ (zbk σ 0)).2.2) 17706)) (CP_r hC (hW.1 2)) (by have := hW.2.2.2.2.2.2.2.2.2.1 _ (hW.1 2); omega)) ⟨rfl, rfl⟩ rfl hP rfl hl rfl (Nat.le_of_ble_eq_true rfl) dX3_digest_18 ⟨Nat.zero_le _, Nat.zero_le _⟩ (fun r6 e_r6 => ?_)
  replace e_r6 := e_r6.symm
  subst e_r6
  refine lv_lstore_n (lv' := [(1, .long ((dgB (zod σ (zbk σ 2)) ((zst σ (zbk σ 2)).1) ((zst σ (zbk σ 2)).2.2) (dgB (zod σ (zbk σ 1)) ((zst σ (zbk σ 1)).1) ((zst σ (zbk σ 1)).2.2) (dgB (zod σ (zbk σ 0)) ((zst σ (zbk σ 0)).1) ((zst σ (zbk σ 0)).2.2) 17706))))), (3, .int (iI 2)), (0, .ref ((gbg G)))]) hx hb dX3_digest_21 rfl hl (by decide) rfl (fun ls hl => ?_)
  refine q_iinc (x := 2) (n := 1) (lv' := [(3, .int (iI 3)), (1, .long ((dgB (zod σ (zbk σ 2)) ((zst σ (zbk σ 2)).1) ((zst σ (zbk σ 2)).2.2) (dgB (zod σ (zbk σ 1)) ((zst σ (zbk σ 1)).1) ((zst σ (zbk σ 1)).2.2) (dgB (zod σ (zbk σ 0)) ((zst σ (zbk σ 0)).1) ((zst σ (zbk σ 0)).2.2) 17706))))), (0, .ref ((gbg G)))]) hx hb dX3_digest_22 hl (k := 1) rfl (by decide) rfl (fun ls hl => ?_)
  refine lv_goto (tgt := 6) hx hb dX3_digest_25 (by decide) ?_
  refine lv_iload_n hx hb dX3_digest_6 rfl (lv_at hl 0 rfl) ?_
  refine q_iconst hx hb dX3_digest_7 ?_
  refine q_icmp_ge hx hb dX3_digest_8 (tgt := 28) (by decide) (by omega) (by omega) (fun c7 => absurd c7 (by omega)) (fun c7 => ?_)
  refine lv_lload_n hx hb dX3_digest_11 rfl (lv_at hl 1 rfl) ?_
  refine lv_aload_n hx hb dX3_digest_12 rfl (lv_at hl 2 rfl) ?_
  refine q_get C0 iX3 hP hC.1.1 hC.1.2 rfl 0 (by decide) flX3_11 rfl rfl dX3_digest_13 ?_
  refine lv_iload_n hx hb dX3_digest_16 rfl (lv_at hl 0 rfl) ?_
  refine q_aald C0 hP hC.2.1.1 hC.2.1.2 (t := 1) rfl (by omega) (by decide) (v := .ref ((grh G (zbk σ 3)))) rfl dX3_digest_17 ?_
  refine q_sSl C0 lX3_253 (c_X3_digestBook l D y L F (grh G (zbk σ 3)) (grw G (zbk σ 3)) (zod σ (zbk σ 3)) ((zst σ (zbk σ 3)).1) ((zst σ (zbk σ 3)).2.1) ((zst σ (zbk σ 3)).2.2) (dgB (zod σ (zbk σ 2)) ((zst σ (zbk σ 2)).1) ((zst σ (zbk σ 2)).2.2) (dgB (zod σ (zbk σ 1)) ((zst σ (zbk σ 1)).1) ((zst σ (zbk σ 1)).2.2) (dgB (zod σ (zbk σ 0)) ((zst σ (zbk σ 0)).1) ((zst σ (zbk σ 0)).2.2) 17706))) (CP_r hC (hW.1 3)) (by have := hW.2.2.2.2.2.2.2.2.2.1 _ (hW.1 3); omega)) ⟨rfl, rfl⟩ rfl hP rfl hl rfl (Nat.le_of_ble_eq_true rfl) dX3_digest_18 ⟨Nat.zero_le _, Nat.zero_le _⟩ (fun r8 e_r8 => ?_)
  replace e_r8 := e_r8.symm
  subst e_r8
  refine lv_lstore_n (lv' := [(1, .long ((dgB (zod σ (zbk σ 3)) ((zst σ (zbk σ 3)).1) ((zst σ (zbk σ 3)).2.2) (dgB (zod σ (zbk σ 2)) ((zst σ (zbk σ 2)).1) ((zst σ (zbk σ 2)).2.2) (dgB (zod σ (zbk σ 1)) ((zst σ (zbk σ 1)).1) ((zst σ (zbk σ 1)).2.2) (dgB (zod σ (zbk σ 0)) ((zst σ (zbk σ 0)).1) ((zst σ (zbk σ 0)).2.2) 17706)))))), (3, .int (iI 3)), (0, .ref ((gbg G)))]) hx hb dX3_digest_21 rfl hl (by decide) rfl (fun ls hl => ?_)
  refine q_iinc (x := 3) (n := 1) (lv' := [(3, .int (iI 4)), (1, .long ((dgB (zod σ (zbk σ 3)) ((zst σ (zbk σ 3)).1) ((zst σ (zbk σ 3)).2.2) (dgB (zod σ (zbk σ 2)) ((zst σ (zbk σ 2)).1) ((zst σ (zbk σ 2)).2.2) (dgB (zod σ (zbk σ 1)) ((zst σ (zbk σ 1)).1) ((zst σ (zbk σ 1)).2.2) (dgB (zod σ (zbk σ 0)) ((zst σ (zbk σ 0)).1) ((zst σ (zbk σ 0)).2.2) 17706)))))), (0, .ref ((gbg G)))]) hx hb dX3_digest_22 hl (k := 1) rfl (by decide) rfl (fun ls hl => ?_)
  refine lv_goto (tgt := 6) hx hb dX3_digest_25 (by decide) ?_
  refine lv_iload_n hx hb dX3_digest_6 rfl (lv_at hl 0 rfl) ?_
  refine q_iconst hx hb dX3_digest_7 ?_
  refine q_icmp_ge hx hb dX3_digest_8 (tgt := 28) (by decide) (by omega) (by omega) (fun c9 => ?_) (fun c9 => absurd c9 (by omega))
  refine q_iconst hx hb dX3_digest_28 ?_
  refine lv_istore_n (lv' := [(3, .int (iI 0)), (1, .long ((dgB (zod σ (zbk σ 3)) ((zst σ (zbk σ 3)).1) ((zst σ (zbk σ 3)).2.2) (dgB (zod σ (zbk σ 2)) ((zst σ (zbk σ 2)).1) ((zst σ (zbk σ 2)).2.2) (dgB (zod σ (zbk σ 1)) ((zst σ (zbk σ 1)).1) ((zst σ (zbk σ 1)).2.2) (dgB (zod σ (zbk σ 0)) ((zst σ (zbk σ 0)).1) ((zst σ (zbk σ 0)).2.2) 17706)))))), (0, .ref ((gbg G)))]) hx hb dX3_digest_29 rfl hl (by decide) rfl (fun ls hl => ?_)
  refine lv_iload_n hx hb dX3_digest_30 rfl (lv_at hl 0 rfl) ?_
  refine q_iconst hx hb dX3_digest_31 ?_
  refine q_icmp_ge hx hb dX3_digest_32 (tgt := 52) (by decide) (by omega) (by omega) (fun c10 => absurd c10 (by omega)) (fun c10 => ?_)
  refine lv_lload_n hx hb dX3_digest_35 rfl (lv_at hl 1 rfl) ?_
  refine lv_aload_n hx hb dX3_digest_36 rfl (lv_at hl 2 rfl) ?_
  refine q_get C0 iX3 hP hC.1.1 hC.1.2 rfl 2 (by decide) flX3_23 rfl rfl dX3_digest_37 ?_
  refine lv_iload_n hx hb dX3_digest_40 rfl (lv_at hl 0 rfl) ?_
  refine q_aald C0 hP hC.2.2.2.1.1 hC.2.2.2.1.2 (t := 2) rfl (by omega) (by decide) (v := .ref ((gva G 0))) rfl dX3_digest_41 ?_
  refine q_sSl C0 lX3_257 (c_X3_digestView l D y L F O G σ 0 (dgB (zod σ (zbk σ 3)) ((zst σ (zbk σ 3)).1) ((zst σ (zbk σ 3)).2.2) (dgB (zod σ (zbk σ 2)) ((zst σ (zbk σ 2)).1) ((zst σ (zbk σ 2)).2.2) (dgB (zod σ (zbk σ 1)) ((zst σ (zbk σ 1)).1) ((zst σ (zbk σ 1)).2.2) (dgB (zod σ (zbk σ 0)) ((zst σ (zbk σ 0)).1) ((zst σ (zbk σ 0)).2.2) 17706)))) hC (by omega) (hW.2.2.1 0) (by have := hW.2.2.2.2.1 0; omega) (by have := hW.2.2.2.2.1 0; omega)) ⟨rfl, rfl⟩ rfl hP rfl hl rfl (Nat.le_of_ble_eq_true rfl) dX3_digest_42 ⟨Nat.zero_le _, Nat.zero_le _⟩ (fun r11 e_r11 => ?_)
  replace e_r11 := e_r11.symm
  subst e_r11
  refine lv_lstore_n (lv' := [(1, .long ((dgV σ 0 (dgB (zod σ (zbk σ 3)) ((zst σ (zbk σ 3)).1) ((zst σ (zbk σ 3)).2.2) (dgB (zod σ (zbk σ 2)) ((zst σ (zbk σ 2)).1) ((zst σ (zbk σ 2)).2.2) (dgB (zod σ (zbk σ 1)) ((zst σ (zbk σ 1)).1) ((zst σ (zbk σ 1)).2.2) (dgB (zod σ (zbk σ 0)) ((zst σ (zbk σ 0)).1) ((zst σ (zbk σ 0)).2.2) 17706))))))), (3, .int (iI 0)), (0, .ref ((gbg G)))]) hx hb dX3_digest_45 rfl hl (by decide) rfl (fun ls hl => ?_)
  refine q_iinc (x := 0) (n := 1) (lv' := [(3, .int (iI 1)), (1, .long ((dgV σ 0 (dgB (zod σ (zbk σ 3)) ((zst σ (zbk σ 3)).1) ((zst σ (zbk σ 3)).2.2) (dgB (zod σ (zbk σ 2)) ((zst σ (zbk σ 2)).1) ((zst σ (zbk σ 2)).2.2) (dgB (zod σ (zbk σ 1)) ((zst σ (zbk σ 1)).1) ((zst σ (zbk σ 1)).2.2) (dgB (zod σ (zbk σ 0)) ((zst σ (zbk σ 0)).1) ((zst σ (zbk σ 0)).2.2) 17706))))))), (0, .ref ((gbg G)))]) hx hb dX3_digest_46 hl (k := 1) rfl (by decide) rfl (fun ls hl => ?_)
  refine lv_goto (tgt := 30) hx hb dX3_digest_49 (by decide) ?_
  refine lv_iload_n hx hb dX3_digest_30 rfl (lv_at hl 0 rfl) ?_
  refine q_iconst hx hb dX3_digest_31 ?_
  refine q_icmp_ge hx hb dX3_digest_32 (tgt := 52) (by decide) (by omega) (by omega) (fun c12 => absurd c12 (by omega)) (fun c12 => ?_)
  refine lv_lload_n hx hb dX3_digest_35 rfl (lv_at hl 1 rfl) ?_
  refine lv_aload_n hx hb dX3_digest_36 rfl (lv_at hl 2 rfl) ?_
  refine q_get C0 iX3 hP hC.1.1 hC.1.2 rfl 2 (by decide) flX3_23 rfl rfl dX3_digest_37 ?_
  refine lv_iload_n hx hb dX3_digest_40 rfl (lv_at hl 0 rfl) ?_
  refine q_aald C0 hP hC.2.2.2.1.1 hC.2.2.2.1.2 (t := 2) rfl (by omega) (by decide) (v := .ref ((gva G 1))) rfl dX3_digest_41 ?_
  refine q_sSl C0 lX3_257 (c_X3_digestView l D y L F O G σ 1 (dgV σ 0 (dgB (zod σ (zbk σ 3)) ((zst σ (zbk σ 3)).1) ((zst σ (zbk σ 3)).2.2) (dgB (zod σ (zbk σ 2)) ((zst σ (zbk σ 2)).1) ((zst σ (zbk σ 2)).2.2) (dgB (zod σ (zbk σ 1)) ((zst σ (zbk σ 1)).1) ((zst σ (zbk σ 1)).2.2) (dgB (zod σ (zbk σ 0)) ((zst σ (zbk σ 0)).1) ((zst σ (zbk σ 0)).2.2) 17706))))) hC (by omega) (hW.2.2.1 1) (by have := hW.2.2.2.2.1 1; omega) (by have := hW.2.2.2.2.1 1; omega)) ⟨rfl, rfl⟩ rfl hP rfl hl rfl (Nat.le_of_ble_eq_true rfl) dX3_digest_42 ⟨Nat.zero_le _, Nat.zero_le _⟩ (fun r13 e_r13 => ?_)
  replace e_r13 := e_r13.symm
  subst e_r13
  refine lv_lstore_n (lv' := [(1, .long ((dgV σ 1 (dgV σ 0 (dgB (zod σ (zbk σ 3)) ((zst σ (zbk σ 3)).1) ((zst σ (zbk σ 3)).2.2) (dgB (zod σ (zbk σ 2)) ((zst σ (zbk σ 2)).1) ((zst σ (zbk σ 2)).2.2) (dgB (zod σ (zbk σ 1)) ((zst σ (zbk σ 1)).1) ((zst σ (zbk σ 1)).2.2) (dgB (zod σ (zbk σ 0)) ((zst σ (zbk σ 0)).1) ((zst σ (zbk σ 0)).2.2) 17706)))))))), (3, .int (iI 1)), (0, .ref ((gbg G)))]) hx hb dX3_digest_45 rfl hl (by decide) rfl (fun ls hl => ?_)
  refine q_iinc (x := 1) (n := 1) (lv' := [(3, .int (iI 2)), (1, .long ((dgV σ 1 (dgV σ 0 (dgB (zod σ (zbk σ 3)) ((zst σ (zbk σ 3)).1) ((zst σ (zbk σ 3)).2.2) (dgB (zod σ (zbk σ 2)) ((zst σ (zbk σ 2)).1) ((zst σ (zbk σ 2)).2.2) (dgB (zod σ (zbk σ 1)) ((zst σ (zbk σ 1)).1) ((zst σ (zbk σ 1)).2.2) (dgB (zod σ (zbk σ 0)) ((zst σ (zbk σ 0)).1) ((zst σ (zbk σ 0)).2.2) 17706)))))))), (0, .ref ((gbg G)))]) hx hb dX3_digest_46 hl (k := 1) rfl (by decide) rfl (fun ls hl => ?_)
  refine lv_goto (tgt := 30) hx hb dX3_digest_49 (by decide) ?_
  refine lv_iload_n hx hb dX3_digest_30 rfl (lv_at hl 0 rfl) ?_
  refine q_iconst hx hb dX3_digest_31 ?_
  refine q_icmp_ge hx hb dX3_digest_32 (tgt := 52) (by decide) (by omega) (by omega) (fun c14 => ?_) (fun c14 => absurd c14 (by omega))
  refine lv_lload_n hx hb dX3_digest_52 rfl (lv_at hl 1 rfl) ?_
  refine lv_aload_n hx hb dX3_digest_53 rfl (lv_at hl 2 rfl) ?_
  refine q_get C0 iX3 hP hC.1.1 hC.1.2 rfl 3 (by decide) flX3_33 rfl rfl dX3_digest_54 ?_
  refine q_vS C0 lX3_200 (c_X2_isGoing0 l D y L F O G σ hC hwk) ⟨rfl, rfl⟩ rfl hP (CP_k0 hC hwk).1 (CP_k0 hC hwk).2 rfl rfl rfl hl rfl (Nat.le_of_ble_eq_true rfl) dX3_digest_57 ⟨Nat.zero_le _, Nat.zero_le _⟩ (fun r15 e_r15 => ?_)
  replace e_r15 := e_r15.symm
  subst e_r15
  refine q_if_eq hx hb dX3_digest_60 (tgt := 67) (by decide) (by omega) (fun c16 => ?_) (fun c16 => absurd c16 (by omega))
  refine q_iconst hx hb dX3_digest_67 ?_
  refine q_sSl C0 lX3_261 (c_X3_mixed l D y L F (dgV σ 1 (dgV σ 0 (dgB (zod σ (zbk σ 3)) ((zst σ (zbk σ 3)).1) ((zst σ (zbk σ 3)).2.2) (dgB (zod σ (zbk σ 2)) ((zst σ (zbk σ 2)).1) ((zst σ (zbk σ 2)).2.2) (dgB (zod σ (zbk σ 1)) ((zst σ (zbk σ 1)).1) ((zst σ (zbk σ 1)).2.2) (dgB (zod σ (zbk σ 0)) ((zst σ (zbk σ 0)).1) ((zst σ (zbk σ 0)).2.2) 17706)))))) 0) ⟨rfl, rfl⟩ rfl hP rfl hl rfl (Nat.le_of_ble_eq_true rfl) dX3_digest_68 ⟨Nat.zero_le _, Nat.zero_le _⟩ (fun r17 e_r17 => ?_)
  replace e_r17 := e_r17.symm
  subst e_r17
  refine lv_lstore_n (lv' := [(1, .long ((mxd (dgV σ 1 (dgV σ 0 (dgB (zod σ (zbk σ 3)) ((zst σ (zbk σ 3)).1) ((zst σ (zbk σ 3)).2.2) (dgB (zod σ (zbk σ 2)) ((zst σ (zbk σ 2)).1) ((zst σ (zbk σ 2)).2.2) (dgB (zod σ (zbk σ 1)) ((zst σ (zbk σ 1)).1) ((zst σ (zbk σ 1)).2.2) (dgB (zod σ (zbk σ 0)) ((zst σ (zbk σ 0)).1) ((zst σ (zbk σ 0)).2.2) 17706)))))) 0))), (3, .int (iI 2)), (0, .ref ((gbg G)))]) hx hb dX3_digest_71 rfl hl (by decide) rfl (fun ls hl => ?_)
  refine lv_lload_n hx hb dX3_digest_72 rfl (lv_at hl 0 rfl) ?_
  refine lv_aload_n hx hb dX3_digest_73 rfl (lv_at hl 2 rfl) ?_
  refine q_get C0 iX3 hP hC.1.1 hC.1.2 rfl 3 (by decide) flX3_33 rfl rfl dX3_digest_74 ?_
  refine q_vS C0 lX3_265 (c_X2_toldKey0 l D y L F O G σ hC hwk) ⟨rfl, rfl⟩ rfl hP (CP_k0 hC hwk).1 (CP_k0 hC hwk).2 rfl rfl rfl hl rfl (Nat.le_of_ble_eq_true rfl) dX3_digest_77 ⟨Nat.zero_le _, Nat.zero_le _⟩ (fun r18 e_r18 => ?_)
  replace e_r18 := e_r18.symm
  subst e_r18
  refine q_sSl C0 lX3_261 (c_X3_mixed l D y L F (mxd (dgV σ 1 (dgV σ 0 (dgB (zod σ (zbk σ 3)) ((zst σ (zbk σ 3)).1) ((zst σ (zbk σ 3)).2.2) (dgB (zod σ (zbk σ 2)) ((zst σ (zbk σ 2)).1) ((zst σ (zbk σ 2)).2.2) (dgB (zod σ (zbk σ 1)) ((zst σ (zbk σ 1)).1) ((zst σ (zbk σ 1)).2.2) (dgB (zod σ (zbk σ 0)) ((zst σ (zbk σ 0)).1) ((zst σ (zbk σ 0)).2.2) 17706)))))) 0) (-1)) ⟨rfl, rfl⟩ rfl hP rfl hl rfl (Nat.le_of_ble_eq_true rfl) dX3_digest_80 ⟨Nat.zero_le _, Nat.zero_le _⟩ (fun r19 e_r19 => ?_)
  replace e_r19 := e_r19.symm
  subst e_r19
  refine lv_lstore_n (lv' := [(1, .long ((mxd (mxd (dgV σ 1 (dgV σ 0 (dgB (zod σ (zbk σ 3)) ((zst σ (zbk σ 3)).1) ((zst σ (zbk σ 3)).2.2) (dgB (zod σ (zbk σ 2)) ((zst σ (zbk σ 2)).1) ((zst σ (zbk σ 2)).2.2) (dgB (zod σ (zbk σ 1)) ((zst σ (zbk σ 1)).1) ((zst σ (zbk σ 1)).2.2) (dgB (zod σ (zbk σ 0)) ((zst σ (zbk σ 0)).1) ((zst σ (zbk σ 0)).2.2) 17706)))))) 0) (-1)))), (3, .int (iI 2)), (0, .ref ((gbg G)))]) hx hb dX3_digest_83 rfl hl (by decide) rfl (fun ls hl => ?_)
  refine q_iconst hx hb dX3_digest_84 ?_
  refine lv_istore_n (lv' := [(3, .int (iI 0)), (1, .long ((mxd (mxd (dgV σ 1 (dgV σ 0 (dgB (zod σ (zbk σ 3)) ((zst σ (zbk σ 3)).1) ((zst σ (zbk σ 3)).2.2) (dgB (zod σ (zbk σ 2)) ((zst σ (zbk σ 2)).1) ((zst σ (zbk σ 2)).2.2) (dgB (zod σ (zbk σ 1)) ((zst σ (zbk σ 1)).1) ((zst σ (zbk σ 1)).2.2) (dgB (zod σ (zbk σ 0)) ((zst σ (zbk σ 0)).1) ((zst σ (zbk σ 0)).2.2) 17706)))))) 0) (-1)))), (0, .ref ((gbg G)))]) hx hb dX3_digest_85 rfl hl (by decide) rfl (fun ls hl => ?_)
  refine lv_iload_n hx hb dX3_digest_86 rfl (lv_at hl 0 rfl) ?_
  refine q_iconst hx hb dX3_digest_87 ?_
  refine q_icmp_ge hx hb dX3_digest_88 (tgt := 108) (by decide) (by omega) (by omega) (fun c20 => absurd c20 (by omega)) (fun c20 => ?_)
  refine lv_lload_n hx hb dX3_digest_91 rfl (lv_at hl 1 rfl) ?_
  refine lv_aload_n hx hb dX3_digest_92 rfl (lv_at hl 2 rfl) ?_
  refine q_get C0 iX3 hP hC.1.1 hC.1.2 rfl 1 (by decide) flX3_18 rfl rfl dX3_digest_93 ?_
  refine lv_iload_n hx hb dX3_digest_96 rfl (lv_at hl 0 rfl) ?_
  refine q_aald C0 hP hC.2.2.1.1 hC.2.2.1.2 (t := 1) rfl (by omega) (by decide) (v := .ref ((grh G (zsh σ 0)))) rfl dX3_digest_97 ?_
  refine q_sSl C0 lX3_268 (c_X3_digestShelf l D y L F (grh G (zsh σ 0)) (grw G (zsh σ 0)) (zod σ (zsh σ 0)) ((zst σ (zsh σ 0)).1) ((zst σ (zsh σ 0)).2.1) ((zst σ (zsh σ 0)).2.2) (mxd (mxd (dgV σ 1 (dgV σ 0 (dgB (zod σ (zbk σ 3)) ((zst σ (zbk σ 3)).1) ((zst σ (zbk σ 3)).2.2) (dgB (zod σ (zbk σ 2)) ((zst σ (zbk σ 2)).1) ((zst σ (zbk σ 2)).2.2) (dgB (zod σ (zbk σ 1)) ((zst σ (zbk σ 1)).1) ((zst σ (zbk σ 1)).2.2) (dgB (zod σ (zbk σ 0)) ((zst σ (zbk σ 0)).1) ((zst σ (zbk σ 0)).2.2) 17706)))))) 0) (-1)) (CP_r hC (hW.2.1 0)) (by have := hW.2.2.2.2.2.2.2.2.2.1 _ (hW.2.1 0); omega)) ⟨rfl, rfl⟩ rfl hP rfl hl rfl (Nat.le_of_ble_eq_true rfl) dX3_digest_98 ⟨Nat.zero_le _, Nat.zero_le _⟩ (fun r21 e_r21 => ?_)
  replace e_r21 := e_r21.symm
  subst e_r21
  refine lv_lstore_n (lv' := [(1, .long ((dgS (zod σ (zsh σ 0)) ((zst σ (zsh σ 0)).1) ((zst σ (zsh σ 0)).2.2) (mxd (mxd (dgV σ 1 (dgV σ 0 (dgB (zod σ (zbk σ 3)) ((zst σ (zbk σ 3)).1) ((zst σ (zbk σ 3)).2.2) (dgB (zod σ (zbk σ 2)) ((zst σ (zbk σ 2)).1) ((zst σ (zbk σ 2)).2.2) (dgB (zod σ (zbk σ 1)) ((zst σ (zbk σ 1)).1) ((zst σ (zbk σ 1)).2.2) (dgB (zod σ (zbk σ 0)) ((zst σ (zbk σ 0)).1) ((zst σ (zbk σ 0)).2.2) 17706)))))) 0) (-1))))), (3, .int (iI 0)), (0, .ref ((gbg G)))]) hx hb dX3_digest_101 rfl hl (by decide) rfl (fun ls hl => ?_)
  refine q_iinc (x := 0) (n := 1) (lv' := [(3, .int (iI 1)), (1, .long ((dgS (zod σ (zsh σ 0)) ((zst σ (zsh σ 0)).1) ((zst σ (zsh σ 0)).2.2) (mxd (mxd (dgV σ 1 (dgV σ 0 (dgB (zod σ (zbk σ 3)) ((zst σ (zbk σ 3)).1) ((zst σ (zbk σ 3)).2.2) (dgB (zod σ (zbk σ 2)) ((zst σ (zbk σ 2)).1) ((zst σ (zbk σ 2)).2.2) (dgB (zod σ (zbk σ 1)) ((zst σ (zbk σ 1)).1) ((zst σ (zbk σ 1)).2.2) (dgB (zod σ (zbk σ 0)) ((zst σ (zbk σ 0)).1) ((zst σ (zbk σ 0)).2.2) 17706)))))) 0) (-1))))), (0, .ref ((gbg G)))]) hx hb dX3_digest_102 hl (k := 1) rfl (by decide) rfl (fun ls hl => ?_)
  refine lv_goto (tgt := 86) hx hb dX3_digest_105 (by decide) ?_
  refine lv_iload_n hx hb dX3_digest_86 rfl (lv_at hl 0 rfl) ?_
  refine q_iconst hx hb dX3_digest_87 ?_
  refine q_icmp_ge hx hb dX3_digest_88 (tgt := 108) (by decide) (by omega) (by omega) (fun c22 => absurd c22 (by omega)) (fun c22 => ?_)
  refine lv_lload_n hx hb dX3_digest_91 rfl (lv_at hl 1 rfl) ?_
  refine lv_aload_n hx hb dX3_digest_92 rfl (lv_at hl 2 rfl) ?_
  refine q_get C0 iX3 hP hC.1.1 hC.1.2 rfl 1 (by decide) flX3_18 rfl rfl dX3_digest_93 ?_
  refine lv_iload_n hx hb dX3_digest_96 rfl (lv_at hl 0 rfl) ?_
  refine q_aald C0 hP hC.2.2.1.1 hC.2.2.1.2 (t := 1) rfl (by omega) (by decide) (v := .ref ((grh G (zsh σ 1)))) rfl dX3_digest_97 ?_
  refine q_sSl C0 lX3_268 (c_X3_digestShelf l D y L F (grh G (zsh σ 1)) (grw G (zsh σ 1)) (zod σ (zsh σ 1)) ((zst σ (zsh σ 1)).1) ((zst σ (zsh σ 1)).2.1) ((zst σ (zsh σ 1)).2.2) (dgS (zod σ (zsh σ 0)) ((zst σ (zsh σ 0)).1) ((zst σ (zsh σ 0)).2.2) (mxd (mxd (dgV σ 1 (dgV σ 0 (dgB (zod σ (zbk σ 3)) ((zst σ (zbk σ 3)).1) ((zst σ (zbk σ 3)).2.2) (dgB (zod σ (zbk σ 2)) ((zst σ (zbk σ 2)).1) ((zst σ (zbk σ 2)).2.2) (dgB (zod σ (zbk σ 1)) ((zst σ (zbk σ 1)).1) ((zst σ (zbk σ 1)).2.2) (dgB (zod σ (zbk σ 0)) ((zst σ (zbk σ 0)).1) ((zst σ (zbk σ 0)).2.2) 17706)))))) 0) (-1))) (CP_r hC (hW.2.1 1)) (by have := hW.2.2.2.2.2.2.2.2.2.1 _ (hW.2.1 1); omega)) ⟨rfl, rfl⟩ rfl hP rfl hl rfl (Nat.le_of_ble_eq_true rfl) dX3_digest_98 ⟨Nat.zero_le _, Nat.zero_le _⟩ (fun r23 e_r23 => ?_)
  replace e_r23 := e_r23.symm
  subst e_r23
  refine lv_lstore_n (lv' := [(1, .long ((dgS (zod σ (zsh σ 1)) ((zst σ (zsh σ 1)).1) ((zst σ (zsh σ 1)).2.2) (dgS (zod σ (zsh σ 0)) ((zst σ (zsh σ 0)).1) ((zst σ (zsh σ 0)).2.2) (mxd (mxd (dgV σ 1 (dgV σ 0 (dgB (zod σ (zbk σ 3)) ((zst σ (zbk σ 3)).1) ((zst σ (zbk σ 3)).2.2) (dgB (zod σ (zbk σ 2)) ((zst σ (zbk σ 2)).1) ((zst σ (zbk σ 2)).2.2) (dgB (zod σ (zbk σ 1)) ((zst σ (zbk σ 1)).1) ((zst σ (zbk σ 1)).2.2) (dgB (zod σ (zbk σ 0)) ((zst σ (zbk σ 0)).1) ((zst σ (zbk σ 0)).2.2) 17706)))))) 0) (-1)))))), (3, .int (iI 1)), (0, .ref ((gbg G)))]) hx hb dX3_digest_101 rfl hl (by decide) rfl (fun ls hl => ?_)
  refine q_iinc (x := 1) (n := 1) (lv' := [(3, .int (iI 2)), (1, .long ((dgS (zod σ (zsh σ 1)) ((zst σ (zsh σ 1)).1) ((zst σ (zsh σ 1)).2.2) (dgS (zod σ (zsh σ 0)) ((zst σ (zsh σ 0)).1) ((zst σ (zsh σ 0)).2.2) (mxd (mxd (dgV σ 1 (dgV σ 0 (dgB (zod σ (zbk σ 3)) ((zst σ (zbk σ 3)).1) ((zst σ (zbk σ 3)).2.2) (dgB (zod σ (zbk σ 2)) ((zst σ (zbk σ 2)).1) ((zst σ (zbk σ 2)).2.2) (dgB (zod σ (zbk σ 1)) ((zst σ (zbk σ 1)).1) ((zst σ (zbk σ 1)).2.2) (dgB (zod σ (zbk σ 0)) ((zst σ (zbk σ 0)).1) ((zst σ (zbk σ 0)).2.2) 17706)))))) 0) (-1)))))), (0, .ref ((gbg G)))]) hx hb dX3_digest_102 hl (k := 1) rfl (by decide) rfl (fun ls hl => ?_)
  refine lv_goto (tgt := 86) hx hb dX3_digest_105 (by decide) ?_
  refine lv_iload_n hx hb dX3_digest_86 rfl (lv_at hl 0 rfl) ?_
  refine q_iconst hx hb dX3_digest_87 ?_
  refine q_icmp_ge hx hb dX3_digest_88 (tgt := 108) (by decide) (by omega) (by omega) (fun c24 => absurd c24 (by omega)) (fun c24 => ?_)
  refine lv_lload_n hx hb dX3_digest_91 rfl (lv_at hl 1 rfl) ?_
  refine lv_aload_n hx hb dX3_digest_92 rfl (lv_at hl 2 rfl) ?_
  refine q_get C0 iX3 hP hC.1.1 hC.1.2 rfl 1 (by decide) flX3_18 rfl rfl dX3_digest_93 ?_
  refine lv_iload_n hx hb dX3_digest_96 rfl (lv_at hl 0 rfl) ?_
  refine q_aald C0 hP hC.2.2.1.1 hC.2.2.1.2 (t := 1) rfl (by omega) (by decide) (v := .ref ((grh G (zsh σ 2)))) rfl dX3_digest_97 ?_
  refine q_sSl C0 lX3_268 (c_X3_digestShelf l D y L F (grh G (zsh σ 2)) (grw G (zsh σ 2)) (zod σ (zsh σ 2)) ((zst σ (zsh σ 2)).1) ((zst σ (zsh σ 2)).2.1) ((zst σ (zsh σ 2)).2.2) (dgS (zod σ (zsh σ 1)) ((zst σ (zsh σ 1)).1) ((zst σ (zsh σ 1)).2.2) (dgS (zod σ (zsh σ 0)) ((zst σ (zsh σ 0)).1) ((zst σ (zsh σ 0)).2.2) (mxd (mxd (dgV σ 1 (dgV σ 0 (dgB (zod σ (zbk σ 3)) ((zst σ (zbk σ 3)).1) ((zst σ (zbk σ 3)).2.2) (dgB (zod σ (zbk σ 2)) ((zst σ (zbk σ 2)).1) ((zst σ (zbk σ 2)).2.2) (dgB (zod σ (zbk σ 1)) ((zst σ (zbk σ 1)).1) ((zst σ (zbk σ 1)).2.2) (dgB (zod σ (zbk σ 0)) ((zst σ (zbk σ 0)).1) ((zst σ (zbk σ 0)).2.2) 17706)))))) 0) (-1)))) (CP_r hC (hW.2.1 2)) (by have := hW.2.2.2.2.2.2.2.2.2.1 _ (hW.2.1 2); omega)) ⟨rfl, rfl⟩ rfl hP rfl hl rfl (Nat.le_of_ble_eq_true rfl) dX3_digest_98 ⟨Nat.zero_le _, Nat.zero_le _⟩ (fun r25 e_r25 => ?_)
  replace e_r25 := e_r25.symm
  subst e_r25
  refine lv_lstore_n (lv' := [(1, .long ((dgS (zod σ (zsh σ 2)) ((zst σ (zsh σ 2)).1) ((zst σ (zsh σ 2)).2.2) (dgS (zod σ (zsh σ 1)) ((zst σ (zsh σ 1)).1) ((zst σ (zsh σ 1)).2.2) (dgS (zod σ (zsh σ 0)) ((zst σ (zsh σ 0)).1) ((zst σ (zsh σ 0)).2.2) (mxd (mxd (dgV σ 1 (dgV σ 0 (dgB (zod σ (zbk σ 3)) ((zst σ (zbk σ 3)).1) ((zst σ (zbk σ 3)).2.2) (dgB (zod σ (zbk σ 2)) ((zst σ (zbk σ 2)).1) ((zst σ (zbk σ 2)).2.2) (dgB (zod σ (zbk σ 1)) ((zst σ (zbk σ 1)).1) ((zst σ (zbk σ 1)).2.2) (dgB (zod σ (zbk σ 0)) ((zst σ (zbk σ 0)).1) ((zst σ (zbk σ 0)).2.2) 17706)))))) 0) (-1))))))), (3, .int (iI 2)), (0, .ref ((gbg G)))]) hx hb dX3_digest_101 rfl hl (by decide) rfl (fun ls hl => ?_)
  refine q_iinc (x := 2) (n := 1) (lv' := [(3, .int (iI 3)), (1, .long ((dgS (zod σ (zsh σ 2)) ((zst σ (zsh σ 2)).1) ((zst σ (zsh σ 2)).2.2) (dgS (zod σ (zsh σ 1)) ((zst σ (zsh σ 1)).1) ((zst σ (zsh σ 1)).2.2) (dgS (zod σ (zsh σ 0)) ((zst σ (zsh σ 0)).1) ((zst σ (zsh σ 0)).2.2) (mxd (mxd (dgV σ 1 (dgV σ 0 (dgB (zod σ (zbk σ 3)) ((zst σ (zbk σ 3)).1) ((zst σ (zbk σ 3)).2.2) (dgB (zod σ (zbk σ 2)) ((zst σ (zbk σ 2)).1) ((zst σ (zbk σ 2)).2.2) (dgB (zod σ (zbk σ 1)) ((zst σ (zbk σ 1)).1) ((zst σ (zbk σ 1)).2.2) (dgB (zod σ (zbk σ 0)) ((zst σ (zbk σ 0)).1) ((zst σ (zbk σ 0)).2.2) 17706)))))) 0) (-1))))))), (0, .ref ((gbg G)))]) hx hb dX3_digest_102 hl (k := 1) rfl (by decide) rfl (fun ls hl => ?_)
  refine lv_goto (tgt := 86) hx hb dX3_digest_105 (by decide) ?_
  refine lv_iload_n hx hb dX3_digest_86 rfl (lv_at hl 0 rfl) ?_
  refine q_iconst hx hb dX3_digest_87 ?_
  refine q_icmp_ge hx hb dX3_digest_88 (tgt := 108) (by decide) (by omega) (by omega) (fun c26 => ?_) (fun c26 => absurd c26 (by omega))
  refine q_iconst hx hb dX3_digest_108 ?_
  refine lv_istore_n (lv' := [(3, .int (iI 0)), (1, .long ((dgS (zod σ (zsh σ 2)) ((zst σ (zsh σ 2)).1) ((zst σ (zsh σ 2)).2.2) (dgS (zod σ (zsh σ 1)) ((zst σ (zsh σ 1)).1) ((zst σ (zsh σ 1)).2.2) (dgS (zod σ (zsh σ 0)) ((zst σ (zsh σ 0)).1) ((zst σ (zsh σ 0)).2.2) (mxd (mxd (dgV σ 1 (dgV σ 0 (dgB (zod σ (zbk σ 3)) ((zst σ (zbk σ 3)).1) ((zst σ (zbk σ 3)).2.2) (dgB (zod σ (zbk σ 2)) ((zst σ (zbk σ 2)).1) ((zst σ (zbk σ 2)).2.2) (dgB (zod σ (zbk σ 1)) ((zst σ (zbk σ 1)).1) ((zst σ (zbk σ 1)).2.2) (dgB (zod σ (zbk σ 0)) ((zst σ (zbk σ 0)).1) ((zst σ (zbk σ 0)).2.2) 17706)))))) 0) (-1))))))), (0, .ref ((gbg G)))]) hx hb dX3_digest_109 rfl hl (by decide) rfl (fun ls hl => ?_)
  refine lv_iload_n hx hb dX3_digest_110 rfl (lv_at hl 0 rfl) ?_
  refine q_iconst hx hb dX3_digest_111 ?_
  refine q_icmp_gt hx hb dX3_digest_112 (tgt := 131) (by decide) (by omega) (by omega) (fun c27 => absurd c27 (by omega)) (fun c27 => ?_)
  refine lv_lload_n hx hb dX3_digest_115 rfl (lv_at hl 1 rfl) ?_
  refine lv_aload_n hx hb dX3_digest_116 rfl (lv_at hl 2 rfl) ?_
  refine lv_iload_n hx hb dX3_digest_117 rfl (lv_at hl 0 rfl) ?_
  refine q_vS C0 lX3_238 (c_X3_houseFact l D y L F O G σ 0 hC (by omega)) ⟨rfl, rfl⟩ rfl hP hC.1.1 hC.1.2 rfl rfl rfl hl rfl (Nat.le_of_ble_eq_true rfl) dX3_digest_118 ⟨Nat.zero_le _, Nat.zero_le _⟩ (fun r28 e_r28 => ?_)
  replace e_r28 := e_r28.symm
  subst e_r28
  refine q_sSl C0 lX3_261 (c_X3_mixed l D y L F (dgS (zod σ (zsh σ 2)) ((zst σ (zsh σ 2)).1) ((zst σ (zsh σ 2)).2.2) (dgS (zod σ (zsh σ 1)) ((zst σ (zsh σ 1)).1) ((zst σ (zsh σ 1)).2.2) (dgS (zod σ (zsh σ 0)) ((zst σ (zsh σ 0)).1) ((zst σ (zsh σ 0)).2.2) (mxd (mxd (dgV σ 1 (dgV σ 0 (dgB (zod σ (zbk σ 3)) ((zst σ (zbk σ 3)).1) ((zst σ (zbk σ 3)).2.2) (dgB (zod σ (zbk σ 2)) ((zst σ (zbk σ 2)).1) ((zst σ (zbk σ 2)).2.2) (dgB (zod σ (zbk σ 1)) ((zst σ (zbk σ 1)).1) ((zst σ (zbk σ 1)).2.2) (dgB (zod σ (zbk σ 0)) ((zst σ (zbk σ 0)).1) ((zst σ (zbk σ 0)).2.2) 17706)))))) 0) (-1))))) (hfact σ 0)) ⟨rfl, rfl⟩ rfl hP rfl hl rfl (Nat.le_of_ble_eq_true rfl) dX3_digest_121 ⟨Nat.zero_le _, Nat.zero_le _⟩ (fun r29 e_r29 => ?_)
  replace e_r29 := e_r29.symm
  subst e_r29
  refine lv_lstore_n (lv' := [(1, .long ((mxd (dgS (zod σ (zsh σ 2)) ((zst σ (zsh σ 2)).1) ((zst σ (zsh σ 2)).2.2) (dgS (zod σ (zsh σ 1)) ((zst σ (zsh σ 1)).1) ((zst σ (zsh σ 1)).2.2) (dgS (zod σ (zsh σ 0)) ((zst σ (zsh σ 0)).1) ((zst σ (zsh σ 0)).2.2) (mxd (mxd (dgV σ 1 (dgV σ 0 (dgB (zod σ (zbk σ 3)) ((zst σ (zbk σ 3)).1) ((zst σ (zbk σ 3)).2.2) (dgB (zod σ (zbk σ 2)) ((zst σ (zbk σ 2)).1) ((zst σ (zbk σ 2)).2.2) (dgB (zod σ (zbk σ 1)) ((zst σ (zbk σ 1)).1) ((zst σ (zbk σ 1)).2.2) (dgB (zod σ (zbk σ 0)) ((zst σ (zbk σ 0)).1) ((zst σ (zbk σ 0)).2.2) 17706)))))) 0) (-1))))) (hfact σ 0)))), (3, .int (iI 0)), (0, .ref ((gbg G)))]) hx hb dX3_digest_124 rfl hl (by decide) rfl (fun ls hl => ?_)
  refine q_iinc (x := 0) (n := 1) (lv' := [(3, .int (iI 1)), (1, .long ((mxd (dgS (zod σ (zsh σ 2)) ((zst σ (zsh σ 2)).1) ((zst σ (zsh σ 2)).2.2) (dgS (zod σ (zsh σ 1)) ((zst σ (zsh σ 1)).1) ((zst σ (zsh σ 1)).2.2) (dgS (zod σ (zsh σ 0)) ((zst σ (zsh σ 0)).1) ((zst σ (zsh σ 0)).2.2) (mxd (mxd (dgV σ 1 (dgV σ 0 (dgB (zod σ (zbk σ 3)) ((zst σ (zbk σ 3)).1) ((zst σ (zbk σ 3)).2.2) (dgB (zod σ (zbk σ 2)) ((zst σ (zbk σ 2)).1) ((zst σ (zbk σ 2)).2.2) (dgB (zod σ (zbk σ 1)) ((zst σ (zbk σ 1)).1) ((zst σ (zbk σ 1)).2.2) (dgB (zod σ (zbk σ 0)) ((zst σ (zbk σ 0)).1) ((zst σ (zbk σ 0)).2.2) 17706)))))) 0) (-1))))) (hfact σ 0)))), (0, .ref ((gbg G)))]) hx hb dX3_digest_125 hl (k := 1) rfl (by decide) rfl (fun ls hl => ?_)
  refine lv_goto (tgt := 110) hx hb dX3_digest_128 (by decide) ?_
  refine lv_iload_n hx hb dX3_digest_110 rfl (lv_at hl 0 rfl) ?_
  refine q_iconst hx hb dX3_digest_111 ?_
  refine q_icmp_gt hx hb dX3_digest_112 (tgt := 131) (by decide) (by omega) (by omega) (fun c30 => absurd c30 (by omega)) (fun c30 => ?_)
  refine lv_lload_n hx hb dX3_digest_115 rfl (lv_at hl 1 rfl) ?_
  refine lv_aload_n hx hb dX3_digest_116 rfl (lv_at hl 2 rfl) ?_
  refine lv_iload_n hx hb dX3_digest_117 rfl (lv_at hl 0 rfl) ?_
  refine q_vS C0 lX3_238 (c_X3_houseFact l D y L F O G σ 1 hC (by omega)) ⟨rfl, rfl⟩ rfl hP hC.1.1 hC.1.2 rfl rfl rfl hl rfl (Nat.le_of_ble_eq_true rfl) dX3_digest_118 ⟨Nat.zero_le _, Nat.zero_le _⟩ (fun r31 e_r31 => ?_)
  replace e_r31 := e_r31.symm
  subst e_r31
  refine q_sSl C0 lX3_261 (c_X3_mixed l D y L F (mxd (dgS (zod σ (zsh σ 2)) ((zst σ (zsh σ 2)).1) ((zst σ (zsh σ 2)).2.2) (dgS (zod σ (zsh σ 1)) ((zst σ (zsh σ 1)).1) ((zst σ (zsh σ 1)).2.2) (dgS (zod σ (zsh σ 0)) ((zst σ (zsh σ 0)).1) ((zst σ (zsh σ 0)).2.2) (mxd (mxd (dgV σ 1 (dgV σ 0 (dgB (zod σ (zbk σ 3)) ((zst σ (zbk σ 3)).1) ((zst σ (zbk σ 3)).2.2) (dgB (zod σ (zbk σ 2)) ((zst σ (zbk σ 2)).1) ((zst σ (zbk σ 2)).2.2) (dgB (zod σ (zbk σ 1)) ((zst σ (zbk σ 1)).1) ((zst σ (zbk σ 1)).2.2) (dgB (zod σ (zbk σ 0)) ((zst σ (zbk σ 0)).1) ((zst σ (zbk σ 0)).2.2) 17706)))))) 0) (-1))))) (hfact σ 0)) (hfact σ 1)) ⟨rfl, rfl⟩ rfl hP rfl hl rfl (Nat.le_of_ble_eq_true rfl) dX3_digest_121 ⟨Nat.zero_le _, Nat.zero_le _⟩ (fun r32 e_r32 => ?_)
  replace e_r32 := e_r32.symm
  subst e_r32
  refine lv_lstore_n (lv' := [(1, .long ((mxd (mxd (dgS (zod σ (zsh σ 2)) ((zst σ (zsh σ 2)).1) ((zst σ (zsh σ 2)).2.2) (dgS (zod σ (zsh σ 1)) ((zst σ (zsh σ 1)).1) ((zst σ (zsh σ 1)).2.2) (dgS (zod σ (zsh σ 0)) ((zst σ (zsh σ 0)).1) ((zst σ (zsh σ 0)).2.2) (mxd (mxd (dgV σ 1 (dgV σ 0 (dgB (zod σ (zbk σ 3)) ((zst σ (zbk σ 3)).1) ((zst σ (zbk σ 3)).2.2) (dgB (zod σ (zbk σ 2)) ((zst σ (zbk σ 2)).1) ((zst σ (zbk σ 2)).2.2) (dgB (zod σ (zbk σ 1)) ((zst σ (zbk σ 1)).1) ((zst σ (zbk σ 1)).2.2) (dgB (zod σ (zbk σ 0)) ((zst σ (zbk σ 0)).1) ((zst σ (zbk σ 0)).2.2) 17706)))))) 0) (-1))))) (hfact σ 0)) (hfact σ 1)))), (3, .int (iI 1)), (0, .ref ((gbg G)))]) hx hb dX3_digest_124 rfl hl (by decide) rfl (fun ls hl => ?_)
  refine q_iinc (x := 1) (n := 1) (lv' := [(3, .int (iI 2)), (1, .long ((mxd (mxd (dgS (zod σ (zsh σ 2)) ((zst σ (zsh σ 2)).1) ((zst σ (zsh σ 2)).2.2) (dgS (zod σ (zsh σ 1)) ((zst σ (zsh σ 1)).1) ((zst σ (zsh σ 1)).2.2) (dgS (zod σ (zsh σ 0)) ((zst σ (zsh σ 0)).1) ((zst σ (zsh σ 0)).2.2) (mxd (mxd (dgV σ 1 (dgV σ 0 (dgB (zod σ (zbk σ 3)) ((zst σ (zbk σ 3)).1) ((zst σ (zbk σ 3)).2.2) (dgB (zod σ (zbk σ 2)) ((zst σ (zbk σ 2)).1) ((zst σ (zbk σ 2)).2.2) (dgB (zod σ (zbk σ 1)) ((zst σ (zbk σ 1)).1) ((zst σ (zbk σ 1)).2.2) (dgB (zod σ (zbk σ 0)) ((zst σ (zbk σ 0)).1) ((zst σ (zbk σ 0)).2.2) 17706)))))) 0) (-1))))) (hfact σ 0)) (hfact σ 1)))), (0, .ref ((gbg G)))]) hx hb dX3_digest_125 hl (k := 1) rfl (by decide) rfl (fun ls hl => ?_)
  refine lv_goto (tgt := 110) hx hb dX3_digest_128 (by decide) ?_
  refine lv_iload_n hx hb dX3_digest_110 rfl (lv_at hl 0 rfl) ?_
  refine q_iconst hx hb dX3_digest_111 ?_
  refine q_icmp_gt hx hb dX3_digest_112 (tgt := 131) (by decide) (by omega) (by omega) (fun c33 => absurd c33 (by omega)) (fun c33 => ?_)
  refine lv_lload_n hx hb dX3_digest_115 rfl (lv_at hl 1 rfl) ?_
  refine lv_aload_n hx hb dX3_digest_116 rfl (lv_at hl 2 rfl) ?_
  refine lv_iload_n hx hb dX3_digest_117 rfl (lv_at hl 0 rfl) ?_
  refine q_vS C0 lX3_238 (c_X3_houseFact l D y L F O G σ 2 hC (by omega)) ⟨rfl, rfl⟩ rfl hP hC.1.1 hC.1.2 rfl rfl rfl hl rfl (Nat.le_of_ble_eq_true rfl) dX3_digest_118 ⟨Nat.zero_le _, Nat.zero_le _⟩ (fun r34 e_r34 => ?_)
  replace e_r34 := e_r34.symm
  subst e_r34
  refine q_sSl C0 lX3_261 (c_X3_mixed l D y L F (mxd (mxd (dgS (zod σ (zsh σ 2)) ((zst σ (zsh σ 2)).1) ((zst σ (zsh σ 2)).2.2) (dgS (zod σ (zsh σ 1)) ((zst σ (zsh σ 1)).1) ((zst σ (zsh σ 1)).2.2) (dgS (zod σ (zsh σ 0)) ((zst σ (zsh σ 0)).1) ((zst σ (zsh σ 0)).2.2) (mxd (mxd (dgV σ 1 (dgV σ 0 (dgB (zod σ (zbk σ 3)) ((zst σ (zbk σ 3)).1) ((zst σ (zbk σ 3)).2.2) (dgB (zod σ (zbk σ 2)) ((zst σ (zbk σ 2)).1) ((zst σ (zbk σ 2)).2.2) (dgB (zod σ (zbk σ 1)) ((zst σ (zbk σ 1)).1) ((zst σ (zbk σ 1)).2.2) (dgB (zod σ (zbk σ 0)) ((zst σ (zbk σ 0)).1) ((zst σ (zbk σ 0)).2.2) 17706)))))) 0) (-1))))) (hfact σ 0)) (hfact σ 1)) (hfact σ 2)) ⟨rfl, rfl⟩ rfl hP rfl hl rfl (Nat.le_of_ble_eq_true rfl) dX3_digest_121 ⟨Nat.zero_le _, Nat.zero_le _⟩ (fun r35 e_r35 => ?_)
  replace e_r35 := e_r35.symm
  subst e_r35
  refine lv_lstore_n (lv' := [(1, .long ((mxd (mxd (mxd (dgS (zod σ (zsh σ 2)) ((zst σ (zsh σ 2)).1) ((zst σ (zsh σ 2)).2.2) (dgS (zod σ (zsh σ 1)) ((zst σ (zsh σ 1)).1) ((zst σ (zsh σ 1)).2.2) (dgS (zod σ (zsh σ 0)) ((zst σ (zsh σ 0)).1) ((zst σ (zsh σ 0)).2.2) (mxd (mxd (dgV σ 1 (dgV σ 0 (dgB (zod σ (zbk σ 3)) ((zst σ (zbk σ 3)).1) ((zst σ (zbk σ 3)).2.2) (dgB (zod σ (zbk σ 2)) ((zst σ (zbk σ 2)).1) ((zst σ (zbk σ 2)).2.2) (dgB (zod σ (zbk σ 1)) ((zst σ (zbk σ 1)).1) ((zst σ (zbk σ 1)).2.2) (dgB (zod σ (zbk σ 0)) ((zst σ (zbk σ 0)).1) ((zst σ (zbk σ 0)).2.2) 17706)))))) 0) (-1))))) (hfact σ 0)) (hfact σ 1)) (hfact σ 2)))), (3, .int (iI 2)), (0, .ref ((gbg G)))]) hx hb dX3_digest_124 rfl hl (by decide) rfl (fun ls hl => ?_)
  refine q_iinc (x := 2) (n := 1) (lv' := [(3, .int (iI 3)), (1, .long ((mxd (mxd (mxd (dgS (zod σ (zsh σ 2)) ((zst σ (zsh σ 2)).1) ((zst σ (zsh σ 2)).2.2) (dgS (zod σ (zsh σ 1)) ((zst σ (zsh σ 1)).1) ((zst σ (zsh σ 1)).2.2) (dgS (zod σ (zsh σ 0)) ((zst σ (zsh σ 0)).1) ((zst σ (zsh σ 0)).2.2) (mxd (mxd (dgV σ 1 (dgV σ 0 (dgB (zod σ (zbk σ 3)) ((zst σ (zbk σ 3)).1) ((zst σ (zbk σ 3)).2.2) (dgB (zod σ (zbk σ 2)) ((zst σ (zbk σ 2)).1) ((zst σ (zbk σ 2)).2.2) (dgB (zod σ (zbk σ 1)) ((zst σ (zbk σ 1)).1) ((zst σ (zbk σ 1)).2.2) (dgB (zod σ (zbk σ 0)) ((zst σ (zbk σ 0)).1) ((zst σ (zbk σ 0)).2.2) 17706)))))) 0) (-1))))) (hfact σ 0)) (hfact σ 1)) (hfact σ 2)))), (0, .ref ((gbg G)))]) hx hb dX3_digest_125 hl (k := 1) rfl (by decide) rfl (fun ls hl => ?_)
  refine lv_goto (tgt := 110) hx hb dX3_digest_128 (by decide) ?_
  refine lv_iload_n hx hb dX3_digest_110 rfl (lv_at hl 0 rfl) ?_
  refine q_iconst hx hb dX3_digest_111 ?_
  refine q_icmp_gt hx hb dX3_digest_112 (tgt := 131) (by decide) (by omega) (by omega) (fun c36 => absurd c36 (by omega)) (fun c36 => ?_)
  refine lv_lload_n hx hb dX3_digest_115 rfl (lv_at hl 1 rfl) ?_
  refine lv_aload_n hx hb dX3_digest_116 rfl (lv_at hl 2 rfl) ?_
  refine lv_iload_n hx hb dX3_digest_117 rfl (lv_at hl 0 rfl) ?_
  refine q_vS C0 lX3_238 (c_X3_houseFact l D y L F O G σ 3 hC (by omega)) ⟨rfl, rfl⟩ rfl hP hC.1.1 hC.1.2 rfl rfl rfl hl rfl (Nat.le_of_ble_eq_true rfl) dX3_digest_118 ⟨Nat.zero_le _, Nat.zero_le _⟩ (fun r37 e_r37 => ?_)
  replace e_r37 := e_r37.symm
  subst e_r37
  refine q_sSl C0 lX3_261 (c_X3_mixed l D y L F (mxd (mxd (mxd (dgS (zod σ (zsh σ 2)) ((zst σ (zsh σ 2)).1) ((zst σ (zsh σ 2)).2.2) (dgS (zod σ (zsh σ 1)) ((zst σ (zsh σ 1)).1) ((zst σ (zsh σ 1)).2.2) (dgS (zod σ (zsh σ 0)) ((zst σ (zsh σ 0)).1) ((zst σ (zsh σ 0)).2.2) (mxd (mxd (dgV σ 1 (dgV σ 0 (dgB (zod σ (zbk σ 3)) ((zst σ (zbk σ 3)).1) ((zst σ (zbk σ 3)).2.2) (dgB (zod σ (zbk σ 2)) ((zst σ (zbk σ 2)).1) ((zst σ (zbk σ 2)).2.2) (dgB (zod σ (zbk σ 1)) ((zst σ (zbk σ 1)).1) ((zst σ (zbk σ 1)).2.2) (dgB (zod σ (zbk σ 0)) ((zst σ (zbk σ 0)).1) ((zst σ (zbk σ 0)).2.2) 17706)))))) 0) (-1))))) (hfact σ 0)) (hfact σ 1)) (hfact σ 2)) (hfact σ 3)) ⟨rfl, rfl⟩ rfl hP rfl hl rfl (Nat.le_of_ble_eq_true rfl) dX3_digest_121 ⟨Nat.zero_le _, Nat.zero_le _⟩ (fun r38 e_r38 => ?_)
  replace e_r38 := e_r38.symm
  subst e_r38
  refine lv_lstore_n (lv' := [(1, .long ((mxd (mxd (mxd (mxd (dgS (zod σ (zsh σ 2)) ((zst σ (zsh σ 2)).1) ((zst σ (zsh σ 2)).2.2) (dgS (zod σ (zsh σ 1)) ((zst σ (zsh σ 1)).1) ((zst σ (zsh σ 1)).2.2) (dgS (zod σ (zsh σ 0)) ((zst σ (zsh σ 0)).1) ((zst σ (zsh σ 0)).2.2) (mxd (mxd (dgV σ 1 (dgV σ 0 (dgB (zod σ (zbk σ 3)) ((zst σ (zbk σ 3)).1) ((zst σ (zbk σ 3)).2.2) (dgB (zod σ (zbk σ 2)) ((zst σ (zbk σ 2)).1) ((zst σ (zbk σ 2)).2.2) (dgB (zod σ (zbk σ 1)) ((zst σ (zbk σ 1)).1) ((zst σ (zbk σ 1)).2.2) (dgB (zod σ (zbk σ 0)) ((zst σ (zbk σ 0)).1) ((zst σ (zbk σ 0)).2.2) 17706)))))) 0) (-1))))) (hfact σ 0)) (hfact σ 1)) (hfact σ 2)) (hfact σ 3)))), (3, .int (iI 3)), (0, .ref ((gbg G)))]) hx hb dX3_digest_124 rfl hl (by decide) rfl (fun ls hl => ?_)
  refine q_iinc (x := 3) (n := 1) (lv' := [(3, .int (iI 4)), (1, .long ((mxd (mxd (mxd (mxd (dgS (zod σ (zsh σ 2)) ((zst σ (zsh σ 2)).1) ((zst σ (zsh σ 2)).2.2) (dgS (zod σ (zsh σ 1)) ((zst σ (zsh σ 1)).1) ((zst σ (zsh σ 1)).2.2) (dgS (zod σ (zsh σ 0)) ((zst σ (zsh σ 0)).1) ((zst σ (zsh σ 0)).2.2) (mxd (mxd (dgV σ 1 (dgV σ 0 (dgB (zod σ (zbk σ 3)) ((zst σ (zbk σ 3)).1) ((zst σ (zbk σ 3)).2.2) (dgB (zod σ (zbk σ 2)) ((zst σ (zbk σ 2)).1) ((zst σ (zbk σ 2)).2.2) (dgB (zod σ (zbk σ 1)) ((zst σ (zbk σ 1)).1) ((zst σ (zbk σ 1)).2.2) (dgB (zod σ (zbk σ 0)) ((zst σ (zbk σ 0)).1) ((zst σ (zbk σ 0)).2.2) 17706)))))) 0) (-1))))) (hfact σ 0)) (hfact σ 1)) (hfact σ 2)) (hfact σ 3)))), (0, .ref ((gbg G)))]) hx hb dX3_digest_125 hl (k := 1) rfl (by decide) rfl (fun ls hl => ?_)
  refine lv_goto (tgt := 110) hx hb dX3_digest_128 (by decide) ?_
  refine lv_iload_n hx hb dX3_digest_110 rfl (lv_at hl 0 rfl) ?_
  refine q_iconst hx hb dX3_digest_111 ?_
  refine q_icmp_gt hx hb dX3_digest_112 (tgt := 131) (by decide) (by omega) (by omega) (fun c39 => ?_) (fun c39 => absurd c39 (by omega))
  refine lv_lload_n hx hb dX3_digest_131 rfl (lv_at hl 1 rfl) ?_
  refine lv_aload_n hx hb dX3_digest_132 rfl (lv_at hl 2 rfl) ?_
  refine q_vMi C0 lX3_271 (c_X3_isSound l D y L F _ O G σ hC hW) ⟨rfl, rfl⟩ rfl hP hD hS hA hC.1.1 hC.1.2 rfl rfl rfl hl rfl (Nat.le_of_ble_eq_true rfl) dX3_digest_133 ⟨Nat.le_of_ble_eq_true rfl, Nat.le_of_ble_eq_true rfl⟩ (fun r40 H locs L41 F41 hP hD hS hz41 hp41 => ?_)
  refine W.widen (k := 14) (n := 728) (Nat.le_of_ble_eq_true rfl) (Nat.le_of_ble_eq_true rfl) ?_
  obtain ⟨er, hC, hLs42, hfr42⟩ := hp41
  replace er := er.symm
  subst er
  have hfr : ∀ a ∈ L, F41 a = F a := fun a h1 => (hfr42 a (hLs a h1)).trans (hfr a h1)
  have hLs : ∀ a ∈ L, a ∈ L41 := fun a h1 => hLs42 a (hLs a h1)
  have b_r40 := kR_isSound_b σ
  refine q_if_eq hx hb dX3_digest_136 (tgt := 143) (by decide) (by omega) (fun c43 => ?_) (fun c43 => ?_)
  · refine q_iconst hx hb dX3_digest_143 ?_
    refine q_sSl C0 lX3_261 (c_X3_mixed l D y L41 F41 (mxd (mxd (mxd (mxd (dgS (zod σ (zsh σ 2)) ((zst σ (zsh σ 2)).1) ((zst σ (zsh σ 2)).2.2) (dgS (zod σ (zsh σ 1)) ((zst σ (zsh σ 1)).1) ((zst σ (zsh σ 1)).2.2) (dgS (zod σ (zsh σ 0)) ((zst σ (zsh σ 0)).1) ((zst σ (zsh σ 0)).2.2) (mxd (mxd (dgV σ 1 (dgV σ 0 (dgB (zod σ (zbk σ 3)) ((zst σ (zbk σ 3)).1) ((zst σ (zbk σ 3)).2.2) (dgB (zod σ (zbk σ 2)) ((zst σ (zbk σ 2)).1) ((zst σ (zbk σ 2)).2.2) (dgB (zod σ (zbk σ 1)) ((zst σ (zbk σ 1)).1) ((zst σ (zbk σ 1)).2.2) (dgB (zod σ (zbk σ 0)) ((zst σ (zbk σ 0)).1) ((zst σ (zbk σ 0)).2.2) 17706)))))) 0) (-1))))) (hfact σ 0)) (hfact σ 1)) (hfact σ 2)) (hfact σ 3)) 0) ⟨rfl, rfl⟩ rfl hP rfl hl rfl (Nat.le_of_ble_eq_true rfl) dX3_digest_144 ⟨Nat.le_of_ble_eq_true rfl, Nat.le_of_ble_eq_true rfl⟩ (fun r44 e_r44 => ?_)
    replace e_r44 := e_r44.symm
    subst e_r44
    exact q_retMl C0 hret hlk dX3_digest_147 hP hD hS (⟨(by unfold kR_digest0 dgA; rw [show kR_isSound σ = 0 by omega]; rfl), hC, hLs, hfr⟩)
  · refine q_iconst hx hb dX3_digest_139 ?_
    refine lv_goto (tgt := 144) hx hb dX3_digest_140 (by decide) ?_
    refine q_sSl C0 lX3_261 (c_X3_mixed l D y L41 F41 (mxd (mxd (mxd (mxd (dgS (zod σ (zsh σ 2)) ((zst σ (zsh σ 2)).1) ((zst σ (zsh σ 2)).2.2) (dgS (zod σ (zsh σ 1)) ((zst σ (zsh σ 1)).1) ((zst σ (zsh σ 1)).2.2) (dgS (zod σ (zsh σ 0)) ((zst σ (zsh σ 0)).1) ((zst σ (zsh σ 0)).2.2) (mxd (mxd (dgV σ 1 (dgV σ 0 (dgB (zod σ (zbk σ 3)) ((zst σ (zbk σ 3)).1) ((zst σ (zbk σ 3)).2.2) (dgB (zod σ (zbk σ 2)) ((zst σ (zbk σ 2)).1) ((zst σ (zbk σ 2)).2.2) (dgB (zod σ (zbk σ 1)) ((zst σ (zbk σ 1)).1) ((zst σ (zbk σ 1)).2.2) (dgB (zod σ (zbk σ 0)) ((zst σ (zbk σ 0)).1) ((zst σ (zbk σ 0)).2.2) 17706)))))) 0) (-1))))) (hfact σ 0)) (hfact σ 1)) (hfact σ 2)) (hfact σ 3)) 1) ⟨rfl, rfl⟩ rfl hP rfl hl rfl (Nat.le_of_ble_eq_true rfl) dX3_digest_144 ⟨Nat.le_of_ble_eq_true rfl, Nat.le_of_ble_eq_true rfl⟩ (fun r45 e_r45 => ?_)
    replace e_r45 := e_r45.symm
    subst e_r45
    exact q_retMl C0 hret hlk dX3_digest_147 hP hD hS (⟨(by unfold kR_digest0 dgA; rw [show kR_isSound σ = 1 by omega]; rfl), hC, hLs, hfr⟩)
set_option maxHeartbeats 800000 in
set_option maxRecDepth 100000 in
theorem c_X3_digest1 (l : Launch) (D : va_G) (y : Nat → ClassId) (L : List Nat) (F : Nat → va_E) (sz : Nat) (O : Nat → Prop) (G : CG) (σ : CS) (j : Nat) (hC : CP y L F O G σ) (hW : CW σ) (hwk : zwk σ = some j) : Met l yX3_digest (.code yX3_digest cX3_digest 4 (some .long) :: Tt) ({ frames := 6, cells := 14, slots := 728, locals := 137 }) (PcM D y L F sz [.ref ((gbg G))]) (cMl D (AL L sz) (fun r L1 F1 => r = kR_digest1 σ j ∧ CP y L1 F1 O G σ ∧ (∀ a ∈ L, a ∈ L1) ∧ ∀ a ∈ L, F1 a = F a)) 14 728 (AL L sz) := by
  have hfr : ∀ a ∈ L, F a = F a := fun _ _ => rfl
  have hLs : ∀ a ∈ L, a ∈ L := fun _ h => h
  have hw4 := hW.2.2.2.2.2.1
  have hw5 := hW.2.2.2.2.2.2.1
  have hw6 := hW.2.2.2.2.2.2.2.2.2.2
  have hw7 := hW.2.2.2.2.2.2.2.2.2.1 j (hW.2.2.2.1 _ hwk)
  have gb_ := goI_b σ j
  refine q_ofM (lv := [(0, .ref ((gbg G)))]) (by decide) (Nat.le_of_ble_eq_true rfl) rfl (fun p e s m below meth c C0 hret hlk hnm hA hP hD hS ls hl => ?_)
  have hx := C0.1.1
  have hb := C0.1.2.1
  have hts := C0.1.2.2.2.2
  refine lv_ldc2 (v := 17706) hx hb C0.1.2.2.2.1 (hts _ (List.mem_cons_of_mem _ cLX3_251)) dX3_digest_0 ?_
  refine lv_lstore_n (lv' := [(1, .long (17706)), (0, .ref ((gbg G)))]) hx hb dX3_digest_3 rfl hl (by decide) rfl (fun ls hl => ?_)
  refine q_iconst hx hb dX3_digest_4 ?_
  refine lv_istore_n (lv' := [(3, .int (iI 0)), (1, .long (17706)), (0, .ref ((gbg G)))]) hx hb dX3_digest_5 rfl hl (by decide) rfl (fun ls hl => ?_)
  refine lv_iload_n hx hb dX3_digest_6 rfl (lv_at hl 0 rfl) ?_
  refine q_iconst hx hb dX3_digest_7 ?_
  refine q_icmp_ge hx hb dX3_digest_8 (tgt := 28) (by decide) (by omega) (by omega) (fun c1 => absurd c1 (by omega)) (fun c1 => ?_)
  refine lv_lload_n hx hb dX3_digest_11 rfl (lv_at hl 1 rfl) ?_
  refine lv_aload_n hx hb dX3_digest_12 rfl (lv_at hl 2 rfl) ?_
  refine q_get C0 iX3 hP hC.1.1 hC.1.2 rfl 0 (by decide) flX3_11 rfl rfl dX3_digest_13 ?_
  refine lv_iload_n hx hb dX3_digest_16 rfl (lv_at hl 0 rfl) ?_
  refine q_aald C0 hP hC.2.1.1 hC.2.1.2 (t := 1) rfl (by omega) (by decide) (v := .ref ((grh G (zbk σ 0)))) rfl dX3_digest_17 ?_
  refine q_sSl C0 lX3_253 (c_X3_digestBook l D y L F (grh G (zbk σ 0)) (grw G (zbk σ 0)) (zod σ (zbk σ 0)) ((zst σ (zbk σ 0)).1) ((zst σ (zbk σ 0)).2.1) ((zst σ (zbk σ 0)).2.2) 17706 (CP_r hC (hW.1 0)) (by have := hW.2.2.2.2.2.2.2.2.2.1 _ (hW.1 0); omega)) ⟨rfl, rfl⟩ rfl hP rfl hl rfl (Nat.le_of_ble_eq_true rfl) dX3_digest_18 ⟨Nat.zero_le _, Nat.zero_le _⟩ (fun r2 e_r2 => ?_)
  replace e_r2 := e_r2.symm
  subst e_r2
  refine lv_lstore_n (lv' := [(1, .long ((dgB (zod σ (zbk σ 0)) ((zst σ (zbk σ 0)).1) ((zst σ (zbk σ 0)).2.2) 17706))), (3, .int (iI 0)), (0, .ref ((gbg G)))]) hx hb dX3_digest_21 rfl hl (by decide) rfl (fun ls hl => ?_)
  refine q_iinc (x := 0) (n := 1) (lv' := [(3, .int (iI 1)), (1, .long ((dgB (zod σ (zbk σ 0)) ((zst σ (zbk σ 0)).1) ((zst σ (zbk σ 0)).2.2) 17706))), (0, .ref ((gbg G)))]) hx hb dX3_digest_22 hl (k := 1) rfl (by decide) rfl (fun ls hl => ?_)
  refine lv_goto (tgt := 6) hx hb dX3_digest_25 (by decide) ?_
  refine lv_iload_n hx hb dX3_digest_6 rfl (lv_at hl 0 rfl) ?_
  refine q_iconst hx hb dX3_digest_7 ?_
  refine q_icmp_ge hx hb dX3_digest_8 (tgt := 28) (by decide) (by omega) (by omega) (fun c3 => absurd c3 (by omega)) (fun c3 => ?_)
  refine lv_lload_n hx hb dX3_digest_11 rfl (lv_at hl 1 rfl) ?_
  refine lv_aload_n hx hb dX3_digest_12 rfl (lv_at hl 2 rfl) ?_
  refine q_get C0 iX3 hP hC.1.1 hC.1.2 rfl 0 (by decide) flX3_11 rfl rfl dX3_digest_13 ?_
  refine lv_iload_n hx hb dX3_digest_16 rfl (lv_at hl 0 rfl) ?_
  refine q_aald C0 hP hC.2.1.1 hC.2.1.2 (t := 1) rfl (by omega) (by decide) (v := .ref ((grh G (zbk σ 1)))) rfl dX3_digest_17 ?_
  refine q_sSl C0 lX3_253 (c_X3_digestBook l D y L F (grh G (zbk σ 1)) (grw G (zbk σ 1)) (zod σ (zbk σ 1)) ((zst σ (zbk σ 1)).1) ((zst σ (zbk σ 1)).2.1) ((zst σ (zbk σ 1)).2.2) (dgB (zod σ (zbk σ 0)) ((zst σ (zbk σ 0)).1) ((zst σ (zbk σ 0)).2.2) 17706) (CP_r hC (hW.1 1)) (by have := hW.2.2.2.2.2.2.2.2.2.1 _ (hW.1 1); omega)) ⟨rfl, rfl⟩ rfl hP rfl hl rfl (Nat.le_of_ble_eq_true rfl) dX3_digest_18 ⟨Nat.zero_le _, Nat.zero_le _⟩ (fun r4 e_r4 => ?_)
  replace e_r4 := e_r4.symm
  subst e_r4
  refine lv_lstore_n (lv' := [(1, .long ((dgB (zod σ (zbk σ 1)) ((zst σ (zbk σ 1)).1) ((zst σ (zbk σ 1)).2.2) (dgB (zod σ (zbk σ 0)) ((zst σ (zbk σ 0)).1) ((zst σ (zbk σ 0)).2.2) 17706)))), (3, .int (iI 1)), (0, .ref ((gbg G)))]) hx hb dX3_digest_21 rfl hl (by decide) rfl (fun ls hl => ?_)
  refine q_iinc (x := 1) (n := 1) (lv' := [(3, .int (iI 2)), (1, .long ((dgB (zod σ (zbk σ 1)) ((zst σ (zbk σ 1)).1) ((zst σ (zbk σ 1)).2.2) (dgB (zod σ (zbk σ 0)) ((zst σ (zbk σ 0)).1) ((zst σ (zbk σ 0)).2.2) 17706)))), (0, .ref ((gbg G)))]) hx hb dX3_digest_22 hl (k := 1) rfl (by decide) rfl (fun ls hl => ?_)
  refine lv_goto (tgt := 6) hx hb dX3_digest_25 (by decide) ?_
  refine lv_iload_n hx hb dX3_digest_6 rfl (lv_at hl 0 rfl) ?_
  refine q_iconst hx hb dX3_digest_7 ?_
  refine q_icmp_ge hx hb dX3_digest_8 (tgt := 28) (by decide) (by omega) (by omega) (fun c5 => absurd c5 (by omega)) (fun c5 => ?_)
  refine lv_lload_n hx hb dX3_digest_11 rfl (lv_at hl 1 rfl) ?_
  refine lv_aload_n hx hb dX3_digest_12 rfl (lv_at hl 2 rfl) ?_
  refine q_get C0 iX3 hP hC.1.1 hC.1.2 rfl 0 (by decide) flX3_11 rfl rfl dX3_digest_13 ?_
  refine lv_iload_n hx hb dX3_digest_16 rfl (lv_at hl 0 rfl) ?_
  refine q_aald C0 hP hC.2.1.1 hC.2.1.2 (t := 1) rfl (by omega) (by decide) (v := .ref ((grh G (zbk σ 2)))) rfl dX3_digest_17 ?_
  refine q_sSl C0 lX3_253 (c_X3_digestBook l D y L F (grh G (zbk σ 2)) (grw G (zbk σ 2)) (zod σ (zbk σ 2)) ((zst σ (zbk σ 2)).1) ((zst σ (zbk σ 2)).2.1) ((zst σ (zbk σ 2)).2.2) (dgB (zod σ (zbk σ 1)) ((zst σ (zbk σ 1)).1) ((zst σ (zbk σ 1)).2.2) (dgB (zod σ (zbk σ 0)) ((zst σ (zbk σ 0)).1) ((zst σ (zbk σ 0)).2.2) 17706)) (CP_r hC (hW.1 2)) (by have := hW.2.2.2.2.2.2.2.2.2.1 _ (hW.1 2); omega)) ⟨rfl, rfl⟩ rfl hP rfl hl rfl (Nat.le_of_ble_eq_true rfl) dX3_digest_18 ⟨Nat.zero_le _, Nat.zero_le _⟩ (fun r6 e_r6 => ?_)
  replace e_r6 := e_r6.symm
  subst e_r6
  refine lv_lstore_n (lv' := [(1, .long ((dgB (zod σ (zbk σ 2)) ((zst σ (zbk σ 2)).1) ((zst σ (zbk σ 2)).2.2) (dgB (zod σ (zbk σ 1)) ((zst σ (zbk σ 1)).1) ((zst σ (zbk σ 1)).2.2) (dgB (zod σ (zbk σ 0)) ((zst σ (zbk σ 0)).1) ((zst σ (zbk σ 0)).2.2) 17706))))), (3, .int (iI 2)), (0, .ref ((gbg G)))]) hx hb dX3_digest_21 rfl hl (by decide) rfl (fun ls hl => ?_)
  refine q_iinc (x := 2) (n := 1) (lv' := [(3, .int (iI 3)), (1, .long ((dgB (zod σ (zbk σ 2)) ((zst σ (zbk σ 2)).1) ((zst σ (zbk σ 2)).2.2) (dgB (zod σ (zbk σ 1)) ((zst σ (zbk σ 1)).1) ((zst σ (zbk σ 1)).2.2) (dgB (zod σ (zbk σ 0)) ((zst σ (zbk σ 0)).1) ((zst σ (zbk σ 0)).2.2) 17706))))), (0, .ref ((gbg G)))]) hx hb dX3_digest_22 hl (k := 1) rfl (by decide) rfl (fun ls hl => ?_)
  refine lv_goto (tgt := 6) hx hb dX3_digest_25 (by decide) ?_
  refine lv_iload_n hx hb dX3_digest_6 rfl (lv_at hl 0 rfl) ?_
  refine q_iconst hx hb dX3_digest_7 ?_
  refine q_icmp_ge hx hb dX3_digest_8 (tgt := 28) (by decide) (by omega) (by omega) (fun c7 => absurd c7 (by omega)) (fun c7 => ?_)
  refine lv_lload_n hx hb dX3_digest_11 rfl (lv_at hl 1 rfl) ?_
  refine lv_aload_n hx hb dX3_digest_12 rfl (lv_at hl 2 rfl) ?_
  refine q_get C0 iX3 hP hC.1.1 hC.1.2 rfl 0 (by decide) flX3_11 rfl rfl dX3_digest_13 ?_
  refine lv_iload_n hx hb dX3_digest_16 rfl (lv_at hl 0 rfl) ?_
  refine q_aald C0 hP hC.2.1.1 hC.2.1.2 (t := 1) rfl (by omega) (by decide) (v := .ref ((grh G (zbk σ 3)))) rfl dX3_digest_17 ?_
  refine q_sSl C0 lX3_253 (c_X3_digestBook l D y L F (grh G (zbk σ 3)) (grw G (zbk σ 3)) (zod σ (zbk σ 3)) ((zst σ (zbk σ 3)).1) ((zst σ (zbk σ 3)).2.1) ((zst σ (zbk σ 3)).2.2) (dgB (zod σ (zbk σ 2)) ((zst σ (zbk σ 2)).1) ((zst σ (zbk σ 2)).2.2) (dgB (zod σ (zbk σ 1)) ((zst σ (zbk σ 1)).1) ((zst σ (zbk σ 1)).2.2) (dgB (zod σ (zbk σ 0)) ((zst σ (zbk σ 0)).1) ((zst σ (zbk σ 0)).2.2) 17706))) (CP_r hC (hW.1 3)) (by have := hW.2.2.2.2.2.2.2.2.2.1 _ (hW.1 3); omega)) ⟨rfl, rfl⟩ rfl hP rfl hl rfl (Nat.le_of_ble_eq_true rfl) dX3_digest_18 ⟨Nat.zero_le _, Nat.zero_le _⟩ (fun r8 e_r8 => ?_)
  replace e_r8 := e_r8.symm
  subst e_r8
  refine lv_lstore_n (lv' := [(1, .long ((dgB (zod σ (zbk σ 3)) ((zst σ (zbk σ 3)).1) ((zst σ (zbk σ 3)).2.2) (dgB (zod σ (zbk σ 2)) ((zst σ (zbk σ 2)).1) ((zst σ (zbk σ 2)).2.2) (dgB (zod σ (zbk σ 1)) ((zst σ (zbk σ 1)).1) ((zst σ (zbk σ 1)).2.2) (dgB (zod σ (zbk σ 0)) ((zst σ (zbk σ 0)).1) ((zst σ (zbk σ 0)).2.2) 17706)))))), (3, .int (iI 3)), (0, .ref ((gbg G)))]) hx hb dX3_digest_21 rfl hl (by decide) rfl (fun ls hl => ?_)
  refine q_iinc (x := 3) (n := 1) (lv' := [(3, .int (iI 4)), (1, .long ((dgB (zod σ (zbk σ 3)) ((zst σ (zbk σ 3)).1) ((zst σ (zbk σ 3)).2.2) (dgB (zod σ (zbk σ 2)) ((zst σ (zbk σ 2)).1) ((zst σ (zbk σ 2)).2.2) (dgB (zod σ (zbk σ 1)) ((zst σ (zbk σ 1)).1) ((zst σ (zbk σ 1)).2.2) (dgB (zod σ (zbk σ 0)) ((zst σ (zbk σ 0)).1) ((zst σ (zbk σ 0)).2.2) 17706)))))), (0, .ref ((gbg G)))]) hx hb dX3_digest_22 hl (k := 1) rfl (by decide) rfl (fun ls hl => ?_)
  refine lv_goto (tgt := 6) hx hb dX3_digest_25 (by decide) ?_
  refine lv_iload_n hx hb dX3_digest_6 rfl (lv_at hl 0 rfl) ?_
  refine q_iconst hx hb dX3_digest_7 ?_
  refine q_icmp_ge hx hb dX3_digest_8 (tgt := 28) (by decide) (by omega) (by omega) (fun c9 => ?_) (fun c9 => absurd c9 (by omega))
  refine q_iconst hx hb dX3_digest_28 ?_
  refine lv_istore_n (lv' := [(3, .int (iI 0)), (1, .long ((dgB (zod σ (zbk σ 3)) ((zst σ (zbk σ 3)).1) ((zst σ (zbk σ 3)).2.2) (dgB (zod σ (zbk σ 2)) ((zst σ (zbk σ 2)).1) ((zst σ (zbk σ 2)).2.2) (dgB (zod σ (zbk σ 1)) ((zst σ (zbk σ 1)).1) ((zst σ (zbk σ 1)).2.2) (dgB (zod σ (zbk σ 0)) ((zst σ (zbk σ 0)).1) ((zst σ (zbk σ 0)).2.2) 17706)))))), (0, .ref ((gbg G)))]) hx hb dX3_digest_29 rfl hl (by decide) rfl (fun ls hl => ?_)
  refine lv_iload_n hx hb dX3_digest_30 rfl (lv_at hl 0 rfl) ?_
  refine q_iconst hx hb dX3_digest_31 ?_
  refine q_icmp_ge hx hb dX3_digest_32 (tgt := 52) (by decide) (by omega) (by omega) (fun c10 => absurd c10 (by omega)) (fun c10 => ?_)
  refine lv_lload_n hx hb dX3_digest_35 rfl (lv_at hl 1 rfl) ?_
  refine lv_aload_n hx hb dX3_digest_36 rfl (lv_at hl 2 rfl) ?_
  refine q_get C0 iX3 hP hC.1.1 hC.1.2 rfl 2 (by decide) flX3_23 rfl rfl dX3_digest_37 ?_
  refine lv_iload_n hx hb dX3_digest_40 rfl (lv_at hl 0 rfl) ?_
  refine q_aald C0 hP hC.2.2.2.1.1 hC.2.2.2.1.2 (t := 2) rfl (by omega) (by decide) (v := .ref ((gva G 0))) rfl dX3_digest_41 ?_
  refine q_sSl C0 lX3_257 (c_X3_digestView l D y L F O G σ 0 (dgB (zod σ (zbk σ 3)) ((zst σ (zbk σ 3)).1) ((zst σ (zbk σ 3)).2.2) (dgB (zod σ (zbk σ 2)) ((zst σ (zbk σ 2)).1) ((zst σ (zbk σ 2)).2.2) (dgB (zod σ (zbk σ 1)) ((zst σ (zbk σ 1)).1) ((zst σ (zbk σ 1)).2.2) (dgB (zod σ (zbk σ 0)) ((zst σ (zbk σ 0)).1) ((zst σ (zbk σ 0)).2.2) 17706)))) hC (by omega) (hW.2.2.1 0) (by have := hW.2.2.2.2.1 0; omega) (by have := hW.2.2.2.2.1 0; omega)) ⟨rfl, rfl⟩ rfl hP rfl hl rfl (Nat.le_of_ble_eq_true rfl) dX3_digest_42 ⟨Nat.zero_le _, Nat.zero_le _⟩ (fun r11 e_r11 => ?_)
  replace e_r11 := e_r11.symm
  subst e_r11
  refine lv_lstore_n (lv' := [(1, .long ((dgV σ 0 (dgB (zod σ (zbk σ 3)) ((zst σ (zbk σ 3)).1) ((zst σ (zbk σ 3)).2.2) (dgB (zod σ (zbk σ 2)) ((zst σ (zbk σ 2)).1) ((zst σ (zbk σ 2)).2.2) (dgB (zod σ (zbk σ 1)) ((zst σ (zbk σ 1)).1) ((zst σ (zbk σ 1)).2.2) (dgB (zod σ (zbk σ 0)) ((zst σ (zbk σ 0)).1) ((zst σ (zbk σ 0)).2.2) 17706))))))), (3, .int (iI 0)), (0, .ref ((gbg G)))]) hx hb dX3_digest_45 rfl hl (by decide) rfl (fun ls hl => ?_)
  refine q_iinc (x := 0) (n := 1) (lv' := [(3, .int (iI 1)), (1, .long ((dgV σ 0 (dgB (zod σ (zbk σ 3)) ((zst σ (zbk σ 3)).1) ((zst σ (zbk σ 3)).2.2) (dgB (zod σ (zbk σ 2)) ((zst σ (zbk σ 2)).1) ((zst σ (zbk σ 2)).2.2) (dgB (zod σ (zbk σ 1)) ((zst σ (zbk σ 1)).1) ((zst σ (zbk σ 1)).2.2) (dgB (zod σ (zbk σ 0)) ((zst σ (zbk σ 0)).1) ((zst σ (zbk σ 0)).2.2) 17706))))))), (0, .ref ((gbg G)))]) hx hb dX3_digest_46 hl (k := 1) rfl (by decide) rfl (fun ls hl => ?_)
  refine lv_goto (tgt := 30) hx hb dX3_digest_49 (by decide) ?_
  refine lv_iload_n hx hb dX3_digest_30 rfl (lv_at hl 0 rfl) ?_
  refine q_iconst hx hb dX3_digest_31 ?_
  refine q_icmp_ge hx hb dX3_digest_32 (tgt := 52) (by decide) (by omega) (by omega) (fun c12 => absurd c12 (by omega)) (fun c12 => ?_)
  refine lv_lload_n hx hb dX3_digest_35 rfl (lv_at hl 1 rfl) ?_
  refine lv_aload_n hx hb dX3_digest_36 rfl (lv_at hl 2 rfl) ?_
  refine q_get C0 iX3 hP hC.1.1 hC.1.2 rfl 2 (by decide) flX3_23 rfl rfl dX3_digest_37 ?_
  refine lv_iload_n hx hb dX3_digest_40 rfl (lv_at hl 0 rfl) ?_
  refine q_aald C0 hP hC.2.2.2.1.1 hC.2.2.2.1.2 (t := 2) rfl (by omega) (by decide) (v := .ref ((gva G 1))) rfl dX3_digest_41 ?_
  refine q_sSl C0 lX3_257 (c_X3_digestView l D y L F O G σ 1 (dgV σ 0 (dgB (zod σ (zbk σ 3)) ((zst σ (zbk σ 3)).1) ((zst σ (zbk σ 3)).2.2) (dgB (zod σ (zbk σ 2)) ((zst σ (zbk σ 2)).1) ((zst σ (zbk σ 2)).2.2) (dgB (zod σ (zbk σ 1)) ((zst σ (zbk σ 1)).1) ((zst σ (zbk σ 1)).2.2) (dgB (zod σ (zbk σ 0)) ((zst σ (zbk σ 0)).1) ((zst σ (zbk σ 0)).2.2) 17706))))) hC (by omega) (hW.2.2.1 1) (by have := hW.2.2.2.2.1 1; omega) (by have := hW.2.2.2.2.1 1; omega)) ⟨rfl, rfl⟩ rfl hP rfl hl rfl (Nat.le_of_ble_eq_true rfl) dX3_digest_42 ⟨Nat.zero_le _, Nat.zero_le _⟩ (fun r13 e_r13 => ?_)
  replace e_r13 := e_r13.symm
  subst e_r13
  refine lv_lstore_n (lv' := [(1, .long ((dgV σ 1 (dgV σ 0 (dgB (zod σ (zbk σ 3)) ((zst σ (zbk σ 3)).1) ((zst σ (zbk σ 3)).2.2) (dgB (zod σ (zbk σ 2)) ((zst σ (zbk σ 2)).1) ((zst σ (zbk σ 2)).2.2) (dgB (zod σ (zbk σ 1)) ((zst σ (zbk σ 1)).1) ((zst σ (zbk σ 1)).2.2) (dgB (zod σ (zbk σ 0)) ((zst σ (zbk σ 0)).1) ((zst σ (zbk σ 0)).2.2) 17706)))))))), (3, .int (iI 1)), (0, .ref ((gbg G)))]) hx hb dX3_digest_45 rfl hl (by decide) rfl (fun ls hl => ?_)
  refine q_iinc (x := 1) (n := 1) (lv' := [(3, .int (iI 2)), (1, .long ((dgV σ 1 (dgV σ 0 (dgB (zod σ (zbk σ 3)) ((zst σ (zbk σ 3)).1) ((zst σ (zbk σ 3)).2.2) (dgB (zod σ (zbk σ 2)) ((zst σ (zbk σ 2)).1) ((zst σ (zbk σ 2)).2.2) (dgB (zod σ (zbk σ 1)) ((zst σ (zbk σ 1)).1) ((zst σ (zbk σ 1)).2.2) (dgB (zod σ (zbk σ 0)) ((zst σ (zbk σ 0)).1) ((zst σ (zbk σ 0)).2.2) 17706)))))))), (0, .ref ((gbg G)))]) hx hb dX3_digest_46 hl (k := 1) rfl (by decide) rfl (fun ls hl => ?_)
  refine lv_goto (tgt := 30) hx hb dX3_digest_49 (by decide) ?_
  refine lv_iload_n hx hb dX3_digest_30 rfl (lv_at hl 0 rfl) ?_
  refine q_iconst hx hb dX3_digest_31 ?_
  refine q_icmp_ge hx hb dX3_digest_32 (tgt := 52) (by decide) (by omega) (by omega) (fun c14 => ?_) (fun c14 => absurd c14 (by omega))
  refine lv_lload_n hx hb dX3_digest_52 rfl (lv_at hl 1 rfl) ?_
  refine lv_aload_n hx hb dX3_digest_53 rfl (lv_at hl 2 rfl) ?_
  refine q_get C0 iX3 hP hC.1.1 hC.1.2 rfl 3 (by decide) flX3_33 rfl rfl dX3_digest_54 ?_
  refine q_vS C0 lX3_200 (c_X2_isGoing1 l D y L F O G σ j hC hwk (hW.2.2.2.1 _ hwk) (by omega) (by omega)) ⟨rfl, rfl⟩ rfl hP (CP_k1 hC hwk).1 (CP_k1 hC hwk).2 rfl rfl rfl hl rfl (Nat.le_of_ble_eq_true rfl) dX3_digest_57 ⟨Nat.zero_le _, Nat.zero_le _⟩ (fun r15 e_r15 => ?_)
  replace e_r15 := e_r15.symm
  subst e_r15
  have b_16 := goI_b σ j
  refine q_if_eq hx hb dX3_digest_60 (tgt := 67) (by decide) (by omega) (fun c17 => ?_) (fun c17 => ?_)
  · refine q_iconst hx hb dX3_digest_67 ?_
    refine q_sSl C0 lX3_261 (c_X3_mixed l D y L F (dgV σ 1 (dgV σ 0 (dgB (zod σ (zbk σ 3)) ((zst σ (zbk σ 3)).1) ((zst σ (zbk σ 3)).2.2) (dgB (zod σ (zbk σ 2)) ((zst σ (zbk σ 2)).1) ((zst σ (zbk σ 2)).2.2) (dgB (zod σ (zbk σ 1)) ((zst σ (zbk σ 1)).1) ((zst σ (zbk σ 1)).2.2) (dgB (zod σ (zbk σ 0)) ((zst σ (zbk σ 0)).1) ((zst σ (zbk σ 0)).2.2) 17706)))))) 0) ⟨rfl, rfl⟩ rfl hP rfl hl rfl (Nat.le_of_ble_eq_true rfl) dX3_digest_68 ⟨Nat.zero_le _, Nat.zero_le _⟩ (fun r18 e_r18 => ?_)
    replace e_r18 := e_r18.symm
    subst e_r18
    refine lv_lstore_n (lv' := [(1, .long ((mxd (dgV σ 1 (dgV σ 0 (dgB (zod σ (zbk σ 3)) ((zst σ (zbk σ 3)).1) ((zst σ (zbk σ 3)).2.2) (dgB (zod σ (zbk σ 2)) ((zst σ (zbk σ 2)).1) ((zst σ (zbk σ 2)).2.2) (dgB (zod σ (zbk σ 1)) ((zst σ (zbk σ 1)).1) ((zst σ (zbk σ 1)).2.2) (dgB (zod σ (zbk σ 0)) ((zst σ (zbk σ 0)).1) ((zst σ (zbk σ 0)).2.2) 17706)))))) 0))), (3, .int (iI 2)), (0, .ref ((gbg G)))]) hx hb dX3_digest_71 rfl hl (by decide) rfl (fun ls hl => ?_)
    refine lv_lload_n hx hb dX3_digest_72 rfl (lv_at hl 0 rfl) ?_
    refine lv_aload_n hx hb dX3_digest_73 rfl (lv_at hl 2 rfl) ?_
    refine q_get C0 iX3 hP hC.1.1 hC.1.2 rfl 3 (by decide) flX3_33 rfl rfl dX3_digest_74 ?_
    refine q_vS C0 lX3_265 (c_X2_toldKey1 l D y L F O G σ j hC hwk (hW.2.2.2.1 _ hwk) (by omega) (by omega)) ⟨rfl, rfl⟩ rfl hP (CP_k1 hC hwk).1 (CP_k1 hC hwk).2 rfl rfl rfl hl rfl (Nat.le_of_ble_eq_true rfl) dX3_digest_77 ⟨Nat.zero_le _, Nat.zero_le _⟩ (fun r19 e_r19 => ?_)
    replace e_r19 := e_r19.symm
    subst e_r19
    refine q_sSl C0 lX3_261 (c_X3_mixed l D y L F (mxd (dgV σ 1 (dgV σ 0 (dgB (zod σ (zbk σ 3)) ((zst σ (zbk σ 3)).1) ((zst σ (zbk σ 3)).2.2) (dgB (zod σ (zbk σ 2)) ((zst σ (zbk σ 2)).1) ((zst σ (zbk σ 2)).2.2) (dgB (zod σ (zbk σ 1)) ((zst σ (zbk σ 1)).1) ((zst σ (zbk σ 1)).2.2) (dgB (zod σ (zbk σ 0)) ((zst σ (zbk σ 0)).1) ((zst σ (zbk σ 0)).2.2) 17706)))))) 0) (if zwt σ = 0 then -1 else keyR (zod σ j) (zwl σ))) ⟨rfl, rfl⟩ rfl hP rfl hl rfl (Nat.le_of_ble_eq_true rfl) dX3_digest_80 ⟨Nat.zero_le _, Nat.zero_le _⟩ (fun r20 e_r20 => ?_)
    replace e_r20 := e_r20.symm
    subst e_r20
    refine lv_lstore_n (lv' := [(1, .long ((mxd (mxd (dgV σ 1 (dgV σ 0 (dgB (zod σ (zbk σ 3)) ((zst σ (zbk σ 3)).1) ((zst σ (zbk σ 3)).2.2) (dgB (zod σ (zbk σ 2)) ((zst σ (zbk σ 2)).1) ((zst σ (zbk σ 2)).2.2) (dgB (zod σ (zbk σ 1)) ((zst σ (zbk σ 1)).1) ((zst σ (zbk σ 1)).2.2) (dgB (zod σ (zbk σ 0)) ((zst σ (zbk σ 0)).1) ((zst σ (zbk σ 0)).2.2) 17706)))))) 0) (if zwt σ = 0 then -1 else keyR (zod σ j) (zwl σ))))), (3, .int (iI 2)), (0, .ref ((gbg G)))]) hx hb dX3_digest_83 rfl hl (by decide) rfl (fun ls hl => ?_)
    refine q_iconst hx hb dX3_digest_84 ?_
    refine lv_istore_n (lv' := [(3, .int (iI 0)), (1, .long ((mxd (mxd (dgV σ 1 (dgV σ 0 (dgB (zod σ (zbk σ 3)) ((zst σ (zbk σ 3)).1) ((zst σ (zbk σ 3)).2.2) (dgB (zod σ (zbk σ 2)) ((zst σ (zbk σ 2)).1) ((zst σ (zbk σ 2)).2.2) (dgB (zod σ (zbk σ 1)) ((zst σ (zbk σ 1)).1) ((zst σ (zbk σ 1)).2.2) (dgB (zod σ (zbk σ 0)) ((zst σ (zbk σ 0)).1) ((zst σ (zbk σ 0)).2.2) 17706)))))) 0) (if zwt σ = 0 then -1 else keyR (zod σ j) (zwl σ))))), (0, .ref ((gbg G)))]) hx hb dX3_digest_85 rfl hl (by decide) rfl (fun ls hl => ?_)
    refine lv_iload_n hx hb dX3_digest_86 rfl (lv_at hl 0 rfl) ?_
    refine q_iconst hx hb dX3_digest_87 ?_
    refine q_icmp_ge hx hb dX3_digest_88 (tgt := 108) (by decide) (by omega) (by omega) (fun c21 => absurd c21 (by omega)) (fun c21 => ?_)
    refine lv_lload_n hx hb dX3_digest_91 rfl (lv_at hl 1 rfl) ?_
    refine lv_aload_n hx hb dX3_digest_92 rfl (lv_at hl 2 rfl) ?_
    refine q_get C0 iX3 hP hC.1.1 hC.1.2 rfl 1 (by decide) flX3_18 rfl rfl dX3_digest_93 ?_
    refine lv_iload_n hx hb dX3_digest_96 rfl (lv_at hl 0 rfl) ?_
    refine q_aald C0 hP hC.2.2.1.1 hC.2.2.1.2 (t := 1) rfl (by omega) (by decide) (v := .ref ((grh G (zsh σ 0)))) rfl dX3_digest_97 ?_
    refine q_sSl C0 lX3_268 (c_X3_digestShelf l D y L F (grh G (zsh σ 0)) (grw G (zsh σ 0)) (zod σ (zsh σ 0)) ((zst σ (zsh σ 0)).1) ((zst σ (zsh σ 0)).2.1) ((zst σ (zsh σ 0)).2.2) (mxd (mxd (dgV σ 1 (dgV σ 0 (dgB (zod σ (zbk σ 3)) ((zst σ (zbk σ 3)).1) ((zst σ (zbk σ 3)).2.2) (dgB (zod σ (zbk σ 2)) ((zst σ (zbk σ 2)).1) ((zst σ (zbk σ 2)).2.2) (dgB (zod σ (zbk σ 1)) ((zst σ (zbk σ 1)).1) ((zst σ (zbk σ 1)).2.2) (dgB (zod σ (zbk σ 0)) ((zst σ (zbk σ 0)).1) ((zst σ (zbk σ 0)).2.2) 17706)))))) 0) (if zwt σ = 0 then -1 else keyR (zod σ j) (zwl σ))) (CP_r hC (hW.2.1 0)) (by have := hW.2.2.2.2.2.2.2.2.2.1 _ (hW.2.1 0); omega)) ⟨rfl, rfl⟩ rfl hP rfl hl rfl (Nat.le_of_ble_eq_true rfl) dX3_digest_98 ⟨Nat.zero_le _, Nat.zero_le _⟩ (fun r22 e_r22 => ?_)
    replace e_r22 := e_r22.symm
    subst e_r22
    refine lv_lstore_n (lv' := [(1, .long ((dgS (zod σ (zsh σ 0)) ((zst σ (zsh σ 0)).1) ((zst σ (zsh σ 0)).2.2) (mxd (mxd (dgV σ 1 (dgV σ 0 (dgB (zod σ (zbk σ 3)) ((zst σ (zbk σ 3)).1) ((zst σ (zbk σ 3)).2.2) (dgB (zod σ (zbk σ 2)) ((zst σ (zbk σ 2)).1) ((zst σ (zbk σ 2)).2.2) (dgB (zod σ (zbk σ 1)) ((zst σ (zbk σ 1)).1) ((zst σ (zbk σ 1)).2.2) (dgB (zod σ (zbk σ 0)) ((zst σ (zbk σ 0)).1) ((zst σ (zbk σ 0)).2.2) 17706)))))) 0) (if zwt σ = 0 then -1 else keyR (zod σ j) (zwl σ)))))), (3, .int (iI 0)), (0, .ref ((gbg G)))]) hx hb dX3_digest_101 rfl hl (by decide) rfl (fun ls hl => ?_)
    refine q_iinc (x := 0) (n := 1) (lv' := [(3, .int (iI 1)), (1, .long ((dgS (zod σ (zsh σ 0)) ((zst σ (zsh σ 0)).1) ((zst σ (zsh σ 0)).2.2) (mxd (mxd (dgV σ 1 (dgV σ 0 (dgB (zod σ (zbk σ 3)) ((zst σ (zbk σ 3)).1) ((zst σ (zbk σ 3)).2.2) (dgB (zod σ (zbk σ 2)) ((zst σ (zbk σ 2)).1) ((zst σ (zbk σ 2)).2.2) (dgB (zod σ (zbk σ 1)) ((zst σ (zbk σ 1)).1) ((zst σ (zbk σ 1)).2.2) (dgB (zod σ (zbk σ 0)) ((zst σ (zbk σ 0)).1) ((zst σ (zbk σ 0)).2.2) 17706)))))) 0) (if zwt σ = 0 then -1 else keyR (zod σ j) (zwl σ)))))), (0, .ref ((gbg G)))]) hx hb dX3_digest_102 hl (k := 1) rfl (by decide) rfl (fun ls hl => ?_)
    refine lv_goto (tgt := 86) hx hb dX3_digest_105 (by decide) ?_
    refine lv_iload_n hx hb dX3_digest_86 rfl (lv_at hl 0 rfl) ?_
    refine q_iconst hx hb dX3_digest_87 ?_
    refine q_icmp_ge hx hb dX3_digest_88 (tgt := 108) (by decide) (by omega) (by omega) (fun c23 => absurd c23 (by omega)) (fun c23 => ?_)
    refine lv_lload_n hx hb dX3_digest_91 rfl (lv_at hl 1 rfl) ?_
    refine lv_aload_n hx hb dX3_digest_92 rfl (lv_at hl 2 rfl) ?_
    refine q_get C0 iX3 hP hC.1.1 hC.1.2 rfl 1 (by decide) flX3_18 rfl rfl dX3_digest_93 ?_
    refine lv_iload_n hx hb dX3_digest_96 rfl (lv_at hl 0 rfl) ?_
    refine q_aald C0 hP hC.2.2.1.1 hC.2.2.1.2 (t := 1) rfl (by omega) (by decide) (v := .ref ((grh G (zsh σ 1)))) rfl dX3_digest_97 ?_
    refine q_sSl C0 lX3_268 (c_X3_digestShelf l D y L F (grh G (zsh σ 1)) (grw G (zsh σ 1)) (zod σ (zsh σ 1)) ((zst σ (zsh σ 1)).1) ((zst σ (zsh σ 1)).2.1) ((zst σ (zsh σ 1)).2.2) (dgS (zod σ (zsh σ 0)) ((zst σ (zsh σ 0)).1) ((zst σ (zsh σ 0)).2.2) (mxd (mxd (dgV σ 1 (dgV σ 0 (dgB (zod σ (zbk σ 3)) ((zst σ (zbk σ 3)).1) ((zst σ (zbk σ 3)).2.2) (dgB (zod σ (zbk σ 2)) ((zst σ (zbk σ 2)).1) ((zst σ (zbk σ 2)).2.2) (dgB (zod σ (zbk σ 1)) ((zst σ (zbk σ 1)).1) ((zst σ (zbk σ 1)).2.2) (dgB (zod σ (zbk σ 0)) ((zst σ (zbk σ 0)).1) ((zst σ (zbk σ 0)).2.2) 17706)))))) 0) (if zwt σ = 0 then -1 else keyR (zod σ j) (zwl σ)))) (CP_r hC (hW.2.1 1)) (by have := hW.2.2.2.2.2.2.2.2.2.1 _ (hW.2.1 1); omega)) ⟨rfl, rfl⟩ rfl hP rfl hl rfl (Nat.le_of_ble_eq_true rfl) dX3_digest_98 ⟨Nat.zero_le _, Nat.zero_le _⟩ (fun r24 e_r24 => ?_)
    replace e_r24 := e_r24.symm
    subst e_r24
    refine lv_lstore_n (lv' := [(1, .long ((dgS (zod σ (zsh σ 1)) ((zst σ (zsh σ 1)).1) ((zst σ (zsh σ 1)).2.2) (dgS (zod σ (zsh σ 0)) ((zst σ (zsh σ 0)).1) ((zst σ (zsh σ 0)).2.2) (mxd (mxd (dgV σ 1 (dgV σ 0 (dgB (zod σ (zbk σ 3)) ((zst σ (zbk σ 3)).1) ((zst σ (zbk σ 3)).2.2) (dgB (zod σ (zbk σ 2)) ((zst σ (zbk σ 2)).1) ((zst σ (zbk σ 2)).2.2) (dgB (zod σ (zbk σ 1)) ((zst σ (zbk σ 1)).1) ((zst σ (zbk σ 1)).2.2) (dgB (zod σ (zbk σ 0)) ((zst σ (zbk σ 0)).1) ((zst σ (zbk σ 0)).2.2) 17706)))))) 0) (if zwt σ = 0 then -1 else keyR (zod σ j) (zwl σ))))))), (3, .int (iI 1)), (0, .ref ((gbg G)))]) hx hb dX3_digest_101 rfl hl (by decide) rfl (fun ls hl => ?_)
    refine q_iinc (x := 1) (n := 1) (lv' := [(3, .int (iI 2)), (1, .long ((dgS (zod σ (zsh σ 1)) ((zst σ (zsh σ 1)).1) ((zst σ (zsh σ 1)).2.2) (dgS (zod σ (zsh σ 0)) ((zst σ (zsh σ 0)).1) ((zst σ (zsh σ 0)).2.2) (mxd (mxd (dgV σ 1 (dgV σ 0 (dgB (zod σ (zbk σ 3)) ((zst σ (zbk σ 3)).1) ((zst σ (zbk σ 3)).2.2) (dgB (zod σ (zbk σ 2)) ((zst σ (zbk σ 2)).1) ((zst σ (zbk σ 2)).2.2) (dgB (zod σ (zbk σ 1)) ((zst σ (zbk σ 1)).1) ((zst σ (zbk σ 1)).2.2) (dgB (zod σ (zbk σ 0)) ((zst σ (zbk σ 0)).1) ((zst σ (zbk σ 0)).2.2) 17706)))))) 0) (if zwt σ = 0 then -1 else keyR (zod σ j) (zwl σ))))))), (0, .ref ((gbg G)))]) hx hb dX3_digest_102 hl (k := 1) rfl (by decide) rfl (fun ls hl => ?_)
    refine lv_goto (tgt := 86) hx hb dX3_digest_105 (by decide) ?_
    refine lv_iload_n hx hb dX3_digest_86 rfl (lv_at hl 0 rfl) ?_
    refine q_iconst hx hb dX3_digest_87 ?_
    refine q_icmp_ge hx hb dX3_digest_88 (tgt := 108) (by decide) (by omega) (by omega) (fun c25 => absurd c25 (by omega)) (fun c25 => ?_)
    refine lv_lload_n hx hb dX3_digest_91 rfl (lv_at hl 1 rfl) ?_
    refine lv_aload_n hx hb dX3_digest_92 rfl (lv_at hl 2 rfl) ?_
    refine q_get C0 iX3 hP hC.1.1 hC.1.2 rfl 1 (by decide) flX3_18 rfl rfl dX3_digest_93 ?_
    refine lv_iload_n hx hb dX3_digest_96 rfl (lv_at hl 0 rfl) ?_
    refine q_aald C0 hP hC.2.2.1.1 hC.2.2.1.2 (t := 1) rfl (by omega) (by decide) (v := .ref ((grh G (zsh σ 2)))) rfl dX3_digest_97 ?_
    refine q_sSl C0 lX3_268 (c_X3_digestShelf l D y L F (grh G (zsh σ 2)) (grw G (zsh σ 2)) (zod σ (zsh σ 2)) ((zst σ (zsh σ 2)).1) ((zst σ (zsh σ 2)).2.1) ((zst σ (zsh σ 2)).2.2) (dgS (zod σ (zsh σ 1)) ((zst σ (zsh σ 1)).1) ((zst σ (zsh σ 1)).2.2) (dgS (zod σ (zsh σ 0)) ((zst σ (zsh σ 0)).1) ((zst σ (zsh σ 0)).2.2) (mxd (mxd (dgV σ 1 (dgV σ 0 (dgB (zod σ (zbk σ 3)) ((zst σ (zbk σ 3)).1) ((zst σ (zbk σ 3)).2.2) (dgB (zod σ (zbk σ 2)) ((zst σ (zbk σ 2)).1) ((zst σ (zbk σ 2)).2.2) (dgB (zod σ (zbk σ 1)) ((zst σ (zbk σ 1)).1) ((zst σ (zbk σ 1)).2.2) (dgB (zod σ (zbk σ 0)) ((zst σ (zbk σ 0)).1) ((zst σ (zbk σ 0)).2.2) 17706)))))) 0) (if zwt σ = 0 then -1 else keyR (zod σ j) (zwl σ))))) (CP_r hC (hW.2.1 2)) (by have := hW.2.2.2.2.2.2.2.2.2.1 _ (hW.2.1 2); omega)) ⟨rfl, rfl⟩ rfl hP rfl hl rfl (Nat.le_of_ble_eq_true rfl) dX3_digest_98 ⟨Nat.zero_le _, Nat.zero_le _⟩ (fun r26 e_r26 => ?_)
    replace e_r26 := e_r26.symm
    subst e_r26
    refine lv_lstore_n (lv' := [(1, .long ((dgS (zod σ (zsh σ 2)) ((zst σ (zsh σ 2)).1) ((zst σ (zsh σ 2)).2.2) (dgS (zod σ (zsh σ 1)) ((zst σ (zsh σ 1)).1) ((zst σ (zsh σ 1)).2.2) (dgS (zod σ (zsh σ 0)) ((zst σ (zsh σ 0)).1) ((zst σ (zsh σ 0)).2.2) (mxd (mxd (dgV σ 1 (dgV σ 0 (dgB (zod σ (zbk σ 3)) ((zst σ (zbk σ 3)).1) ((zst σ (zbk σ 3)).2.2) (dgB (zod σ (zbk σ 2)) ((zst σ (zbk σ 2)).1) ((zst σ (zbk σ 2)).2.2) (dgB (zod σ (zbk σ 1)) ((zst σ (zbk σ 1)).1) ((zst σ (zbk σ 1)).2.2) (dgB (zod σ (zbk σ 0)) ((zst σ (zbk σ 0)).1) ((zst σ (zbk σ 0)).2.2) 17706)))))) 0) (if zwt σ = 0 then -1 else keyR (zod σ j) (zwl σ)))))))), (3, .int (iI 2)), (0, .ref ((gbg G)))]) hx hb dX3_digest_101 rfl hl (by decide) rfl (fun ls hl => ?_)
    refine q_iinc (x := 2) (n := 1) (lv' := [(3, .int (iI 3)), (1, .long ((dgS (zod σ (zsh σ 2)) ((zst σ (zsh σ 2)).1) ((zst σ (zsh σ 2)).2.2) (dgS (zod σ (zsh σ 1)) ((zst σ (zsh σ 1)).1) ((zst σ (zsh σ 1)).2.2) (dgS (zod σ (zsh σ 0)) ((zst σ (zsh σ 0)).1) ((zst σ (zsh σ 0)).2.2) (mxd (mxd (dgV σ 1 (dgV σ 0 (dgB (zod σ (zbk σ 3)) ((zst σ (zbk σ 3)).1) ((zst σ (zbk σ 3)).2.2) (dgB (zod σ (zbk σ 2)) ((zst σ (zbk σ 2)).1) ((zst σ (zbk σ 2)).2.2) (dgB (zod σ (zbk σ 1)) ((zst σ (zbk σ 1)).1) ((zst σ (zbk σ 1)).2.2) (dgB (zod σ (zbk σ 0)) ((zst σ (zbk σ 0)).1) ((zst σ (zbk σ 0)).2.2) 17706)))))) 0) (if zwt σ = 0 then -1 else keyR (zod σ j) (zwl σ)))))))), (0, .ref ((gbg G)))]) hx hb dX3_digest_102 hl (k := 1) rfl (by decide) rfl (fun ls hl => ?_)
    refine lv_goto (tgt := 86) hx hb dX3_digest_105 (by decide) ?_
    refine lv_iload_n hx hb dX3_digest_86 rfl (lv_at hl 0 rfl) ?_
    refine q_iconst hx hb dX3_digest_87 ?_
    refine q_icmp_ge hx hb dX3_digest_88 (tgt := 108) (by decide) (by omega) (by omega) (fun c27 => ?_) (fun c27 => absurd c27 (by omega))
    refine q_iconst hx hb dX3_digest_108 ?_
    refine lv_istore_n (lv' := [(3, .int (iI 0)), (1, .long ((dgS (zod σ (zsh σ 2)) ((zst σ (zsh σ 2)).1) ((zst σ (zsh σ 2)).2.2) (dgS (zod σ (zsh σ 1)) ((zst σ (zsh σ 1)).1) ((zst σ (zsh σ 1)).2.2) (dgS (zod σ (zsh σ 0)) ((zst σ (zsh σ 0)).1) ((zst σ (zsh σ 0)).2.2) (mxd (mxd (dgV σ 1 (dgV σ 0 (dgB (zod σ (zbk σ 3)) ((zst σ (zbk σ 3)).1) ((zst σ (zbk σ 3)).2.2) (dgB (zod σ (zbk σ 2)) ((zst σ (zbk σ 2)).1) ((zst σ (zbk σ 2)).2.2) (dgB (zod σ (zbk σ 1)) ((zst σ (zbk σ 1)).1) ((zst σ (zbk σ 1)).2.2) (dgB (zod σ (zbk σ 0)) ((zst σ (zbk σ 0)).1) ((zst σ (zbk σ 0)).2.2) 17706)))))) 0) (if zwt σ = 0 then -1 else keyR (zod σ j) (zwl σ)))))))), (0, .ref ((gbg G)))]) hx hb dX3_digest_109 rfl hl (by decide) rfl (fun ls hl => ?_)
    refine lv_iload_n hx hb dX3_digest_110 rfl (lv_at hl 0 rfl) ?_
    refine q_iconst hx hb dX3_digest_111 ?_
    refine q_icmp_gt hx hb dX3_digest_112 (tgt := 131) (by decide) (by omega) (by omega) (fun c28 => absurd c28 (by omega)) (fun c28 => ?_)
    refine lv_lload_n hx hb dX3_digest_115 rfl (lv_at hl 1 rfl) ?_
    refine lv_aload_n hx hb dX3_digest_116 rfl (lv_at hl 2 rfl) ?_
    refine lv_iload_n hx hb dX3_digest_117 rfl (lv_at hl 0 rfl) ?_
    refine q_vS C0 lX3_238 (c_X3_houseFact l D y L F O G σ 0 hC (by omega)) ⟨rfl, rfl⟩ rfl hP hC.1.1 hC.1.2 rfl rfl rfl hl rfl (Nat.le_of_ble_eq_true rfl) dX3_digest_118 ⟨Nat.zero_le _, Nat.zero_le _⟩ (fun r29 e_r29 => ?_)
    replace e_r29 := e_r29.symm
    subst e_r29
    refine q_sSl C0 lX3_261 (c_X3_mixed l D y L F (dgS (zod σ (zsh σ 2)) ((zst σ (zsh σ 2)).1) ((zst σ (zsh σ 2)).2.2) (dgS (zod σ (zsh σ 1)) ((zst σ (zsh σ 1)).1) ((zst σ (zsh σ 1)).2.2) (dgS (zod σ (zsh σ 0)) ((zst σ (zsh σ 0)).1) ((zst σ (zsh σ 0)).2.2) (mxd (mxd (dgV σ 1 (dgV σ 0 (dgB (zod σ (zbk σ 3)) ((zst σ (zbk σ 3)).1) ((zst σ (zbk σ 3)).2.2) (dgB (zod σ (zbk σ 2)) ((zst σ (zbk σ 2)).1) ((zst σ (zbk σ 2)).2.2) (dgB (zod σ (zbk σ 1)) ((zst σ (zbk σ 1)).1) ((zst σ (zbk σ 1)).2.2) (dgB (zod σ (zbk σ 0)) ((zst σ (zbk σ 0)).1) ((zst σ (zbk σ 0)).2.2) 17706)))))) 0) (if zwt σ = 0 then -1 else keyR (zod σ j) (zwl σ)))))) (hfact σ 0)) ⟨rfl, rfl⟩ rfl hP rfl hl rfl (Nat.le_of_ble_eq_true rfl) dX3_digest_121 ⟨Nat.zero_le _, Nat.zero_le _⟩ (fun r30 e_r30 => ?_)
    replace e_r30 := e_r30.symm
    subst e_r30
    refine lv_lstore_n (lv' := [(1, .long ((mxd (dgS (zod σ (zsh σ 2)) ((zst σ (zsh σ 2)).1) ((zst σ (zsh σ 2)).2.2) (dgS (zod σ (zsh σ 1)) ((zst σ (zsh σ 1)).1) ((zst σ (zsh σ 1)).2.2) (dgS (zod σ (zsh σ 0)) ((zst σ (zsh σ 0)).1) ((zst σ (zsh σ 0)).2.2) (mxd (mxd (dgV σ 1 (dgV σ 0 (dgB (zod σ (zbk σ 3)) ((zst σ (zbk σ 3)).1) ((zst σ (zbk σ 3)).2.2) (dgB (zod σ (zbk σ 2)) ((zst σ (zbk σ 2)).1) ((zst σ (zbk σ 2)).2.2) (dgB (zod σ (zbk σ 1)) ((zst σ (zbk σ 1)).1) ((zst σ (zbk σ 1)).2.2) (dgB (zod σ (zbk σ 0)) ((zst σ (zbk σ 0)).1) ((zst σ (zbk σ 0)).2.2) 17706)))))) 0) (if zwt σ = 0 then -1 else keyR (zod σ j) (zwl σ)))))) (hfact σ 0)))), (3, .int (iI 0)), (0, .ref ((gbg G)))]) hx hb dX3_digest_124 rfl hl (by decide) rfl (fun ls hl => ?_)
    refine q_iinc (x := 0) (n := 1) (lv' := [(3, .int (iI 1)), (1, .long ((mxd (dgS (zod σ (zsh σ 2)) ((zst σ (zsh σ 2)).1) ((zst σ (zsh σ 2)).2.2) (dgS (zod σ (zsh σ 1)) ((zst σ (zsh σ 1)).1) ((zst σ (zsh σ 1)).2.2) (dgS (zod σ (zsh σ 0)) ((zst σ (zsh σ 0)).1) ((zst σ (zsh σ 0)).2.2) (mxd (mxd (dgV σ 1 (dgV σ 0 (dgB (zod σ (zbk σ 3)) ((zst σ (zbk σ 3)).1) ((zst σ (zbk σ 3)).2.2) (dgB (zod σ (zbk σ 2)) ((zst σ (zbk σ 2)).1) ((zst σ (zbk σ 2)).2.2) (dgB (zod σ (zbk σ 1)) ((zst σ (zbk σ 1)).1) ((zst σ (zbk σ 1)).2.2) (dgB (zod σ (zbk σ 0)) ((zst σ (zbk σ 0)).1) ((zst σ (zbk σ 0)).2.2) 17706)))))) 0) (if zwt σ = 0 then -1 else keyR (zod σ j) (zwl σ)))))) (hfact σ 0)))), (0, .ref ((gbg G)))]) hx hb dX3_digest_125 hl (k := 1) rfl (by decide) rfl (fun ls hl => ?_)
    refine lv_goto (tgt := 110) hx hb dX3_digest_128 (by decide) ?_
    refine lv_iload_n hx hb dX3_digest_110 rfl (lv_at hl 0 rfl) ?_
    refine q_iconst hx hb dX3_digest_111 ?_
    refine q_icmp_gt hx hb dX3_digest_112 (tgt := 131) (by decide) (by omega) (by omega) (fun c31 => absurd c31 (by omega)) (fun c31 => ?_)
    refine lv_lload_n hx hb dX3_digest_115 rfl (lv_at hl 1 rfl) ?_
    refine lv_aload_n hx hb dX3_digest_116 rfl (lv_at hl 2 rfl) ?_
    refine lv_iload_n hx hb dX3_digest_117 rfl (lv_at hl 0 rfl) ?_
    refine q_vS C0 lX3_238 (c_X3_houseFact l D y L F O G σ 1 hC (by omega)) ⟨rfl, rfl⟩ rfl hP hC.1.1 hC.1.2 rfl rfl rfl hl rfl (Nat.le_of_ble_eq_true rfl) dX3_digest_118 ⟨Nat.zero_le _, Nat.zero_le _⟩ (fun r32 e_r32 => ?_)
    replace e_r32 := e_r32.symm
    subst e_r32
    refine q_sSl C0 lX3_261 (c_X3_mixed l D y L F (mxd (dgS (zod σ (zsh σ 2)) ((zst σ (zsh σ 2)).1) ((zst σ (zsh σ 2)).2.2) (dgS (zod σ (zsh σ 1)) ((zst σ (zsh σ 1)).1) ((zst σ (zsh σ 1)).2.2) (dgS (zod σ (zsh σ 0)) ((zst σ (zsh σ 0)).1) ((zst σ (zsh σ 0)).2.2) (mxd (mxd (dgV σ 1 (dgV σ 0 (dgB (zod σ (zbk σ 3)) ((zst σ (zbk σ 3)).1) ((zst σ (zbk σ 3)).2.2) (dgB (zod σ (zbk σ 2)) ((zst σ (zbk σ 2)).1) ((zst σ (zbk σ 2)).2.2) (dgB (zod σ (zbk σ 1)) ((zst σ (zbk σ 1)).1) ((zst σ (zbk σ 1)).2.2) (dgB (zod σ (zbk σ 0)) ((zst σ (zbk σ 0)).1) ((zst σ (zbk σ 0)).2.2) 17706)))))) 0) (if zwt σ = 0 then -1 else keyR (zod σ j) (zwl σ)))))) (hfact σ 0)) (hfact σ 1)) ⟨rfl, rfl⟩ rfl hP rfl hl rfl (Nat.le_of_ble_eq_true rfl) dX3_digest_121 ⟨Nat.zero_le _, Nat.zero_le _⟩ (fun r33 e_r33 => ?_)
    replace e_r33 := e_r33.symm
    subst e_r33
    refine lv_lstore_n (lv' := [(1, .long ((mxd (mxd (dgS (zod σ (zsh σ 2)) ((zst σ (zsh σ 2)).1) ((zst σ (zsh σ 2)).2.2) (dgS (zod σ (zsh σ 1)) ((zst σ (zsh σ 1)).1) ((zst σ (zsh σ 1)).2.2) (dgS (zod σ (zsh σ 0)) ((zst σ (zsh σ 0)).1) ((zst σ (zsh σ 0)).2.2) (mxd (mxd (dgV σ 1 (dgV σ 0 (dgB (zod σ (zbk σ 3)) ((zst σ (zbk σ 3)).1) ((zst σ (zbk σ 3)).2.2) (dgB (zod σ (zbk σ 2)) ((zst σ (zbk σ 2)).1) ((zst σ (zbk σ 2)).2.2) (dgB (zod σ (zbk σ 1)) ((zst σ (zbk σ 1)).1) ((zst σ (zbk σ 1)).2.2) (dgB (zod σ (zbk σ 0)) ((zst σ (zbk σ 0)).1) ((zst σ (zbk σ 0)).2.2) 17706)))))) 0) (if zwt σ = 0 then -1 else keyR (zod σ j) (zwl σ)))))) (hfact σ 0)) (hfact σ 1)))), (3, .int (iI 1)), (0, .ref ((gbg G)))]) hx hb dX3_digest_124 rfl hl (by decide) rfl (fun ls hl => ?_)
    refine q_iinc (x := 1) (n := 1) (lv' := [(3, .int (iI 2)), (1, .long ((mxd (mxd (dgS (zod σ (zsh σ 2)) ((zst σ (zsh σ 2)).1) ((zst σ (zsh σ 2)).2.2) (dgS (zod σ (zsh σ 1)) ((zst σ (zsh σ 1)).1) ((zst σ (zsh σ 1)).2.2) (dgS (zod σ (zsh σ 0)) ((zst σ (zsh σ 0)).1) ((zst σ (zsh σ 0)).2.2) (mxd (mxd (dgV σ 1 (dgV σ 0 (dgB (zod σ (zbk σ 3)) ((zst σ (zbk σ 3)).1) ((zst σ (zbk σ 3)).2.2) (dgB (zod σ (zbk σ 2)) ((zst σ (zbk σ 2)).1) ((zst σ (zbk σ 2)).2.2) (dgB (zod σ (zbk σ 1)) ((zst σ (zbk σ 1)).1) ((zst σ (zbk σ 1)).2.2) (dgB (zod σ (zbk σ 0)) ((zst σ (zbk σ 0)).1) ((zst σ (zbk σ 0)).2.2) 17706)))))) 0) (if zwt σ = 0 then -1 else keyR (zod σ j) (zwl σ)))))) (hfact σ 0)) (hfact σ 1)))), (0, .ref ((gbg G)))]) hx hb dX3_digest_125 hl (k := 1) rfl (by decide) rfl (fun ls hl => ?_)
    refine lv_goto (tgt := 110) hx hb dX3_digest_128 (by decide) ?_
    refine lv_iload_n hx hb dX3_digest_110 rfl (lv_at hl 0 rfl) ?_
    refine q_iconst hx hb dX3_digest_111 ?_
    refine q_icmp_gt hx hb dX3_digest_112 (tgt := 131) (by decide) (by omega) (by omega) (fun c34 => absurd c34 (by omega)) (fun c34 => ?_)
    refine lv_lload_n hx hb dX3_digest_115 rfl (lv_at hl 1 rfl) ?_
    refine lv_aload_n hx hb dX3_digest_116 rfl (lv_at hl 2 rfl) ?_
    refine lv_iload_n hx hb dX3_digest_117 rfl (lv_at hl 0 rfl) ?_
    refine q_vS C0 lX3_238 (c_X3_houseFact l D y L F O G σ 2 hC (by omega)) ⟨rfl, rfl⟩ rfl hP hC.1.1 hC.1.2 rfl rfl rfl hl rfl (Nat.le_of_ble_eq_true rfl) dX3_digest_118 ⟨Nat.zero_le _, Nat.zero_le _⟩ (fun r35 e_r35 => ?_)
    replace e_r35 := e_r35.symm
    subst e_r35
    refine q_sSl C0 lX3_261 (c_X3_mixed l D y L F (mxd (mxd (dgS (zod σ (zsh σ 2)) ((zst σ (zsh σ 2)).1) ((zst σ (zsh σ 2)).2.2) (dgS (zod σ (zsh σ 1)) ((zst σ (zsh σ 1)).1) ((zst σ (zsh σ 1)).2.2) (dgS (zod σ (zsh σ 0)) ((zst σ (zsh σ 0)).1) ((zst σ (zsh σ 0)).2.2) (mxd (mxd (dgV σ 1 (dgV σ 0 (dgB (zod σ (zbk σ 3)) ((zst σ (zbk σ 3)).1) ((zst σ (zbk σ 3)).2.2) (dgB (zod σ (zbk σ 2)) ((zst σ (zbk σ 2)).1) ((zst σ (zbk σ 2)).2.2) (dgB (zod σ (zbk σ 1)) ((zst σ (zbk σ 1)).1) ((zst σ (zbk σ 1)).2.2) (dgB (zod σ (zbk σ 0)) ((zst σ (zbk σ 0)).1) ((zst σ (zbk σ 0)).2.2) 17706)))))) 0) (if zwt σ = 0 then -1 else keyR (zod σ j) (zwl σ)))))) (hfact σ 0)) (hfact σ 1)) (hfact σ 2)) ⟨rfl, rfl⟩ rfl hP rfl hl rfl (Nat.le_of_ble_eq_true rfl) dX3_digest_121 ⟨Nat.zero_le _, Nat.zero_le _⟩ (fun r36 e_r36 => ?_)
    replace e_r36 := e_r36.symm
    subst e_r36
    refine lv_lstore_n (lv' := [(1, .long ((mxd (mxd (mxd (dgS (zod σ (zsh σ 2)) ((zst σ (zsh σ 2)).1) ((zst σ (zsh σ 2)).2.2) (dgS (zod σ (zsh σ 1)) ((zst σ (zsh σ 1)).1) ((zst σ (zsh σ 1)).2.2) (dgS (zod σ (zsh σ 0)) ((zst σ (zsh σ 0)).1) ((zst σ (zsh σ 0)).2.2) (mxd (mxd (dgV σ 1 (dgV σ 0 (dgB (zod σ (zbk σ 3)) ((zst σ (zbk σ 3)).1) ((zst σ (zbk σ 3)).2.2) (dgB (zod σ (zbk σ 2)) ((zst σ (zbk σ 2)).1) ((zst σ (zbk σ 2)).2.2) (dgB (zod σ (zbk σ 1)) ((zst σ (zbk σ 1)).1) ((zst σ (zbk σ 1)).2.2) (dgB (zod σ (zbk σ 0)) ((zst σ (zbk σ 0)).1) ((zst σ (zbk σ 0)).2.2) 17706)))))) 0) (if zwt σ = 0 then -1 else keyR (zod σ j) (zwl σ)))))) (hfact σ 0)) (hfact σ 1)) (hfact σ 2)))), (3, .int (iI 2)), (0, .ref ((gbg G)))]) hx hb dX3_digest_124 rfl hl (by decide) rfl (fun ls hl => ?_)
    refine q_iinc (x := 2) (n := 1) (lv' := [(3, .int (iI 3)), (1, .long ((mxd (mxd (mxd (dgS (zod σ (zsh σ 2)) ((zst σ (zsh σ 2)).1) ((zst σ (zsh σ 2)).2.2) (dgS (zod σ (zsh σ 1)) ((zst σ (zsh σ 1)).1) ((zst σ (zsh σ 1)).2.2) (dgS (zod σ (zsh σ 0)) ((zst σ (zsh σ 0)).1) ((zst σ (zsh σ 0)).2.2) (mxd (mxd (dgV σ 1 (dgV σ 0 (dgB (zod σ (zbk σ 3)) ((zst σ (zbk σ 3)).1) ((zst σ (zbk σ 3)).2.2) (dgB (zod σ (zbk σ 2)) ((zst σ (zbk σ 2)).1) ((zst σ (zbk σ 2)).2.2) (dgB (zod σ (zbk σ 1)) ((zst σ (zbk σ 1)).1) ((zst σ (zbk σ 1)).2.2) (dgB (zod σ (zbk σ 0)) ((zst σ (zbk σ 0)).1) ((zst σ (zbk σ 0)).2.2) 17706)))))) 0) (if zwt σ = 0 then -1 else keyR (zod σ j) (zwl σ)))))) (hfact σ 0)) (hfact σ 1)) (hfact σ 2)))), (0, .ref ((gbg G)))]) hx hb dX3_digest_125 hl (k := 1) rfl (by decide) rfl (fun ls hl => ?_)
    refine lv_goto (tgt := 110) hx hb dX3_digest_128 (by decide) ?_
    refine lv_iload_n hx hb dX3_digest_110 rfl (lv_at hl 0 rfl) ?_
    refine q_iconst hx hb dX3_digest_111 ?_
    refine q_icmp_gt hx hb dX3_digest_112 (tgt := 131) (by decide) (by omega) (by omega) (fun c37 => absurd c37 (by omega)) (fun c37 => ?_)
    refine lv_lload_n hx hb dX3_digest_115 rfl (lv_at hl 1 rfl) ?_
    refine lv_aload_n hx hb dX3_digest_116 rfl (lv_at hl 2 rfl) ?_
    refine lv_iload_n hx hb dX3_digest_117 rfl (lv_at hl 0 rfl) ?_
    refine q_vS C0 lX3_238 (c_X3_houseFact l D y L F O G σ 3 hC (by omega)) ⟨rfl, rfl⟩ rfl hP hC.1.1 hC.1.2 rfl rfl rfl hl rfl (Nat.le_of_ble_eq_true rfl) dX3_digest_118 ⟨Nat.zero_le _, Nat.zero_le _⟩ (fun r38 e_r38 => ?_)
    replace e_r38 := e_r38.symm
    subst e_r38
    refine q_sSl C0 lX3_261 (c_X3_mixed l D y L F (mxd (mxd (mxd (dgS (zod σ (zsh σ 2)) ((zst σ (zsh σ 2)).1) ((zst σ (zsh σ 2)).2.2) (dgS (zod σ (zsh σ 1)) ((zst σ (zsh σ 1)).1) ((zst σ (zsh σ 1)).2.2) (dgS (zod σ (zsh σ 0)) ((zst σ (zsh σ 0)).1) ((zst σ (zsh σ 0)).2.2) (mxd (mxd (dgV σ 1 (dgV σ 0 (dgB (zod σ (zbk σ 3)) ((zst σ (zbk σ 3)).1) ((zst σ (zbk σ 3)).2.2) (dgB (zod σ (zbk σ 2)) ((zst σ (zbk σ 2)).1) ((zst σ (zbk σ 2)).2.2) (dgB (zod σ (zbk σ 1)) ((zst σ (zbk σ 1)).1) ((zst σ (zbk σ 1)).2.2) (dgB (zod σ (zbk σ 0)) ((zst σ (zbk σ 0)).1) ((zst σ (zbk σ 0)).2.2) 17706)))))) 0) (if zwt σ = 0 then -1 else keyR (zod σ j) (zwl σ)))))) (hfact σ 0)) (hfact σ 1)) (hfact σ 2)) (hfact σ 3)) ⟨rfl, rfl⟩ rfl hP rfl hl rfl (Nat.le_of_ble_eq_true rfl) dX3_digest_121 ⟨Nat.zero_le _, Nat.zero_le _⟩ (fun r39 e_r39 => ?_)
    replace e_r39 := e_r39.symm
    subst e_r39
    refine lv_lstore_n (lv' := [(1, .long ((mxd (mxd (mxd (mxd (dgS (zod σ (zsh σ 2)) ((zst σ (zsh σ 2)).1) ((zst σ (zsh σ 2)).2.2) (dgS (zod σ (zsh σ 1)) ((zst σ (zsh σ 1)).1) ((zst σ (zsh σ 1)).2.2) (dgS (zod σ (zsh σ 0)) ((zst σ (zsh σ 0)).1) ((zst σ (zsh σ 0)).2.2) (mxd (mxd (dgV σ 1 (dgV σ 0 (dgB (zod σ (zbk σ 3)) ((zst σ (zbk σ 3)).1) ((zst σ (zbk σ 3)).2.2) (dgB (zod σ (zbk σ 2)) ((zst σ (zbk σ 2)).1) ((zst σ (zbk σ 2)).2.2) (dgB (zod σ (zbk σ 1)) ((zst σ (zbk σ 1)).1) ((zst σ (zbk σ 1)).2.2) (dgB (zod σ (zbk σ 0)) ((zst σ (zbk σ 0)).1) ((zst σ (zbk σ 0)).2.2) 17706)))))) 0) (if zwt σ = 0 then -1 else keyR (zod σ j) (zwl σ)))))) (hfact σ 0)) (hfact σ 1)) (hfact σ 2)) (hfact σ 3)))), (3, .int (iI 3)), (0, .ref ((gbg G)))]) hx hb dX3_digest_124 rfl hl (by decide) rfl (fun ls hl => ?_)
    refine q_iinc (x := 3) (n := 1) (lv' := [(3, .int (iI 4)), (1, .long ((mxd (mxd (mxd (mxd (dgS (zod σ (zsh σ 2)) ((zst σ (zsh σ 2)).1) ((zst σ (zsh σ 2)).2.2) (dgS (zod σ (zsh σ 1)) ((zst σ (zsh σ 1)).1) ((zst σ (zsh σ 1)).2.2) (dgS (zod σ (zsh σ 0)) ((zst σ (zsh σ 0)).1) ((zst σ (zsh σ 0)).2.2) (mxd (mxd (dgV σ 1 (dgV σ 0 (dgB (zod σ (zbk σ 3)) ((zst σ (zbk σ 3)).1) ((zst σ (zbk σ 3)).2.2) (dgB (zod σ (zbk σ 2)) ((zst σ (zbk σ 2)).1) ((zst σ (zbk σ 2)).2.2) (dgB (zod σ (zbk σ 1)) ((zst σ (zbk σ 1)).1) ((zst σ (zbk σ 1)).2.2) (dgB (zod σ (zbk σ 0)) ((zst σ (zbk σ 0)).1) ((zst σ (zbk σ 0)).2.2) 17706)))))) 0) (if zwt σ = 0 then -1 else keyR (zod σ j) (zwl σ)))))) (hfact σ 0)) (hfact σ 1)) (hfact σ 2)) (hfact σ 3)))), (0, .ref ((gbg G)))]) hx hb dX3_digest_125 hl (k := 1) rfl (by decide) rfl (fun ls hl => ?_)
    refine lv_goto (tgt := 110) hx hb dX3_digest_128 (by decide) ?_
    refine lv_iload_n hx hb dX3_digest_110 rfl (lv_at hl 0 rfl) ?_
    refine q_iconst hx hb dX3_digest_111 ?_
    refine q_icmp_gt hx hb dX3_digest_112 (tgt := 131) (by decide) (by omega) (by omega) (fun c40 => ?_) (fun c40 => absurd c40 (by omega))
    refine lv_lload_n hx hb dX3_digest_131 rfl (lv_at hl 1 rfl) ?_
    refine lv_aload_n hx hb dX3_digest_132 rfl (lv_at hl 2 rfl) ?_
    refine q_vMi C0 lX3_271 (c_X3_isSound l D y L F _ O G σ hC hW) ⟨rfl, rfl⟩ rfl hP hD hS hA hC.1.1 hC.1.2 rfl rfl rfl hl rfl (Nat.le_of_ble_eq_true rfl) dX3_digest_133 ⟨Nat.le_of_ble_eq_true rfl, Nat.le_of_ble_eq_true rfl⟩ (fun r41 H locs L42 F42 hP hD hS hz42 hp42 => ?_)
    refine W.widen (k := 14) (n := 728) (Nat.le_of_ble_eq_true rfl) (Nat.le_of_ble_eq_true rfl) ?_
    obtain ⟨er, hC, hLs43, hfr43⟩ := hp42
    replace er := er.symm
    subst er
    have hfr : ∀ a ∈ L, F42 a = F a := fun a h1 => (hfr43 a (hLs a h1)).trans (hfr a h1)
    have hLs : ∀ a ∈ L, a ∈ L42 := fun a h1 => hLs43 a (hLs a h1)
    have b_r41 := kR_isSound_b σ
    refine q_if_eq hx hb dX3_digest_136 (tgt := 143) (by decide) (by omega) (fun c44 => ?_) (fun c44 => ?_)
    · refine q_iconst hx hb dX3_digest_143 ?_
      refine q_sSl C0 lX3_261 (c_X3_mixed l D y L42 F42 (mxd (mxd (mxd (mxd (dgS (zod σ (zsh σ 2)) ((zst σ (zsh σ 2)).1) ((zst σ (zsh σ 2)).2.2) (dgS (zod σ (zsh σ 1)) ((zst σ (zsh σ 1)).1) ((zst σ (zsh σ 1)).2.2) (dgS (zod σ (zsh σ 0)) ((zst σ (zsh σ 0)).1) ((zst σ (zsh σ 0)).2.2) (mxd (mxd (dgV σ 1 (dgV σ 0 (dgB (zod σ (zbk σ 3)) ((zst σ (zbk σ 3)).1) ((zst σ (zbk σ 3)).2.2) (dgB (zod σ (zbk σ 2)) ((zst σ (zbk σ 2)).1) ((zst σ (zbk σ 2)).2.2) (dgB (zod σ (zbk σ 1)) ((zst σ (zbk σ 1)).1) ((zst σ (zbk σ 1)).2.2) (dgB (zod σ (zbk σ 0)) ((zst σ (zbk σ 0)).1) ((zst σ (zbk σ 0)).2.2) 17706)))))) 0) (if zwt σ = 0 then -1 else keyR (zod σ j) (zwl σ)))))) (hfact σ 0)) (hfact σ 1)) (hfact σ 2)) (hfact σ 3)) 0) ⟨rfl, rfl⟩ rfl hP rfl hl rfl (Nat.le_of_ble_eq_true rfl) dX3_digest_144 ⟨Nat.le_of_ble_eq_true rfl, Nat.le_of_ble_eq_true rfl⟩ (fun r45 e_r45 => ?_)
      replace e_r45 := e_r45.symm
      subst e_r45
      exact q_retMl C0 hret hlk dX3_digest_147 hP hD hS (⟨(by unfold kR_digest1 dgA; rw [show goI σ j = 0 by omega]; rw [show kR_isSound σ = 0 by omega]; rfl), hC, hLs, hfr⟩)
    · refine q_iconst hx hb dX3_digest_139 ?_
      refine lv_goto (tgt := 144) hx hb dX3_digest_140 (by decide) ?_
      refine q_sSl C0 lX3_261 (c_X3_mixed l D y L42 F42 (mxd (mxd (mxd (mxd (dgS (zod σ (zsh σ 2)) ((zst σ (zsh σ 2)).1) ((zst σ (zsh σ 2)).2.2) (dgS (zod σ (zsh σ 1)) ((zst σ (zsh σ 1)).1) ((zst σ (zsh σ 1)).2.2) (dgS (zod σ (zsh σ 0)) ((zst σ (zsh σ 0)).1) ((zst σ (zsh σ 0)).2.2) (mxd (mxd (dgV σ 1 (dgV σ 0 (dgB (zod σ (zbk σ 3)) ((zst σ (zbk σ 3)).1) ((zst σ (zbk σ 3)).2.2) (dgB (zod σ (zbk σ 2)) ((zst σ (zbk σ 2)).1) ((zst σ (zbk σ 2)).2.2) (dgB (zod σ (zbk σ 1)) ((zst σ (zbk σ 1)).1) ((zst σ (zbk σ 1)).2.2) (dgB (zod σ (zbk σ 0)) ((zst σ (zbk σ 0)).1) ((zst σ (zbk σ 0)).2.2) 17706)))))) 0) (if zwt σ = 0 then -1 else keyR (zod σ j) (zwl σ)))))) (hfact σ 0)) (hfact σ 1)) (hfact σ 2)) (hfact σ 3)) 1) ⟨rfl, rfl⟩ rfl hP rfl hl rfl (Nat.le_of_ble_eq_true rfl) dX3_digest_144 ⟨Nat.le_of_ble_eq_true rfl, Nat.le_of_ble_eq_true rfl⟩ (fun r46 e_r46 => ?_)
      replace e_r46 := e_r46.symm
      subst e_r46
      exact q_retMl C0 hret hlk dX3_digest_147 hP hD hS (⟨(by unfold kR_digest1 dgA; rw [show goI σ j = 0 by omega]; rw [show kR_isSound σ = 1 by omega]; rfl), hC, hLs, hfr⟩)
  · refine q_iconst hx hb dX3_digest_63 ?_
    refine lv_goto (tgt := 68) hx hb dX3_digest_64 (by decide) ?_
    refine q_sSl C0 lX3_261 (c_X3_mixed l D y L F (dgV σ 1 (dgV σ 0 (dgB (zod σ (zbk σ 3)) ((zst σ (zbk σ 3)).1) ((zst σ (zbk σ 3)).2.2) (dgB (zod σ (zbk σ 2)) ((zst σ (zbk σ 2)).1) ((zst σ (zbk σ 2)).2.2) (dgB (zod σ (zbk σ 1)) ((zst σ (zbk σ 1)).1) ((zst σ (zbk σ 1)).2.2) (dgB (zod σ (zbk σ 0)) ((zst σ (zbk σ 0)).1) ((zst σ (zbk σ 0)).2.2) 17706)))))) 1) ⟨rfl, rfl⟩ rfl hP rfl hl rfl (Nat.le_of_ble_eq_true rfl) dX3_digest_68 ⟨Nat.zero_le _, Nat.zero_le _⟩ (fun r47 e_r47 => ?_)
    replace e_r47 := e_r47.symm
    subst e_r47
    refine lv_lstore_n (lv' := [(1, .long ((mxd (dgV σ 1 (dgV σ 0 (dgB (zod σ (zbk σ 3)) ((zst σ (zbk σ 3)).1) ((zst σ (zbk σ 3)).2.2) (dgB (zod σ (zbk σ 2)) ((zst σ (zbk σ 2)).1) ((zst σ (zbk σ 2)).2.2) (dgB (zod σ (zbk σ 1)) ((zst σ (zbk σ 1)).1) ((zst σ (zbk σ 1)).2.2) (dgB (zod σ (zbk σ 0)) ((zst σ (zbk σ 0)).1) ((zst σ (zbk σ 0)).2.2) 17706)))))) 1))), (3, .int (iI 2)), (0, .ref ((gbg G)))]) hx hb dX3_digest_71 rfl hl (by decide) rfl (fun ls hl => ?_)
    refine lv_lload_n hx hb dX3_digest_72 rfl (lv_at hl 0 rfl) ?_
    refine lv_aload_n hx hb dX3_digest_73 rfl (lv_at hl 2 rfl) ?_
    refine q_get C0 iX3 hP hC.1.1 hC.1.2 rfl 3 (by decide) flX3_33 rfl rfl dX3_digest_74 ?_
    refine q_vS C0 lX3_265 (c_X2_toldKey1 l D y L F O G σ j hC hwk (hW.2.2.2.1 _ hwk) (by omega) (by omega)) ⟨rfl, rfl⟩ rfl hP (CP_k1 hC hwk).1 (CP_k1 hC hwk).2 rfl rfl rfl hl rfl (Nat.le_of_ble_eq_true rfl) dX3_digest_77 ⟨Nat.zero_le _, Nat.zero_le _⟩ (fun r48 e_r48 => ?_)
    replace e_r48 := e_r48.symm
    subst e_r48
    refine q_sSl C0 lX3_261 (c_X3_mixed l D y L F (mxd (dgV σ 1 (dgV σ 0 (dgB (zod σ (zbk σ 3)) ((zst σ (zbk σ 3)).1) ((zst σ (zbk σ 3)).2.2) (dgB (zod σ (zbk σ 2)) ((zst σ (zbk σ 2)).1) ((zst σ (zbk σ 2)).2.2) (dgB (zod σ (zbk σ 1)) ((zst σ (zbk σ 1)).1) ((zst σ (zbk σ 1)).2.2) (dgB (zod σ (zbk σ 0)) ((zst σ (zbk σ 0)).1) ((zst σ (zbk σ 0)).2.2) 17706)))))) 1) (if zwt σ = 0 then -1 else keyR (zod σ j) (zwl σ))) ⟨rfl, rfl⟩ rfl hP rfl hl rfl (Nat.le_of_ble_eq_true rfl) dX3_digest_80 ⟨Nat.zero_le _, Nat.zero_le _⟩ (fun r49 e_r49 => ?_)
    replace e_r49 := e_r49.symm
    subst e_r49
    refine lv_lstore_n (lv' := [(1, .long ((mxd (mxd (dgV σ 1 (dgV σ 0 (dgB (zod σ (zbk σ 3)) ((zst σ (zbk σ 3)).1) ((zst σ (zbk σ 3)).2.2) (dgB (zod σ (zbk σ 2)) ((zst σ (zbk σ 2)).1) ((zst σ (zbk σ 2)).2.2) (dgB (zod σ (zbk σ 1)) ((zst σ (zbk σ 1)).1) ((zst σ (zbk σ 1)).2.2) (dgB (zod σ (zbk σ 0)) ((zst σ (zbk σ 0)).1) ((zst σ (zbk σ 0)).2.2) 17706)))))) 1) (if zwt σ = 0 then -1 else keyR (zod σ j) (zwl σ))))), (3, .int (iI 2)), (0, .ref ((gbg G)))]) hx hb dX3_digest_83 rfl hl (by decide) rfl (fun ls hl => ?_)
    refine q_iconst hx hb dX3_digest_84 ?_
    refine lv_istore_n (lv' := [(3, .int (iI 0)), (1, .long ((mxd (mxd (dgV σ 1 (dgV σ 0 (dgB (zod σ (zbk σ 3)) ((zst σ (zbk σ 3)).1) ((zst σ (zbk σ 3)).2.2) (dgB (zod σ (zbk σ 2)) ((zst σ (zbk σ 2)).1) ((zst σ (zbk σ 2)).2.2) (dgB (zod σ (zbk σ 1)) ((zst σ (zbk σ 1)).1) ((zst σ (zbk σ 1)).2.2) (dgB (zod σ (zbk σ 0)) ((zst σ (zbk σ 0)).1) ((zst σ (zbk σ 0)).2.2) 17706)))))) 1) (if zwt σ = 0 then -1 else keyR (zod σ j) (zwl σ))))), (0, .ref ((gbg G)))]) hx hb dX3_digest_85 rfl hl (by decide) rfl (fun ls hl => ?_)
    refine lv_iload_n hx hb dX3_digest_86 rfl (lv_at hl 0 rfl) ?_
    refine q_iconst hx hb dX3_digest_87 ?_
    refine q_icmp_ge hx hb dX3_digest_88 (tgt := 108) (by decide) (by omega) (by omega) (fun c50 => absurd c50 (by omega)) (fun c50 => ?_)
    refine lv_lload_n hx hb dX3_digest_91 rfl (lv_at hl 1 rfl) ?_
    refine lv_aload_n hx hb dX3_digest_92 rfl (lv_at hl 2 rfl) ?_
    refine q_get C0 iX3 hP hC.1.1 hC.1.2 rfl 1 (by decide) flX3_18 rfl rfl dX3_digest_93 ?_
    refine lv_iload_n hx hb dX3_digest_96 rfl (lv_at hl 0 rfl) ?_
    refine q_aald C0 hP hC.2.2.1.1 hC.2.2.1.2 (t := 1) rfl (by omega) (by decide) (v := .ref ((grh G (zsh σ 0)))) rfl dX3_digest_97 ?_
    refine q_sSl C0 lX3_268 (c_X3_digestShelf l D y L F (grh G (zsh σ 0)) (grw G (zsh σ 0)) (zod σ (zsh σ 0)) ((zst σ (zsh σ 0)).1) ((zst σ (zsh σ 0)).2.1) ((zst σ (zsh σ 0)).2.2) (mxd (mxd (dgV σ 1 (dgV σ 0 (dgB (zod σ (zbk σ 3)) ((zst σ (zbk σ 3)).1) ((zst σ (zbk σ 3)).2.2) (dgB (zod σ (zbk σ 2)) ((zst σ (zbk σ 2)).1) ((zst σ (zbk σ 2)).2.2) (dgB (zod σ (zbk σ 1)) ((zst σ (zbk σ 1)).1) ((zst σ (zbk σ 1)).2.2) (dgB (zod σ (zbk σ 0)) ((zst σ (zbk σ 0)).1) ((zst σ (zbk σ 0)).2.2) 17706)))))) 1) (if zwt σ = 0 then -1 else keyR (zod σ j) (zwl σ))) (CP_r hC (hW.2.1 0)) (by have := hW.2.2.2.2.2.2.2.2.2.1 _ (hW.2.1 0); omega)) ⟨rfl, rfl⟩ rfl hP rfl hl rfl (Nat.le_of_ble_eq_true rfl) dX3_digest_98 ⟨Nat.zero_le _, Nat.zero_le _⟩ (fun r51 e_r51 => ?_)
    replace e_r51 := e_r51.symm
    subst e_r51
    refine lv_lstore_n (lv' := [(1, .long ((dgS (zod σ (zsh σ 0)) ((zst σ (zsh σ 0)).1) ((zst σ (zsh σ 0)).2.2) (mxd (mxd (dgV σ 1 (dgV σ 0 (dgB (zod σ (zbk σ 3)) ((zst σ (zbk σ 3)).1) ((zst σ (zbk σ 3)).2.2) (dgB (zod σ (zbk σ 2)) ((zst σ (zbk σ 2)).1) ((zst σ (zbk σ 2)).2.2) (dgB (zod σ (zbk σ 1)) ((zst σ (zbk σ 1)).1) ((zst σ (zbk σ 1)).2.2) (dgB (zod σ (zbk σ 0)) ((zst σ (zbk σ 0)).1) ((zst σ (zbk σ 0)).2.2) 17706)))))) 1) (if zwt σ = 0 then -1 else keyR (zod σ j) (zwl σ)))))), (3, .int (iI 0)), (0, .ref ((gbg G)))]) hx hb dX3_digest_101 rfl hl (by decide) rfl (fun ls hl => ?_)
    refine q_iinc (x := 0) (n := 1) (lv' := [(3, .int (iI 1)), (1, .long ((dgS (zod σ (zsh σ 0)) ((zst σ (zsh σ 0)).1) ((zst σ (zsh σ 0)).2.2) (mxd (mxd (dgV σ 1 (dgV σ 0 (dgB (zod σ (zbk σ 3)) ((zst σ (zbk σ 3)).1) ((zst σ (zbk σ 3)).2.2) (dgB (zod σ (zbk σ 2)) ((zst σ (zbk σ 2)).1) ((zst σ (zbk σ 2)).2.2) (dgB (zod σ (zbk σ 1)) ((zst σ (zbk σ 1)).1) ((zst σ (zbk σ 1)).2.2) (dgB (zod σ (zbk σ 0)) ((zst σ (zbk σ 0)).1) ((zst σ (zbk σ 0)).2.2) 17706)))))) 1) (if zwt σ = 0 then -1 else keyR (zod σ j) (zwl σ)))))), (0, .ref ((gbg G)))]) hx hb dX3_digest_102 hl (k := 1) rfl (by decide) rfl (fun ls hl => ?_)
    refine lv_goto (tgt := 86) hx hb dX3_digest_105 (by decide) ?_
    refine lv_iload_n hx hb dX3_digest_86 rfl (lv_at hl 0 rfl) ?_
    refine q_iconst hx hb dX3_digest_87 ?_
    refine q_icmp_ge hx hb dX3_digest_88 (tgt := 108) (by decide) (by omega) (by omega) (fun c52 => absurd c52 (by omega)) (fun c52 => ?_)
    refine lv_lload_n hx hb dX3_digest_91 rfl (lv_at hl 1 rfl) ?_
    refine lv_aload_n hx hb dX3_digest_92 rfl (lv_at hl 2 rfl) ?_
    refine q_get C0 iX3 hP hC.1.1 hC.1.2 rfl 1 (by decide) flX3_18 rfl rfl dX3_digest_93 ?_
    refine lv_iload_n hx hb dX3_digest_96 rfl (lv_at hl 0 rfl) ?_
    refine q_aald C0 hP hC.2.2.1.1 hC.2.2.1.2 (t := 1) rfl (by omega) (by decide) (v := .ref ((grh G (zsh σ 1)))) rfl dX3_digest_97 ?_
    refine q_sSl C0 lX3_268 (c_X3_digestShelf l D y L F (grh G (zsh σ 1)) (grw G (zsh σ 1)) (zod σ (zsh σ 1)) ((zst σ (zsh σ 1)).1) ((zst σ (zsh σ 1)).2.1) ((zst σ (zsh σ 1)).2.2) (dgS (zod σ (zsh σ 0)) ((zst σ (zsh σ 0)).1) ((zst σ (zsh σ 0)).2.2) (mxd (mxd (dgV σ 1 (dgV σ 0 (dgB (zod σ (zbk σ 3)) ((zst σ (zbk σ 3)).1) ((zst σ (zbk σ 3)).2.2) (dgB (zod σ (zbk σ 2)) ((zst σ (zbk σ 2)).1) ((zst σ (zbk σ 2)).2.2) (dgB (zod σ (zbk σ 1)) ((zst σ (zbk σ 1)).1) ((zst σ (zbk σ 1)).2.2) (dgB (zod σ (zbk σ 0)) ((zst σ (zbk σ 0)).1) ((zst σ (zbk σ 0)).2.2) 17706)))))) 1) (if zwt σ = 0 then -1 else keyR (zod σ j) (zwl σ)))) (CP_r hC (hW.2.1 1)) (by have := hW.2.2.2.2.2.2.2.2.2.1 _ (hW.2.1 1); omega)) ⟨rfl, rfl⟩ rfl hP rfl hl rfl (Nat.le_of_ble_eq_true rfl) dX3_digest_98 ⟨Nat.zero_le _, Nat.zero_le _⟩ (fun r53 e_r53 => ?_)
    replace e_r53 := e_r53.symm
    subst e_r53
    refine lv_lstore_n (lv' := [(1, .long ((dgS (zod σ (zsh σ 1)) ((zst σ (zsh σ 1)).1) ((zst σ (zsh σ 1)).2.2) (dgS (zod σ (zsh σ 0)) ((zst σ (zsh σ 0)).1) ((zst σ (zsh σ 0)).2.2) (mxd (mxd (dgV σ 1 (dgV σ 0 (dgB (zod σ (zbk σ 3)) ((zst σ (zbk σ 3)).1) ((zst σ (zbk σ 3)).2.2) (dgB (zod σ (zbk σ 2)) ((zst σ (zbk σ 2)).1) ((zst σ (zbk σ 2)).2.2) (dgB (zod σ (zbk σ 1)) ((zst σ (zbk σ 1)).1) ((zst σ (zbk σ 1)).2.2) (dgB (zod σ (zbk σ 0)) ((zst σ (zbk σ 0)).1) ((zst σ (zbk σ 0)).2.2) 17706)))))) 1) (if zwt σ = 0 then -1 else keyR (zod σ j) (zwl σ))))))), (3, .int (iI 1)), (0, .ref ((gbg G)))]) hx hb dX3_digest_101 rfl hl (by decide) rfl (fun ls hl => ?_)
    refine q_iinc (x := 1) (n := 1) (lv' := [(3, .int (iI 2)), (1, .long ((dgS (zod σ (zsh σ 1)) ((zst σ (zsh σ 1)).1) ((zst σ (zsh σ 1)).2.2) (dgS (zod σ (zsh σ 0)) ((zst σ (zsh σ 0)).1) ((zst σ (zsh σ 0)).2.2) (mxd (mxd (dgV σ 1 (dgV σ 0 (dgB (zod σ (zbk σ 3)) ((zst σ (zbk σ 3)).1) ((zst σ (zbk σ 3)).2.2) (dgB (zod σ (zbk σ 2)) ((zst σ (zbk σ 2)).1) ((zst σ (zbk σ 2)).2.2) (dgB (zod σ (zbk σ 1)) ((zst σ (zbk σ 1)).1) ((zst σ (zbk σ 1)).2.2) (dgB (zod σ (zbk σ 0)) ((zst σ (zbk σ 0)).1) ((zst σ (zbk σ 0)).2.2) 17706)))))) 1) (if zwt σ = 0 then -1 else keyR (zod σ j) (zwl σ))))))), (0, .ref ((gbg G)))]) hx hb dX3_digest_102 hl (k := 1) rfl (by decide) rfl (fun ls hl => ?_)
    refine lv_goto (tgt := 86) hx hb dX3_digest_105 (by decide) ?_
    refine lv_iload_n hx hb dX3_digest_86 rfl (lv_at hl 0 rfl) ?_
    refine q_iconst hx hb dX3_digest_87 ?_
    refine q_icmp_ge hx hb dX3_digest_88 (tgt := 108) (by decide) (by omega) (by omega) (fun c54 => absurd c54 (by omega)) (fun c54 => ?_)
    refine lv_lload_n hx hb dX3_digest_91 rfl (lv_at hl 1 rfl) ?_
    refine lv_aload_n hx hb dX3_digest_92 rfl (lv_at hl 2 rfl) ?_
    refine q_get C0 iX3 hP hC.1.1 hC.1.2 rfl 1 (by decide) flX3_18 rfl rfl dX3_digest_93 ?_
    refine lv_iload_n hx hb dX3_digest_96 rfl (lv_at hl 0 rfl) ?_
    refine q_aald C0 hP hC.2.2.1.1 hC.2.2.1.2 (t := 1) rfl (by omega) (by decide) (v := .ref ((grh G (zsh σ 2)))) rfl dX3_digest_97 ?_
    refine q_sSl C0 lX3_268 (c_X3_digestShelf l D y L F (grh G (zsh σ 2)) (grw G (zsh σ 2)) (zod σ (zsh σ 2)) ((zst σ (zsh σ 2)).1) ((zst σ (zsh σ 2)).2.1) ((zst σ (zsh σ 2)).2.2) (dgS (zod σ (zsh σ 1)) ((zst σ (zsh σ 1)).1) ((zst σ (zsh σ 1)).2.2) (dgS (zod σ (zsh σ 0)) ((zst σ (zsh σ 0)).1) ((zst σ (zsh σ 0)).2.2) (mxd (mxd (dgV σ 1 (dgV σ 0 (dgB (zod σ (zbk σ 3)) ((zst σ (zbk σ 3)).1) ((zst σ (zbk σ 3)).2.2) (dgB (zod σ (zbk σ 2)) ((zst σ (zbk σ 2)).1) ((zst σ (zbk σ 2)).2.2) (dgB (zod σ (zbk σ 1)) ((zst σ (zbk σ 1)).1) ((zst σ (zbk σ 1)).2.2) (dgB (zod σ (zbk σ 0)) ((zst σ (zbk σ 0)).1) ((zst σ (zbk σ 0)).2.2) 17706)))))) 1) (if zwt σ = 0 then -1 else keyR (zod σ j) (zwl σ))))) (CP_r hC (hW.2.1 2)) (by have := hW.2.2.2.2.2.2.2.2.2.1 _ (hW.2.1 2); omega)) ⟨rfl, rfl⟩ rfl hP rfl hl rfl (Nat.le_of_ble_eq_true rfl) dX3_digest_98 ⟨Nat.zero_le _, Nat.zero_le _⟩ (fun r55 e_r55 => ?_)
    replace e_r55 := e_r55.symm
    subst e_r55
    refine lv_lstore_n (lv' := [(1, .long ((dgS (zod σ (zsh σ 2)) ((zst σ (zsh σ 2)).1) ((zst σ (zsh σ 2)).2.2) (dgS (zod σ (zsh σ 1)) ((zst σ (zsh σ 1)).1) ((zst σ (zsh σ 1)).2.2) (dgS (zod σ (zsh σ 0)) ((zst σ (zsh σ 0)).1) ((zst σ (zsh σ 0)).2.2) (mxd (mxd (dgV σ 1 (dgV σ 0 (dgB (zod σ (zbk σ 3)) ((zst σ (zbk σ 3)).1) ((zst σ (zbk σ 3)).2.2) (dgB (zod σ (zbk σ 2)) ((zst σ (zbk σ 2)).1) ((zst σ (zbk σ 2)).2.2) (dgB (zod σ (zbk σ 1)) ((zst σ (zbk σ 1)).1) ((zst σ (zbk σ 1)).2.2) (dgB (zod σ (zbk σ 0)) ((zst σ (zbk σ 0)).1) ((zst σ (zbk σ 0)).2.2) 17706)))))) 1) (if zwt σ = 0 then -1 else keyR (zod σ j) (zwl σ)))))))), (3, .int (iI 2)), (0, .ref ((gbg G)))]) hx hb dX3_digest_101 rfl hl (by decide) rfl (fun ls hl => ?_)
    refine q_iinc (x := 2) (n := 1) (lv' := [(3, .int (iI 3)), (1, .long ((dgS (zod σ (zsh σ 2)) ((zst σ (zsh σ 2)).1) ((zst σ (zsh σ 2)).2.2) (dgS (zod σ (zsh σ 1)) ((zst σ (zsh σ 1)).1) ((zst σ (zsh σ 1)).2.2) (dgS (zod σ (zsh σ 0)) ((zst σ (zsh σ 0)).1) ((zst σ (zsh σ 0)).2.2) (mxd (mxd (dgV σ 1 (dgV σ 0 (dgB (zod σ (zbk σ 3)) ((zst σ (zbk σ 3)).1) ((zst σ (zbk σ 3)).2.2) (dgB (zod σ (zbk σ 2)) ((zst σ (zbk σ 2)).1) ((zst σ (zbk σ 2)).2.2) (dgB (zod σ (zbk σ 1)) ((zst σ (zbk σ 1)).1) ((zst σ (zbk σ 1)).2.2) (dgB (zod σ (zbk σ 0)) ((zst σ (zbk σ 0)).1) ((zst σ (zbk σ 0)).2.2) 17706)))))) 1) (if zwt σ = 0 then -1 else keyR (zod σ j) (zwl σ)))))))), (0, .ref ((gbg G)))]) hx hb dX3_digest_102 hl (k := 1) rfl (by decide) rfl (fun ls hl => ?_)
    refine lv_goto (tgt := 86) hx hb dX3_digest_105 (by decide) ?_
    refine lv_iload_n hx hb dX3_digest_86 rfl (lv_at hl 0 rfl) ?_
    refine q_iconst hx hb dX3_digest_87 ?_
    refine q_icmp_ge hx hb dX3_digest_88 (tgt := 108) (by decide) (by omega) (by omega) (fun c56 => ?_) (fun c56 => absurd c56 (by omega))
    refine q_iconst hx hb dX3_digest_108 ?_
    refine lv_istore_n (lv' := [(3, .int (iI 0)), (1, .long ((dgS (zod σ (zsh σ 2)) ((zst σ (zsh σ 2)).1) ((zst σ (zsh σ 2)).2.2) (dgS (zod σ (zsh σ 1)) ((zst σ (zsh σ 1)).1) ((zst σ (zsh σ 1)).2.2) (dgS (zod σ (zsh σ 0)) ((zst σ (zsh σ 0)).1) ((zst σ (zsh σ 0)).2.2) (mxd (mxd (dgV σ 1 (dgV σ 0 (dgB (zod σ (zbk σ 3)) ((zst σ (zbk σ 3)).1) ((zst σ (zbk σ 3)).2.2) (dgB (zod σ (zbk σ 2)) ((zst σ (zbk σ 2)).1) ((zst σ (zbk σ 2)).2.2) (dgB (zod σ (zbk σ 1)) ((zst σ (zbk σ 1)).1) ((zst σ (zbk σ 1)).2.2) (dgB (zod σ (zbk σ 0)) ((zst σ (zbk σ 0)).1) ((zst σ (zbk σ 0)).2.2) 17706)))))) 1) (if zwt σ = 0 then -1 else keyR (zod σ j) (zwl σ)))))))), (0, .ref ((gbg G)))]) hx hb dX3_digest_109 rfl hl (by decide) rfl (fun ls hl => ?_)
    refine lv_iload_n hx hb dX3_digest_110 rfl (lv_at hl 0 rfl) ?_
    refine q_iconst hx hb dX3_digest_111 ?_
    refine q_icmp_gt hx hb dX3_digest_112 (tgt := 131) (by decide) (by omega) (by omega) (fun c57 => absurd c57 (by omega)) (fun c57 => ?_)
    refine lv_lload_n hx hb dX3_digest_115 rfl (lv_at hl 1 rfl) ?_
    refine lv_aload_n hx hb dX3_digest_116 rfl (lv_at hl 2 rfl) ?_
    refine lv_iload_n hx hb dX3_digest_117 rfl (lv_at hl 0 rfl) ?_
    refine q_vS C0 lX3_238 (c_X3_houseFact l D y L F O G σ 0 hC (by omega)) ⟨rfl, rfl⟩ rfl hP hC.1.1 hC.1.2 rfl rfl rfl hl rfl (Nat.le_of_ble_eq_true rfl) dX3_digest_118 ⟨Nat.zero_le _, Nat.zero_le _⟩ (fun r58 e_r58 => ?_)
    replace e_r58 := e_r58.symm
    subst e_r58
    refine q_sSl C0 lX3_261 (c_X3_mixed l D y L F (dgS (zod σ (zsh σ 2)) ((zst σ (zsh σ 2)).1) ((zst σ (zsh σ 2)).2.2) (dgS (zod σ (zsh σ 1)) ((zst σ (zsh σ 1)).1) ((zst σ (zsh σ 1)).2.2) (dgS (zod σ (zsh σ 0)) ((zst σ (zsh σ 0)).1) ((zst σ (zsh σ 0)).2.2) (mxd (mxd (dgV σ 1 (dgV σ 0 (dgB (zod σ (zbk σ 3)) ((zst σ (zbk σ 3)).1) ((zst σ (zbk σ 3)).2.2) (dgB (zod σ (zbk σ 2)) ((zst σ (zbk σ 2)).1) ((zst σ (zbk σ 2)).2.2) (dgB (zod σ (zbk σ 1)) ((zst σ (zbk σ 1)).1) ((zst σ (zbk σ 1)).2.2) (dgB (zod σ (zbk σ 0)) ((zst σ (zbk σ 0)).1) ((zst σ (zbk σ 0)).2.2) 17706)))))) 1) (if zwt σ = 0 then -1 else keyR (zod σ j) (zwl σ)))))) (hfact σ 0)) ⟨rfl, rfl⟩ rfl hP rfl hl rfl (Nat.le_of_ble_eq_true rfl) dX3_digest_121 ⟨Nat.zero_le _, Nat.zero_le _⟩ (fun r59 e_r59 => ?_)
    replace e_r59 := e_r59.symm
    subst e_r59
    refine lv_lstore_n (lv' := [(1, .long ((mxd (dgS (zod σ (zsh σ 2)) ((zst σ (zsh σ 2)).1) ((zst σ (zsh σ 2)).2.2) (dgS (zod σ (zsh σ 1)) ((zst σ (zsh σ 1)).1) ((zst σ (zsh σ 1)).2.2) (dgS (zod σ (zsh σ 0)) ((zst σ (zsh σ 0)).1) ((zst σ (zsh σ 0)).2.2) (mxd (mxd (dgV σ 1 (dgV σ 0 (dgB (zod σ (zbk σ 3)) ((zst σ (zbk σ 3)).1) ((zst σ (zbk σ 3)).2.2) (dgB (zod σ (zbk σ 2)) ((zst σ (zbk σ 2)).1) ((zst σ (zbk σ 2)).2.2) (dgB (zod σ (zbk σ 1)) ((zst σ (zbk σ 1)).1) ((zst σ (zbk σ 1)).2.2) (dgB (zod σ (zbk σ 0)) ((zst σ (zbk σ 0)).1) ((zst σ (zbk σ 0)).2.2) 17706)))))) 1) (if zwt σ = 0 then -1 else keyR (zod σ j) (zwl σ)))))) (hfact σ 0)))), (3, .int (iI 0)), (0, .ref ((gbg G)))]) hx hb dX3_digest_124 rfl hl (by decide) rfl (fun ls hl => ?_)
    refine q_iinc (x := 0) (n := 1) (lv' := [(3, .int (iI 1)), (1, .long ((mxd (dgS (zod σ (zsh σ 2)) ((zst σ (zsh σ 2)).1) ((zst σ (zsh σ 2)).2.2) (dgS (zod σ (zsh σ 1)) ((zst σ (zsh σ 1)).1) ((zst σ (zsh σ 1)).2.2) (dgS (zod σ (zsh σ 0)) ((zst σ (zsh σ 0)).1) ((zst σ (zsh σ 0)).2.2) (mxd (mxd (dgV σ 1 (dgV σ 0 (dgB (zod σ (zbk σ 3)) ((zst σ (zbk σ 3)).1) ((zst σ (zbk σ 3)).2.2) (dgB (zod σ (zbk σ 2)) ((zst σ (zbk σ 2)).1) ((zst σ (zbk σ 2)).2.2) (dgB (zod σ (zbk σ 1)) ((zst σ (zbk σ 1)).1) ((zst σ (zbk σ 1)).2.2) (dgB (zod σ (zbk σ 0)) ((zst σ (zbk σ 0)).1) ((zst σ (zbk σ 0)).2.2) 17706)))))) 1) (if zwt σ = 0 then -1 else keyR (zod σ j) (zwl σ)))))) (hfact σ 0)))), (0, .ref ((gbg G)))]) hx hb dX3_digest_125 hl (k := 1) rfl (by decide) rfl (fun ls hl => ?_)
    refine lv_goto (tgt := 110) hx hb dX3_digest_128 (by decide) ?_
    refine lv_iload_n hx hb dX3_digest_110 rfl (lv_at hl 0 rfl) ?_
    refine q_iconst hx hb dX3_digest_111 ?_
    refine q_icmp_gt hx hb dX3_digest_112 (tgt := 131) (by decide) (by omega) (by omega) (fun c60 => absurd c60 (by omega)) (fun c60 => ?_)
    refine lv_lload_n hx hb dX3_digest_115 rfl (lv_at hl 1 rfl) ?_
    refine lv_aload_n hx hb dX3_digest_116 rfl (lv_at hl 2 rfl) ?_
    refine lv_iload_n hx hb dX3_digest_117 rfl (lv_at hl 0 rfl) ?_
    refine q_vS C0 lX3_238 (c_X3_houseFact l D y L F O G σ 1 hC (by omega)) ⟨rfl, rfl⟩ rfl hP hC.1.1 hC.1.2 rfl rfl rfl hl rfl (Nat.le_of_ble_eq_true rfl) dX3_digest_118 ⟨Nat.zero_le _, Nat.zero_le _⟩ (fun r61 e_r61 => ?_)
    replace e_r61 := e_r61.symm
    subst e_r61
    refine q_sSl C0 lX3_261 (c_X3_mixed l D y L F (mxd (dgS (zod σ (zsh σ 2)) ((zst σ (zsh σ 2)).1) ((zst σ (zsh σ 2)).2.2) (dgS (zod σ (zsh σ 1)) ((zst σ (zsh σ 1)).1) ((zst σ (zsh σ 1)).2.2) (dgS (zod σ (zsh σ 0)) ((zst σ (zsh σ 0)).1) ((zst σ (zsh σ 0)).2.2) (mxd (mxd (dgV σ 1 (dgV σ 0 (dgB (zod σ (zbk σ 3)) ((zst σ (zbk σ 3)).1) ((zst σ (zbk σ 3)).2.2) (dgB (zod σ (zbk σ 2)) ((zst σ (zbk σ 2)).1) ((zst σ (zbk σ 2)).2.2) (dgB (zod σ (zbk σ 1)) ((zst σ (zbk σ 1)).1) ((zst σ (zbk σ 1)).2.2) (dgB (zod σ (zbk σ 0)) ((zst σ (zbk σ 0)).1) ((zst σ (zbk σ 0)).2.2) 17706)))))) 1) (if zwt σ = 0 then -1 else keyR (zod σ j) (zwl σ)))))) (hfact σ 0)) (hfact σ 1)) ⟨rfl, rfl⟩ rfl hP rfl hl rfl (Nat.le_of_ble_eq_true rfl) dX3_digest_121 ⟨Nat.zero_le _, Nat.zero_le _⟩ (fun r62 e_r62 => ?_)
    replace e_r62 := e_r62.symm
    subst e_r62
    refine lv_lstore_n (lv' := [(1, .long ((mxd (mxd (dgS (zod σ (zsh σ 2)) ((zst σ (zsh σ 2)).1) ((zst σ (zsh σ 2)).2.2) (dgS (zod σ (zsh σ 1)) ((zst σ (zsh σ 1)).1) ((zst σ (zsh σ 1)).2.2) (dgS (zod σ (zsh σ 0)) ((zst σ (zsh σ 0)).1) ((zst σ (zsh σ 0)).2.2) (mxd (mxd (dgV σ 1 (dgV σ 0 (dgB (zod σ (zbk σ 3)) ((zst σ (zbk σ 3)).1) ((zst σ (zbk σ 3)).2.2) (dgB (zod σ (zbk σ 2)) ((zst σ (zbk σ 2)).1) ((zst σ (zbk σ 2)).2.2) (dgB (zod σ (zbk σ 1)) ((zst σ (zbk σ 1)).1) ((zst σ (zbk σ 1)).2.2) (dgB (zod σ (zbk σ 0)) ((zst σ (zbk σ 0)).1) ((zst σ (zbk σ 0)).2.2) 17706)))))) 1) (if zwt σ = 0 then -1 else keyR (zod σ j) (zwl σ)))))) (hfact σ 0)) (hfact σ 1)))), (3, .int (iI 1)), (0, .ref ((gbg G)))]) hx hb dX3_digest_124 rfl hl (by decide) rfl (fun ls hl => ?_)
    refine q_iinc (x := 1) (n := 1) (lv' := [(3, .int (iI 2)), (1, .long ((mxd (mxd (dgS (zod σ (zsh σ 2)) ((zst σ (zsh σ 2)).1) ((zst σ (zsh σ 2)).2.2) (dgS (zod σ (zsh σ 1)) ((zst σ (zsh σ 1)).1) ((zst σ (zsh σ 1)).2.2) (dgS (zod σ (zsh σ 0)) ((zst σ (zsh σ 0)).1) ((zst σ (zsh σ 0)).2.2) (mxd (mxd (dgV σ 1 (dgV σ 0 (dgB (zod σ (zbk σ 3)) ((zst σ (zbk σ 3)).1) ((zst σ (zbk σ 3)).2.2) (dgB (zod σ (zbk σ 2)) ((zst σ (zbk σ 2)).1) ((zst σ (zbk σ 2)).2.2) (dgB (zod σ (zbk σ 1)) ((zst σ (zbk σ 1)).1) ((zst σ (zbk σ 1)).2.2) (dgB (zod σ (zbk σ 0)) ((zst σ (zbk σ 0)).1) ((zst σ (zbk σ 0)).2.2) 17706)))))) 1) (if zwt σ = 0 then -1 else keyR (zod σ j) (zwl σ)))))) (hfact σ 0)) (hfact σ 1)))), (0, .ref ((gbg G)))]) hx hb dX3_digest_125 hl (k := 1) rfl (by decide) rfl (fun ls hl => ?_)
    refine lv_goto (tgt := 110) hx hb dX3_digest_128 (by decide) ?_
    refine lv_iload_n hx hb dX3_digest_110 rfl (lv_at hl 0 rfl) ?_
    refine q_iconst hx hb dX3_digest_111 ?_
    refine q_icmp_gt hx hb dX3_digest_112 (tgt := 131) (by decide) (by omega) (by omega) (fun c63 => absurd c63 (by omega)) (fun c63 => ?_)
    refine lv_lload_n hx hb dX3_digest_115 rfl (lv_at hl 1 rfl) ?_
    refine lv_aload_n hx hb dX3_digest_116 rfl (lv_at hl 2 rfl) ?_
    refine lv_iload_n hx hb dX3_digest_117 rfl (lv_at hl 0 rfl) ?_
    refine q_vS C0 lX3_238 (c_X3_houseFact l D y L F O G σ 2 hC (by omega)) ⟨rfl, rfl⟩ rfl hP hC.1.1 hC.1.2 rfl rfl rfl hl rfl (Nat.le_of_ble_eq_true rfl) dX3_digest_118 ⟨Nat.zero_le _, Nat.zero_le _⟩ (fun r64 e_r64 => ?_)
    replace e_r64 := e_r64.symm
    subst e_r64
    refine q_sSl C0 lX3_261 (c_X3_mixed l D y L F (mxd (mxd (dgS (zod σ (zsh σ 2)) ((zst σ (zsh σ 2)).1) ((zst σ (zsh σ 2)).2.2) (dgS (zod σ (zsh σ 1)) ((zst σ (zsh σ 1)).1) ((zst σ (zsh σ 1)).2.2) (dgS (zod σ (zsh σ 0)) ((zst σ (zsh σ 0)).1) ((zst σ (zsh σ 0)).2.2) (mxd (mxd (dgV σ 1 (dgV σ 0 (dgB (zod σ (zbk σ 3)) ((zst σ (zbk σ 3)).1) ((zst σ (zbk σ 3)).2.2) (dgB (zod σ (zbk σ 2)) ((zst σ (zbk σ 2)).1) ((zst σ (zbk σ 2)).2.2) (dgB (zod σ (zbk σ 1)) ((zst σ (zbk σ 1)).1) ((zst σ (zbk σ 1)).2.2) (dgB (zod σ (zbk σ 0)) ((zst σ (zbk σ 0)).1) ((zst σ (zbk σ 0)).2.2) 17706)))))) 1) (if zwt σ = 0 then -1 else keyR (zod σ j) (zwl σ)))))) (hfact σ 0)) (hfact σ 1)) (hfact σ 2)) ⟨rfl, rfl⟩ rfl hP rfl hl rfl (Nat.le_of_ble_eq_true rfl) dX3_digest_121 ⟨Nat.zero_le _, Nat.zero_le _⟩ (fun r65 e_r65 => ?_)
    replace e_r65 := e_r65.symm
    subst e_r65
    refine lv_lstore_n (lv' := [(1, .long ((mxd (mxd (mxd (dgS (zod σ (zsh σ 2)) ((zst σ (zsh σ 2)).1) ((zst σ (zsh σ 2)).2.2) (dgS (zod σ (zsh σ 1)) ((zst σ (zsh σ 1)).1) ((zst σ (zsh σ 1)).2.2) (dgS (zod σ (zsh σ 0)) ((zst σ (zsh σ 0)).1) ((zst σ (zsh σ 0)).2.2) (mxd (mxd (dgV σ 1 (dgV σ 0 (dgB (zod σ (zbk σ 3)) ((zst σ (zbk σ 3)).1) ((zst σ (zbk σ 3)).2.2) (dgB (zod σ (zbk σ 2)) ((zst σ (zbk σ 2)).1) ((zst σ (zbk σ 2)).2.2) (dgB (zod σ (zbk σ 1)) ((zst σ (zbk σ 1)).1) ((zst σ (zbk σ 1)).2.2) (dgB (zod σ (zbk σ 0)) ((zst σ (zbk σ 0)).1) ((zst σ (zbk σ 0)).2.2) 17706)))))) 1) (if zwt σ = 0 then -1 else keyR (zod σ j) (zwl σ)))))) (hfact σ 0)) (hfact σ 1)) (hfact σ 2)))), (3, .int (iI 2)), (0, .ref ((gbg G)))]) hx hb dX3_digest_124 rfl hl (by decide) rfl (fun ls hl => ?_)
    refine q_iinc (x := 2) (n := 1) (lv' := [(3, .int (iI 3)), (1, .long ((mxd (mxd (mxd (dgS (zod σ (zsh σ 2)) ((zst σ (zsh σ 2)).1) ((zst σ (zsh σ 2)).2.2) (dgS (zod σ (zsh σ 1)) ((zst σ (zsh σ 1)).1) ((zst σ (zsh σ 1)).2.2) (dgS (zod σ (zsh σ 0)) ((zst σ (zsh σ 0)).1) ((zst σ (zsh σ 0)).2.2) (mxd (mxd (dgV σ 1 (dgV σ 0 (dgB (zod σ (zbk σ 3)) ((zst σ (zbk σ 3)).1) ((zst σ (zbk σ 3)).2.2) (dgB (zod σ (zbk σ 2)) ((zst σ (zbk σ 2)).1) ((zst σ (zbk σ 2)).2.2) (dgB (zod σ (zbk σ 1)) ((zst σ (zbk σ 1)).1) ((zst σ (zbk σ 1)).2.2) (dgB (zod σ (zbk σ 0)) ((zst σ (zbk σ 0)).1) ((zst σ (zbk σ 0)).2.2) 17706)))))) 1) (if zwt σ = 0 then -1 else keyR (zod σ j) (zwl σ)))))) (hfact σ 0)) (hfact σ 1)) (hfact σ 2)))), (0, .ref ((gbg G)))]) hx hb dX3_digest_125 hl (k := 1) rfl (by decide) rfl (fun ls hl => ?_)
    refine lv_goto (tgt := 110) hx hb dX3_digest_128 (by decide) ?_
    refine lv_iload_n hx hb dX3_digest_110 rfl (lv_at hl 0 rfl) ?_
    refine q_iconst hx hb dX3_digest_111 ?_
    refine q_icmp_gt hx hb dX3_digest_112 (tgt := 131) (by decide) (by omega) (by omega) (fun c66 => absurd c66 (by omega)) (fun c66 => ?_)
    refine lv_lload_n hx hb dX3_digest_115 rfl (lv_at hl 1 rfl) ?_
    refine lv_aload_n hx hb dX3_digest_116 rfl (lv_at hl 2 rfl) ?_
    refine lv_iload_n hx hb dX3_digest_117 rfl (lv_at hl 0 rfl) ?_
    refine q_vS C0 lX3_238 (c_X3_houseFact l D y L F O G σ 3 hC (by omega)) ⟨rfl, rfl⟩ rfl hP hC.1.1 hC.1.2 rfl rfl rfl hl rfl (Nat.le_of_ble_eq_true rfl) dX3_digest_118 ⟨Nat.zero_le _, Nat.zero_le _⟩ (fun r67 e_r67 => ?_)
    replace e_r67 := e_r67.symm
    subst e_r67
    refine q_sSl C0 lX3_261 (c_X3_mixed l D y L F (mxd (mxd (mxd (dgS (zod σ (zsh σ 2)) ((zst σ (zsh σ 2)).1) ((zst σ (zsh σ 2)).2.2) (dgS (zod σ (zsh σ 1)) ((zst σ (zsh σ 1)).1) ((zst σ (zsh σ 1)).2.2) (dgS (zod σ (zsh σ 0)) ((zst σ (zsh σ 0)).1) ((zst σ (zsh σ 0)).2.2) (mxd (mxd (dgV σ 1 (dgV σ 0 (dgB (zod σ (zbk σ 3)) ((zst σ (zbk σ 3)).1) ((zst σ (zbk σ 3)).2.2) (dgB (zod σ (zbk σ 2)) ((zst σ (zbk σ 2)).1) ((zst σ (zbk σ 2)).2.2) (dgB (zod σ (zbk σ 1)) ((zst σ (zbk σ 1)).1) ((zst σ (zbk σ 1)).2.2) (dgB (zod σ (zbk σ 0)) ((zst σ (zbk σ 0)).1) ((zst σ (zbk σ 0)).2.2) 17706)))))) 1) (if zwt σ = 0 then -1 else keyR (zod σ j) (zwl σ)))))) (hfact σ 0)) (hfact σ 1)) (hfact σ 2)) (hfact σ 3)) ⟨rfl, rfl⟩ rfl hP rfl hl rfl (Nat.le_of_ble_eq_true rfl) dX3_digest_121 ⟨Nat.zero_le _, Nat.zero_le _⟩ (fun r68 e_r68 => ?_)
    replace e_r68 := e_r68.symm
    subst e_r68
    refine lv_lstore_n (lv' := [(1, .long ((mxd (mxd (mxd (mxd (dgS (zod σ (zsh σ 2)) ((zst σ (zsh σ 2)).1) ((zst σ (zsh σ 2)).2.2) (dgS (zod σ (zsh σ 1)) ((zst σ (zsh σ 1)).1) ((zst σ (zsh σ 1)).2.2) (dgS (zod σ (zsh σ 0)) ((zst σ (zsh σ 0)).1) ((zst σ (zsh σ 0)).2.2) (mxd (mxd (dgV σ 1 (dgV σ 0 (dgB (zod σ (zbk σ 3)) ((zst σ (zbk σ 3)).1) ((zst σ (zbk σ 3)).2.2) (dgB (zod σ (zbk σ 2)) ((zst σ (zbk σ 2)).1) ((zst σ (zbk σ 2)).2.2) (dgB (zod σ (zbk σ 1)) ((zst σ (zbk σ 1)).1) ((zst σ (zbk σ 1)).2.2) (dgB (zod σ (zbk σ 0)) ((zst σ (zbk σ 0)).1) ((zst σ (zbk σ 0)).2.2) 17706)))))) 1) (if zwt σ = 0 then -1 else keyR (zod σ j) (zwl σ)))))) (hfact σ 0)) (hfact σ 1)) (hfact σ 2)) (hfact σ 3)))), (3, .int (iI 3)), (0, .ref ((gbg G)))]) hx hb dX3_digest_124 rfl hl (by decide) rfl (fun ls hl => ?_)
    refine q_iinc (x := 3) (n := 1) (lv' := [(3, .int (iI 4)), (1, .long ((mxd (mxd (mxd (mxd (dgS (zod σ (zsh σ 2)) ((zst σ (zsh σ 2)).1) ((zst σ (zsh σ 2)).2.2) (dgS (zod σ (zsh σ 1)) ((zst σ (zsh σ 1)).1) ((zst σ (zsh σ 1)).2.2) (dgS (zod σ (zsh σ 0)) ((zst σ (zsh σ 0)).1) ((zst σ (zsh σ 0)).2.2) (mxd (mxd (dgV σ 1 (dgV σ 0 (dgB (zod σ (zbk σ 3)) ((zst σ (zbk σ 3)).1) ((zst σ (zbk σ 3)).2.2) (dgB (zod σ (zbk σ 2)) ((zst σ (zbk σ 2)).1) ((zst σ (zbk σ 2)).2.2) (dgB (zod σ (zbk σ 1)) ((zst σ (zbk σ 1)).1) ((zst σ (zbk σ 1)).2.2) (dgB (zod σ (zbk σ 0)) ((zst σ (zbk σ 0)).1) ((zst σ (zbk σ 0)).2.2) 17706)))))) 1) (if zwt σ = 0 then -1 else keyR (zod σ j) (zwl σ)))))) (hfact σ 0)) (hfact σ 1)) (hfact σ 2)) (hfact σ 3)))), (0, .ref ((gbg G)))]) hx hb dX3_digest_125 hl (k := 1) rfl (by decide) rfl (fun ls hl => ?_)
    refine lv_goto (tgt := 110) hx hb dX3_digest_128 (by decide) ?_
    refine lv_iload_n hx hb dX3_digest_110 rfl (lv_at hl 0 rfl) ?_
    refine q_iconst hx hb dX3_digest_111 ?_
    refine q_icmp_gt hx hb dX3_digest_112 (tgt := 131) (by decide) (by omega) (by omega) (fun c69 => ?_) (fun c69 => absurd c69 (by omega))
    refine lv_lload_n hx hb dX3_digest_131 rfl (lv_at hl 1 rfl) ?_
    refine lv_aload_n hx hb dX3_digest_132 rfl (lv_at hl 2 rfl) ?_
    refine q_vMi C0 lX3_271 (c_X3_isSound l D y L F _ O G σ hC hW) ⟨rfl, rfl⟩ rfl hP hD hS hA hC.1.1 hC.1.2 rfl rfl rfl hl rfl (Nat.le_of_ble_eq_true rfl) dX3_digest_133 ⟨Nat.le_of_ble_eq_true rfl, Nat.le_of_ble_eq_true rfl⟩ (fun r70 H locs L71 F71 hP hD hS hz71 hp71 => ?_)
    refine W.widen (k := 14) (n := 728) (Nat.le_of_ble_eq_true rfl) (Nat.le_of_ble_eq_true rfl) ?_
    obtain ⟨er, hC, hLs72, hfr72⟩ := hp71
    replace er := er.symm
    subst er
    have hfr : ∀ a ∈ L, F71 a = F a := fun a h1 => (hfr72 a (hLs a h1)).trans (hfr a h1)
    have hLs : ∀ a ∈ L, a ∈ L71 := fun a h1 => hLs72 a (hLs a h1)
    have b_r70 := kR_isSound_b σ
    refine q_if_eq hx hb dX3_digest_136 (tgt := 143) (by decide) (by omega) (fun c73 => ?_) (fun c73 => ?_)
    · refine q_iconst hx hb dX3_digest_143 ?_
      refine q_sSl C0 lX3_261 (c_X3_mixed l D y L71 F71 (mxd (mxd (mxd (mxd (dgS (zod σ (zsh σ 2)) ((zst σ (zsh σ 2)).1) ((zst σ (zsh σ 2)).2.2) (dgS (zod σ (zsh σ 1)) ((zst σ (zsh σ 1)).1) ((zst σ (zsh σ 1)).2.2) (dgS (zod σ (zsh σ 0)) ((zst σ (zsh σ 0)).1) ((zst σ (zsh σ 0)).2.2) (mxd (mxd (dgV σ 1 (dgV σ 0 (dgB (zod σ (zbk σ 3)) ((zst σ (zbk σ 3)).1) ((zst σ (zbk σ 3)).2.2) (dgB (zod σ (zbk σ 2)) ((zst σ (zbk σ 2)).1) ((zst σ (zbk σ 2)).2.2) (dgB (zod σ (zbk σ 1)) ((zst σ (zbk σ 1)).1) ((zst σ (zbk σ 1)).2.2) (dgB (zod σ (zbk σ 0)) ((zst σ (zbk σ 0)).1) ((zst σ (zbk σ 0)).2.2) 17706)))))) 1) (if zwt σ = 0 then -1 else keyR (zod σ j) (zwl σ)))))) (hfact σ 0)) (hfact σ 1)) (hfact σ 2)) (hfact σ 3)) 0) ⟨rfl, rfl⟩ rfl hP rfl hl rfl (Nat.le_of_ble_eq_true rfl) dX3_digest_144 ⟨Nat.le_of_ble_eq_true rfl, Nat.le_of_ble_eq_true rfl⟩ (fun r74 e_r74 => ?_)
      replace e_r74 := e_r74.symm
      subst e_r74
      exact q_retMl C0 hret hlk dX3_digest_147 hP hD hS (⟨(by unfold kR_digest1 dgA; rw [show goI σ j = 1 by omega]; rw [show kR_isSound σ = 0 by omega]; rfl), hC, hLs, hfr⟩)
    · refine q_iconst hx hb dX3_digest_139 ?_
      refine lv_goto (tgt := 144) hx hb dX3_digest_140 (by decide) ?_
      refine q_sSl C0 lX3_261 (c_X3_mixed l D y L71 F71 (mxd (mxd (mxd (mxd (dgS (zod σ (zsh σ 2)) ((zst σ (zsh σ 2)).1) ((zst σ (zsh σ 2)).2.2) (dgS (zod σ (zsh σ 1)) ((zst σ (zsh σ 1)).1) ((zst σ (zsh σ 1)).2.2) (dgS (zod σ (zsh σ 0)) ((zst σ (zsh σ 0)).1) ((zst σ (zsh σ 0)).2.2) (mxd (mxd (dgV σ 1 (dgV σ 0 (dgB (zod σ (zbk σ 3)) ((zst σ (zbk σ 3)).1) ((zst σ (zbk σ 3)).2.2) (dgB (zod σ (zbk σ 2)) ((zst σ (zbk σ 2)).1) ((zst σ (zbk σ 2)).2.2) (dgB (zod σ (zbk σ 1)) ((zst σ (zbk σ 1)).1) ((zst σ (zbk σ 1)).2.2) (dgB (zod σ (zbk σ 0)) ((zst σ (zbk σ 0)).1) ((zst σ (zbk σ 0)).2.2) 17706)))))) 1) (if zwt σ = 0 then -1 else keyR (zod σ j) (zwl σ)))))) (hfact σ 0)) (hfact σ 1)) (hfact σ 2)) (hfact σ 3)) 1) ⟨rfl, rfl⟩ rfl hP rfl hl rfl (Nat.le_of_ble_eq_true rfl) dX3_digest_144 ⟨Nat.le_of_ble_eq_true rfl, Nat.le_of_ble_eq_true rfl⟩ (fun r75 e_r75 => ?_)
      replace e_r75 := e_r75.symm
      subst e_r75
      exact q_retMl C0 hret hlk dX3_digest_147 hP hD hS (⟨(by unfold kR_digest1 dgA; rw [show goI σ j = 1 by omega]; rw [show kR_isSound σ = 1 by omega]; rfl), hC, hLs, hfr⟩)
