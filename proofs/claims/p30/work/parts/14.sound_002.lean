set_option maxHeartbeats 800000 in
set_option maxRecDepth 100000 in
theorem c_X3_isToldBackwards (l : Launch) (D : va_G) (y : Nat → ClassId) (L : List Nat) (F : Nat → va_E) (h : Nat) (w : Nat) (o : Int) (k : Int) (g : Int) (f : Int → Int) (hR : Rw y L F h w o k g f) (hm : -2147483648 ≤ k ∧ k ≤ 2147483647) : Met l yX3_isToldBackwards (.code yX3_isToldBackwards cX3_isToldBackwards 4 (some .boolean) :: Tt) ({ frames := 3, cells := 0, slots := 0, locals := 69 }) (PcR D y L F [.ref h]) (cS (fun r => r = bwOrd o f k)) 0 0 (fun _ => False) := by
  have hR0 := hR
  obtain ⟨ha, hF, hw, hFw, ho, hfb⟩ := hR0
  refine q_ofR (lv := [(0, .ref h)]) (by decide) (Nat.le_of_ble_eq_true rfl) rfl (fun p e s m below meth c C0 hret hlk hP ls hl => ?_)
  have hx := C0.1.1
  have hb := C0.1.2.1
  have hts := C0.1.2.2.2.2
  refine lv_aload_n hx hb dX3_isToldBackwards_0 rfl (lv_at hl 0 rfl) ?_
  refine q_iconst hx hb dX3_isToldBackwards_1 ?_
  refine q_bipush hx hb dX3_isToldBackwards_2 (by decide) ?_
  refine q_iconst hx hb dX3_isToldBackwards_4 ?_
  refine q_vS C0 lX3_135 (c_X0_endOfPart l D y L F h w o k g f 0 99 1 hR (by omega) (by omega) (by omega)) ⟨rfl, rfl⟩ rfl hP ha hF rfl rfl rfl hl rfl (Nat.le_of_ble_eq_true rfl) dX3_isToldBackwards_5 ⟨Nat.zero_le _, Nat.zero_le _⟩ (fun r1 e_r1 => ?_)
  subst e_r1
  have b_2 := endP_r f 0 99 1
  refine lv_istore_n (lv' := [(1, .int (iI ((endP f 0 99 1)))), (0, .ref h)]) hx hb dX3_isToldBackwards_8 rfl hl (by decide) rfl (fun ls hl => ?_)
  refine q_iconst hx hb dX3_isToldBackwards_9 ?_
  refine lv_istore_n (lv' := [(2, .int (iI 0)), (1, .int (iI ((endP f 0 99 1)))), (0, .ref h)]) hx hb dX3_isToldBackwards_10 rfl hl (by decide) rfl (fun ls hl => ?_)
  have LP11 : ∀ (n_LP11 : Nat) (r : Int) (t : Int), (-1 ≤ r ∧ r ≤ 99) → (0 ≤ t ∧ t ≤ 100) → (bwOrd o f k = tioP (bwNx o f) (bwBad o f) k r t) → (100 - t).toNat = n_LP11 → ∀ ls : Array Slot, lv_has ls 4 [(0, .ref h), (1, .int (iI r)), (2, .int (iI t))] → W p l e ({ frames := 3, cells := 0, slots := 0, locals := 69 } : Room) s m [.ref h].toArray below meth c s.heap [] 0 0 (MQ below (cS (fun r => r = bwOrd o f k)) [.ref h].toArray s 0 0 (fun _ => False)) (F0 m 11 ls []) := by
    intro n_LP11
    induction n_LP11 using Nat.strongRecOn with
    | ind n_LP11 ih_LP11 =>
      intro r t hr ht hI hm_LP11 ls hl
      refine lv_iload_n hx hb dX3_isToldBackwards_11 rfl (lv_at hl 1 rfl) ?_
      refine q_iconst hx hb dX3_isToldBackwards_12 ?_
      refine q_icmp_eq hx hb dX3_isToldBackwards_13 (tgt := 68) (by decide) (by omega) (by omega) (fun c3 => ?_) (fun c3 => ?_)
      · refine lv_iload_n hx hb dX3_isToldBackwards_68 rfl (lv_at hl 1 rfl) ?_
        refine q_iconst hx hb dX3_isToldBackwards_69 ?_
        refine q_icmp_ne hx hb dX3_isToldBackwards_70 (tgt := 85) (by decide) (by omega) (by omega) (fun c4 => ?_) (fun c4 => ?_)
        · refine q_iconst hx hb dX3_isToldBackwards_85 ?_
          exact q_iretS C0 hret hlk dX3_isToldBackwards_86 (by decide) (by first | (rw [hI, show r = -1 by omega, tioP_1, if_pos (by omega)]; done) | (rw [hI, show r = -1 by omega, tioP_1, if_neg (by omega)]; done) | (rw [hI, tioP_e (by omega), if_neg (by omega)]; done) | (rw [hI, tioP_s (by omega), if_neg (by omega), if_pos (by unfold bwBad bwNx; (repeat' split) <;> first | omega | (exfalso; omega))]))
        · refine lv_iload_n hx hb dX3_isToldBackwards_73 rfl (lv_at hl 2 rfl) ?_
          refine lv_aload_n hx hb dX3_isToldBackwards_74 rfl (lv_at hl 0 rfl) ?_
          refine q_get C0 iX0 hP ha hF rfl 2 (by decide) flX3_49 rfl rfl dX3_isToldBackwards_75 ?_
          refine q_icmp_ne hx hb dX3_isToldBackwards_78 (tgt := 85) (by decide) (by omega) (by omega) (fun c5 => ?_) (fun c5 => ?_)
          · refine q_iconst hx hb dX3_isToldBackwards_85 ?_
            exact q_iretS C0 hret hlk dX3_isToldBackwards_86 (by decide) (by first | (rw [hI, show r = -1 by omega, tioP_1, if_pos (by omega)]; done) | (rw [hI, show r = -1 by omega, tioP_1, if_neg (by omega)]; done) | (rw [hI, tioP_e (by omega), if_neg (by omega)]; done) | (rw [hI, tioP_s (by omega), if_neg (by omega), if_pos (by unfold bwBad bwNx; (repeat' split) <;> first | omega | (exfalso; omega))]))
          · refine q_iconst hx hb dX3_isToldBackwards_81 ?_
            refine lv_goto (tgt := 86) hx hb dX3_isToldBackwards_82 (by decide) ?_
            exact q_iretS C0 hret hlk dX3_isToldBackwards_86 (by decide) (by first | (rw [hI, show r = -1 by omega, tioP_1, if_pos (by omega)]; done) | (rw [hI, show r = -1 by omega, tioP_1, if_neg (by omega)]; done) | (rw [hI, tioP_e (by omega), if_neg (by omega)]; done) | (rw [hI, tioP_s (by omega), if_neg (by omega), if_pos (by unfold bwBad bwNx; (repeat' split) <;> first | omega | (exfalso; omega))]))
      · refine lv_iload_n hx hb dX3_isToldBackwards_16 rfl (lv_at hl 2 rfl) ?_
        refine q_bipush hx hb dX3_isToldBackwards_17 (by decide) ?_
        refine q_icmp_ge hx hb dX3_isToldBackwards_19 (tgt := 68) (by decide) (by omega) (by omega) (fun c6 => ?_) (fun c6 => ?_)
        · refine lv_iload_n hx hb dX3_isToldBackwards_68 rfl (lv_at hl 1 rfl) ?_
          refine q_iconst hx hb dX3_isToldBackwards_69 ?_
          refine q_icmp_ne hx hb dX3_isToldBackwards_70 (tgt := 85) (by decide) (by omega) (by omega) (fun c7 => ?_) (fun c7 => ?_)
          · refine q_iconst hx hb dX3_isToldBackwards_85 ?_
            exact q_iretS C0 hret hlk dX3_isToldBackwards_86 (by decide) (by first | (rw [hI, show r = -1 by omega, tioP_1, if_pos (by omega)]; done) | (rw [hI, show r = -1 by omega, tioP_1, if_neg (by omega)]; done) | (rw [hI, tioP_e (by omega), if_neg (by omega)]; done) | (rw [hI, tioP_s (by omega), if_neg (by omega), if_pos (by unfold bwBad bwNx; (repeat' split) <;> first | omega | (exfalso; omega))]))
          · refine lv_iload_n hx hb dX3_isToldBackwards_73 rfl (lv_at hl 2 rfl) ?_
            refine lv_aload_n hx hb dX3_isToldBackwards_74 rfl (lv_at hl 0 rfl) ?_
            refine q_get C0 iX0 hP ha hF rfl 2 (by decide) flX3_49 rfl rfl dX3_isToldBackwards_75 ?_
            refine q_icmp_ne hx hb dX3_isToldBackwards_78 (tgt := 85) (by decide) (by omega) (by omega) (fun c8 => ?_) (fun c8 => ?_)
            · refine q_iconst hx hb dX3_isToldBackwards_85 ?_
              exact q_iretS C0 hret hlk dX3_isToldBackwards_86 (by decide) (by first | (rw [hI, show r = -1 by omega, tioP_1, if_pos (by omega)]; done) | (rw [hI, show r = -1 by omega, tioP_1, if_neg (by omega)]; done) | (rw [hI, tioP_e (by omega), if_neg (by omega)]; done) | (rw [hI, tioP_s (by omega), if_neg (by omega), if_pos (by unfold bwBad bwNx; (repeat' split) <;> first | omega | (exfalso; omega))]))
            · refine q_iconst hx hb dX3_isToldBackwards_81 ?_
              refine lv_goto (tgt := 86) hx hb dX3_isToldBackwards_82 (by decide) ?_
              exact q_iretS C0 hret hlk dX3_isToldBackwards_86 (by decide) (by first | (rw [hI, show r = -1 by omega, tioP_1, if_pos (by omega)]; done) | (rw [hI, show r = -1 by omega, tioP_1, if_neg (by omega)]; done) | (rw [hI, tioP_e (by omega), if_neg (by omega)]; done) | (rw [hI, tioP_s (by omega), if_neg (by omega), if_pos (by unfold bwBad bwNx; (repeat' split) <;> first | omega | (exfalso; omega))]))
        · refine q_iinc (x := t) (n := 1) (lv' := [(2, .int (iI ((t + 1)))), (0, .ref h), (1, .int (iI r))]) hx hb dX3_isToldBackwards_22 hl (k := 2) rfl (by decide) rfl (fun ls hl => ?_)
          refine lv_aload_n hx hb dX3_isToldBackwards_25 rfl (lv_at hl 1 rfl) ?_
          refine q_iconst hx hb dX3_isToldBackwards_26 ?_
          refine q_bipush hx hb dX3_isToldBackwards_27 (by decide) ?_
          refine lv_aload_n hx hb dX3_isToldBackwards_29 rfl (lv_at hl 1 rfl) ?_
          refine lv_iload_n hx hb dX3_isToldBackwards_30 rfl (lv_at hl 2 rfl) ?_
          refine q_vS C0 lX3_132 (c_X0_keyOf l D y L F h w o k g f r hR (by omega)) ⟨rfl, rfl⟩ rfl hP ha hF rfl rfl rfl hl rfl (Nat.le_of_ble_eq_true rfl) dX3_isToldBackwards_31 ⟨Nat.zero_le _, Nat.zero_le _⟩ (fun r9 e_r9 => ?_)
          subst e_r9
          have b_10 := @keyR_b o r (by omega)
          refine q_iconst hx hb dX3_isToldBackwards_34 ?_
          refine q_vS C0 lX3_126 (c_X0_nearInPart l D y L F h w o k g f 0 99 (keyR o r) 2 hR (by omega) (by omega) (by omega) (by omega)) ⟨rfl, rfl⟩ rfl hP ha hF rfl rfl rfl hl rfl (Nat.le_of_ble_eq_true rfl) dX3_isToldBackwards_35 ⟨Nat.zero_le _, Nat.zero_le _⟩ (fun r11 e_r11 => ?_)
          subst e_r11
          have b_12 := nearP_r o f 0 99 (keyR o r) 2
          refine lv_istore_n (lv' := [(3, .int (iI ((nearP o f 0 99 (keyR o r) 2)))), (2, .int (iI ((t + 1)))), (0, .ref h), (1, .int (iI r))]) hx hb dX3_isToldBackwards_38 rfl hl (by decide) rfl (fun ls hl => ?_)
          refine lv_iload_n hx hb dX3_isToldBackwards_39 rfl (lv_at hl 0 rfl) ?_
          refine q_iconst hx hb dX3_isToldBackwards_40 ?_
          refine q_icmp_eq hx hb dX3_isToldBackwards_41 (tgt := 63) (by decide) (by omega) (by omega) (fun c13 => ?_) (fun c13 => ?_)
          · refine lv_iload_n hx hb dX3_isToldBackwards_63 rfl (lv_at hl 0 rfl) ?_
            refine lv_istore_n (lv' := [(1, .int (iI ((nearP o f 0 99 (keyR o r) 2)))), (3, .int (iI ((nearP o f 0 99 (keyR o r) 2)))), (2, .int (iI ((t + 1)))), (0, .ref h)]) hx hb dX3_isToldBackwards_64 rfl hl (by decide) rfl (fun ls hl => ?_)
            refine lv_goto (tgt := 11) hx hb dX3_isToldBackwards_65 (by decide) ?_
            exact ih_LP11 _ (by omega) (nearP o f 0 99 (keyR o r) 2) (t + 1) (by omega) (by omega) (by rw [hI, tioP_s (by omega), if_neg (by omega), if_neg (by unfold bwBad bwNx; (repeat' split) <;> first | omega | (exfalso; omega))]; rfl) rfl ls (lv_sub hl [3, 0, 2] rfl)
          · refine lv_aload_n hx hb dX3_isToldBackwards_44 rfl (lv_at hl 2 rfl) ?_
            refine lv_aload_n hx hb dX3_isToldBackwards_45 rfl (lv_at hl 2 rfl) ?_
            refine lv_iload_n hx hb dX3_isToldBackwards_46 rfl (lv_at hl 0 rfl) ?_
            refine q_vS C0 lX3_132 (c_X0_keyOf l D y L F h w o k g f (nearP o f 0 99 (keyR o r) 2) hR (by omega)) ⟨rfl, rfl⟩ rfl hP ha hF rfl rfl rfl hl rfl (Nat.le_of_ble_eq_true rfl) dX3_isToldBackwards_47 ⟨Nat.zero_le _, Nat.zero_le _⟩ (fun r14 e_r14 => ?_)
            subst e_r14
            have b_15 := @keyR_b o (nearP o f 0 99 (keyR o r) 2) (by omega)
            refine lv_aload_n hx hb dX3_isToldBackwards_50 rfl (lv_at hl 2 rfl) ?_
            refine lv_iload_n hx hb dX3_isToldBackwards_51 rfl (lv_at hl 3 rfl) ?_
            refine q_vS C0 lX3_132 (c_X0_keyOf l D y L F h w o k g f r hR (by omega)) ⟨rfl, rfl⟩ rfl hP ha hF rfl rfl rfl hl rfl (Nat.le_of_ble_eq_true rfl) dX3_isToldBackwards_52 ⟨Nat.zero_le _, Nat.zero_le _⟩ (fun r16 e_r16 => ?_)
            subst e_r16
            have b_17 := @keyR_b o r (by omega)
            refine q_vS C0 lX3_316 (c_X0_isAhead l D y L F h w o k g f (keyR o (nearP o f 0 99 (keyR o r) 2)) (keyR o r) hR (by omega) (by omega)) ⟨rfl, rfl⟩ rfl hP ha hF rfl rfl rfl hl rfl (Nat.le_of_ble_eq_true rfl) dX3_isToldBackwards_55 ⟨Nat.zero_le _, Nat.zero_le _⟩ (fun r18 e_r18 => ?_)
            subst e_r18
            have b_19 := ahd_b o (keyR o (nearP o f 0 99 (keyR o r) 2)) (keyR o r)
            refine q_if_ne hx hb dX3_isToldBackwards_58 (tgt := 63) (by decide) (by omega) (fun c20 => ?_) (fun c20 => ?_)
            · refine lv_iload_n hx hb dX3_isToldBackwards_63 rfl (lv_at hl 0 rfl) ?_
              refine lv_istore_n (lv' := [(1, .int (iI ((nearP o f 0 99 (keyR o r) 2)))), (3, .int (iI ((nearP o f 0 99 (keyR o r) 2)))), (2, .int (iI ((t + 1)))), (0, .ref h)]) hx hb dX3_isToldBackwards_64 rfl hl (by decide) rfl (fun ls hl => ?_)
              refine lv_goto (tgt := 11) hx hb dX3_isToldBackwards_65 (by decide) ?_
              exact ih_LP11 _ (by omega) (nearP o f 0 99 (keyR o r) 2) (t + 1) (by omega) (by omega) (by rw [hI, tioP_s (by omega), if_neg (by omega), if_neg (by unfold bwBad bwNx; (repeat' split) <;> first | omega | (exfalso; omega))]; rfl) rfl ls (lv_sub hl [3, 0, 2] rfl)
            · refine q_iconst hx hb dX3_isToldBackwards_61 ?_
              exact q_iretS C0 hret hlk dX3_isToldBackwards_62 (by decide) (by first | (rw [hI, show r = -1 by omega, tioP_1, if_pos (by omega)]; done) | (rw [hI, show r = -1 by omega, tioP_1, if_neg (by omega)]; done) | (rw [hI, tioP_e (by omega), if_neg (by omega)]; done) | (rw [hI, tioP_s (by omega), if_neg (by omega), if_pos (by unfold bwBad bwNx; (repeat' split) <;> first | omega | (exfalso; omega))]))
  exact LP11 _ (endP f 0 99 1) 0 (by omega) (by omega) (rfl) rfl ls (lv_sub hl [2, 1, 0] rfl)
