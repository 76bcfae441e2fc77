set_option maxHeartbeats 800000 in
set_option maxRecDepth 100000 in
theorem c_X3_isToldInOrder (l : Launch) (D : va_G) (y : Nat → ClassId) (L : List Nat) (F : Nat → va_E) (h : Nat) (w : Nat) (o : Int) (k : Int) (g : Int) (f : Int → Int) (lo : Int) (hi : Int) (n : Int) (hR : Rw y L F h w o k g f) (hlo : -900 ≤ lo ∧ lo ≤ 900) (hhi : -900 ≤ hi ∧ hi ≤ 900) (hm : -2147483648 ≤ n ∧ n ≤ 2147483647) : Met l yX3_isToldInOrder (.code yX3_isToldInOrder cX3_isToldInOrder 7 (some .boolean) :: Tt) ({ frames := 3, cells := 0, slots := 0, locals := 69 }) (PcR D y L F [.ref h, .int (iI lo), .int (iI hi), .int (iI n)]) (cS (fun r => r = inOrd o f lo hi n)) 0 0 (fun _ => False) := by
  have hR0 := hR
  obtain ⟨ha, hF, hw, hFw, ho, hfb⟩ := hR0
  refine q_ofR (lv := [(0, .ref h), (1, .int (iI lo)), (2, .int (iI hi)), (3, .int (iI n))]) (by decide) (Nat.le_of_ble_eq_true rfl) rfl (fun p e s m below meth c C0 hret hlk hP ls hl => ?_)
  have hx := C0.1.1
  have hb := C0.1.2.1
  have hts := C0.1.2.2.2.2
  refine lv_aload_n hx hb dX3_isToldInOrder_0 rfl (lv_at hl 0 rfl) ?_
  refine lv_iload_n hx hb dX3_isToldInOrder_1 rfl (lv_at hl 1 rfl) ?_
  refine lv_iload_n hx hb dX3_isToldInOrder_2 rfl (lv_at hl 2 rfl) ?_
  refine q_iconst hx hb dX3_isToldInOrder_3 ?_
  refine q_vS C0 lX3_135 (c_X0_endOfPart l D y L F h w o k g f lo hi 0 hR (by omega) (by omega) (by omega)) ⟨rfl, rfl⟩ rfl hP ha hF rfl rfl rfl hl rfl (Nat.le_of_ble_eq_true rfl) dX3_isToldInOrder_4 ⟨Nat.zero_le _, Nat.zero_le _⟩ (fun r1 e_r1 => ?_)
  subst e_r1
  have b_2 := endP_r f lo hi 0
  refine lv_istore (lv' := [(4, .int (iI ((endP f lo hi 0)))), (0, .ref h), (1, .int (iI lo)), (2, .int (iI hi)), (3, .int (iI n))]) hx hb dX3_isToldInOrder_7 hl (by decide) rfl (fun ls hl => ?_)
  refine q_iconst hx hb dX3_isToldInOrder_9 ?_
  refine lv_istore (lv' := [(5, .int (iI 0)), (4, .int (iI ((endP f lo hi 0)))), (0, .ref h), (1, .int (iI lo)), (2, .int (iI hi)), (3, .int (iI n))]) hx hb dX3_isToldInOrder_10 hl (by decide) rfl (fun ls hl => ?_)
  have LP12 : ∀ (n_LP12 : Nat) (r : Int) (t : Int), (-1 ≤ r ∧ r ≤ 99) → (0 ≤ t ∧ t ≤ 100) → (inOrd o f lo hi n = tioP (ioNx o f lo hi) (ioBad o f lo hi) n r t) → (100 - t).toNat = n_LP12 → ∀ ls : Array Slot, lv_has ls 7 [(0, .ref h), (1, .int (iI lo)), (2, .int (iI hi)), (3, .int (iI n)), (4, .int (iI r)), (5, .int (iI t))] → W p l e ({ frames := 3, cells := 0, slots := 0, locals := 69 } : Room) s m [.ref h, .int (iI lo), .int (iI hi), .int (iI n)].toArray below meth c s.heap [] 0 0 (MQ below (cS (fun r => r = inOrd o f lo hi n)) [.ref h, .int (iI lo), .int (iI hi), .int (iI n)].toArray s 0 0 (fun _ => False)) (F0 m 12 ls []) := by
    intro n_LP12
    induction n_LP12 using Nat.strongRecOn with
    | ind n_LP12 ih_LP12 =>
      intro r t hr ht hI hm_LP12 ls hl
      refine lv_iload hx hb dX3_isToldInOrder_12 (lv_at hl 4 rfl) ?_
      refine q_iconst hx hb dX3_isToldInOrder_14 ?_
      refine q_icmp_eq hx hb dX3_isToldInOrder_15 (tgt := 86) (by decide) (by omega) (by omega) (fun c3 => ?_) (fun c3 => ?_)
      · refine lv_iload hx hb dX3_isToldInOrder_86 (lv_at hl 4 rfl) ?_
        refine q_iconst hx hb dX3_isToldInOrder_88 ?_
        refine q_icmp_ne hx hb dX3_isToldInOrder_89 (tgt := 102) (by decide) (by omega) (by omega) (fun c4 => ?_) (fun c4 => ?_)
        · refine q_iconst hx hb dX3_isToldInOrder_102 ?_
          exact q_iretS C0 hret hlk dX3_isToldInOrder_103 (by decide) (by first | (rw [hI, show r = -1 by omega, tioP_1, if_pos (by omega)]; done) | (rw [hI, show r = -1 by omega, tioP_1, if_neg (by omega)]; done) | (rw [hI, tioP_e (by omega), if_neg (by omega)]; done) | (rw [hI, tioP_s (by omega), if_neg (by omega), if_pos (by unfold ioBad ioNx; (repeat' split) <;> first | omega | (exfalso; omega))]))
        · refine lv_iload hx hb dX3_isToldInOrder_92 (lv_at hl 5 rfl) ?_
          refine lv_iload_n hx hb dX3_isToldInOrder_94 rfl (lv_at hl 3 rfl) ?_
          refine q_icmp_ne hx hb dX3_isToldInOrder_95 (tgt := 102) (by decide) (by omega) (by omega) (fun c5 => ?_) (fun c5 => ?_)
          · refine q_iconst hx hb dX3_isToldInOrder_102 ?_
            exact q_iretS C0 hret hlk dX3_isToldInOrder_103 (by decide) (by first | (rw [hI, show r = -1 by omega, tioP_1, if_pos (by omega)]; done) | (rw [hI, show r = -1 by omega, tioP_1, if_neg (by omega)]; done) | (rw [hI, tioP_e (by omega), if_neg (by omega)]; done) | (rw [hI, tioP_s (by omega), if_neg (by omega), if_pos (by unfold ioBad ioNx; (repeat' split) <;> first | omega | (exfalso; omega))]))
          · refine q_iconst hx hb dX3_isToldInOrder_98 ?_
            refine lv_goto (tgt := 103) hx hb dX3_isToldInOrder_99 (by decide) ?_
            exact q_iretS C0 hret hlk dX3_isToldInOrder_103 (by decide) (by first | (rw [hI, show r = -1 by omega, tioP_1, if_pos (by omega)]; done) | (rw [hI, show r = -1 by omega, tioP_1, if_neg (by omega)]; done) | (rw [hI, tioP_e (by omega), if_neg (by omega)]; done) | (rw [hI, tioP_s (by omega), if_neg (by omega), if_pos (by unfold ioBad ioNx; (repeat' split) <;> first | omega | (exfalso; omega))]))
      · refine lv_iload hx hb dX3_isToldInOrder_18 (lv_at hl 5 rfl) ?_
        refine q_bipush hx hb dX3_isToldInOrder_20 (by decide) ?_
        refine q_icmp_ge hx hb dX3_isToldInOrder_22 (tgt := 86) (by decide) (by omega) (by omega) (fun c6 => ?_) (fun c6 => ?_)
        · refine lv_iload hx hb dX3_isToldInOrder_86 (lv_at hl 4 rfl) ?_
          refine q_iconst hx hb dX3_isToldInOrder_88 ?_
          refine q_icmp_ne hx hb dX3_isToldInOrder_89 (tgt := 102) (by decide) (by omega) (by omega) (fun c7 => ?_) (fun c7 => ?_)
          · refine q_iconst hx hb dX3_isToldInOrder_102 ?_
            exact q_iretS C0 hret hlk dX3_isToldInOrder_103 (by decide) (by first | (rw [hI, show r = -1 by omega, tioP_1, if_pos (by omega)]; done) | (rw [hI, show r = -1 by omega, tioP_1, if_neg (by omega)]; done) | (rw [hI, tioP_e (by omega), if_neg (by omega)]; done) | (rw [hI, tioP_s (by omega), if_neg (by omega), if_pos (by unfold ioBad ioNx; (repeat' split) <;> first | omega | (exfalso; omega))]))
          · refine lv_iload hx hb dX3_isToldInOrder_92 (lv_at hl 5 rfl) ?_
            refine lv_iload_n hx hb dX3_isToldInOrder_94 rfl (lv_at hl 3 rfl) ?_
            refine q_icmp_ne hx hb dX3_isToldInOrder_95 (tgt := 102) (by decide) (by omega) (by omega) (fun c8 => ?_) (fun c8 => ?_)
            · refine q_iconst hx hb dX3_isToldInOrder_102 ?_
              exact q_iretS C0 hret hlk dX3_isToldInOrder_103 (by decide) (by first | (rw [hI, show r = -1 by omega, tioP_1, if_pos (by omega)]; done) | (rw [hI, show r = -1 by omega, tioP_1, if_neg (by omega)]; done) | (rw [hI, tioP_e (by omega), if_neg (by omega)]; done) | (rw [hI, tioP_s (by omega), if_neg (by omega), if_pos (by unfold ioBad ioNx; (repeat' split) <;> first | omega | (exfalso; omega))]))
            · refine q_iconst hx hb dX3_isToldInOrder_98 ?_
              refine lv_goto (tgt := 103) hx hb dX3_isToldInOrder_99 (by decide) ?_
              exact q_iretS C0 hret hlk dX3_isToldInOrder_103 (by decide) (by first | (rw [hI, show r = -1 by omega, tioP_1, if_pos (by omega)]; done) | (rw [hI, show r = -1 by omega, tioP_1, if_neg (by omega)]; done) | (rw [hI, tioP_e (by omega), if_neg (by omega)]; done) | (rw [hI, tioP_s (by omega), if_neg (by omega), if_pos (by unfold ioBad ioNx; (repeat' split) <;> first | omega | (exfalso; omega))]))
        · refine q_iinc (x := t) (n := 1) (lv' := [(5, .int (iI ((t + 1)))), (0, .ref h), (1, .int (iI lo)), (2, .int (iI hi)), (3, .int (iI n)), (4, .int (iI r))]) hx hb dX3_isToldInOrder_25 hl (k := 5) rfl (by decide) rfl (fun ls hl => ?_)
          refine lv_aload_n hx hb dX3_isToldInOrder_28 rfl (lv_at hl 1 rfl) ?_
          refine lv_iload_n hx hb dX3_isToldInOrder_29 rfl (lv_at hl 2 rfl) ?_
          refine lv_iload_n hx hb dX3_isToldInOrder_30 rfl (lv_at hl 3 rfl) ?_
          refine lv_aload_n hx hb dX3_isToldInOrder_31 rfl (lv_at hl 1 rfl) ?_
          refine lv_iload hx hb dX3_isToldInOrder_32 (lv_at hl 5 rfl) ?_
          refine q_vS C0 lX3_132 (c_X0_keyOf l D y L F h w o k g f r hR (by omega)) ⟨rfl, rfl⟩ rfl hP ha hF rfl rfl rfl hl rfl (Nat.le_of_ble_eq_true rfl) dX3_isToldInOrder_34 ⟨Nat.zero_le _, Nat.zero_le _⟩ (fun r9 e_r9 => ?_)
          subst e_r9
          have b_10 := @keyR_b o r (by omega)
          refine q_iconst hx hb dX3_isToldInOrder_37 ?_
          refine q_vS C0 lX3_126 (c_X0_nearInPart l D y L F h w o k g f lo hi (keyR o r) 3 hR (by omega) (by omega) (by omega) (by omega)) ⟨rfl, rfl⟩ rfl hP ha hF rfl rfl rfl hl rfl (Nat.le_of_ble_eq_true rfl) dX3_isToldInOrder_38 ⟨Nat.zero_le _, Nat.zero_le _⟩ (fun r11 e_r11 => ?_)
          subst e_r11
          have b_12 := nearP_r o f lo hi (keyR o r) 3
          refine lv_istore (lv' := [(6, .int (iI ((nearP o f lo hi (keyR o r) 3)))), (5, .int (iI ((t + 1)))), (0, .ref h), (1, .int (iI lo)), (2, .int (iI hi)), (3, .int (iI n)), (4, .int (iI r))]) hx hb dX3_isToldInOrder_41 hl (by decide) rfl (fun ls hl => ?_)
          refine lv_aload_n hx hb dX3_isToldInOrder_43 rfl (lv_at hl 2 rfl) ?_
          refine lv_iload hx hb dX3_isToldInOrder_44 (lv_at hl 6 rfl) ?_
          refine q_vS C0 lX3_119 (c_X0_isThere l D y L F h w o k g f r hR (by omega)) ⟨rfl, rfl⟩ rfl hP ha hF rfl rfl rfl hl rfl (Nat.le_of_ble_eq_true rfl) dX3_isToldInOrder_46 ⟨Nat.zero_le _, Nat.zero_le _⟩ (fun r13 e_r13 => ?_)
          subst e_r13
          have b_14 := isT_b f r
          refine q_if_eq hx hb dX3_isToldInOrder_49 (tgt := 77) (by decide) (by omega) (fun c15 => ?_) (fun c15 => ?_)
          · refine q_iconst hx hb dX3_isToldInOrder_77 ?_
            exact q_iretS C0 hret hlk dX3_isToldInOrder_78 (by decide) (by first | (rw [hI, show r = -1 by omega, tioP_1, if_pos (by omega)]; done) | (rw [hI, show r = -1 by omega, tioP_1, if_neg (by omega)]; done) | (rw [hI, tioP_e (by omega), if_neg (by omega)]; done) | (rw [hI, tioP_s (by omega), if_neg (by omega), if_pos (by unfold ioBad ioNx; (repeat' split) <;> first | omega | (exfalso; omega))]))
          · refine lv_iload hx hb dX3_isToldInOrder_52 (lv_at hl 0 rfl) ?_
            refine q_iconst hx hb dX3_isToldInOrder_54 ?_
            refine q_icmp_eq hx hb dX3_isToldInOrder_55 (tgt := 79) (by decide) (by omega) (by omega) (fun c16 => ?_) (fun c16 => ?_)
            · refine lv_iload hx hb dX3_isToldInOrder_79 (lv_at hl 0 rfl) ?_
              refine lv_istore (lv' := [(4, .int (iI ((nearP o f lo hi (keyR o r) 3)))), (6, .int (iI ((nearP o f lo hi (keyR o r) 3)))), (5, .int (iI ((t + 1)))), (0, .ref h), (1, .int (iI lo)), (2, .int (iI hi)), (3, .int (iI n))]) hx hb dX3_isToldInOrder_81 hl (by decide) rfl (fun ls hl => ?_)
              refine lv_goto (tgt := 12) hx hb dX3_isToldInOrder_83 (by decide) ?_
              exact ih_LP12 _ (by omega) (nearP o f lo hi (keyR o r) 3) (t + 1) (by omega) (by omega) (by rw [hI, tioP_s (by omega), if_neg (by omega), if_neg (by unfold ioBad ioNx; (repeat' split) <;> first | omega | (exfalso; omega))]; rfl) rfl ls (lv_sub hl [3, 4, 5, 6, 0, 2] rfl)
            · refine lv_aload_n hx hb dX3_isToldInOrder_58 rfl (lv_at hl 2 rfl) ?_
              refine lv_aload_n hx hb dX3_isToldInOrder_59 rfl (lv_at hl 2 rfl) ?_
              refine lv_iload hx hb dX3_isToldInOrder_60 (lv_at hl 6 rfl) ?_
              refine q_vS C0 lX3_132 (c_X0_keyOf l D y L F h w o k g f r hR (by omega)) ⟨rfl, rfl⟩ rfl hP ha hF rfl rfl rfl hl rfl (Nat.le_of_ble_eq_true rfl) dX3_isToldInOrder_62 ⟨Nat.zero_le _, Nat.zero_le _⟩ (fun r17 e_r17 => ?_)
              subst e_r17
              have b_18 := @keyR_b o r (by omega)
              refine lv_aload_n hx hb dX3_isToldInOrder_65 rfl (lv_at hl 2 rfl) ?_
              refine lv_iload hx hb dX3_isToldInOrder_66 (lv_at hl 0 rfl) ?_
              refine q_vS C0 lX3_132 (c_X0_keyOf l D y L F h w o k g f (nearP o f lo hi (keyR o r) 3) hR (by omega)) ⟨rfl, rfl⟩ rfl hP ha hF rfl rfl rfl hl rfl (Nat.le_of_ble_eq_true rfl) dX3_isToldInOrder_68 ⟨Nat.zero_le _, Nat.zero_le _⟩ (fun r19 e_r19 => ?_)
              subst e_r19
              have b_20 := @keyR_b o (nearP o f lo hi (keyR o r) 3) (by omega)
              refine q_vS C0 lX3_316 (c_X0_isAhead l D y L F h w o k g f (keyR o r) (keyR o (nearP o f lo hi (keyR o r) 3)) hR (by omega) (by omega)) ⟨rfl, rfl⟩ rfl hP ha hF rfl rfl rfl hl rfl (Nat.le_of_ble_eq_true rfl) dX3_isToldInOrder_71 ⟨Nat.zero_le _, Nat.zero_le _⟩ (fun r21 e_r21 => ?_)
              subst e_r21
              have b_22 := ahd_b o (keyR o r) (keyR o (nearP o f lo hi (keyR o r) 3))
              refine q_if_ne hx hb dX3_isToldInOrder_74 (tgt := 79) (by decide) (by omega) (fun c23 => ?_) (fun c23 => ?_)
              · refine lv_iload hx hb dX3_isToldInOrder_79 (lv_at hl 0 rfl) ?_
                refine lv_istore (lv' := [(4, .int (iI ((nearP o f lo hi (keyR o r) 3)))), (6, .int (iI ((nearP o f lo hi (keyR o r) 3)))), (5, .int (iI ((t + 1)))), (0, .ref h), (1, .int (iI lo)), (2, .int (iI hi)), (3, .int (iI n))]) hx hb dX3_isToldInOrder_81 hl (by decide) rfl (fun ls hl => ?_)
                refine lv_goto (tgt := 12) hx hb dX3_isToldInOrder_83 (by decide) ?_
                exact ih_LP12 _ (by omega) (nearP o f lo hi (keyR o r) 3) (t + 1) (by omega) (by omega) (by rw [hI, tioP_s (by omega), if_neg (by omega), if_neg (by unfold ioBad ioNx; (repeat' split) <;> first | omega | (exfalso; omega))]; rfl) rfl ls (lv_sub hl [3, 4, 5, 6, 0, 2] rfl)
              · refine q_iconst hx hb dX3_isToldInOrder_77 ?_
                exact q_iretS C0 hret hlk dX3_isToldInOrder_78 (by decide) (by first | (rw [hI, show r = -1 by omega, tioP_1, if_pos (by omega)]; done) | (rw [hI, show r = -1 by omega, tioP_1, if_neg (by omega)]; done) | (rw [hI, tioP_e (by omega), if_neg (by omega)]; done) | (rw [hI, tioP_s (by omega), if_neg (by omega), if_pos (by unfold ioBad ioNx; (repeat' split) <;> first | omega | (exfalso; omega))]))
  exact LP12 _ (endP f lo hi 0) 0 (by omega) (by omega) (rfl) rfl ls (lv_sub hl [2, 3, 4, 5, 1, 0] rfl)
