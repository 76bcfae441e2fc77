set_option maxHeartbeats 800000 in
set_option maxRecDepth 100000 in
theorem c_X3_areNeighboursFound (l : Launch) (D : va_G) (y : Nat → ClassId) (L : List Nat) (F : Nat → va_E) (h : Nat) (w : Nat) (o : Int) (k : Int) (g : Int) (f : Int → Int) (hR : Rw y L F h w o k g f) : Met l yX3_areNeighboursFound (.code yX3_areNeighboursFound cX3_areNeighboursFound 7 (some .boolean) :: Tt) ({ frames := 3, cells := 0, slots := 0, locals := 69 }) (PcR D y L F [.ref h]) (cS (fun r => r = nbP o f 0 (-1))) 0 0 (fun _ => False) := by
  have hR0 := hR
  obtain ⟨ha, hF, hw, hFw, ho, hfb⟩ := hR0
  refine q_ofR (lv := [(0, .ref h)]) (by decide) (Nat.le_of_ble_eq_true rfl) rfl (fun p e s m below meth c C0 hret hlk hP ls hl => ?_)
  have hx := C0.1.1
  have hb := C0.1.2.1
  have hts := C0.1.2.2.2.2
  refine q_iconst hx hb dX3_areNeighboursFound_0 ?_
  refine lv_istore_n (lv' := [(1, .int (iI ((-1)))), (0, .ref h)]) hx hb dX3_areNeighboursFound_1 rfl hl (by decide) rfl (fun ls hl => ?_)
  refine q_iconst hx hb dX3_areNeighboursFound_2 ?_
  refine lv_istore_n (lv' := [(2, .int (iI 0)), (1, .int (iI ((-1)))), (0, .ref h)]) hx hb dX3_areNeighboursFound_3 rfl hl (by decide) rfl (fun ls hl => ?_)
  have LP4 : ∀ (n_LP4 : Nat) (r : Int) (w9 : Int), (0 ≤ r ∧ r ≤ 100) → (-1 ≤ w9 ∧ w9 ≤ 99) → (nbP o f 0 (-1) = nbP o f r w9) → (100 - r).toNat = n_LP4 → ∀ ls : Array Slot, lv_has ls 7 [(0, .ref h), (1, .int (iI w9)), (2, .int (iI r))] → W p l e ({ frames := 3, cells := 0, slots := 0, locals := 69 } : Room) s m [.ref h].toArray below meth c s.heap [] 0 0 (MQ below (cS (fun r => r = nbP o f 0 (-1))) [.ref h].toArray s 0 0 (fun _ => False)) (F0 m 4 ls []) := by
    intro n_LP4
    induction n_LP4 using Nat.strongRecOn with
    | ind n_LP4 ih_LP4 =>
      intro r w9 hr hw9 hI hm_LP4 ls hl
      refine lv_iload_n hx hb dX3_areNeighboursFound_4 rfl (lv_at hl 2 rfl) ?_
      refine q_bipush hx hb dX3_areNeighboursFound_5 (by decide) ?_
      refine q_icmp_ge hx hb dX3_areNeighboursFound_7 (tgt := 144) (by decide) (by omega) (by omega) (fun c1 => ?_) (fun c1 => ?_)
      · refine q_iconst hx hb dX3_areNeighboursFound_144 ?_
        exact q_iretS C0 hret hlk dX3_areNeighboursFound_145 (by decide) (by rw [hI, nbP_e (by omega)])
      · refine lv_aload_n hx hb dX3_areNeighboursFound_10 rfl (lv_at hl 0 rfl) ?_
        refine lv_iload_n hx hb dX3_areNeighboursFound_11 rfl (lv_at hl 2 rfl) ?_
        refine q_vS C0 lX3_119 (c_X0_isThere l D y L F h w o k g f r hR (by omega)) ⟨rfl, rfl⟩ rfl hP ha hF rfl rfl rfl hl rfl (Nat.le_of_ble_eq_true rfl) dX3_areNeighboursFound_12 ⟨Nat.zero_le _, Nat.zero_le _⟩ (fun r2 e_r2 => ?_)
        subst e_r2
        have b_3 := isT_b f r
        refine q_if_eq hx hb dX3_areNeighboursFound_15 (tgt := 138) (by decide) (by omega) (fun c4 => ?_) (fun c4 => ?_)
        · refine q_iinc (x := r) (n := 1) (lv' := [(2, .int (iI ((r + 1)))), (0, .ref h), (1, .int (iI w9))]) hx hb dX3_areNeighboursFound_138 hl (k := 2) rfl (by decide) rfl (fun ls hl => ?_)
          refine lv_goto (tgt := 4) hx hb dX3_areNeighboursFound_141 (by decide) ?_
          exact ih_LP4 _ (by omega) (r + 1) w9 (by omega) (by omega) (by first | (rw [hI, nbP_s (by omega), if_pos (by omega)]; done) | (rw [hI, nbP_s (by omega), if_neg (by omega), if_neg (by unfold nbOk; (repeat' split) <;> first | omega | (exfalso; omega))])) rfl ls (lv_sub hl [1, 2, 0] rfl)
        · refine lv_aload_n hx hb dX3_areNeighboursFound_18 rfl (lv_at hl 0 rfl) ?_
          refine lv_iload_n hx hb dX3_areNeighboursFound_19 rfl (lv_at hl 2 rfl) ?_
          refine q_vS C0 lX3_132 (c_X0_keyOf l D y L F h w o k g f r hR (by omega)) ⟨rfl, rfl⟩ rfl hP ha hF rfl rfl rfl hl rfl (Nat.le_of_ble_eq_true rfl) dX3_areNeighboursFound_20 ⟨Nat.zero_le _, Nat.zero_le _⟩ (fun r5 e_r5 => ?_)
          subst e_r5
          have b_6 := @keyR_b o r (by omega)
          refine lv_istore_n (lv' := [(3, .int (iI ((keyR o r)))), (0, .ref h), (1, .int (iI w9)), (2, .int (iI r))]) hx hb dX3_areNeighboursFound_23 rfl hl (by decide) rfl (fun ls hl => ?_)
          refine lv_aload_n hx hb dX3_areNeighboursFound_24 rfl (lv_at hl 1 rfl) ?_
          refine q_iconst hx hb dX3_areNeighboursFound_25 ?_
          refine q_bipush hx hb dX3_areNeighboursFound_26 (by decide) ?_
          refine lv_iload_n hx hb dX3_areNeighboursFound_28 rfl (lv_at hl 0 rfl) ?_
          refine q_iconst hx hb dX3_areNeighboursFound_29 ?_
          refine q_vS C0 lX3_126 (c_X0_nearInPart l D y L F h w o k g f 0 99 (keyR o r) 0 hR (by omega) (by omega) (by omega) (by omega)) ⟨rfl, rfl⟩ rfl hP ha hF rfl rfl rfl hl rfl (Nat.le_of_ble_eq_true rfl) dX3_areNeighboursFound_30 ⟨Nat.zero_le _, Nat.zero_le _⟩ (fun r7 e_r7 => ?_)
          subst e_r7
          have b_8 := nearP_r o f 0 99 (keyR o r) 0
          refine lv_iload_n hx hb dX3_areNeighboursFound_33 rfl (lv_at hl 3 rfl) ?_
          refine q_icmp_ne hx hb dX3_areNeighboursFound_34 (tgt := 67) (by decide) (by omega) (by omega) (fun c9 => ?_) (fun c9 => ?_)
          · refine q_iconst hx hb dX3_areNeighboursFound_67 ?_
            refine lv_istore (lv' := [(4, .int (iI 0)), (3, .int (iI ((keyR o r)))), (0, .ref h), (1, .int (iI w9)), (2, .int (iI r))]) hx hb dX3_areNeighboursFound_68 hl (by decide) rfl (fun ls hl => ?_)
            refine lv_aload_n hx hb dX3_areNeighboursFound_70 rfl (lv_at hl 2 rfl) ?_
            refine q_iconst hx hb dX3_areNeighboursFound_71 ?_
            refine q_bipush hx hb dX3_areNeighboursFound_72 (by decide) ?_
            refine lv_iload_n hx hb dX3_areNeighboursFound_74 rfl (lv_at hl 1 rfl) ?_
            refine q_iconst hx hb dX3_areNeighboursFound_75 ?_
            refine q_vS C0 lX3_126 (c_X0_nearInPart l D y L F h w o k g f 0 99 (keyR o r) 2 hR (by omega) (by omega) (by omega) (by omega)) ⟨rfl, rfl⟩ rfl hP ha hF rfl rfl rfl hl rfl (Nat.le_of_ble_eq_true rfl) dX3_areNeighboursFound_76 ⟨Nat.zero_le _, Nat.zero_le _⟩ (fun r10 e_r10 => ?_)
            subst e_r10
            have b_11 := nearP_r o f 0 99 (keyR o r) 2
            refine lv_iload_n hx hb dX3_areNeighboursFound_79 rfl (lv_at hl 3 rfl) ?_
            refine q_icmp_ne hx hb dX3_areNeighboursFound_80 (tgt := 87) (by decide) (by omega) (by omega) (fun c12 => ?_) (fun c12 => ?_)
            · refine q_iconst hx hb dX3_areNeighboursFound_87 ?_
              refine lv_istore (lv' := [(5, .int (iI 0)), (4, .int (iI 0)), (3, .int (iI ((keyR o r)))), (0, .ref h), (1, .int (iI w9)), (2, .int (iI r))]) hx hb dX3_areNeighboursFound_88 hl (by decide) rfl (fun ls hl => ?_)
              refine lv_iload_n hx hb dX3_areNeighboursFound_90 rfl (lv_at hl 4 rfl) ?_
              refine q_iconst hx hb dX3_areNeighboursFound_91 ?_
              refine q_icmp_eq hx hb dX3_areNeighboursFound_92 (tgt := 112) (by decide) (by omega) (by omega) (fun c13 => ?_) (fun c13 => ?_)
              · refine q_iconst hx hb dX3_areNeighboursFound_112 ?_
                refine lv_goto (tgt := 117) hx hb dX3_areNeighboursFound_113 (by decide) ?_
                refine lv_istore (lv' := [(6, .int (iI 1)), (5, .int (iI 0)), (4, .int (iI 0)), (3, .int (iI ((keyR o r)))), (0, .ref h), (1, .int (iI w9)), (2, .int (iI r))]) hx hb dX3_areNeighboursFound_117 hl (by decide) rfl (fun ls hl => ?_)
                refine lv_iload hx hb dX3_areNeighboursFound_119 (lv_at hl 2 rfl) ?_
                refine q_if_eq hx hb dX3_areNeighboursFound_121 (tgt := 134) (by decide) (by omega) (fun c14 => ?_) (fun c14 => absurd c14 (by omega))
                refine q_iconst hx hb dX3_areNeighboursFound_134 ?_
                exact q_iretS C0 hret hlk dX3_areNeighboursFound_135 (by decide) (by rw [hI, nbP_s (by omega), if_neg (by omega), if_pos (by unfold nbOk; (repeat' split) <;> first | omega | (exfalso; omega))])
              · refine lv_aload_n hx hb dX3_areNeighboursFound_95 rfl (lv_at hl 3 rfl) ?_
                refine q_iconst hx hb dX3_areNeighboursFound_96 ?_
                refine q_bipush hx hb dX3_areNeighboursFound_97 (by decide) ?_
                refine lv_aload_n hx hb dX3_areNeighboursFound_99 rfl (lv_at hl 3 rfl) ?_
                refine lv_iload_n hx hb dX3_areNeighboursFound_100 rfl (lv_at hl 4 rfl) ?_
                refine q_vS C0 lX3_132 (c_X0_keyOf l D y L F h w o k g f w9 hR (by omega)) ⟨rfl, rfl⟩ rfl hP ha hF rfl rfl rfl hl rfl (Nat.le_of_ble_eq_true rfl) dX3_areNeighboursFound_101 ⟨Nat.zero_le _, Nat.zero_le _⟩ (fun r15 e_r15 => ?_)
                subst e_r15
                have b_16 := @keyR_b o w9 (by omega)
                refine q_iconst hx hb dX3_areNeighboursFound_104 ?_
                refine q_vS C0 lX3_126 (c_X0_nearInPart l D y L F h w o k g f 0 99 (keyR o w9) 3 hR (by omega) (by omega) (by omega) (by omega)) ⟨rfl, rfl⟩ rfl hP ha hF rfl rfl rfl hl rfl (Nat.le_of_ble_eq_true rfl) dX3_areNeighboursFound_105 ⟨Nat.zero_le _, Nat.zero_le _⟩ (fun r17 e_r17 => ?_)
                subst e_r17
                have b_18 := nearP_r o f 0 99 (keyR o w9) 3
                refine lv_iload_n hx hb dX3_areNeighboursFound_108 rfl (lv_at hl 5 rfl) ?_
                refine q_icmp_ne hx hb dX3_areNeighboursFound_109 (tgt := 116) (by decide) (by omega) (by omega) (fun c19 => ?_) (fun c19 => ?_)
                · refine q_iconst hx hb dX3_areNeighboursFound_116 ?_
                  refine lv_istore (lv' := [(6, .int (iI 0)), (5, .int (iI 0)), (4, .int (iI 0)), (3, .int (iI ((keyR o r)))), (0, .ref h), (1, .int (iI w9)), (2, .int (iI r))]) hx hb dX3_areNeighboursFound_117 hl (by decide) rfl (fun ls hl => ?_)
                  refine lv_iload hx hb dX3_areNeighboursFound_119 (lv_at hl 2 rfl) ?_
                  refine q_if_eq hx hb dX3_areNeighboursFound_121 (tgt := 134) (by decide) (by omega) (fun c20 => ?_) (fun c20 => absurd c20 (by omega))
                  refine q_iconst hx hb dX3_areNeighboursFound_134 ?_
                  exact q_iretS C0 hret hlk dX3_areNeighboursFound_135 (by decide) (by rw [hI, nbP_s (by omega), if_neg (by omega), if_pos (by unfold nbOk; (repeat' split) <;> first | omega | (exfalso; omega))])
                · refine q_iconst hx hb dX3_areNeighboursFound_112 ?_
                  refine lv_goto (tgt := 117) hx hb dX3_areNeighboursFound_113 (by decide) ?_
                  refine lv_istore (lv' := [(6, .int (iI 1)), (5, .int (iI 0)), (4, .int (iI 0)), (3, .int (iI ((keyR o r)))), (0, .ref h), (1, .int (iI w9)), (2, .int (iI r))]) hx hb dX3_areNeighboursFound_117 hl (by decide) rfl (fun ls hl => ?_)
                  refine lv_iload hx hb dX3_areNeighboursFound_119 (lv_at hl 2 rfl) ?_
                  refine q_if_eq hx hb dX3_areNeighboursFound_121 (tgt := 134) (by decide) (by omega) (fun c21 => ?_) (fun c21 => absurd c21 (by omega))
                  refine q_iconst hx hb dX3_areNeighboursFound_134 ?_
                  exact q_iretS C0 hret hlk dX3_areNeighboursFound_135 (by decide) (by rw [hI, nbP_s (by omega), if_neg (by omega), if_pos (by unfold nbOk; (repeat' split) <;> first | omega | (exfalso; omega))])
            · refine q_iconst hx hb dX3_areNeighboursFound_83 ?_
              refine lv_goto (tgt := 88) hx hb dX3_areNeighboursFound_84 (by decide) ?_
              refine lv_istore (lv' := [(5, .int (iI 1)), (4, .int (iI 0)), (3, .int (iI ((keyR o r)))), (0, .ref h), (1, .int (iI w9)), (2, .int (iI r))]) hx hb dX3_areNeighboursFound_88 hl (by decide) rfl (fun ls hl => ?_)
              refine lv_iload_n hx hb dX3_areNeighboursFound_90 rfl (lv_at hl 4 rfl) ?_
              refine q_iconst hx hb dX3_areNeighboursFound_91 ?_
              refine q_icmp_eq hx hb dX3_areNeighboursFound_92 (tgt := 112) (by decide) (by omega) (by omega) (fun c22 => ?_) (fun c22 => ?_)
              · refine q_iconst hx hb dX3_areNeighboursFound_112 ?_
                refine lv_goto (tgt := 117) hx hb dX3_areNeighboursFound_113 (by decide) ?_
                refine lv_istore (lv' := [(6, .int (iI 1)), (5, .int (iI 1)), (4, .int (iI 0)), (3, .int (iI ((keyR o r)))), (0, .ref h), (1, .int (iI w9)), (2, .int (iI r))]) hx hb dX3_areNeighboursFound_117 hl (by decide) rfl (fun ls hl => ?_)
                refine lv_iload hx hb dX3_areNeighboursFound_119 (lv_at hl 2 rfl) ?_
                refine q_if_eq hx hb dX3_areNeighboursFound_121 (tgt := 134) (by decide) (by omega) (fun c23 => ?_) (fun c23 => absurd c23 (by omega))
                refine q_iconst hx hb dX3_areNeighboursFound_134 ?_
                exact q_iretS C0 hret hlk dX3_areNeighboursFound_135 (by decide) (by rw [hI, nbP_s (by omega), if_neg (by omega), if_pos (by unfold nbOk; (repeat' split) <;> first | omega | (exfalso; omega))])
              · refine lv_aload_n hx hb dX3_areNeighboursFound_95 rfl (lv_at hl 3 rfl) ?_
                refine q_iconst hx hb dX3_areNeighboursFound_96 ?_
                refine q_bipush hx hb dX3_areNeighboursFound_97 (by decide) ?_
                refine lv_aload_n hx hb dX3_areNeighboursFound_99 rfl (lv_at hl 3 rfl) ?_
                refine lv_iload_n hx hb dX3_areNeighboursFound_100 rfl (lv_at hl 4 rfl) ?_
                refine q_vS C0 lX3_132 (c_X0_keyOf l D y L F h w o k g f w9 hR (by omega)) ⟨rfl, rfl⟩ rfl hP ha hF rfl rfl rfl hl rfl (Nat.le_of_ble_eq_true rfl) dX3_areNeighboursFound_101 ⟨Nat.zero_le _, Nat.zero_le _⟩ (fun r24 e_r24 => ?_)
                subst e_r24
                have b_25 := @keyR_b o w9 (by omega)
                refine q_iconst hx hb dX3_areNeighboursFound_104 ?_
                refine q_vS C0 lX3_126 (c_X0_nearInPart l D y L F h w o k g f 0 99 (keyR o w9) 3 hR (by omega) (by omega) (by omega) (by omega)) ⟨rfl, rfl⟩ rfl hP ha hF rfl rfl rfl hl rfl (Nat.le_of_ble_eq_true rfl) dX3_areNeighboursFound_105 ⟨Nat.zero_le _, Nat.zero_le _⟩ (fun r26 e_r26 => ?_)
                subst e_r26
                have b_27 := nearP_r o f 0 99 (keyR o w9) 3
                refine lv_iload_n hx hb dX3_areNeighboursFound_108 rfl (lv_at hl 5 rfl) ?_
                refine q_icmp_ne hx hb dX3_areNeighboursFound_109 (tgt := 116) (by decide) (by omega) (by omega) (fun c28 => ?_) (fun c28 => ?_)
                · refine q_iconst hx hb dX3_areNeighboursFound_116 ?_
                  refine lv_istore (lv' := [(6, .int (iI 0)), (5, .int (iI 1)), (4, .int (iI 0)), (3, .int (iI ((keyR o r)))), (0, .ref h), (1, .int (iI w9)), (2, .int (iI r))]) hx hb dX3_areNeighboursFound_117 hl (by decide) rfl (fun ls hl => ?_)
                  refine lv_iload hx hb dX3_areNeighboursFound_119 (lv_at hl 2 rfl) ?_
                  refine q_if_eq hx hb dX3_areNeighboursFound_121 (tgt := 134) (by decide) (by omega) (fun c29 => ?_) (fun c29 => absurd c29 (by omega))
                  refine q_iconst hx hb dX3_areNeighboursFound_134 ?_
                  exact q_iretS C0 hret hlk dX3_areNeighboursFound_135 (by decide) (by rw [hI, nbP_s (by omega), if_neg (by omega), if_pos (by unfold nbOk; (repeat' split) <;> first | omega | (exfalso; omega))])
                · refine q_iconst hx hb dX3_areNeighboursFound_112 ?_
                  refine lv_goto (tgt := 117) hx hb dX3_areNeighboursFound_113 (by decide) ?_
                  refine lv_istore (lv' := [(6, .int (iI 1)), (5, .int (iI 1)), (4, .int (iI 0)), (3, .int (iI ((keyR o r)))), (0, .ref h), (1, .int (iI w9)), (2, .int (iI r))]) hx hb dX3_areNeighboursFound_117 hl (by decide) rfl (fun ls hl => ?_)
                  refine lv_iload hx hb dX3_areNeighboursFound_119 (lv_at hl 2 rfl) ?_
                  refine q_if_eq hx hb dX3_areNeighboursFound_121 (tgt := 134) (by decide) (by omega) (fun c30 => ?_) (fun c30 => absurd c30 (by omega))
                  refine q_iconst hx hb dX3_areNeighboursFound_134 ?_
                  exact q_iretS C0 hret hlk dX3_areNeighboursFound_135 (by decide) (by rw [hI, nbP_s (by omega), if_neg (by omega), if_pos (by unfold nbOk; (repeat' split) <;> first | omega | (exfalso; omega))])
          · refine lv_aload_n hx hb dX3_areNeighboursFound_37 rfl (lv_at hl 1 rfl) ?_
            refine q_iconst hx hb dX3_areNeighboursFound_38 ?_
            refine q_bipush hx hb dX3_areNeighboursFound_39 (by decide) ?_
            refine lv_iload_n hx hb dX3_areNeighboursFound_41 rfl (lv_at hl 0 rfl) ?_
            refine q_iconst hx hb dX3_areNeighboursFound_42 ?_
            refine q_vS C0 lX3_126 (c_X0_nearInPart l D y L F h w o k g f 0 99 (keyR o r) 1 hR (by omega) (by omega) (by omega) (by omega)) ⟨rfl, rfl⟩ rfl hP ha hF rfl rfl rfl hl rfl (Nat.le_of_ble_eq_true rfl) dX3_areNeighboursFound_43 ⟨Nat.zero_le _, Nat.zero_le _⟩ (fun r31 e_r31 => ?_)
            subst e_r31
            have b_32 := nearP_r o f 0 99 (keyR o r) 1
            refine lv_iload_n hx hb dX3_areNeighboursFound_46 rfl (lv_at hl 3 rfl) ?_
            refine q_icmp_ne hx hb dX3_areNeighboursFound_47 (tgt := 67) (by decide) (by omega) (by omega) (fun c33 => ?_) (fun c33 => ?_)
            · refine q_iconst hx hb dX3_areNeighboursFound_67 ?_
              refine lv_istore (lv' := [(4, .int (iI 0)), (3, .int (iI ((keyR o r)))), (0, .ref h), (1, .int (iI w9)), (2, .int (iI r))]) hx hb dX3_areNeighboursFound_68 hl (by decide) rfl (fun ls hl => ?_)
              refine lv_aload_n hx hb dX3_areNeighboursFound_70 rfl (lv_at hl 2 rfl) ?_
              refine q_iconst hx hb dX3_areNeighboursFound_71 ?_
              refine q_bipush hx hb dX3_areNeighboursFound_72 (by decide) ?_
              refine lv_iload_n hx hb dX3_areNeighboursFound_74 rfl (lv_at hl 1 rfl) ?_
              refine q_iconst hx hb dX3_areNeighboursFound_75 ?_
              refine q_vS C0 lX3_126 (c_X0_nearInPart l D y L F h w o k g f 0 99 (keyR o r) 2 hR (by omega) (by omega) (by omega) (by omega)) ⟨rfl, rfl⟩ rfl hP ha hF rfl rfl rfl hl rfl (Nat.le_of_ble_eq_true rfl) dX3_areNeighboursFound_76 ⟨Nat.zero_le _, Nat.zero_le _⟩ (fun r34 e_r34 => ?_)
              subst e_r34
              have b_35 := nearP_r o f 0 99 (keyR o r) 2
              refine lv_iload_n hx hb dX3_areNeighboursFound_79 rfl (lv_at hl 3 rfl) ?_
              refine q_icmp_ne hx hb dX3_areNeighboursFound_80 (tgt := 87) (by decide) (by omega) (by omega) (fun c36 => ?_) (fun c36 => ?_)
              · refine q_iconst hx hb dX3_areNeighboursFound_87 ?_
                refine lv_istore (lv' := [(5, .int (iI 0)), (4, .int (iI 0)), (3, .int (iI ((keyR o r)))), (0, .ref h), (1, .int (iI w9)), (2, .int (iI r))]) hx hb dX3_areNeighboursFound_88 hl (by decide) rfl (fun ls hl => ?_)
                refine lv_iload_n hx hb dX3_areNeighboursFound_90 rfl (lv_at hl 4 rfl) ?_
                refine q_iconst hx hb dX3_areNeighboursFound_91 ?_
                refine q_icmp_eq hx hb dX3_areNeighboursFound_92 (tgt := 112) (by decide) (by omega) (by omega) (fun c37 => ?_) (fun c37 => ?_)
                · refine q_iconst hx hb dX3_areNeighboursFound_112 ?_
                  refine lv_goto (tgt := 117) hx hb dX3_areNeighboursFound_113 (by decide) ?_
                  refine lv_istore (lv' := [(6, .int (iI 1)), (5, .int (iI 0)), (4, .int (iI 0)), (3, .int (iI ((keyR o r)))), (0, .ref h), (1, .int (iI w9)), (2, .int (iI r))]) hx hb dX3_areNeighboursFound_117 hl (by decide) rfl (fun ls hl => ?_)
                  refine lv_iload hx hb dX3_areNeighboursFound_119 (lv_at hl 2 rfl) ?_
                  refine q_if_eq hx hb dX3_areNeighboursFound_121 (tgt := 134) (by decide) (by omega) (fun c38 => ?_) (fun c38 => absurd c38 (by omega))
                  refine q_iconst hx hb dX3_areNeighboursFound_134 ?_
                  exact q_iretS C0 hret hlk dX3_areNeighboursFound_135 (by decide) (by rw [hI, nbP_s (by omega), if_neg (by omega), if_pos (by unfold nbOk; (repeat' split) <;> first | omega | (exfalso; omega))])
                · refine lv_aload_n hx hb dX3_areNeighboursFound_95 rfl (lv_at hl 3 rfl) ?_
                  refine q_iconst hx hb dX3_areNeighboursFound_96 ?_
                  refine q_bipush hx hb dX3_areNeighboursFound_97 (by decide) ?_
                  refine lv_aload_n hx hb dX3_areNeighboursFound_99 rfl (lv_at hl 3 rfl) ?_
                  refine lv_iload_n hx hb dX3_areNeighboursFound_100 rfl (lv_at hl 4 rfl) ?_
                  refine q_vS C0 lX3_132 (c_X0_keyOf l D y L F h w o k g f w9 hR (by omega)) ⟨rfl, rfl⟩ rfl hP ha hF rfl rfl rfl hl rfl (Nat.le_of_ble_eq_true rfl) dX3_areNeighboursFound_101 ⟨Nat.zero_le _, Nat.zero_le _⟩ (fun r39 e_r39 => ?_)
                  subst e_r39
                  have b_40 := @keyR_b o w9 (by omega)
                  refine q_iconst hx hb dX3_areNeighboursFound_104 ?_
                  refine q_vS C0 lX3_126 (c_X0_nearInPart l D y L F h w o k g f 0 99 (keyR o w9) 3 hR (by omega) (by omega) (by omega) (by omega)) ⟨rfl, rfl⟩ rfl hP ha hF rfl rfl rfl hl rfl (Nat.le_of_ble_eq_true rfl) dX3_areNeighboursFound_105 ⟨Nat.zero_le _, Nat.zero_le _⟩ (fun r41 e_r41 => ?_)
                  subst e_r41
                  have b_42 := nearP_r o f 0 99 (keyR o w9) 3
                  refine lv_iload_n hx hb dX3_areNeighboursFound_108 rfl (lv_at hl 5 rfl) ?_
                  refine q_icmp_ne hx hb dX3_areNeighboursFound_109 (tgt := 116) (by decide) (by omega) (by omega) (fun c43 => ?_) (fun c43 => ?_)
                  · refine q_iconst hx hb dX3_areNeighboursFound_116 ?_
                    refine lv_istore (lv' := [(6, .int (iI 0)), (5, .int (iI 0)), (4, .int (iI 0)), (3, .int (iI ((keyR o r)))), (0, .ref h), (1, .int (iI w9)), (2, .int (iI r))]) hx hb dX3_areNeighboursFound_117 hl (by decide) rfl (fun ls hl => ?_)
                    refine lv_iload hx hb dX3_areNeighboursFound_119 (lv_at hl 2 rfl) ?_
                    refine q_if_eq hx hb dX3_areNeighboursFound_121 (tgt := 134) (by decide) (by omega) (fun c44 => ?_) (fun c44 => absurd c44 (by omega))
                    refine q_iconst hx hb dX3_areNeighboursFound_134 ?_
                    exact q_iretS C0 hret hlk dX3_areNeighboursFound_135 (by decide) (by rw [hI, nbP_s (by omega), if_neg (by omega), if_pos (by unfold nbOk; (repeat' split) <;> first | omega | (exfalso; omega))])
                  · refine q_iconst hx hb dX3_areNeighboursFound_112 ?_
                    refine lv_goto (tgt := 117) hx hb dX3_areNeighboursFound_113 (by decide) ?_
                    refine lv_istore (lv' := [(6, .int (iI 1)), (5, .int (iI 0)), (4, .int (iI 0)), (3, .int (iI ((keyR o r)))), (0, .ref h), (1, .int (iI w9)), (2, .int (iI r))]) hx hb dX3_areNeighboursFound_117 hl (by decide) rfl (fun ls hl => ?_)
                    refine lv_iload hx hb dX3_areNeighboursFound_119 (lv_at hl 2 rfl) ?_
                    refine q_if_eq hx hb dX3_areNeighboursFound_121 (tgt := 134) (by decide) (by omega) (fun c45 => ?_) (fun c45 => absurd c45 (by omega))
                    refine q_iconst hx hb dX3_areNeighboursFound_134 ?_
                    exact q_iretS C0 hret hlk dX3_areNeighboursFound_135 (by decide) (by rw [hI, nbP_s (by omega), if_neg (by omega), if_pos (by unfold nbOk; (repeat' split) <;> first | omega | (exfalso; omega))])
              · refine q_iconst hx hb dX3_areNeighboursFound_83 ?_
                refine lv_goto (tgt := 88) hx hb dX3_areNeighboursFound_84 (by decide) ?_
                refine lv_istore (lv' := [(5, .int (iI 1)), (4, .int (iI 0)), (3, .int (iI ((keyR o r)))), (0, .ref h), (1, .int (iI w9)), (2, .int (iI r))]) hx hb dX3_areNeighboursFound_88 hl (by decide) rfl (fun ls hl => ?_)
                refine lv_iload_n hx hb dX3_areNeighboursFound_90 rfl (lv_at hl 4 rfl) ?_
                refine q_iconst hx hb dX3_areNeighboursFound_91 ?_
                refine q_icmp_eq hx hb dX3_areNeighboursFound_92 (tgt := 112) (by decide) (by omega) (by omega) (fun c46 => ?_) (fun c46 => ?_)
                · refine q_iconst hx hb dX3_areNeighboursFound_112 ?_
                  refine lv_goto (tgt := 117) hx hb dX3_areNeighboursFound_113 (by decide) ?_
                  refine lv_istore (lv' := [(6, .int (iI 1)), (5, .int (iI 1)), (4, .int (iI 0)), (3, .int (iI ((keyR o r)))), (0, .ref h), (1, .int (iI w9)), (2, .int (iI r))]) hx hb dX3_areNeighboursFound_117 hl (by decide) rfl (fun ls hl => ?_)
                  refine lv_iload hx hb dX3_areNeighboursFound_119 (lv_at hl 2 rfl) ?_
                  refine q_if_eq hx hb dX3_areNeighboursFound_121 (tgt := 134) (by decide) (by omega) (fun c47 => ?_) (fun c47 => absurd c47 (by omega))
                  refine q_iconst hx hb dX3_areNeighboursFound_134 ?_
                  exact q_iretS C0 hret hlk dX3_areNeighboursFound_135 (by decide) (by rw [hI, nbP_s (by omega), if_neg (by omega), if_pos (by unfold nbOk; (repeat' split) <;> first | omega | (exfalso; omega))])
                · refine lv_aload_n hx hb dX3_areNeighboursFound_95 rfl (lv_at hl 3 rfl) ?_
                  refine q_iconst hx hb dX3_areNeighboursFound_96 ?_
                  refine q_bipush hx hb dX3_areNeighboursFound_97 (by decide) ?_
                  refine lv_aload_n hx hb dX3_areNeighboursFound_99 rfl (lv_at hl 3 rfl) ?_
                  refine lv_iload_n hx hb dX3_areNeighboursFound_100 rfl (lv_at hl 4 rfl) ?_
                  refine q_vS C0 lX3_132 (c_X0_keyOf l D y L F h w o k g f w9 hR (by omega)) ⟨rfl, rfl⟩ rfl hP ha hF rfl rfl rfl hl rfl (Nat.le_of_ble_eq_true rfl) dX3_areNeighboursFound_101 ⟨Nat.zero_le _, Nat.zero_le _⟩ (fun r48 e_r48 => ?_)
                  subst e_r48
                  have b_49 := @keyR_b o w9 (by omega)
                  refine q_iconst hx hb dX3_areNeighboursFound_104 ?_
                  refine q_vS C0 lX3_126 (c_X0_nearInPart l D y L F h w o k g f 0 99 (keyR o w9) 3 hR (by omega) (by omega) (by omega) (by omega)) ⟨rfl, rfl⟩ rfl hP ha hF rfl rfl rfl hl rfl (Nat.le_of_ble_eq_true rfl) dX3_areNeighboursFound_105 ⟨Nat.zero_le _, Nat.zero_le _⟩ (fun r50 e_r50 => ?_)
                  subst e_r50
                  have b_51 := nearP_r o f 0 99 (keyR o w9) 3
                  refine lv_iload_n hx hb dX3_areNeighboursFound_108 rfl (lv_at hl 5 rfl) ?_
                  refine q_icmp_ne hx hb dX3_areNeighboursFound_109 (tgt := 116) (by decide) (by omega) (by omega) (fun c52 => ?_) (fun c52 => ?_)
                  · refine q_iconst hx hb dX3_areNeighboursFound_116 ?_
                    refine lv_istore (lv' := [(6, .int (iI 0)), (5, .int (iI 1)), (4, .int (iI 0)), (3, .int (iI ((keyR o r)))), (0, .ref h), (1, .int (iI w9)), (2, .int (iI r))]) hx hb dX3_areNeighboursFound_117 hl (by decide) rfl (fun ls hl => ?_)
                    refine lv_iload hx hb dX3_areNeighboursFound_119 (lv_at hl 2 rfl) ?_
                    refine q_if_eq hx hb dX3_areNeighboursFound_121 (tgt := 134) (by decide) (by omega) (fun c53 => ?_) (fun c53 => absurd c53 (by omega))
                    refine q_iconst hx hb dX3_areNeighboursFound_134 ?_
                    exact q_iretS C0 hret hlk dX3_areNeighboursFound_135 (by decide) (by rw [hI, nbP_s (by omega), if_neg (by omega), if_pos (by unfold nbOk; (repeat' split) <;> first | omega | (exfalso; omega))])
                  · refine q_iconst hx hb dX3_areNeighboursFound_112 ?_
                    refine lv_goto (tgt := 117) hx hb dX3_areNeighboursFound_113 (by decide) ?_
                    refine lv_istore (lv' := [(6, .int (iI 1)), (5, .int (iI 1)), (4, .int (iI 0)), (3, .int (iI ((keyR o r)))), (0, .ref h), (1, .int (iI w9)), (2, .int (iI r))]) hx hb dX3_areNeighboursFound_117 hl (by decide) rfl (fun ls hl => ?_)
                    refine lv_iload hx hb dX3_areNeighboursFound_119 (lv_at hl 2 rfl) ?_
                    refine q_if_eq hx hb dX3_areNeighboursFound_121 (tgt := 134) (by decide) (by omega) (fun c54 => ?_) (fun c54 => absurd c54 (by omega))
                    refine q_iconst hx hb dX3_areNeighboursFound_134 ?_
                    exact q_iretS C0 hret hlk dX3_areNeighboursFound_135 (by decide) (by rw [hI, nbP_s (by omega), if_neg (by omega), if_pos (by unfold nbOk; (repeat' split) <;> first | omega | (exfalso; omega))])
            · refine lv_aload_n hx hb dX3_areNeighboursFound_50 rfl (lv_at hl 1 rfl) ?_
              refine q_iconst hx hb dX3_areNeighboursFound_51 ?_
              refine q_bipush hx hb dX3_areNeighboursFound_52 (by decide) ?_
              refine lv_iload_n hx hb dX3_areNeighboursFound_54 rfl (lv_at hl 0 rfl) ?_
              refine q_iconst hx hb dX3_areNeighboursFound_55 ?_
              refine q_vS C0 lX3_126 (c_X0_nearInPart l D y L F h w o k g f 0 99 (keyR o r) 4 hR (by omega) (by omega) (by omega) (by omega)) ⟨rfl, rfl⟩ rfl hP ha hF rfl rfl rfl hl rfl (Nat.le_of_ble_eq_true rfl) dX3_areNeighboursFound_56 ⟨Nat.zero_le _, Nat.zero_le _⟩ (fun r55 e_r55 => ?_)
              subst e_r55
              have b_56 := nearP_r o f 0 99 (keyR o r) 4
              refine lv_iload_n hx hb dX3_areNeighboursFound_59 rfl (lv_at hl 3 rfl) ?_
              refine q_icmp_ne hx hb dX3_areNeighboursFound_60 (tgt := 67) (by decide) (by omega) (by omega) (fun c57 => ?_) (fun c57 => ?_)
              · refine q_iconst hx hb dX3_areNeighboursFound_67 ?_
                refine lv_istore (lv' := [(4, .int (iI 0)), (3, .int (iI ((keyR o r)))), (0, .ref h), (1, .int (iI w9)), (2, .int (iI r))]) hx hb dX3_areNeighboursFound_68 hl (by decide) rfl (fun ls hl => ?_)
                refine lv_aload_n hx hb dX3_areNeighboursFound_70 rfl (lv_at hl 2 rfl) ?_
                refine q_iconst hx hb dX3_areNeighboursFound_71 ?_
                refine q_bipush hx hb dX3_areNeighboursFound_72 (by decide) ?_
                refine lv_iload_n hx hb dX3_areNeighboursFound_74 rfl (lv_at hl 1 rfl) ?_
                refine q_iconst hx hb dX3_areNeighboursFound_75 ?_
                refine q_vS C0 lX3_126 (c_X0_nearInPart l D y L F h w o k g f 0 99 (keyR o r) 2 hR (by omega) (by omega) (by omega) (by omega)) ⟨rfl, rfl⟩ rfl hP ha hF rfl rfl rfl hl rfl (Nat.le_of_ble_eq_true rfl) dX3_areNeighboursFound_76 ⟨Nat.zero_le _, Nat.zero_le _⟩ (fun r58 e_r58 => ?_)
                subst e_r58
                have b_59 := nearP_r o f 0 99 (keyR o r) 2
                refine lv_iload_n hx hb dX3_areNeighboursFound_79 rfl (lv_at hl 3 rfl) ?_
                refine q_icmp_ne hx hb dX3_areNeighboursFound_80 (tgt := 87) (by decide) (by omega) (by omega) (fun c60 => ?_) (fun c60 => ?_)
                · refine q_iconst hx hb dX3_areNeighboursFound_87 ?_
                  refine lv_istore (lv' := [(5, .int (iI 0)), (4, .int (iI 0)), (3, .int (iI ((keyR o r)))), (0, .ref h), (1, .int (iI w9)), (2, .int (iI r))]) hx hb dX3_areNeighboursFound_88 hl (by decide) rfl (fun ls hl => ?_)
                  refine lv_iload_n hx hb dX3_areNeighboursFound_90 rfl (lv_at hl 4 rfl) ?_
                  refine q_iconst hx hb dX3_areNeighboursFound_91 ?_
                  refine q_icmp_eq hx hb dX3_areNeighboursFound_92 (tgt := 112) (by decide) (by omega) (by omega) (fun c61 => ?_) (fun c61 => ?_)
                  · refine q_iconst hx hb dX3_areNeighboursFound_112 ?_
                    refine lv_goto (tgt := 117) hx hb dX3_areNeighboursFound_113 (by decide) ?_
                    refine lv_istore (lv' := [(6, .int (iI 1)), (5, .int (iI 0)), (4, .int (iI 0)), (3, .int (iI ((keyR o r)))), (0, .ref h), (1, .int (iI w9)), (2, .int (iI r))]) hx hb dX3_areNeighboursFound_117 hl (by decide) rfl (fun ls hl => ?_)
                    refine lv_iload hx hb dX3_areNeighboursFound_119 (lv_at hl 2 rfl) ?_
                    refine q_if_eq hx hb dX3_areNeighboursFound_121 (tgt := 134) (by decide) (by omega) (fun c62 => ?_) (fun c62 => absurd c62 (by omega))
                    refine q_iconst hx hb dX3_areNeighboursFound_134 ?_
                    exact q_iretS C0 hret hlk dX3_areNeighboursFound_135 (by decide) (by rw [hI, nbP_s (by omega), if_neg (by omega), if_pos (by unfold nbOk; (repeat' split) <;> first | omega | (exfalso; omega))])
                  · refine lv_aload_n hx hb dX3_areNeighboursFound_95 rfl (lv_at hl 3 rfl) ?_
                    refine q_iconst hx hb dX3_areNeighboursFound_96 ?_
                    refine q_bipush hx hb dX3_areNeighboursFound_97 (by decide) ?_
                    refine lv_aload_n hx hb dX3_areNeighboursFound_99 rfl (lv_at hl 3 rfl) ?_
                    refine lv_iload_n hx hb dX3_areNeighboursFound_100 rfl (lv_at hl 4 rfl) ?_
                    refine q_vS C0 lX3_132 (c_X0_keyOf l D y L F h w o k g f w9 hR (by omega)) ⟨rfl, rfl⟩ rfl hP ha hF rfl rfl rfl hl rfl (Nat.le_of_ble_eq_true rfl) dX3_areNeighboursFound_101 ⟨Nat.zero_le _, Nat.zero_le _⟩ (fun r63 e_r63 => ?_)
                    subst e_r63
                    have b_64 := @keyR_b o w9 (by omega)
                    refine q_iconst hx hb dX3_areNeighboursFound_104 ?_
                    refine q_vS C0 lX3_126 (c_X0_nearInPart l D y L F h w o k g f 0 99 (keyR o w9) 3 hR (by omega) (by omega) (by omega) (by omega)) ⟨rfl, rfl⟩ rfl hP ha hF rfl rfl rfl hl rfl (Nat.le_of_ble_eq_true rfl) dX3_areNeighboursFound_105 ⟨Nat.zero_le _, Nat.zero_le _⟩ (fun r65 e_r65 => ?_)
                    subst e_r65
                    have b_66 := nearP_r o f 0 99 (keyR o w9) 3
                    refine lv_iload_n hx hb dX3_areNeighboursFound_108 rfl (lv_at hl 5 rfl) ?_
                    refine q_icmp_ne hx hb dX3_areNeighboursFound_109 (tgt := 116) (by decide) (by omega) (by omega) (fun c67 => ?_) (fun c67 => ?_)
                    · refine q_iconst hx hb dX3_areNeighboursFound_116 ?_
                      refine lv_istore (lv' := [(6, .int (iI 0)), (5, .int (iI 0)), (4, .int (iI 0)), (3, .int (iI ((keyR o r)))), (0, .ref h), (1, .int (iI w9)), (2, .int (iI r))]) hx hb dX3_areNeighboursFound_117 hl (by decide) rfl (fun ls hl => ?_)
                      refine lv_iload hx hb dX3_areNeighboursFound_119 (lv_at hl 2 rfl) ?_
                      refine q_if_eq hx hb dX3_areNeighboursFound_121 (tgt := 134) (by decide) (by omega) (fun c68 => ?_) (fun c68 => absurd c68 (by omega))
                      refine q_iconst hx hb dX3_areNeighboursFound_134 ?_
                      exact q_iretS C0 hret hlk dX3_areNeighboursFound_135 (by decide) (by rw [hI, nbP_s (by omega), if_neg (by omega), if_pos (by unfold nbOk; (repeat' split) <;> first | omega | (exfalso; omega))])
                    · refine q_iconst hx hb dX3_areNeighboursFound_112 ?_
                      refine lv_goto (tgt := 117) hx hb dX3_areNeighboursFound_113 (by decide) ?_
                      refine lv_istore (lv' := [(6, .int (iI 1)), (5, .int (iI 0)), (4, .int (iI 0)), (3, .int (iI ((keyR o r)))), (0, .ref h), (1, .int (iI w9)), (2, .int (iI r))]) hx hb dX3_areNeighboursFound_117 hl (by decide) rfl (fun ls hl => ?_)
                      refine lv_iload hx hb dX3_areNeighboursFound_119 (lv_at hl 2 rfl) ?_
                      refine q_if_eq hx hb dX3_areNeighboursFound_121 (tgt := 134) (by decide) (by omega) (fun c69 => ?_) (fun c69 => absurd c69 (by omega))
                      refine q_iconst hx hb dX3_areNeighboursFound_134 ?_
                      exact q_iretS C0 hret hlk dX3_areNeighboursFound_135 (by decide) (by rw [hI, nbP_s (by omega), if_neg (by omega), if_pos (by unfold nbOk; (repeat' split) <;> first | omega | (exfalso; omega))])
                · refine q_iconst hx hb dX3_areNeighboursFound_83 ?_
                  refine lv_goto (tgt := 88) hx hb dX3_areNeighboursFound_84 (by decide) ?_
                  refine lv_istore (lv' := [(5, .int (iI 1)), (4, .int (iI 0)), (3, .int (iI ((keyR o r)))), (0, .ref h), (1, .int (iI w9)), (2, .int (iI r))]) hx hb dX3_areNeighboursFound_88 hl (by decide) rfl (fun ls hl => ?_)
                  refine lv_iload_n hx hb dX3_areNeighboursFound_90 rfl (lv_at hl 4 rfl) ?_
                  refine q_iconst hx hb dX3_areNeighboursFound_91 ?_
                  refine q_icmp_eq hx hb dX3_areNeighboursFound_92 (tgt := 112) (by decide) (by omega) (by omega) (fun c70 => ?_) (fun c70 => ?_)
                  · refine q_iconst hx hb dX3_areNeighboursFound_112 ?_
                    refine lv_goto (tgt := 117) hx hb dX3_areNeighboursFound_113 (by decide) ?_
                    refine lv_istore (lv' := [(6, .int (iI 1)), (5, .int (iI 1)), (4, .int (iI 0)), (3, .int (iI ((keyR o r)))), (0, .ref h), (1, .int (iI w9)), (2, .int (iI r))]) hx hb dX3_areNeighboursFound_117 hl (by decide) rfl (fun ls hl => ?_)
                    refine lv_iload hx hb dX3_areNeighboursFound_119 (lv_at hl 2 rfl) ?_
                    refine q_if_eq hx hb dX3_areNeighboursFound_121 (tgt := 134) (by decide) (by omega) (fun c71 => ?_) (fun c71 => absurd c71 (by omega))
                    refine q_iconst hx hb dX3_areNeighboursFound_134 ?_
                    exact q_iretS C0 hret hlk dX3_areNeighboursFound_135 (by decide) (by rw [hI, nbP_s (by omega), if_neg (by omega), if_pos (by unfold nbOk; (repeat' split) <;> first | omega | (exfalso; omega))])
                  · refine lv_aload_n hx hb dX3_areNeighboursFound_95 rfl (lv_at hl 3 rfl) ?_
                    refine q_iconst hx hb dX3_areNeighboursFound_96 ?_
                    refine q_bipush hx hb dX3_areNeighboursFound_97 (by decide) ?_
                    refine lv_aload_n hx hb dX3_areNeighboursFound_99 rfl (lv_at hl 3 rfl) ?_
                    refine lv_iload_n hx hb dX3_areNeighboursFound_100 rfl (lv_at hl 4 rfl) ?_
                    refine q_vS C0 lX3_132 (c_X0_keyOf l D y L F h w o k g f w9 hR (by omega)) ⟨rfl, rfl⟩ rfl hP ha hF rfl rfl rfl hl rfl (Nat.le_of_ble_eq_true rfl) dX3_areNeighboursFound_101 ⟨Nat.zero_le _, Nat.zero_le _⟩ (fun r72 e_r72 => ?_)
                    subst e_r72
                    have b_73 := @keyR_b o w9 (by omega)
                    refine q_iconst hx hb dX3_areNeighboursFound_104 ?_
                    refine q_vS C0 lX3_126 (c_X0_nearInPart l D y L F h w o k g f 0 99 (keyR o w9) 3 hR (by omega) (by omega) (by omega) (by omega)) ⟨rfl, rfl⟩ rfl hP ha hF rfl rfl rfl hl rfl (Nat.le_of_ble_eq_true rfl) dX3_areNeighboursFound_105 ⟨Nat.zero_le _, Nat.zero_le _⟩ (fun r74 e_r74 => ?_)
                    subst e_r74
                    have b_75 := nearP_r o f 0 99 (keyR o w9) 3
                    refine lv_iload_n hx hb dX3_areNeighboursFound_108 rfl (lv_at hl 5 rfl) ?_
                    refine q_icmp_ne hx hb dX3_areNeighboursFound_109 (tgt := 116) (by decide) (by omega) (by omega) (fun c76 => ?_) (fun c76 => ?_)
                    · refine q_iconst hx hb dX3_areNeighboursFound_116 ?_
                      refine lv_istore (lv' := [(6, .int (iI 0)), (5, .int (iI 1)), (4, .int (iI 0)), (3, .int (iI ((keyR o r)))), (0, .ref h), (1, .int (iI w9)), (2, .int (iI r))]) hx hb dX3_areNeighboursFound_117 hl (by decide) rfl (fun ls hl => ?_)
                      refine lv_iload hx hb dX3_areNeighboursFound_119 (lv_at hl 2 rfl) ?_
                      refine q_if_eq hx hb dX3_areNeighboursFound_121 (tgt := 134) (by decide) (by omega) (fun c77 => ?_) (fun c77 => absurd c77 (by omega))
                      refine q_iconst hx hb dX3_areNeighboursFound_134 ?_
                      exact q_iretS C0 hret hlk dX3_areNeighboursFound_135 (by decide) (by rw [hI, nbP_s (by omega), if_neg (by omega), if_pos (by unfold nbOk; (repeat' split) <;> first | omega | (exfalso; omega))])
                    · refine q_iconst hx hb dX3_areNeighboursFound_112 ?_
                      refine lv_goto (tgt := 117) hx hb dX3_areNeighboursFound_113 (by decide) ?_
                      refine lv_istore (lv' := [(6, .int (iI 1)), (5, .int (iI 1)), (4, .int (iI 0)), (3, .int (iI ((keyR o r)))), (0, .ref h), (1, .int (iI w9)), (2, .int (iI r))]) hx hb dX3_areNeighboursFound_117 hl (by decide) rfl (fun ls hl => ?_)
                      refine lv_iload hx hb dX3_areNeighboursFound_119 (lv_at hl 2 rfl) ?_
                      refine q_if_eq hx hb dX3_areNeighboursFound_121 (tgt := 134) (by decide) (by omega) (fun c78 => ?_) (fun c78 => absurd c78 (by omega))
                      refine q_iconst hx hb dX3_areNeighboursFound_134 ?_
                      exact q_iretS C0 hret hlk dX3_areNeighboursFound_135 (by decide) (by rw [hI, nbP_s (by omega), if_neg (by omega), if_pos (by unfold nbOk; (repeat' split) <;> first | omega | (exfalso; omega))])
              · refine q_iconst hx hb dX3_areNeighboursFound_63 ?_
                refine lv_goto (tgt := 68) hx hb dX3_areNeighboursFound_64 (by decide) ?_
                refine lv_istore (lv' := [(4, .int (iI 1)), (3, .int (iI ((keyR o r)))), (0, .ref h), (1, .int (iI w9)), (2, .int (iI r))]) hx hb dX3_areNeighboursFound_68 hl (by decide) rfl (fun ls hl => ?_)
                refine lv_aload_n hx hb dX3_areNeighboursFound_70 rfl (lv_at hl 2 rfl) ?_
                refine q_iconst hx hb dX3_areNeighboursFound_71 ?_
                refine q_bipush hx hb dX3_areNeighboursFound_72 (by decide) ?_
                refine lv_iload_n hx hb dX3_areNeighboursFound_74 rfl (lv_at hl 1 rfl) ?_
                refine q_iconst hx hb dX3_areNeighboursFound_75 ?_
                refine q_vS C0 lX3_126 (c_X0_nearInPart l D y L F h w o k g f 0 99 (keyR o r) 2 hR (by omega) (by omega) (by omega) (by omega)) ⟨rfl, rfl⟩ rfl hP ha hF rfl rfl rfl hl rfl (Nat.le_of_ble_eq_true rfl) dX3_areNeighboursFound_76 ⟨Nat.zero_le _, Nat.zero_le _⟩ (fun r79 e_r79 => ?_)
                subst e_r79
                have b_80 := nearP_r o f 0 99 (keyR o r) 2
                refine lv_iload_n hx hb dX3_areNeighboursFound_79 rfl (lv_at hl 3 rfl) ?_
                refine q_icmp_ne hx hb dX3_areNeighboursFound_80 (tgt := 87) (by decide) (by omega) (by omega) (fun c81 => ?_) (fun c81 => ?_)
                · refine q_iconst hx hb dX3_areNeighboursFound_87 ?_
                  refine lv_istore (lv' := [(5, .int (iI 0)), (4, .int (iI 1)), (3, .int (iI ((keyR o r)))), (0, .ref h), (1, .int (iI w9)), (2, .int (iI r))]) hx hb dX3_areNeighboursFound_88 hl (by decide) rfl (fun ls hl => ?_)
                  refine lv_iload_n hx hb dX3_areNeighboursFound_90 rfl (lv_at hl 4 rfl) ?_
                  refine q_iconst hx hb dX3_areNeighboursFound_91 ?_
                  refine q_icmp_eq hx hb dX3_areNeighboursFound_92 (tgt := 112) (by decide) (by omega) (by omega) (fun c82 => ?_) (fun c82 => ?_)
                  · refine q_iconst hx hb dX3_areNeighboursFound_112 ?_
                    refine lv_goto (tgt := 117) hx hb dX3_areNeighboursFound_113 (by decide) ?_
                    refine lv_istore (lv' := [(6, .int (iI 1)), (5, .int (iI 0)), (4, .int (iI 1)), (3, .int (iI ((keyR o r)))), (0, .ref h), (1, .int (iI w9)), (2, .int (iI r))]) hx hb dX3_areNeighboursFound_117 hl (by decide) rfl (fun ls hl => ?_)
                    refine lv_iload hx hb dX3_areNeighboursFound_119 (lv_at hl 2 rfl) ?_
                    refine q_if_eq hx hb dX3_areNeighboursFound_121 (tgt := 134) (by decide) (by omega) (fun c83 => absurd c83 (by omega)) (fun c83 => ?_)
                    refine lv_iload hx hb dX3_areNeighboursFound_124 (lv_at hl 1 rfl) ?_
                    refine q_if_eq hx hb dX3_areNeighboursFound_126 (tgt := 134) (by decide) (by omega) (fun c84 => ?_) (fun c84 => absurd c84 (by omega))
                    refine q_iconst hx hb dX3_areNeighboursFound_134 ?_
                    exact q_iretS C0 hret hlk dX3_areNeighboursFound_135 (by decide) (by rw [hI, nbP_s (by omega), if_neg (by omega), if_pos (by unfold nbOk; (repeat' split) <;> first | omega | (exfalso; omega))])
                  · refine lv_aload_n hx hb dX3_areNeighboursFound_95 rfl (lv_at hl 3 rfl) ?_
                    refine q_iconst hx hb dX3_areNeighboursFound_96 ?_
                    refine q_bipush hx hb dX3_areNeighboursFound_97 (by decide) ?_
                    refine lv_aload_n hx hb dX3_areNeighboursFound_99 rfl (lv_at hl 3 rfl) ?_
                    refine lv_iload_n hx hb dX3_areNeighboursFound_100 rfl (lv_at hl 4 rfl) ?_
                    refine q_vS C0 lX3_132 (c_X0_keyOf l D y L F h w o k g f w9 hR (by omega)) ⟨rfl, rfl⟩ rfl hP ha hF rfl rfl rfl hl rfl (Nat.le_of_ble_eq_true rfl) dX3_areNeighboursFound_101 ⟨Nat.zero_le _, Nat.zero_le _⟩ (fun r85 e_r85 => ?_)
                    subst e_r85
                    have b_86 := @keyR_b o w9 (by omega)
                    refine q_iconst hx hb dX3_areNeighboursFound_104 ?_
                    refine q_vS C0 lX3_126 (c_X0_nearInPart l D y L F h w o k g f 0 99 (keyR o w9) 3 hR (by omega) (by omega) (by omega) (by omega)) ⟨rfl, rfl⟩ rfl hP ha hF rfl rfl rfl hl rfl (Nat.le_of_ble_eq_true rfl) dX3_areNeighboursFound_105 ⟨Nat.zero_le _, Nat.zero_le _⟩ (fun r87 e_r87 => ?_)
                    subst e_r87
                    have b_88 := nearP_r o f 0 99 (keyR o w9) 3
                    refine lv_iload_n hx hb dX3_areNeighboursFound_108 rfl (lv_at hl 5 rfl) ?_
                    refine q_icmp_ne hx hb dX3_areNeighboursFound_109 (tgt := 116) (by decide) (by omega) (by omega) (fun c89 => ?_) (fun c89 => ?_)
                    · refine q_iconst hx hb dX3_areNeighboursFound_116 ?_
                      refine lv_istore (lv' := [(6, .int (iI 0)), (5, .int (iI 0)), (4, .int (iI 1)), (3, .int (iI ((keyR o r)))), (0, .ref h), (1, .int (iI w9)), (2, .int (iI r))]) hx hb dX3_areNeighboursFound_117 hl (by decide) rfl (fun ls hl => ?_)
                      refine lv_iload hx hb dX3_areNeighboursFound_119 (lv_at hl 2 rfl) ?_
                      refine q_if_eq hx hb dX3_areNeighboursFound_121 (tgt := 134) (by decide) (by omega) (fun c90 => absurd c90 (by omega)) (fun c90 => ?_)
                      refine lv_iload hx hb dX3_areNeighboursFound_124 (lv_at hl 1 rfl) ?_
                      refine q_if_eq hx hb dX3_areNeighboursFound_126 (tgt := 134) (by decide) (by omega) (fun c91 => ?_) (fun c91 => absurd c91 (by omega))
                      refine q_iconst hx hb dX3_areNeighboursFound_134 ?_
                      exact q_iretS C0 hret hlk dX3_areNeighboursFound_135 (by decide) (by rw [hI, nbP_s (by omega), if_neg (by omega), if_pos (by unfold nbOk; (repeat' split) <;> first | omega | (exfalso; omega))])
                    · refine q_iconst hx hb dX3_areNeighboursFound_112 ?_
                      refine lv_goto (tgt := 117) hx hb dX3_areNeighboursFound_113 (by decide) ?_
                      refine lv_istore (lv' := [(6, .int (iI 1)), (5, .int (iI 0)), (4, .int (iI 1)), (3, .int (iI ((keyR o r)))), (0, .ref h), (1, .int (iI w9)), (2, .int (iI r))]) hx hb dX3_areNeighboursFound_117 hl (by decide) rfl (fun ls hl => ?_)
                      refine lv_iload hx hb dX3_areNeighboursFound_119 (lv_at hl 2 rfl) ?_
                      refine q_if_eq hx hb dX3_areNeighboursFound_121 (tgt := 134) (by decide) (by omega) (fun c92 => absurd c92 (by omega)) (fun c92 => ?_)
                      refine lv_iload hx hb dX3_areNeighboursFound_124 (lv_at hl 1 rfl) ?_
                      refine q_if_eq hx hb dX3_areNeighboursFound_126 (tgt := 134) (by decide) (by omega) (fun c93 => ?_) (fun c93 => absurd c93 (by omega))
                      refine q_iconst hx hb dX3_areNeighboursFound_134 ?_
                      exact q_iretS C0 hret hlk dX3_areNeighboursFound_135 (by decide) (by rw [hI, nbP_s (by omega), if_neg (by omega), if_pos (by unfold nbOk; (repeat' split) <;> first | omega | (exfalso; omega))])
                · refine q_iconst hx hb dX3_areNeighboursFound_83 ?_
                  refine lv_goto (tgt := 88) hx hb dX3_areNeighboursFound_84 (by decide) ?_
                  refine lv_istore (lv' := [(5, .int (iI 1)), (4, .int (iI 1)), (3, .int (iI ((keyR o r)))), (0, .ref h), (1, .int (iI w9)), (2, .int (iI r))]) hx hb dX3_areNeighboursFound_88 hl (by decide) rfl (fun ls hl => ?_)
                  refine lv_iload_n hx hb dX3_areNeighboursFound_90 rfl (lv_at hl 4 rfl) ?_
                  refine q_iconst hx hb dX3_areNeighboursFound_91 ?_
                  refine q_icmp_eq hx hb dX3_areNeighboursFound_92 (tgt := 112) (by decide) (by omega) (by omega) (fun c94 => ?_) (fun c94 => ?_)
                  · refine q_iconst hx hb dX3_areNeighboursFound_112 ?_
                    refine lv_goto (tgt := 117) hx hb dX3_areNeighboursFound_113 (by decide) ?_
                    refine lv_istore (lv' := [(6, .int (iI 1)), (5, .int (iI 1)), (4, .int (iI 1)), (3, .int (iI ((keyR o r)))), (0, .ref h), (1, .int (iI w9)), (2, .int (iI r))]) hx hb dX3_areNeighboursFound_117 hl (by decide) rfl (fun ls hl => ?_)
                    refine lv_iload hx hb dX3_areNeighboursFound_119 (lv_at hl 2 rfl) ?_
                    refine q_if_eq hx hb dX3_areNeighboursFound_121 (tgt := 134) (by decide) (by omega) (fun c95 => absurd c95 (by omega)) (fun c95 => ?_)
                    refine lv_iload hx hb dX3_areNeighboursFound_124 (lv_at hl 1 rfl) ?_
                    refine q_if_eq hx hb dX3_areNeighboursFound_126 (tgt := 134) (by decide) (by omega) (fun c96 => absurd c96 (by omega)) (fun c96 => ?_)
                    refine lv_iload hx hb dX3_areNeighboursFound_129 (lv_at hl 0 rfl) ?_
                    refine q_if_ne hx hb dX3_areNeighboursFound_131 (tgt := 136) (by decide) (by omega) (fun c97 => ?_) (fun c97 => absurd c97 (by omega))
                    refine lv_iload_n hx hb dX3_areNeighboursFound_136 rfl (lv_at hl 6 rfl) ?_
                    refine lv_istore_n (lv' := [(1, .int (iI r)), (6, .int (iI 1)), (5, .int (iI 1)), (4, .int (iI 1)), (3, .int (iI ((keyR o r)))), (0, .ref h), (2, .int (iI r))]) hx hb dX3_areNeighboursFound_137 rfl hl (by decide) rfl (fun ls hl => ?_)
                    refine q_iinc (x := r) (n := 1) (lv' := [(2, .int (iI ((r + 1)))), (1, .int (iI r)), (6, .int (iI 1)), (5, .int (iI 1)), (4, .int (iI 1)), (3, .int (iI ((keyR o r)))), (0, .ref h)]) hx hb dX3_areNeighboursFound_138 hl (k := 6) rfl (by decide) rfl (fun ls hl => ?_)
                    refine lv_goto (tgt := 4) hx hb dX3_areNeighboursFound_141 (by decide) ?_
                    exact ih_LP4 _ (by omega) (r + 1) r (by omega) (by omega) (by first | (rw [hI, nbP_s (by omega), if_pos (by omega)]; done) | (rw [hI, nbP_s (by omega), if_neg (by omega), if_neg (by unfold nbOk; (repeat' split) <;> first | omega | (exfalso; omega))])) rfl ls (lv_sub hl [6, 1, 0] rfl)
                  · refine lv_aload_n hx hb dX3_areNeighboursFound_95 rfl (lv_at hl 3 rfl) ?_
                    refine q_iconst hx hb dX3_areNeighboursFound_96 ?_
                    refine q_bipush hx hb dX3_areNeighboursFound_97 (by decide) ?_
                    refine lv_aload_n hx hb dX3_areNeighboursFound_99 rfl (lv_at hl 3 rfl) ?_
                    refine lv_iload_n hx hb dX3_areNeighboursFound_100 rfl (lv_at hl 4 rfl) ?_
                    refine q_vS C0 lX3_132 (c_X0_keyOf l D y L F h w o k g f w9 hR (by omega)) ⟨rfl, rfl⟩ rfl hP ha hF rfl rfl rfl hl rfl (Nat.le_of_ble_eq_true rfl) dX3_areNeighboursFound_101 ⟨Nat.zero_le _, Nat.zero_le _⟩ (fun r98 e_r98 => ?_)
                    subst e_r98
                    have b_99 := @keyR_b o w9 (by omega)
                    refine q_iconst hx hb dX3_areNeighboursFound_104 ?_
                    refine q_vS C0 lX3_126 (c_X0_nearInPart l D y L F h w o k g f 0 99 (keyR o w9) 3 hR (by omega) (by omega) (by omega) (by omega)) ⟨rfl, rfl⟩ rfl hP ha hF rfl rfl rfl hl rfl (Nat.le_of_ble_eq_true rfl) dX3_areNeighboursFound_105 ⟨Nat.zero_le _, Nat.zero_le _⟩ (fun r100 e_r100 => ?_)
                    subst e_r100
                    have b_101 := nearP_r o f 0 99 (keyR o w9) 3
                    refine lv_iload_n hx hb dX3_areNeighboursFound_108 rfl (lv_at hl 5 rfl) ?_
                    refine q_icmp_ne hx hb dX3_areNeighboursFound_109 (tgt := 116) (by decide) (by omega) (by omega) (fun c102 => ?_) (fun c102 => ?_)
                    · refine q_iconst hx hb dX3_areNeighboursFound_116 ?_
                      refine lv_istore (lv' := [(6, .int (iI 0)), (5, .int (iI 1)), (4, .int (iI 1)), (3, .int (iI ((keyR o r)))), (0, .ref h), (1, .int (iI w9)), (2, .int (iI r))]) hx hb dX3_areNeighboursFound_117 hl (by decide) rfl (fun ls hl => ?_)
                      refine lv_iload hx hb dX3_areNeighboursFound_119 (lv_at hl 2 rfl) ?_
                      refine q_if_eq hx hb dX3_areNeighboursFound_121 (tgt := 134) (by decide) (by omega) (fun c103 => absurd c103 (by omega)) (fun c103 => ?_)
                      refine lv_iload hx hb dX3_areNeighboursFound_124 (lv_at hl 1 rfl) ?_
                      refine q_if_eq hx hb dX3_areNeighboursFound_126 (tgt := 134) (by decide) (by omega) (fun c104 => absurd c104 (by omega)) (fun c104 => ?_)
                      refine lv_iload hx hb dX3_areNeighboursFound_129 (lv_at hl 0 rfl) ?_
                      refine q_if_ne hx hb dX3_areNeighboursFound_131 (tgt := 136) (by decide) (by omega) (fun c105 => absurd c105 (by omega)) (fun c105 => ?_)
                      refine q_iconst hx hb dX3_areNeighboursFound_134 ?_
                      exact q_iretS C0 hret hlk dX3_areNeighboursFound_135 (by decide) (by rw [hI, nbP_s (by omega), if_neg (by omega), if_pos (by unfold nbOk; (repeat' split) <;> first | omega | (exfalso; omega))])
                    · refine q_iconst hx hb dX3_areNeighboursFound_112 ?_
                      refine lv_goto (tgt := 117) hx hb dX3_areNeighboursFound_113 (by decide) ?_
                      refine lv_istore (lv' := [(6, .int (iI 1)), (5, .int (iI 1)), (4, .int (iI 1)), (3, .int (iI ((keyR o r)))), (0, .ref h), (1, .int (iI w9)), (2, .int (iI r))]) hx hb dX3_areNeighboursFound_117 hl (by decide) rfl (fun ls hl => ?_)
                      refine lv_iload hx hb dX3_areNeighboursFound_119 (lv_at hl 2 rfl) ?_
                      refine q_if_eq hx hb dX3_areNeighboursFound_121 (tgt := 134) (by decide) (by omega) (fun c106 => absurd c106 (by omega)) (fun c106 => ?_)
                      refine lv_iload hx hb dX3_areNeighboursFound_124 (lv_at hl 1 rfl) ?_
                      refine q_if_eq hx hb dX3_areNeighboursFound_126 (tgt := 134) (by decide) (by omega) (fun c107 => absurd c107 (by omega)) (fun c107 => ?_)
                      refine lv_iload hx hb dX3_areNeighboursFound_129 (lv_at hl 0 rfl) ?_
                      refine q_if_ne hx hb dX3_areNeighboursFound_131 (tgt := 136) (by decide) (by omega) (fun c108 => ?_) (fun c108 => absurd c108 (by omega))
                      refine lv_iload_n hx hb dX3_areNeighboursFound_136 rfl (lv_at hl 6 rfl) ?_
                      refine lv_istore_n (lv' := [(1, .int (iI r)), (6, .int (iI 1)), (5, .int (iI 1)), (4, .int (iI 1)), (3, .int (iI ((keyR o r)))), (0, .ref h), (2, .int (iI r))]) hx hb dX3_areNeighboursFound_137 rfl hl (by decide) rfl (fun ls hl => ?_)
                      refine q_iinc (x := r) (n := 1) (lv' := [(2, .int (iI ((r + 1)))), (1, .int (iI r)), (6, .int (iI 1)), (5, .int (iI 1)), (4, .int (iI 1)), (3, .int (iI ((keyR o r)))), (0, .ref h)]) hx hb dX3_areNeighboursFound_138 hl (k := 6) rfl (by decide) rfl (fun ls hl => ?_)
                      refine lv_goto (tgt := 4) hx hb dX3_areNeighboursFound_141 (by decide) ?_
                      exact ih_LP4 _ (by omega) (r + 1) r (by omega) (by omega) (by first | (rw [hI, nbP_s (by omega), if_pos (by omega)]; done) | (rw [hI, nbP_s (by omega), if_neg (by omega), if_neg (by unfold nbOk; (repeat' split) <;> first | omega | (exfalso; omega))])) rfl ls (lv_sub hl [6, 1, 0] rfl)
  exact LP4 _ 0 (-1) (by omega) (by omega) (rfl) rfl ls (lv_sub hl [2, 1, 0] rfl)
