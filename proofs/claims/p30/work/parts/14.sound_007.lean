set_option maxHeartbeats 800000 in
set_option maxRecDepth 100000 in
theorem c_X3_digestBook (l : Launch) (D : va_G) (y : Nat → ClassId) (L : List Nat) (F : Nat → va_E) (h : Nat) (w : Nat) (o : Int) (k : Int) (g : Int) (f : Int → Int) (s0 : Int64) (hR : Rw y L F h w o k g f) (hk : -1000000 ≤ k ∧ k ≤ 1000000) : Met l yX3_digestBook (.code yX3_digestBook cX3_digestBook 6 (some .long) :: Tt) ({ frames := 4, cells := 0, slots := 0, locals := 85 }) (PcR D y L F [.long (s0), .ref h]) (cSl (fun r => r = dgB o k f s0)) 0 0 (fun _ => False) := by
  have hR0 := hR
  obtain ⟨ha, hF, hw, hFw, ho, hfb⟩ := hR0
  refine q_ofR (lv := [(0, .long (s0)), (2, .ref h)]) (by decide) (Nat.le_of_ble_eq_true rfl) rfl (fun p e s m below meth c C0 hret hlk hP ls hl => ?_)
  have hx := C0.1.1
  have hb := C0.1.2.1
  have hts := C0.1.2.2.2.2
  refine lv_lload_n hx hb dX3_digestBook_0 rfl (lv_at hl 0 rfl) ?_
  refine lv_lstore_n (lv' := [(3, .long (s0)), (0, .long (s0)), (2, .ref h)]) hx hb dX3_digestBook_1 rfl hl (by decide) rfl (fun ls hl => ?_)
  refine q_iconst hx hb dX3_digestBook_2 ?_
  refine lv_istore (lv' := [(5, .int (iI 0)), (3, .long (s0)), (0, .long (s0)), (2, .ref h)]) hx hb dX3_digestBook_3 hl (by decide) rfl (fun ls hl => ?_)
  refine lv_iload hx hb dX3_digestBook_5 (lv_at hl 0 rfl) ?_
  refine q_iconst hx hb dX3_digestBook_7 ?_
  refine q_icmp_gt hx hb dX3_digestBook_8 (tgt := 28) (by decide) (by omega) (by omega) (fun c1 => absurd c1 (by omega)) (fun c1 => ?_)
  refine lv_lload_n hx hb dX3_digestBook_11 rfl (lv_at hl 1 rfl) ?_
  refine lv_aload_n hx hb dX3_digestBook_12 rfl (lv_at hl 3 rfl) ?_
  refine lv_iload hx hb dX3_digestBook_13 (lv_at hl 0 rfl) ?_
  refine q_sS C0 lX3_145 (c_X3_bookFact l D y L F h w o k g f 0 hR (by omega) (by omega)) ⟨rfl, rfl⟩ rfl hP rfl hl rfl (Nat.le_of_ble_eq_true rfl) dX3_digestBook_15 ⟨Nat.zero_le _, Nat.zero_le _⟩ (fun r2 e_r2 => ?_)
  replace e_r2 := e_r2.symm
  subst e_r2
  refine q_sSl C0 lX3_261 (c_X3_mixed l D y L F s0 (bfact o k f 0)) ⟨rfl, rfl⟩ rfl hP rfl hl rfl (Nat.le_of_ble_eq_true rfl) dX3_digestBook_18 ⟨Nat.zero_le _, Nat.zero_le _⟩ (fun r3 e_r3 => ?_)
  replace e_r3 := e_r3.symm
  subst e_r3
  refine lv_lstore_n (lv' := [(3, .long ((mxd s0 (bfact o k f 0)))), (5, .int (iI 0)), (0, .long (s0)), (2, .ref h)]) hx hb dX3_digestBook_21 rfl hl (by decide) rfl (fun ls hl => ?_)
  refine q_iinc (x := 0) (n := 1) (lv' := [(5, .int (iI 1)), (3, .long ((mxd s0 (bfact o k f 0)))), (0, .long (s0)), (2, .ref h)]) hx hb dX3_digestBook_22 hl (k := 1) rfl (by decide) rfl (fun ls hl => ?_)
  refine lv_goto (tgt := 5) hx hb dX3_digestBook_25 (by decide) ?_
  refine lv_iload hx hb dX3_digestBook_5 (lv_at hl 0 rfl) ?_
  refine q_iconst hx hb dX3_digestBook_7 ?_
  refine q_icmp_gt hx hb dX3_digestBook_8 (tgt := 28) (by decide) (by omega) (by omega) (fun c4 => absurd c4 (by omega)) (fun c4 => ?_)
  refine lv_lload_n hx hb dX3_digestBook_11 rfl (lv_at hl 1 rfl) ?_
  refine lv_aload_n hx hb dX3_digestBook_12 rfl (lv_at hl 3 rfl) ?_
  refine lv_iload hx hb dX3_digestBook_13 (lv_at hl 0 rfl) ?_
  refine q_sS C0 lX3_145 (c_X3_bookFact l D y L F h w o k g f 1 hR (by omega) (by omega)) ⟨rfl, rfl⟩ rfl hP rfl hl rfl (Nat.le_of_ble_eq_true rfl) dX3_digestBook_15 ⟨Nat.zero_le _, Nat.zero_le _⟩ (fun r5 e_r5 => ?_)
  replace e_r5 := e_r5.symm
  subst e_r5
  refine q_sSl C0 lX3_261 (c_X3_mixed l D y L F (mxd s0 (bfact o k f 0)) (bfact o k f 1)) ⟨rfl, rfl⟩ rfl hP rfl hl rfl (Nat.le_of_ble_eq_true rfl) dX3_digestBook_18 ⟨Nat.zero_le _, Nat.zero_le _⟩ (fun r6 e_r6 => ?_)
  replace e_r6 := e_r6.symm
  subst e_r6
  refine lv_lstore_n (lv' := [(3, .long ((mxd (mxd s0 (bfact o k f 0)) (bfact o k f 1)))), (5, .int (iI 1)), (0, .long (s0)), (2, .ref h)]) hx hb dX3_digestBook_21 rfl hl (by decide) rfl (fun ls hl => ?_)
  refine q_iinc (x := 1) (n := 1) (lv' := [(5, .int (iI 2)), (3, .long ((mxd (mxd s0 (bfact o k f 0)) (bfact o k f 1)))), (0, .long (s0)), (2, .ref h)]) hx hb dX3_digestBook_22 hl (k := 1) rfl (by decide) rfl (fun ls hl => ?_)
  refine lv_goto (tgt := 5) hx hb dX3_digestBook_25 (by decide) ?_
  refine lv_iload hx hb dX3_digestBook_5 (lv_at hl 0 rfl) ?_
  refine q_iconst hx hb dX3_digestBook_7 ?_
  refine q_icmp_gt hx hb dX3_digestBook_8 (tgt := 28) (by decide) (by omega) (by omega) (fun c7 => absurd c7 (by omega)) (fun c7 => ?_)
  refine lv_lload_n hx hb dX3_digestBook_11 rfl (lv_at hl 1 rfl) ?_
  refine lv_aload_n hx hb dX3_digestBook_12 rfl (lv_at hl 3 rfl) ?_
  refine lv_iload hx hb dX3_digestBook_13 (lv_at hl 0 rfl) ?_
  refine q_sS C0 lX3_145 (c_X3_bookFact l D y L F h w o k g f 2 hR (by omega) (by omega)) ⟨rfl, rfl⟩ rfl hP rfl hl rfl (Nat.le_of_ble_eq_true rfl) dX3_digestBook_15 ⟨Nat.zero_le _, Nat.zero_le _⟩ (fun r8 e_r8 => ?_)
  replace e_r8 := e_r8.symm
  subst e_r8
  refine q_sSl C0 lX3_261 (c_X3_mixed l D y L F (mxd (mxd s0 (bfact o k f 0)) (bfact o k f 1)) (bfact o k f 2)) ⟨rfl, rfl⟩ rfl hP rfl hl rfl (Nat.le_of_ble_eq_true rfl) dX3_digestBook_18 ⟨Nat.zero_le _, Nat.zero_le _⟩ (fun r9 e_r9 => ?_)
  replace e_r9 := e_r9.symm
  subst e_r9
  refine lv_lstore_n (lv' := [(3, .long ((mxd (mxd (mxd s0 (bfact o k f 0)) (bfact o k f 1)) (bfact o k f 2)))), (5, .int (iI 2)), (0, .long (s0)), (2, .ref h)]) hx hb dX3_digestBook_21 rfl hl (by decide) rfl (fun ls hl => ?_)
  refine q_iinc (x := 2) (n := 1) (lv' := [(5, .int (iI 3)), (3, .long ((mxd (mxd (mxd s0 (bfact o k f 0)) (bfact o k f 1)) (bfact o k f 2)))), (0, .long (s0)), (2, .ref h)]) hx hb dX3_digestBook_22 hl (k := 1) rfl (by decide) rfl (fun ls hl => ?_)
  refine lv_goto (tgt := 5) hx hb dX3_digestBook_25 (by decide) ?_
  refine lv_iload hx hb dX3_digestBook_5 (lv_at hl 0 rfl) ?_
  refine q_iconst hx hb dX3_digestBook_7 ?_
  refine q_icmp_gt hx hb dX3_digestBook_8 (tgt := 28) (by decide) (by omega) (by omega) (fun c10 => ?_) (fun c10 => absurd c10 (by omega))
  refine q_iconst hx hb dX3_digestBook_28 ?_
  refine lv_istore (lv' := [(5, .int (iI 0)), (3, .long ((mxd (mxd (mxd s0 (bfact o k f 0)) (bfact o k f 1)) (bfact o k f 2)))), (0, .long (s0)), (2, .ref h)]) hx hb dX3_digestBook_29 hl (by decide) rfl (fun ls hl => ?_)
  have LP31 : ∀ (n_LP31 : Nat) (r : Int) (q : Int64), (0 ≤ r ∧ r ≤ 100) → (dgB o k f s0 = mxP (pairR o f) f r q) → (100 - r).toNat = n_LP31 → ∀ ls : Array Slot, lv_has ls 6 [(2, .ref h), (3, .long (q)), (5, .int (iI r))] → W p l e ({ frames := 4, cells := 0, slots := 0, locals := 85 } : Room) s m [.long (s0), .ref h].toArray below meth c s.heap [] 0 0 (MQ below (cSl (fun r => r = dgB o k f s0)) [.long (s0), .ref h].toArray s 0 0 (fun _ => False)) (F0 m 31 ls []) := by
    intro n_LP31
    induction n_LP31 using Nat.strongRecOn with
    | ind n_LP31 ih_LP31 =>
      intro r q hr hI hm_LP31 ls hl
      refine lv_iload hx hb dX3_digestBook_31 (lv_at hl 2 rfl) ?_
      refine q_bipush hx hb dX3_digestBook_33 (by decide) ?_
      refine q_icmp_ge hx hb dX3_digestBook_35 (tgt := 64) (by decide) (by omega) (by omega) (fun c11 => ?_) (fun c11 => ?_)
      · refine lv_lload_n hx hb dX3_digestBook_64 rfl (lv_at hl 1 rfl) ?_
        exact q_lretS C0 hret hlk dX3_digestBook_65 (by rw [hI, mxP_e (by omega)])
      · refine lv_aload_n hx hb dX3_digestBook_38 rfl (lv_at hl 0 rfl) ?_
        refine lv_iload hx hb dX3_digestBook_39 (lv_at hl 2 rfl) ?_
        refine q_vS C0 lX3_119 (c_X0_isThere l D y L F h w o k g f r hR (by omega)) ⟨rfl, rfl⟩ rfl hP ha hF rfl rfl rfl hl rfl (Nat.le_of_ble_eq_true rfl) dX3_digestBook_41 ⟨Nat.zero_le _, Nat.zero_le _⟩ (fun r12 e_r12 => ?_)
        replace e_r12 := e_r12.symm
        subst e_r12
        have b_13 := isT_b f r
        refine q_if_eq hx hb dX3_digestBook_44 (tgt := 58) (by decide) (by omega) (fun c14 => ?_) (fun c14 => ?_)
        · refine q_iinc (x := r) (n := 1) (lv' := [(5, .int (iI ((r + 1)))), (2, .ref h), (3, .long (q))]) hx hb dX3_digestBook_58 hl (k := 2) rfl (by decide) rfl (fun ls hl => ?_)
          refine lv_goto (tgt := 31) hx hb dX3_digestBook_61 (by decide) ?_
          exact ih_LP31 _ (by omega) (r + 1) q (by omega) (by first | (rw [hI, mxP_u (by omega), if_pos (by omega)]; done) | (rw [hI, mxP_u (by omega), if_neg (by omega)])) rfl ls (lv_sub hl [1, 2, 0] rfl)
        · refine lv_lload_n hx hb dX3_digestBook_47 rfl (lv_at hl 1 rfl) ?_
          refine lv_aload_n hx hb dX3_digestBook_48 rfl (lv_at hl 0 rfl) ?_
          refine lv_iload hx hb dX3_digestBook_49 (lv_at hl 2 rfl) ?_
          refine q_vS C0 lX3_129 (c_X0_pairAt l D y L F h w o k g f r hR (by omega)) ⟨rfl, rfl⟩ rfl hP ha hF rfl rfl rfl hl rfl (Nat.le_of_ble_eq_true rfl) dX3_digestBook_51 ⟨Nat.zero_le _, Nat.zero_le _⟩ (fun r15 e_r15 => ?_)
          replace e_r15 := e_r15.symm
          subst e_r15
          refine q_sSl C0 lX3_261 (c_X3_mixed l D y L F q (pairR o f r)) ⟨rfl, rfl⟩ rfl hP rfl hl rfl (Nat.le_of_ble_eq_true rfl) dX3_digestBook_54 ⟨Nat.zero_le _, Nat.zero_le _⟩ (fun r16 e_r16 => ?_)
          replace e_r16 := e_r16.symm
          subst e_r16
          refine lv_lstore_n (lv' := [(3, .long ((mxd q (pairR o f r)))), (2, .ref h), (5, .int (iI r))]) hx hb dX3_digestBook_57 rfl hl (by decide) rfl (fun ls hl => ?_)
          refine q_iinc (x := r) (n := 1) (lv' := [(5, .int (iI ((r + 1)))), (3, .long ((mxd q (pairR o f r)))), (2, .ref h)]) hx hb dX3_digestBook_58 hl (k := 2) rfl (by decide) rfl (fun ls hl => ?_)
          refine lv_goto (tgt := 31) hx hb dX3_digestBook_61 (by decide) ?_
          exact ih_LP31 _ (by omega) (r + 1) (mxd q (pairR o f r)) (by omega) (by first | (rw [hI, mxP_u (by omega), if_pos (by omega)]; done) | (rw [hI, mxP_u (by omega), if_neg (by omega)])) rfl ls (lv_sub hl [2, 1, 0] rfl)
  exact LP31 _ 0 (mxd (mxd (mxd s0 (bfact o k f 0)) (bfact o k f 1)) (bfact o k f 2)) (by omega) (rfl) rfl ls (lv_sub hl [3, 1, 0] rfl)
