set_option maxHeartbeats 800000 in
set_option maxRecDepth 100000 in
theorem c_X3_digest1 (l : Launch) (D : va_G) (y : Nat → ClassId) (L : List Nat) (F : Nat → va_E) (sz : Nat) (O : Nat → Prop) (G : CG) (σ : CS) (j : Nat) (hC : CP y L F O G σ) (hW : CW σ) (hwk : zwk σ = some j) : Met l yX3_digest (.code yX3_digest cX3_digest 4 (some .long) :: Tt) ({ frames := 6, cells := 14, slots := 728, locals := 137 }) (PcM D y L F sz [.ref ((gbg G))]) (cMl D (AL L sz) (fun r L1 F1 => r = kR_digest1 σ j ∧ CP y L1 F1 O G σ ∧ (∀ a ∈ L, a ∈ L1) ∧ ∀ a ∈ L, F1 a = F a)) 14 728 (AL L sz) := by
  have hfr : ∀ a ∈ L, F a = F a := fun _ _ => rfl
  have hLs : ∀ a ∈ L, a ∈ L := fun _ h => h
  have hw4 := hW.2.2.2.2.2.1
  have hw5 := hW.2.2.2.2.2.2.1
  have hw6 := hW.2.2.2.2.2.2.2.2.2.2
  have hw7 := hW.2.2.2.2.2.2.2.2.2.1 j (hW.2.2.2.1 _ hwk)
  have gb_ := goI_b σ j
  refine q_ofM (lv := [(0, .ref ((gbg G)))]) (by decide) (Nat.le_of_ble_eq_true rfl) rfl (fun p e s m below meth c C0 hret hlk hnm hA hP hD hS ls hl => ?_)
  have hx := C0.1.1
  have hb := C0.1.2.1
  have hts := C0.1.2.2.2.2
  refine lv_ldc2 (v := 17706) hx hb C0.1.2.2.2.1 (hts _ (List.mem_cons_of_mem _ cLX3_251)) dX3_digest_0 ?_
  refine lv_lstore_n (lv' := [(1, .long (17706)), (0, .ref ((gbg G)))]) hx hb dX3_digest_3 rfl hl (by decide) rfl (fun ls hl => ?_)
  refine q_iconst hx hb dX3_digest_4 ?_
  refine lv_istore_n (lv' := [(3, .int (iI 0)), (1, .long (17706)), (0, .ref ((gbg G)))]) hx hb dX3_digest_5 rfl hl (by decide) rfl (fun ls hl => ?_)
  refine lv_iload_n hx hb dX3_digest_6 rfl (lv_at hl 0 rfl) ?_
  refine q_iconst hx hb dX3_digest_7 ?_
  refine q_icmp_ge hx hb dX3_digest_8 (tgt := 28) (by decide) (by omega) (by omega) (fun c1 => absurd c1 (by omega)) (fun c1 => ?_)
  refine lv_lload_n hx hb dX3_digest_11 rfl (lv_at hl 1 rfl) ?_
  refine lv_aload_n hx hb dX3_digest_12 rfl (lv_at hl 2 rfl) ?_
  refine q_get C0 iX3 hP hC.1.1 hC.1.2 rfl 0 (by decide) flX3_11 rfl rfl dX3_digest_13 ?_
  refine lv_iload_n hx hb dX3_digest_16 rfl (lv_at hl 0 rfl) ?_
  refine q_aald C0 hP hC.2.1.1 hC.2.1.2 (t := 1) rfl (by omega) (by decide) (v := .ref ((grh G (zbk σ 0)))) rfl dX3_digest_17 ?_
  refine q_sSl C0 lX3_253 (c_X3_digestBook l D y L F (grh G (zbk σ 0)) (grw G (zbk σ 0)) (zod σ (zbk σ 0)) ((zst σ (zbk σ 0)).1) ((zst σ (zbk σ 0)).2.1) ((zst σ (zbk σ 0)).2.2) 17706 (CP_r hC (hW.1 0)) (by have := hW.2.2.2.2.2.2.2.2.2.1 _ (hW.1 0); omega)) ⟨rfl, rfl⟩ rfl hP rfl hl rfl (Nat.le_of_ble_eq_true rfl) dX3_digest_18 ⟨Nat.zero_le _, Nat.zero_le _⟩ (fun r2 e_r2 => ?_)
  replace e_r2 := e_r2.symm
  subst e_r2
  refine lv_lstore_n (lv' := [(1, .long ((dgB (zod σ (zbk σ 0)) ((zst σ (zbk σ 0)).1) ((zst σ (zbk σ 0)).2.2) 17706))), (3, .int (iI 0)), (0, .ref ((gbg G)))]) hx hb dX3_digest_21 rfl hl (by decide) rfl (fun ls hl => ?_)
  refine q_iinc (x := 0) (n := 1) (lv' := [(3, .int (iI 1)), (1, .long ((dgB (zod σ (zbk σ 0)) ((zst σ (zbk σ 0)).1) ((zst σ (zbk σ 0)).2.2) 17706))), (0, .ref ((gbg G)))]) hx hb dX3_digest_22 hl (k := 1) rfl (by decide) rfl (fun ls hl => ?_)
  refine lv_goto (tgt := 6) hx hb dX3_digest_25 (by decide) ?_
  refine lv_iload_n hx hb dX3_digest_6 rfl (lv_at hl 0 rfl) ?_
  refine q_iconst hx hb dX3_digest_7 ?_
  refine q_icmp_ge hx hb dX3_digest_8 (tgt := 28) (by decide) (by omega) (by omega) (fun c3 => absurd c3 (by omega)) (fun c3 => ?_)
  refine lv_lload_n hx hb dX3_digest_11 rfl (lv_at hl 1 rfl) ?_
  refine lv_aload_n hx hb dX3_digest_12 rfl (lv_at hl 2 rfl) ?_
  refine q_get C0 iX3 hP hC.1.1 hC.1.2 rfl 0 (by decide) flX3_11 rfl rfl dX3_digest_13 ?_
  refine lv_iload_n hx hb dX3_digest_16 rfl (lv_at hl 0 rfl) ?_
  refine q_aald C0 hP hC.2.1.1 hC.2.1.2 (t := 1) rfl (by omega) (by decide) (v := .ref ((grh G (zbk σ 1)))) rfl dX3_digest_17 ?_
  refine q_sSl C0 lX3_253 (c_X3_digestBook l D y L F (grh G (zbk σ 1)) (grw G (zbk σ 1)) (zod σ (zbk σ 1)) ((zst σ (zbk σ 1)).1) ((zst σ (zbk σ 1)).2.1) ((zst σ (zbk σ 1)).2.2) (dgB (zod σ (zbk σ 0)) ((zst σ (zbk σ 0)).1) ((zst σ (zbk σ 0)).2.2) 17706) (CP_r hC (hW.1 1)) (by have := hW.2.2.2.2.2.2.2.2.2.1 _ (hW.1 1); omega)) ⟨rfl, rfl⟩ rfl hP rfl hl rfl (Nat.le_of_ble_eq_true rfl) dX3_digest_18 ⟨Nat.zero_le _, Nat.zero_le _⟩ (fun r4 e_r4 => ?_)
  replace e_r4 := e_r4.symm
  subst e_r4
  refine lv_lstore_n (lv' := [(1, .long ((dgB (zod σ (zbk σ 1)) ((zst σ (zbk σ 1)).1) ((zst σ (zbk σ 1)).2.2) (dgB (zod σ (zbk σ 0)) ((zst σ (zbk σ 0)).1) ((zst σ (zbk σ 0)).2.2) 17706)))), (3, .int (iI 1)), (0, .ref ((gbg G)))]) hx hb dX3_digest_21 rfl hl (by decide) rfl (fun ls hl => ?_)
  refine q_iinc (x := 1) (n := 1) (lv' := [(3, .int (iI 2)), (1, .long ((dgB (zod σ (zbk σ 1)) ((zst σ (zbk σ 1)).1) ((zst σ (zbk σ 1)).2.2) (dgB (zod σ (zbk σ 0)) ((zst σ (zbk σ 0)).1) ((zst σ (zbk σ 0)).2.2) 17706)))), (0, .ref ((gbg G)))]) hx hb dX3_digest_22 hl (k := 1) rfl (by decide) rfl (fun ls hl => ?_)
  refine lv_goto (tgt := 6) hx hb dX3_digest_25 (by decide) ?_
  refine lv_iload_n hx hb dX3_digest_6 rfl (lv_at hl 0 rfl) ?_
  refine q_iconst hx hb dX3_digest_7 ?_
  refine q_icmp_ge hx hb dX3_digest_8 (tgt := 28) (by decide) (by omega) (by omega) (fun c5 => absurd c5 (by omega)) (fun c5 => ?_)
  refine lv_lload_n hx hb dX3_digest_11 rfl (lv_at hl 1 rfl) ?_
  refine lv_aload_n hx hb dX3_digest_12 rfl (lv_at hl 2 rfl) ?_
  refine q_get C0 iX3 hP hC.1.1 hC.1.2 rfl 0 (by decide) flX3_11 rfl rfl dX3_digest_13 ?_
  refine lv_iload_n hx hb dX3_digest_16 rfl (lv_at hl 0 rfl) ?_
  refine q_aald C0 hP hC.2.1.1 hC.2.1.2 (t := 1) rfl (by omega) (by decide) (v := .ref ((grh G (zbk σ 2)))) rfl dX3_digest_17 ?_
  refine q_sSl C0 lX3_253 (c_X3_digestBook l D y L F (grh G (zbk σ 2)) (grw G (zbk σ 2)) (zod σ (zbk σ 2)) ((zst σ (zbk σ 2)).1) ((zst σ (zbk σ 2)).2.1) ((zst σ (zbk σ 2)).2.2) (dgB (zod σ (zbk σ 1)) ((zst σ (zbk σ 1)).1) ((zst σ (zbk σ 1)).2.2) (dgB (zod σ (zbk σ 0)) ((zst σ (zbk σ 0)).1) ((zst σ (zbk σ 0)).2.2) 17706)) (CP_r hC (hW.1 2)) (by have := hW.2.2.2.2.2.2.2.2.2.1 _ (hW.1 2); omega)) ⟨rfl, rfl⟩ rfl hP rfl hl rfl (Nat.le_of_ble_eq_true rfl) dX3_digest_18 ⟨Nat.zero_le _, Nat.zero_le _⟩ (fun r6 e_r6 => ?_)
  replace e_r6 := e_r6.symm
  subst e_r6
  refine lv_lstore_n (lv' := [(1, .long ((dgB (zod σ (zbk σ 2)) ((zst σ (zbk σ 2)).1) ((zst σ (zbk σ 2)).2.2) (dgB (zod σ (zbk σ 1)) ((zst σ (zbk σ 1)).1) ((zst σ (zbk σ 1)).2.2) (dgB (zod σ (zbk σ 0)) ((zst σ (zbk σ 0)).1) ((zst σ (zbk σ 0)).2.2) 17706))))), (3, .int (iI 2)), (0, .ref ((gbg G)))]) hx hb dX3_digest_21 rfl hl (by decide) rfl (fun ls hl => ?_)
  refine q_iinc (x := 2) (n := 1) (lv' := [(3, .int (iI 3)), (1, .long ((dgB (zod σ (zbk σ 2)) ((zst σ (zbk σ 2)).1) ((zst σ (zbk σ 2)).2.2) (dgB (zod σ (zbk σ 1)) ((zst σ (zbk σ 1)).1) ((zst σ (zbk σ 1)).2.2) (dgB (zod σ (zbk σ 0)) ((zst σ (zbk σ 0)).1) ((zst σ (zbk σ 0)).2.2) 17706))))), (0, .ref ((gbg G)))]) hx hb dX3_digest_22 hl (k := 1) rfl (by decide) rfl (fun ls hl => ?_)
  refine lv_goto (tgt := 6) hx hb dX3_digest_25 (by decide) ?_
  refine lv_iload_n hx hb dX3_digest_6 rfl (lv_at hl 0 rfl) ?_
  refine q_iconst hx hb dX3_digest_7 ?_
  refine q_icmp_ge hx hb dX3_digest_8 (tgt := 28) (by decide) (by omega) (by omega) (fun c7 => absurd c7 (by omega)) (fun c7 => ?_)
  refine lv_lload_n hx hb dX3_digest_11 rfl (lv_at hl 1 rfl) ?_
  refine lv_aload_n hx hb dX3_digest_12 rfl (lv_at hl 2 rfl) ?_
  refine q_get C0 iX3 hP hC.1.1 hC.1.2 rfl 0 (by decide) flX3_11 rfl rfl dX3_digest_13 ?_
  refine lv_iload_n hx hb dX3_digest_16 rfl (lv_at hl 0 rfl) ?_
  refine q_aald C0 hP hC.2.1.1 hC.2.1.2 (t := 1) rfl (by omega) (by decide) (v := .ref ((grh G (zbk σ 3)))) rfl dX3_digest_17 ?_
  refine q_sSl C0 lX3_253 (c_X3_digestBook l D y L F (grh G (zbk σ 3)) (grw G (zbk σ 3)) (zod σ (zbk σ 3)) ((zst σ (zbk σ 3)).1) ((zst σ (zbk σ 3)).2.1) ((zst σ (zbk σ 3)).2.2) (dgB (zod σ (zbk σ 2)) ((zst σ (zbk σ 2)).1) ((zst σ (zbk σ 2)).2.2) (dgB (zod σ (zbk σ 1)) ((zst σ (zbk σ 1)).1) ((zst σ (zbk σ 1)).2.2) (dgB (zod σ (zbk σ 0)) ((zst σ (zbk σ 0)).1) ((zst σ (zbk σ 0)).2.2) 17706))) (CP_r hC (hW.1 3)) (by have := hW.2.2.2.2.2.2.2.2.2.1 _ (hW.1 3); omega)) ⟨rfl, rfl⟩ rfl hP rfl hl rfl (Nat.le_of_ble_eq_true rfl) dX3_digest_18 ⟨Nat.zero_le _, Nat.zero_le _⟩ (fun r8 e_r8 => ?_)
  replace e_r8 := e_r8.symm
  subst e_r8
  refine lv_lstore_n (lv' := [(1, .long ((dgB (zod σ (zbk σ 3)) ((zst σ (zbk σ 3)).1) ((zst σ (zbk σ 3)).2.2) (dgB (zod σ (zbk σ 2)) ((zst σ (zbk σ 2)).1) ((zst σ (zbk σ 2)).2.2) (dgB (zod σ (zbk σ 1)) ((zst σ (zbk σ 1)).1) ((zst σ (zbk σ 1)).2.2) (dgB (zod σ (zbk σ 0)) ((zst σ (zbk σ 0)).1) ((zst σ (zbk σ 0)).2.2) 17706)))))), (3, .int (iI 3)), (0, .ref ((gbg G)))]) hx hb dX3_digest_21 rfl hl (by decide) rfl (fun ls hl => ?_)
  refine q_iinc (x := 3) (n := 1) (lv' := [(3, .int (iI 4)), (1, .long ((dgB (zod σ (zbk σ 3)) ((zst σ (zbk σ 3)).1) ((zst σ (zbk σ 3)).2.2) (dgB (zod σ (zbk σ 2)) ((zst σ (zbk σ 2)).1) ((zst σ (zbk σ 2)).2.2) (dgB (zod σ (zbk σ 1)) ((zst σ (zbk σ 1)).1) ((zst σ (zbk σ 1)).2.2) (dgB (zod σ (zbk σ 0)) ((zst σ (zbk σ 0)).1) ((zst σ (zbk σ 0)).2.2) 17706)))))), (0, .ref ((gbg G)))]) hx hb dX3_digest_22 hl (k := 1) rfl (by decide) rfl (fun ls hl => ?_)
  refine lv_goto (tgt := 6) hx hb dX3_digest_25 (by decide) ?_
  refine lv_iload_n hx hb dX3_digest_6 rfl (lv_at hl 0 rfl) ?_
  refine q_iconst hx hb dX3_digest_7 ?_
  refine q_icmp_ge hx hb dX3_digest_8 (tgt := 28) (by decide) (by omega) (by omega) (fun c9 => ?_) (fun c9 => absurd c9 (by omega))
  refine q_iconst hx hb dX3_digest_28 ?_
  refine lv_istore_n (lv' := [(3, .int (iI 0)), (1, .long ((dgB (zod σ (zbk σ 3)) ((zst σ (zbk σ 3)).1) ((zst σ (zbk σ 3)).2.2) (dgB (zod σ (zbk σ 2)) ((zst σ (zbk σ 2)).1) ((zst σ (zbk σ 2)).2.2) (dgB (zod σ (zbk σ 1)) ((zst σ (zbk σ 1)).1) ((zst σ (zbk σ 1)).2.2) (dgB (zod σ (zbk σ 0)) ((zst σ (zbk σ 0)).1) ((zst σ (zbk σ 0)).2.2) 17706)))))), (0, .ref ((gbg G)))]) hx hb dX3_digest_29 rfl hl (by decide) rfl (fun ls hl => ?_)
  refine lv_iload_n hx hb dX3_digest_30 rfl (lv_at hl 0 rfl) ?_
  refine q_iconst hx hb dX3_digest_31 ?_
  refine q_icmp_ge hx hb dX3_digest_32 (tgt := 52) (by decide) (by omega) (by omega) (fun c10 => absurd c10 (by omega)) (fun c10 => ?_)
  refine lv_lload_n hx hb dX3_digest_35 rfl (lv_at hl 1 rfl) ?_
  refine lv_aload_n hx hb dX3_digest_36 rfl (lv_at hl 2 rfl) ?_
  refine q_get C0 iX3 hP hC.1.1 hC.1.2 rfl 2 (by decide) flX3_23 rfl rfl dX3_digest_37 ?_
  refine lv_iload_n hx hb dX3_digest_40 rfl (lv_at hl 0 rfl) ?_
  refine q_aald C0 hP hC.2.2.2.1.1 hC.2.2.2.1.2 (t := 2) rfl (by omega) (by decide) (v := .ref ((gva G 0))) rfl dX3_digest_41 ?_
  refine q_sSl C0 lX3_257 (c_X3_digestView l D y L F O G σ 0 (dgB (zod σ (zbk σ 3)) ((zst σ (zbk σ 3)).1) ((zst σ (zbk σ 3)).2.2) (dgB (zod σ (zbk σ 2)) ((zst σ (zbk σ 2)).1) ((zst σ (zbk σ 2)).2.2) (dgB (zod σ (zbk σ 1)) ((zst σ (zbk σ 1)).1) ((zst σ (zbk σ 1)).2.2) (dgB (zod σ (zbk σ 0)) ((zst σ (zbk σ 0)).1) ((zst σ (zbk σ 0)).2.2) 17706)))) hC (by omega) (hW.2.2.1 0) (by have := hW.2.2.2.2.1 0; omega) (by have := hW.2.2.2.2.1 0; omega)) ⟨rfl, rfl⟩ rfl hP rfl hl rfl (Nat.le_of_ble_eq_true rfl) dX3_digest_42 ⟨Nat.zero_le _, Nat.zero_le _⟩ (fun r11 e_r11 => ?_)
  replace e_r11 := e_r11.symm
  subst e_r11
  refine lv_lstore_n (lv' := [(1, .long ((dgV σ 0 (dgB (zod σ (zbk σ 3)) ((zst σ (zbk σ 3)).1) ((zst σ (zbk σ 3)).2.2) (dgB (zod σ (zbk σ 2)) ((zst σ (zbk σ 2)).1) ((zst σ (zbk σ 2)).2.2) (dgB (zod σ (zbk σ 1)) ((zst σ (zbk σ 1)).1) ((zst σ (zbk σ 1)).2.2) (dgB (zod σ (zbk σ 0)) ((zst σ (zbk σ 0)).1) ((zst σ (zbk σ 0)).2.2) 17706))))))), (3, .int (iI 0)), (0, .ref ((gbg G)))]) hx hb dX3_digest_45 rfl hl (by decide) rfl (fun ls hl => ?_)
  refine q_iinc (x := 0) (n := 1) (lv' := [(3, .int (iI 1)), (1, .long ((dgV σ 0 (dgB (zod σ (zbk σ 3)) ((zst σ (zbk σ 3)).1) ((zst σ (zbk σ 3)).2.2) (dgB (zod σ (zbk σ 2)) ((zst σ (zbk σ 2)).1) ((zst σ (zbk σ 2)).2.2) (dgB (zod σ (zbk σ 1)) ((zst σ (zbk σ 1)).1) ((zst σ (zbk σ 1)).2.2) (dgB (zod σ (zbk σ 0)) ((zst σ (zbk σ 0)).1) ((zst σ (zbk σ 0)).2.2) 17706))))))), (0, .ref ((gbg G)))]) hx hb dX3_digest_46 hl (k := 1) rfl (by decide) rfl (fun ls hl => ?_)
  refine lv_goto (tgt := 30) hx hb dX3_digest_49 (by decide) ?_
  refine lv_iload_n hx hb dX3_digest_30 rfl (lv_at hl 0 rfl) ?_
  refine q_iconst hx hb dX3_digest_31 ?_
  refine q_icmp_ge hx hb dX3_digest_32 (tgt := 52) (by decide) (by omega) (by omega) (fun c12 => absurd c12 (by omega)) (fun c12 => ?_)
  refine lv_lload_n hx hb dX3_digest_35 rfl (lv_at hl 1 rfl) ?_
  refine lv_aload_n hx hb dX3_digest_36 rfl (lv_at hl 2 rfl) ?_
  refine q_get C0 iX3 hP hC.1.1 hC.1.2 rfl 2 (by decide) flX3_23 rfl rfl dX3_digest_37 ?_
  refine lv_iload_n hx hb dX3_digest_40 rfl (lv_at hl 0 rfl) ?_
  refine q_aald C0 hP hC.2.2.2.1.1 hC.2.2.2.1.2 (t := 2) rfl (by omega) (by decide) (v := .ref ((gva G 1))) rfl dX3_digest_41 ?_
  refine q_sSl C0 lX3_257 (c_X3_digestView l D y L F O G σ 1 (dgV σ 0 (dgB (zod σ (zbk σ 3)) ((zst σ (zbk σ 3)).1) ((zst σ (zbk σ 3)).2.2) (dgB (zod σ (zbk σ 2)) ((zst σ (zbk σ 2)).1) ((zst σ (zbk σ 2)).2.2) (dgB (zod σ (zbk σ 1)) ((zst σ (zbk σ 1)).1) ((zst σ (zbk σ 1)).2.2) (dgB (zod σ (zbk σ 0)) ((zst σ (zbk σ 0)).1) ((zst σ (zbk σ 0)).2.2) 17706))))) hC (by omega) (hW.2.2.1 1) (by have := hW.2.2.2.2.1 1; omega) (by have := hW.2.2.2.2.1 1; omega)) ⟨rfl, rfl⟩ rfl hP rfl hl rfl (Nat.le_of_ble_eq_true rfl) dX3_digest_42 ⟨Nat.zero_le _, Nat.zero_le _⟩ (fun r13 e_r13 => ?_)
  replace e_r13 := e_r13.symm
  subst e_r13
  refine lv_lstore_n (lv' := [(1, .long ((dgV σ 1 (dgV σ 0 (dgB (zod σ (zbk σ 3)) ((zst σ (zbk σ 3)).1) ((zst σ (zbk σ 3)).2.2) (dgB (zod σ (zbk σ 2)) ((zst σ (zbk σ 2)).1) ((zst σ (zbk σ 2)).2.2) (dgB (zod σ (zbk σ 1)) ((zst σ (zbk σ 1)).1) ((zst σ (zbk σ 1)).2.2) (dgB (zod σ (zbk σ 0)) ((zst σ (zbk σ 0)).1) ((zst σ (zbk σ 0)).2.2) 17706)))))))), (3, .int (iI 1)), (0, .ref ((gbg G)))]) hx hb dX3_digest_45 rfl hl (by decide) rfl (fun ls hl => ?_)
  refine q_iinc (x := 1) (n := 1) (lv' := [(3, .int (iI 2)), (1, .long ((dgV σ 1 (dgV σ 0 (dgB (zod σ (zbk σ 3)) ((zst σ (zbk σ 3)).1) ((zst σ (zbk σ 3)).2.2) (dgB (zod σ (zbk σ 2)) ((zst σ (zbk σ 2)).1) ((zst σ (zbk σ 2)).2.2) (dgB (zod σ (zbk σ 1)) ((zst σ (zbk σ 1)).1) ((zst σ (zbk σ 1)).2.2) (dgB (zod σ (zbk σ 0)) ((zst σ (zbk σ 0)).1) ((zst σ (zbk σ 0)).2.2) 17706)))))))), (0, .ref ((gbg G)))]) hx hb dX3_digest_46 hl (k := 1) rfl (by decide) rfl (fun ls hl => ?_)
  refine lv_goto (tgt := 30) hx hb dX3_digest_49 (by decide) ?_
  refine lv_iload_n hx hb dX3_digest_30 rfl (lv_at hl 0 rfl) ?_
  refine q_iconst hx hb dX3_digest_31 ?_
  refine q_icmp_ge hx hb dX3_digest_32 (tgt := 52) (by decide) (by omega) (by omega) (fun c14 => ?_) (fun c14 => absurd c14 (by omega))
  refine lv_lload_n hx hb dX3_digest_52 rfl (lv_at hl 1 rfl) ?_
  refine lv_aload_n hx hb dX3_digest_53 rfl (lv_at hl 2 rfl) ?_
  refine q_get C0 iX3 hP hC.1.1 hC.1.2 rfl 3 (by decide) flX3_33 rfl rfl dX3_digest_54 ?_
  refine q_vS C0 lX3_200 (c_X2_isGoing1 l D y L F O G σ j hC hwk (hW.2.2.2.1 _ hwk) (by omega) (by omega)) ⟨rfl, rfl⟩ rfl hP (CP_k1 hC hwk).1 (CP_k1 hC hwk).2 rfl rfl rfl hl rfl (Nat.le_of_ble_eq_true rfl) dX3_digest_57 ⟨Nat.zero_le _, Nat.zero_le _⟩ (fun r15 e_r15 => ?_)
  replace e_r15 := e_r15.symm
  subst e_r15
  have b_16 := goI_b σ j
  refine q_if_eq hx hb dX3_digest_60 (tgt := 67) (by decide) (by omega) (fun c17 => ?_) (fun c17 => ?_)
  · refine q_iconst hx hb dX3_digest_67 ?_
    refine q_sSl C0 lX3_261 (c_X3_mixed l D y L F (dgV σ 1 (dgV σ 0 (dgB (zod σ (zbk σ 3)) ((zst σ (zbk σ 3)).1) ((zst σ (zbk σ 3)).2.2) (dgB (zod σ (zbk σ 2)) ((zst σ (zbk σ 2)).1) ((zst σ (zbk σ 2)).2.2) (dgB (zod σ (zbk σ 1)) ((zst σ (zbk σ 1)).1) ((zst σ (zbk σ 1)).2.2) (dgB (zod σ (zbk σ 0)) ((zst σ (zbk σ 0)).1) ((zst σ (zbk σ 0)).2.2) 17706)))))) 0) ⟨rfl, rfl⟩ rfl hP rfl hl rfl (Nat.le_of_ble_eq_true rfl) dX3_digest_68 ⟨Nat.zero_le _, Nat.zero_le _⟩ (fun r18 e_r18 => ?_)
    replace e_r18 := e_r18.symm
    subst e_r18
    refine lv_lstore_n (lv' := [(1, .long ((mxd (dgV σ 1 (dgV σ 0 (dgB (zod σ (zbk σ 3)) ((zst σ (zbk σ 3)).1) ((zst σ (zbk σ 3)).2.2) (dgB (zod σ (zbk σ 2)) ((zst σ (zbk σ 2)).1) ((zst σ (zbk σ 2)).2.2) (dgB (zod σ (zbk σ 1)) ((zst σ (zbk σ 1)).1) ((zst σ (zbk σ 1)).2.2) (dgB (zod σ (zbk σ 0)) ((zst σ (zbk σ 0)).1) ((zst σ (zbk σ 0)).2.2) 17706)))))) 0))), (3, .int (iI 2)), (0, .ref ((gbg G)))]) hx hb dX3_digest_71 rfl hl (by decide) rfl (fun ls hl => ?_)
    refine lv_lload_n hx hb dX3_digest_72 rfl (lv_at hl 0 rfl) ?_
    refine lv_aload_n hx hb dX3_digest_73 rfl (lv_at hl 2 rfl) ?_
    refine q_get C0 iX3 hP hC.1.1 hC.1.2 rfl 3 (by decide) flX3_33 rfl rfl dX3_digest_74 ?_
    refine q_vS C0 lX3_265 (c_X2_toldKey1 l D y L F O G σ j hC hwk (hW.2.2.2.1 _ hwk) (by omega) (by omega)) ⟨rfl, rfl⟩ rfl hP (CP_k1 hC hwk).1 (CP_k1 hC hwk).2 rfl rfl rfl hl rfl (Nat.le_of_ble_eq_true rfl) dX3_digest_77 ⟨Nat.zero_le _, Nat.zero_le _⟩ (fun r19 e_r19 => ?_)
    replace e_r19 := e_r19.symm
    subst e_r19
    refine q_sSl C0 lX3_261 (c_X3_mixed l D y L F (mxd (dgV σ 1 (dgV σ 0 (dgB (zod σ (zbk σ 3)) ((zst σ (zbk σ 3)).1) ((zst σ (zbk σ 3)).2.2) (dgB (zod σ (zbk σ 2)) ((zst σ (zbk σ 2)).1) ((zst σ (zbk σ 2)).2.2) (dgB (zod σ (zbk σ 1)) ((zst σ (zbk σ 1)).1) ((zst σ (zbk σ 1)).2.2) (dgB (zod σ (zbk σ 0)) ((zst σ (zbk σ 0)).1) ((zst σ (zbk σ 0)).2.2) 17706)))))) 0) (if zwt σ = 0 then -1 else keyR (zod σ j) (zwl σ))) ⟨rfl, rfl⟩ rfl hP rfl hl rfl (Nat.le_of_ble_eq_true rfl) dX3_digest_80 ⟨Nat.zero_le _, Nat.zero_le _⟩ (fun r20 e_r20 => ?_)
    replace e_r20 := e_r20.symm
    subst e_r20
    refine lv_lstore_n (lv' := [(1, .long ((mxd (mxd (dgV σ 1 (dgV σ 0 (dgB (zod σ (zbk σ 3)) ((zst σ (zbk σ 3)).1) ((zst σ (zbk σ 3)).2.2) (dgB (zod σ (zbk σ 2)) ((zst σ (zbk σ 2)).1) ((zst σ (zbk σ 2)).2.2) (dgB (zod σ (zbk σ 1)) ((zst σ (zbk σ 1)).1) ((zst σ (zbk σ 1)).2.2) (dgB (zod σ (zbk σ 0)) ((zst σ (zbk σ 0)).1) ((zst σ (zbk σ 0)).2.2) 17706)))))) 0) (if zwt σ = 0 then -1 else keyR (zod σ j) (zwl σ))))), (3, .int (iI 2)), (0, .ref ((gbg G)))]) hx hb dX3_digest_83 rfl hl (by decide) rfl (fun ls hl => ?_)
    refine q_iconst hx hb dX3_digest_84 ?_
    refine lv_istore_n (lv' := [(3, .int (iI 0)), (1, .long ((mxd (mxd (dgV σ 1 (dgV σ 0 (dgB (zod σ (zbk σ 3)) ((zst σ (zbk σ 3)).1) ((zst σ (zbk σ 3)).2.2) (dgB (zod σ (zbk σ 2)) ((zst σ (zbk σ 2)).1) ((zst σ (zbk σ 2)).2.2) (dgB (zod σ (zbk σ 1)) ((zst σ (zbk σ 1)).1) ((zst σ (zbk σ 1)).2.2) (dgB (zod σ (zbk σ 0)) ((zst σ (zbk σ 0)).1) ((zst σ (zbk σ 0)).2.2) 17706)))))) 0) (if zwt σ = 0 then -1 else keyR (zod σ j) (zwl σ))))), (0, .ref ((gbg G)))]) hx hb dX3_digest_85 rfl hl (by decide) rfl (fun ls hl => ?_)
    refine lv_iload_n hx hb dX3_digest_86 rfl (lv_at hl 0 rfl) ?_
    refine q_iconst hx hb dX3_digest_87 ?_
    refine q_icmp_ge hx hb dX3_digest_88 (tgt := 108) (by decide) (by omega) (by omega) (fun c21 => absurd c21 (by omega)) (fun c21 => ?_)
    refine lv_lload_n hx hb dX3_digest_91 rfl (lv_at hl 1 rfl) ?_
    refine lv_aload_n hx hb dX3_digest_92 rfl (lv_at hl 2 rfl) ?_
    refine q_get C0 iX3 hP hC.1.1 hC.1.2 rfl 1 (by decide) flX3_18 rfl rfl dX3_digest_93 ?_
    refine lv_iload_n hx hb dX3_digest_96 rfl (lv_at hl 0 rfl) ?_
    refine q_aald C0 hP hC.2.2.1.1 hC.2.2.1.2 (t := 1) rfl (by omega) (by decide) (v := .ref ((grh G (zsh σ 0)))) rfl dX3_digest_97 ?_
    refine q_sSl C0 lX3_268 (c_X3_digestShelf l D y L F (grh G (zsh σ 0)) (grw G (zsh σ 0)) (zod σ (zsh σ 0)) ((zst σ (zsh σ 0)).1) ((zst σ (zsh σ 0)).2.1) ((zst σ (zsh σ 0)).2.2) (mxd (mxd (dgV σ 1 (dgV σ 0 (dgB (zod σ (zbk σ 3)) ((zst σ (zbk σ 3)).1) ((zst σ (zbk σ 3)).2.2) (dgB (zod σ (zbk σ 2)) ((zst σ (zbk σ 2)).1) ((zst σ (zbk σ 2)).2.2) (dgB (zod σ (zbk σ 1)) ((zst σ (zbk σ 1)).1) ((zst σ (zbk σ 1)).2.2) (dgB (zod σ (zbk σ 0)) ((zst σ (zbk σ 0)).1) ((zst σ (zbk σ 0)).2.2) 17706)))))) 0) (if zwt σ = 0 then -1 else keyR (zod σ j) (zwl σ))) (CP_r hC (hW.2.1 0)) (by have := hW.2.2.2.2.2.2.2.2.2.1 _ (hW.2.1 0); omega)) ⟨rfl, rfl⟩ rfl hP rfl hl rfl (Nat.le_of_ble_eq_true rfl) dX3_digest_98 ⟨Nat.zero_le _, Nat.zero_le _⟩ (fun r22 e_r22 => ?_)
    replace e_r22 := e_r22.symm
    subst e_r22
    refine lv_lstore_n (lv' := [(1, .long ((dgS (zod σ (zsh σ 0)) ((zst σ (zsh σ 0)).1) ((zst σ (zsh σ 0)).2.2) (mxd (mxd (dgV σ 1 (dgV σ 0 (dgB (zod σ (zbk σ 3)) ((zst σ (zbk σ 3)).1) ((zst σ (zbk σ 3)).2.2) (dgB (zod σ (zbk σ 2)) ((zst σ (zbk σ 2)).1) ((zst σ (zbk σ 2)).2.2) (dgB (zod σ (zbk σ 1)) ((zst σ (zbk σ 1)).1) ((zst σ (zbk σ 1)).2.2) (dgB (zod σ (zbk σ 0)) ((zst σ (zbk σ 0)).1) ((zst σ (zbk σ 0)).2.2) 17706)))))) 0) (if zwt σ = 0 then -1 else keyR (zod σ j) (zwl σ)))))), (3, .int (iI 0)), (0, .ref ((gbg G)))]) hx hb dX3_digest_101 rfl hl (by decide) rfl (fun ls hl => ?_)
    refine q_iinc (x := 0) (n := 1) (lv' := [(3, .int (iI 1)), (1, .long ((dgS (zod σ (zsh σ 0)) ((zst σ (zsh σ 0)).1) ((zst σ (zsh σ 0)).2.2) (mxd (mxd (dgV σ 1 (dgV σ 0 (dgB (zod σ (zbk σ 3)) ((zst σ (zbk σ 3)).1) ((zst σ (zbk σ 3)).2.2) (dgB (zod σ (zbk σ 2)) ((zst σ (zbk σ 2)).1) ((zst σ (zbk σ 2)).2.2) (dgB (zod σ (zbk σ 1)) ((zst σ (zbk σ 1)).1) ((zst σ (zbk σ 1)).2.2) (dgB (zod σ (zbk σ 0)) ((zst σ (zbk σ 0)).1) ((zst σ (zbk σ 0)).2.2) 17706)))))) 0) (if zwt σ = 0 then -1 else keyR (zod σ j) (zwl σ)))))), (0, .ref ((gbg G)))]) hx hb dX3_digest_102 hl (k := 1) rfl (by decide) rfl (fun ls hl => ?_)
    refine lv_goto (tgt := 86) hx hb dX3_digest_105 (by decide) ?_
    refine lv_iload_n hx hb dX3_digest_86 rfl (lv_at hl 0 rfl) ?_
    refine q_iconst hx hb dX3_digest_87 ?_
    refine q_icmp_ge hx hb dX3_digest_88 (tgt := 108) (by decide) (by omega) (by omega) (fun c23 => absurd c23 (by omega)) (fun c23 => ?_)
    refine lv_lload_n hx hb dX3_digest_91 rfl (lv_at hl 1 rfl) ?_
    refine lv_aload_n hx hb dX3_digest_92 rfl (lv_at hl 2 rfl) ?_
    refine q_get C0 iX3 hP hC.1.1 hC.1.2 rfl 1 (by decide) flX3_18 rfl rfl dX3_digest_93 ?_
    refine lv_iload_n hx hb dX3_digest_96 rfl (lv_at hl 0 rfl) ?_
    refine q_aald C0 hP hC.2.2.1.1 hC.2.2.1.2 (t := 1) rfl (by omega) (by decide) (v := .ref ((grh G (zsh σ 1)))) rfl dX3_digest_97 ?_
    refine q_sSl C0 lX3_268 (c_X3_digestShelf l D y L F (grh G (zsh σ 1)) (grw G (zsh σ 1)) (zod σ (zsh σ 1)) ((zst σ (zsh σ 1)).1) ((zst σ (zsh σ 1)).2.1) ((zst σ (zsh σ 1)).2.2) (dgS (zod σ (zsh σ 0)) ((zst σ (zsh σ 0)).1) ((zst σ (zsh σ 0)).2.2) (mxd (mxd (dgV σ 1 (dgV σ 0 (dgB (zod σ (zbk σ 3)) ((zst σ (zbk σ 3)).1) ((zst σ (zbk σ 3)).2.2) (dgB (zod σ (zbk σ 2)) ((zst σ (zbk σ 2)).1) ((zst σ (zbk σ 2)).2.2) (dgB (zod σ (zbk σ 1)) ((zst σ (zbk σ 1)).1) ((zst σ (zbk σ 1)).2.2) (dgB (zod σ (zbk σ 0)) ((zst σ (zbk σ 0)).1) ((zst σ (zbk σ 0)).2.2) 17706)))))) 0) (if zwt σ = 0 then -1 else keyR (zod σ j) (zwl σ)))) (CP_r hC (hW.2.1 1)) (by have := hW.2.2.2.2.2.2.2.2.2.1 _ (hW.2.1 1); omega)) ⟨rfl, rfl⟩ rfl hP rfl hl rfl (Nat.le_of_ble_eq_true rfl) dX3_digest_98 ⟨Nat.zero_le _, Nat.zero_le _⟩ (fun r24 e_r24 => ?_)
    replace e_r24 := e_r24.symm
    subst e_r24
    refine lv_lstore_n (lv' := [(1, .long ((dgS (zod σ (zsh σ 1)) ((zst σ (zsh σ 1)).1) ((zst σ (zsh σ 1)).2.2) (dgS (zod σ (zsh σ 0)) ((zst σ (zsh σ 0)).1) ((zst σ (zsh σ 0)).2.2) (mxd (mxd (dgV σ 1 (dgV σ 0 (dgB (zod σ (zbk σ 3)) ((zst σ (zbk σ 3)).1) ((zst σ (zbk σ 3)).2.2) (dgB (zod σ (zbk σ 2)) ((zst σ (zbk σ 2)).1) ((zst σ (zbk σ 2)).2.2) (dgB (zod σ (zbk σ 1)) ((zst σ (zbk σ 1)).1) ((zst σ (zbk σ 1)).2.2) (dgB (zod σ (zbk σ 0)) ((zst σ (zbk σ 0)).1) ((zst σ (zbk σ 0)).2.2) 17706)))))) 0) (if zwt σ = 0 then -1 else keyR (zod σ j) (zwl σ))))))), (3, .int (iI 1)), (0, .ref ((gbg G)))]) hx hb dX3_digest_101 rfl hl (by decide) rfl (fun ls hl => ?_)
    refine q_iinc (x := 1) (n := 1) (lv' := [(3, .int (iI 2)), (1, .long ((dgS (zod σ (zsh σ 1)) ((zst σ (zsh σ 1)).1) ((zst σ (zsh σ 1)).2.2) (dgS (zod σ (zsh σ 0)) ((zst σ (zsh σ 0)).1) ((zst σ (zsh σ 0)).2.2) (mxd (mxd (dgV σ 1 (dgV σ 0 (dgB (zod σ (zbk σ 3)) ((zst σ (zbk σ 3)).1) ((zst σ (zbk σ 3)).2.2) (dgB (zod σ (zbk σ 2)) ((zst σ (zbk σ 2)).1) ((zst σ (zbk σ 2)).2.2) (dgB (zod σ (zbk σ 1)) ((zst σ (zbk σ 1)).1) ((zst σ (zbk σ 1)).2.2) (dgB (zod σ (zbk σ 0)) ((zst σ (zbk σ 0)).1) ((zst σ (zbk σ 0)).2.2) 17706)))))) 0) (if zwt σ = 0 then -1 else keyR (zod σ j) (zwl σ))))))), (0, .ref ((gbg G)))]) hx hb dX3_digest_102 hl (k := 1) rfl (by decide) rfl (fun ls hl => ?_)
    refine lv_goto (tgt := 86) hx hb dX3_digest_105 (by decide) ?_
    refine lv_iload_n hx hb dX3_digest_86 rfl (lv_at hl 0 rfl) ?_
    refine q_iconst hx hb dX3_digest_87 ?_
    refine q_icmp_ge hx hb dX3_digest_88 (tgt := 108) (by decide) (by omega) (by omega) (fun c25 => absurd c25 (by omega)) (fun c25 => ?_)
    refine lv_lload_n hx hb dX3_digest_91 rfl (lv_at hl 1 rfl) ?_
    refine lv_aload_n hx hb dX3_digest_92 rfl (lv_at hl 2 rfl) ?_
    refine q_get C0 iX3 hP hC.1.1 hC.1.2 rfl 1 (by decide) flX3_18 rfl rfl dX3_digest_93 ?_
    refine lv_iload_n hx hb dX3_digest_96 rfl (lv_at hl 0 rfl) ?_
    refine q_aald C0 hP hC.2.2.1.1 hC.2.2.1.2 (t := 1) rfl (by omega) (by decide) (v := .ref ((grh G (zsh σ 2)))) rfl dX3_digest_97 ?_
    refine q_sSl C0 lX3_268 (c_X3_digestShelf l D y L F (grh G (zsh σ 2)) (grw G (zsh σ 2)) (zod σ (zsh σ 2)) ((zst σ (zsh σ 2)).1) ((zst σ (zsh σ 2)).2.1) ((zst σ (zsh σ 2)).2.2) (dgS (zod σ (zsh σ 1)) ((zst σ (zsh σ 1)).1) ((zst σ (zsh σ 1)).2.2) (dgS (zod σ (zsh σ 0)) ((zst σ (zsh σ 0)).1) ((zst σ (zsh σ 0)).2.2) (mxd (mxd (dgV σ 1 (dgV σ 0 (dgB (zod σ (zbk σ 3)) ((zst σ (zbk σ 3)).1) ((zst σ (zbk σ 3)).2.2) (dgB (zod σ (zbk σ 2)) ((zst σ (zbk σ 2)).1) ((zst σ (zbk σ 2)).2.2) (dgB (zod σ (zbk σ 1)) ((zst σ (zbk σ 1)).1) ((zst σ (zbk σ 1)).2.2) (dgB (zod σ (zbk σ 0)) ((zst σ (zbk σ 0)).1) ((zst σ (zbk σ 0)).2.2) 17706)))))) 0) (if zwt σ = 0 then -1 else keyR (zod σ j) (zwl σ))))) (CP_r hC (hW.2.1 2)) (by have := hW.2.2.2.2.2.2.2.2.2.1 _ (hW.2.1 2); omega)) ⟨rfl, rfl⟩ rfl hP rfl hl rfl (Nat.le_of_ble_eq_true rfl) dX3_digest_98 ⟨Nat.zero_le _, Nat.zero_le _⟩ (fun r26 e_r26 => ?_)
    replace e_r26 := e_r26.symm
    subst e_r26
    refine lv_lstore_n (lv' := [(1, .long ((dgS (zod σ (zsh σ 2)) ((zst σ (zsh σ 2)).1) ((zst σ (zsh σ 2)).2.2) (dgS (zod σ (zsh σ 1)) ((zst σ (zsh σ 1)).1) ((zst σ (zsh σ 1)).2.2) (dgS (zod σ (zsh σ 0)) ((zst σ (zsh σ 0)).1) ((zst σ (zsh σ 0)).2.2) (mxd (mxd (dgV σ 1 (dgV σ 0 (dgB (zod σ (zbk σ 3)) ((zst σ (zbk σ 3)).1) ((zst σ (zbk σ 3)).2.2) (dgB (zod σ (zbk σ 2)) ((zst σ (zbk σ 2)).1) ((zst σ (zbk σ 2)).2.2) (dgB (zod σ (zbk σ 1)) ((zst σ (zbk σ 1)).1) ((zst σ (zbk σ 1)).2.2) (dgB (zod σ (zbk σ 0)) ((zst σ (zbk σ 0)).1) ((zst σ (zbk σ 0)).2.2) 17706)))))) 0) (if zwt σ = 0 then -1 else keyR (zod σ j) (zwl σ)))))))), (3, .int (iI 2)), (0, .ref ((gbg G)))]) hx hb dX3_digest_101 rfl hl (by decide) rfl (fun ls hl => ?_)
    refine q_iinc (x := 2) (n := 1) (lv' := [(3, .int (iI 3)), (1, .long ((dgS (zod σ (zsh σ 2)) ((zst σ (zsh σ 2)).1) ((zst σ (zsh σ 2)).2.2) (dgS (zod σ (zsh σ 1)) ((zst σ (zsh σ 1)).1) ((zst σ (zsh σ 1)).2.2) (dgS (zod σ (zsh σ 0)) ((zst σ (zsh σ 0)).1) ((zst σ (zsh σ 0)).2.2) (mxd (mxd (dgV σ 1 (dgV σ 0 (dgB (zod σ (zbk σ 3)) ((zst σ (zbk σ 3)).1) ((zst σ (zbk σ 3)).2.2) (dgB (zod σ (zbk σ 2)) ((zst σ (zbk σ 2)).1) ((zst σ (zbk σ 2)).2.2) (dgB (zod σ (zbk σ 1)) ((zst σ (zbk σ 1)).1) ((zst σ (zbk σ 1)).2.2) (dgB (zod σ (zbk σ 0)) ((zst σ (zbk σ 0)).1) ((zst σ (zbk σ 0)).2.2) 17706)))))) 0) (if zwt σ = 0 then -1 else keyR (zod σ j) (zwl σ)))))))), (0, .ref ((gbg G)))]) hx hb dX3_digest_102 hl (k := 1) rfl (by decide) rfl (fun ls hl => ?_)
    refine lv_goto (tgt := 86) hx hb dX3_digest_105 (by decide) ?_
    refine lv_iload_n hx hb dX3_digest_86 rfl (lv_at hl 0 rfl) ?_
    refine q_iconst hx hb dX3_digest_87 ?_
    refine q_icmp_ge hx hb dX3_digest_88 (tgt := 108) (by decide) (by omega) (by omega) (fun c27 => ?_) (fun c27 => absurd c27 (by omega))
    refine q_iconst hx hb dX3_digest_108 ?_
    refine lv_istore_n (lv' := [(3, .int (iI 0)), (1, .long ((dgS (zod σ (zsh σ 2)) ((zst σ (zsh σ 2)).1) ((zst σ (zsh σ 2)).2.2) (dgS (zod σ (zsh σ 1)) ((zst σ (zsh σ 1)).1) ((zst σ (zsh σ 1)).2.2) (dgS (zod σ (zsh σ 0)) ((zst σ (zsh σ 0)).1) ((zst σ (zsh σ 0)).2.2) (mxd (mxd (dgV σ 1 (dgV σ 0 (dgB (zod σ (zbk σ 3)) ((zst σ (zbk σ 3)).1) ((zst σ (zbk σ 3)).2.2) (dgB (zod σ (zbk σ 2)) ((zst σ (zbk σ 2)).1) ((zst σ (zbk σ 2)).2.2) (dgB (zod σ (zbk σ 1)) ((zst σ (zbk σ 1)).1) ((zst σ (zbk σ 1)).2.2) (dgB (zod σ (zbk σ 0)) ((zst σ (zbk σ 0)).1) ((zst σ (zbk σ 0)).2.2) 17706)))))) 0) (if zwt σ = 0 then -1 else keyR (zod σ j) (zwl σ)))))))), (0, .ref ((gbg G)))]) hx hb dX3_digest_109 rfl hl (by decide) rfl (fun ls hl => ?_)
    refine lv_iload_n hx hb dX3_digest_110 rfl (lv_at hl 0 rfl) ?_
    refine q_iconst hx hb dX3_digest_111 ?_
    refine q_icmp_gt hx hb dX3_digest_112 (tgt := 131) (by decide) (by omega) (by omega) (fun c28 => absurd c28 (by omega)) (fun c28 => ?_)
    refine lv_lload_n hx hb dX3_digest_115 rfl (lv_at hl 1 rfl) ?_
    refine lv_aload_n hx hb dX3_digest_116 rfl (lv_at hl 2 rfl) ?_
    refine lv_iload_n hx hb dX3_digest_117 rfl (lv_at hl 0 rfl) ?_
    refine q_vS C0 lX3_238 (c_X3_houseFact l D y L F O G σ 0 hC (by omega)) ⟨rfl, rfl⟩ rfl hP hC.1.1 hC.1.2 rfl rfl rfl hl rfl (Nat.le_of_ble_eq_true rfl) dX3_digest_118 ⟨Nat.zero_le _, Nat.zero_le _⟩ (fun r29 e_r29 => ?_)
    replace e_r29 := e_r29.symm
    subst e_r29
    refine q_sSl C0 lX3_261 (c_X3_mixed l D y L F (dgS (zod σ (zsh σ 2)) ((zst σ (zsh σ 2)).1) ((zst σ (zsh σ 2)).2.2) (dgS (zod σ (zsh σ 1)) ((zst σ (zsh σ 1)).1) ((zst σ (zsh σ 1)).2.2) (dgS (zod σ (zsh σ 0)) ((zst σ (zsh σ 0)).1) ((zst σ (zsh σ 0)).2.2) (mxd (mxd (dgV σ 1 (dgV σ 0 (dgB (zod σ (zbk σ 3)) ((zst σ (zbk σ 3)).1) ((zst σ (zbk σ 3)).2.2) (dgB (zod σ (zbk σ 2)) ((zst σ (zbk σ 2)).1) ((zst σ (zbk σ 2)).2.2) (dgB (zod σ (zbk σ 1)) ((zst σ (zbk σ 1)).1) ((zst σ (zbk σ 1)).2.2) (dgB (zod σ (zbk σ 0)) ((zst σ (zbk σ 0)).1) ((zst σ (zbk σ 0)).2.2) 17706)))))) 0) (if zwt σ = 0 then -1 else keyR (zod σ j) (zwl σ)))))) (hfact σ 0)) ⟨rfl, rfl⟩ rfl hP rfl hl rfl (Nat.le_of_ble_eq_true rfl) dX3_digest_121 ⟨Nat.zero_le _, Nat.zero_le _⟩ (fun r30 e_r30 => ?_)
    replace e_r30 := e_r30.symm
    subst e_r30
    refine lv_lstore_n (lv' := [(1, .long ((mxd (dgS (zod σ (zsh σ 2)) ((zst σ (zsh σ 2)).1) ((zst σ (zsh σ 2)).2.2) (dgS (zod σ (zsh σ 1)) ((zst σ (zsh σ 1)).1) ((zst σ (zsh σ 1)).2.2) (dgS (zod σ (zsh σ 0)) ((zst σ (zsh σ 0)).1) ((zst σ (zsh σ 0)).2.2) (mxd (mxd (dgV σ 1 (dgV σ 0 (dgB (zod σ (zbk σ 3)) ((zst σ (zbk σ 3)).1) ((zst σ (zbk σ 3)).2.2) (dgB (zod σ (zbk σ 2)) ((zst σ (zbk σ 2)).1) ((zst σ (zbk σ 2)).2.2) (dgB (zod σ (zbk σ 1)) ((zst σ (zbk σ 1)).1) ((zst σ (zbk σ 1)).2.2) (dgB (zod σ (zbk σ 0)) ((zst σ (zbk σ 0)).1) ((zst σ (zbk σ 0)).2.2) 17706)))))) 0) (if zwt σ = 0 then -1 else keyR (zod σ j) (zwl σ)))))) (hfact σ 0)))), (3, .int (iI 0)), (0, .ref ((gbg G)))]) hx hb dX3_digest_124 rfl hl (by decide) rfl (fun ls hl => ?_)
    refine q_iinc (x := 0) (n := 1) (lv' := [(3, .int (iI 1)), (1, .long ((mxd (dgS (zod σ (zsh σ 2)) ((zst σ (zsh σ 2)).1) ((zst σ (zsh σ 2)).2.2) (dgS (zod σ (zsh σ 1)) ((zst σ (zsh σ 1)).1) ((zst σ (zsh σ 1)).2.2) (dgS (zod σ (zsh σ 0)) ((zst σ (zsh σ 0)).1) ((zst σ (zsh σ 0)).2.2) (mxd (mxd (dgV σ 1 (dgV σ 0 (dgB (zod σ (zbk σ 3)) ((zst σ (zbk σ 3)).1) ((zst σ (zbk σ 3)).2.2) (dgB (zod σ (zbk σ 2)) ((zst σ (zbk σ 2)).1) ((zst σ (zbk σ 2)).2.2) (dgB (zod σ (zbk σ 1)) ((zst σ (zbk σ 1)).1) ((zst σ (zbk σ 1)).2.2) (dgB (zod σ (zbk σ 0)) ((zst σ (zbk σ 0)).1) ((zst σ (zbk σ 0)).2.2) 17706)))))) 0) (if zwt σ = 0 then -1 else keyR (zod σ j) (zwl σ)))))) (hfact σ 0)))), (0, .ref ((gbg G)))]) hx hb dX3_digest_125 hl (k := 1) rfl (by decide) rfl (fun ls hl => ?_)
    refine lv_goto (tgt := 110) hx hb dX3_digest_128 (by decide) ?_
    refine lv_iload_n hx hb dX3_digest_110 rfl (lv_at hl 0 rfl) ?_
    refine q_iconst hx hb dX3_digest_111 ?_
    refine q_icmp_gt hx hb dX3_digest_112 (tgt := 131) (by decide) (by omega) (by omega) (fun c31 => absurd c31 (by omega)) (fun c31 => ?_)
    refine lv_lload_n hx hb dX3_digest_115 rfl (lv_at hl 1 rfl) ?_
    refine lv_aload_n hx hb dX3_digest_116 rfl (lv_at hl 2 rfl) ?_
    refine lv_iload_n hx hb dX3_digest_117 rfl (lv_at hl 0 rfl) ?_
    refine q_vS C0 lX3_238 (c_X3_houseFact l D y L F O G σ 1 hC (by omega)) ⟨rfl, rfl⟩ rfl hP hC.1.1 hC.1.2 rfl rfl rfl hl rfl (Nat.le_of_ble_eq_true rfl) dX3_digest_118 ⟨Nat.zero_le _, Nat.zero_le _⟩ (fun r32 e_r32 => ?_)
    replace e_r32 := e_r32.symm
    subst e_r32
    refine q_sSl C0 lX3_261 (c_X3_mixed l D y L F (mxd (dgS (zod σ (zsh σ 2)) ((zst σ (zsh σ 2)).1) ((zst σ (zsh σ 2)).2.2) (dgS (zod σ (zsh σ 1)) ((zst σ (zsh σ 1)).1) ((zst σ (zsh σ 1)).2.2) (dgS (zod σ (zsh σ 0)) ((zst σ (zsh σ 0)).1) ((zst σ (zsh σ 0)).2.2) (mxd (mxd (dgV σ 1 (dgV σ 0 (dgB (zod σ (zbk σ 3)) ((zst σ (zbk σ 3)).1) ((zst σ (zbk σ 3)).2.2) (dgB (zod σ (zbk σ 2)) ((zst σ (zbk σ 2)).1) ((zst σ (zbk σ 2)).2.2) (dgB (zod σ (zbk σ 1)) ((zst σ (zbk σ 1)).1) ((zst σ (zbk σ 1)).2.2) (dgB (zod σ (zbk σ 0)) ((zst σ (zbk σ 0)).1) ((zst σ (zbk σ 0)).2.2) 17706)))))) 0) (if zwt σ = 0 then -1 else keyR (zod σ j) (zwl σ)))))) (hfact σ 0)) (hfact σ 1)) ⟨rfl, rfl⟩ rfl hP rfl hl rfl (Nat.le_of_ble_eq_true rfl) dX3_digest_121 ⟨Nat.zero_le _, Nat.zero_le _⟩ (fun r33 e_r33 => ?_)
    replace e_r33 := e_r33.symm
    subst e_r33
    refine lv_lstore_n (lv' := [(1, .long ((mxd (mxd (dgS (zod σ (zsh σ 2)) ((zst σ (zsh σ 2)).1) ((zst σ (zsh σ 2)).2.2) (dgS (zod σ (zsh σ 1)) ((zst σ (zsh σ 1)).1) ((zst σ (zsh σ 1)).2.2) (dgS (zod σ (zsh σ 0)) ((zst σ (zsh σ 0)).1) ((zst σ (zsh σ 0)).2.2) (mxd (mxd (dgV σ 1 (dgV σ 0 (dgB (zod σ (zbk σ 3)) ((zst σ (zbk σ 3)).1) ((zst σ (zbk σ 3)).2.2) (dgB (zod σ (zbk σ 2)) ((zst σ (zbk σ 2)).1) ((zst σ (zbk σ 2)).2.2) (dgB (zod σ (zbk σ 1)) ((zst σ (zbk σ 1)).1) ((zst σ (zbk σ 1)).2.2) (dgB (zod σ (zbk σ 0)) ((zst σ (zbk σ 0)).1) ((zst σ (zbk σ 0)).2.2) 17706)))))) 0) (if zwt σ = 0 then -1 else keyR (zod σ j) (zwl σ)))))) (hfact σ 0)) (hfact σ 1)))), (3, .int (iI 1)), (0, .ref ((gbg G)))]) hx hb dX3_digest_124 rfl hl (by decide) rfl (fun ls hl => ?_)
    refine q_iinc (x := 1) (n := 1) (lv' := [(3, .int (iI 2)), (1, .long ((mxd (mxd (dgS (zod σ (zsh σ 2)) ((zst σ (zsh σ 2)).1) ((zst σ (zsh σ 2)).2.2) (dgS (zod σ (zsh σ 1)) ((zst σ (zsh σ 1)).1) ((zst σ (zsh σ 1)).2.2) (dgS (zod σ (zsh σ 0)) ((zst σ (zsh σ 0)).1) ((zst σ (zsh σ 0)).2.2) (mxd (mxd (dgV σ 1 (dgV σ 0 (dgB (zod σ (zbk σ 3)) ((zst σ (zbk σ 3)).1) ((zst σ (zbk σ 3)).2.2) (dgB (zod σ (zbk σ 2)) ((zst σ (zbk σ 2)).1) ((zst σ (zbk σ 2)).2.2) (dgB (zod σ (zbk σ 1)) ((zst σ (zbk σ 1)).1) ((zst σ (zbk σ 1)).2.2) (dgB (zod σ (zbk σ 0)) ((zst σ (zbk σ 0)).1) ((zst σ (zbk σ 0)).2.2) 17706)))))) 0) (if zwt σ = 0 then -1 else keyR (zod σ j) (zwl σ)))))) (hfact σ 0)) (hfact σ 1)))), (0, .ref ((gbg G)))]) hx hb dX3_digest_125 hl (k := 1) rfl (by decide) rfl (fun ls hl => ?_)
    refine lv_goto (tgt := 110) hx hb dX3_digest_128 (by decide) ?_
    refine lv_iload_n hx hb dX3_digest_110 rfl (lv_at hl 0 rfl) ?_
    refine q_iconst hx hb dX3_digest_111 ?_
    refine q_icmp_gt hx hb dX3_digest_112 (tgt := 131) (by decide) (by omega) (by omega) (fun c34 => absurd c34 (by omega)) (fun c34 => ?_)
    refine lv_lload_n hx hb dX3_digest_115 rfl (lv_at hl 1 rfl) ?_
    refine lv_aload_n hx hb dX3_digest_116 rfl (lv_at hl 2 rfl) ?_
    refine lv_iload_n hx hb dX3_digest_117 rfl (lv_at hl 0 rfl) ?_
    refine q_vS C0 lX3_238 (c_X3_houseFact l D y L F O G σ 2 hC (by omega)) ⟨rfl, rfl⟩ rfl hP hC.1.1 hC.1.2 rfl rfl rfl hl rfl (Nat.le_of_ble_eq_true rfl) dX3_digest_118 ⟨Nat.zero_le _, Nat.zero_le _⟩ (fun r35 e_r35 => ?_)
    replace e_r35 := e_r35.symm
    subst e_r35
    refine q_sSl C0 lX3_261 (c_X3_mixed l D y L F (mxd (mxd (dgS (zod σ (zsh σ 2)) ((zst σ (zsh σ 2)).1) ((zst σ (zsh σ 2)).2.2) (dgS (zod σ (zsh σ 1)) ((zst σ (zsh σ 1)).1) ((zst σ (zsh σ 1)).2.2) (dgS (zod σ (zsh σ 0)) ((zst σ (zsh σ 0)).1) ((zst σ (zsh σ 0)).2.2) (mxd (mxd (dgV σ 1 (dgV σ 0 (dgB (zod σ (zbk σ 3)) ((zst σ (zbk σ 3)).1) ((zst σ (zbk σ 3)).2.2) (dgB (zod σ (zbk σ 2)) ((zst σ (zbk σ 2)).1) ((zst σ (zbk σ 2)).2.2) (dgB (zod σ (zbk σ 1)) ((zst σ (zbk σ 1)).1) ((zst σ (zbk σ 1)).2.2) (dgB (zod σ (zbk σ 0)) ((zst σ (zbk σ 0)).1) ((zst σ (zbk σ 0)).2.2) 17706)))))) 0) (if zwt σ = 0 then -1 else keyR (zod σ j) (zwl σ)))))) (hfact σ 0)) (hfact σ 1)) (hfact σ 2)) ⟨rfl, rfl⟩ rfl hP rfl hl rfl (Nat.le_of_ble_eq_true rfl) dX3_digest_121 ⟨Nat.zero_le _, Nat.zero_le _⟩ (fun r36 e_r36 => ?_)
    replace e_r36 := e_r36.symm
    subst e_r36
    refine lv_lstore_n (lv' := [(1, .long ((mxd (mxd (mxd (dgS (zod σ (zsh σ 2)) ((zst σ (zsh σ 2)).1) ((zst σ (zsh σ 2)).2.2) (dgS (zod σ (zsh σ 1)) ((zst σ (zsh σ 1)).1) ((zst σ (zsh σ 1)).2.2) (dgS (zod σ (zsh σ 0)) ((zst σ (zsh σ 0)).1) ((zst σ (zsh σ 0)).2.2) (mxd (mxd (dgV σ 1 (dgV σ 0 (dgB (zod σ (zbk σ 3)) ((zst σ (zbk σ 3)).1) ((zst σ (zbk σ 3)).2.2) (dgB (zod σ (zbk σ 2)) ((zst σ (zbk σ 2)).1) ((zst σ (zbk σ 2)).2.2) (dgB (zod σ (zbk σ 1)) ((zst σ (zbk σ 1)).1) ((zst σ (zbk σ 1)).2.2) (dgB (zod σ (zbk σ 0)) ((zst σ (zbk σ 0)).1) ((zst σ (zbk σ 0)).2.2) 17706)))))) 0) (if zwt σ = 0 then -1 else keyR (zod σ j) (zwl σ)))))) (hfact σ 0)) (hfact σ 1)) (hfact σ 2)))), (3, .int (iI 2)), (0, .ref ((gbg G)))]) hx hb dX3_digest_124 rfl hl (by decide) rfl (fun ls hl => ?_)
    refine q_iinc (x := 2) (n := 1) (lv' := [(3, .int (iI 3)), (1, .long ((mxd (mxd (mxd (dgS (zod σ (zsh σ 2)) ((zst σ (zsh σ 2)).1) ((zst σ (zsh σ 2)).2.2) (dgS (zod σ (zsh σ 1)) ((zst σ (zsh σ 1)).1) ((zst σ (zsh σ 1)).2.2) (dgS (zod σ (zsh σ 0)) ((zst σ (zsh σ 0)).1) ((zst σ (zsh σ 0)).2.2) (mxd (mxd (dgV σ 1 (dgV σ 0 (dgB (zod σ (zbk σ 3)) ((zst σ (zbk σ 3)).1) ((zst σ (zbk σ 3)).2.2) (dgB (zod σ (zbk σ 2)) ((zst σ (zbk σ 2)).1) ((zst σ (zbk σ 2)).2.2) (dgB (zod σ (zbk σ 1)) ((zst σ (zbk σ 1)).1) ((zst σ (zbk σ 1)).2.2) (dgB (zod σ (zbk σ 0)) ((zst σ (zbk σ 0)).1) ((zst σ (zbk σ 0)).2.2) 17706)))))) 0) (if zwt σ = 0 then -1 else keyR (zod σ j) (zwl σ)))))) (hfact σ 0)) (hfact σ 1)) (hfact σ 2)))), (0, .ref ((gbg G)))]) hx hb dX3_digest_125 hl (k := 1) rfl (by decide) rfl (fun ls hl => ?_)
    refine lv_goto (tgt := 110) hx hb dX3_digest_128 (by decide) ?_
    refine lv_iload_n hx hb dX3_digest_110 rfl (lv_at hl 0 rfl) ?_
    refine q_iconst hx hb dX3_digest_111 ?_
    refine q_icmp_gt hx hb dX3_digest_112 (tgt := 131) (by decide) (by omega) (by omega) (fun c37 => absurd c37 (by omega)) (fun c37 => ?_)
    refine lv_lload_n hx hb dX3_digest_115 rfl (lv_at hl 1 rfl) ?_
    refine lv_aload_n hx hb dX3_digest_116 rfl (lv_at hl 2 rfl) ?_
    refine lv_iload_n hx hb dX3_digest_117 rfl (lv_at hl 0 rfl) ?_
    refine q_vS C0 lX3_238 (c_X3_houseFact l D y L F O G σ 3 hC (by omega)) ⟨rfl, rfl⟩ rfl hP hC.1.1 hC.1.2 rfl rfl rfl hl rfl (Nat.le_of_ble_eq_true rfl) dX3_digest_118 ⟨Nat.zero_le _, Nat.zero_le _⟩ (fun r38 e_r38 => ?_)
    replace e_r38 := e_r38.symm
    subst e_r38
    refine q_sSl C0 lX3_261 (c_X3_mixed l D y L F (mxd (mxd (mxd (dgS (zod σ (zsh σ 2)) ((zst σ (zsh σ 2)).1) ((zst σ (zsh σ 2)).2.2) (dgS (zod σ (zsh σ 1)) ((zst σ (zsh σ 1)).1) ((zst σ (zsh σ 1)).2.2) (dgS (zod σ (zsh σ 0)) ((zst σ (zsh σ 0)).1) ((zst σ (zsh σ 0)).2.2) (mxd (mxd (dgV σ 1 (dgV σ 0 (dgB (zod σ (zbk σ 3)) ((zst σ (zbk σ 3)).1) ((zst σ (zbk σ 3)).2.2) (dgB (zod σ (zbk σ 2)) ((zst σ (zbk σ 2)).1) ((zst σ (zbk σ 2)).2.2) (dgB (zod σ (zbk σ 1)) ((zst σ (zbk σ 1)).1) ((zst σ (zbk σ 1)).2.2) (dgB (zod σ (zbk σ 0)) ((zst σ (zbk σ 0)).1) ((zst σ (zbk σ 0)).2.2) 17706)))))) 0) (if zwt σ = 0 then -1 else keyR (zod σ j) (zwl σ)))))) (hfact σ 0)) (hfact σ 1)) (hfact σ 2)) (hfact σ 3)) ⟨rfl, rfl⟩ rfl hP rfl hl rfl (Nat.le_of_ble_eq_true rfl) dX3_digest_121 ⟨Nat.zero_le _, Nat.zero_le _⟩ (fun r39 e_r39 => ?_)
    replace e_r39 := e_r39.symm
    subst e_r39
    refine lv_lstore_n (lv' := [(1, .long ((mxd (mxd (mxd (mxd (dgS (zod σ (zsh σ 2)) ((zst σ (zsh σ 2)).1) ((zst σ (zsh σ 2)).2.2) (dgS (zod σ (zsh σ 1)) ((zst σ (zsh σ 1)).1) ((zst σ (zsh σ 1)).2.2) (dgS (zod σ (zsh σ 0)) ((zst σ (zsh σ 0)).1) ((zst σ (zsh σ 0)).2.2) (mxd (mxd (dgV σ 1 (dgV σ 0 (dgB (zod σ (zbk σ 3)) ((zst σ (zbk σ 3)).1) ((zst σ (zbk σ 3)).2.2) (dgB (zod σ (zbk σ 2)) ((zst σ (zbk σ 2)).1) ((zst σ (zbk σ 2)).2.2) (dgB (zod σ (zbk σ 1)) ((zst σ (zbk σ 1)).1) ((zst σ (zbk σ 1)).2.2) (dgB (zod σ (zbk σ 0)) ((zst σ (zbk σ 0)).1) ((zst σ (zbk σ 0)).2.2) 17706)))))) 0) (if zwt σ = 0 then -1 else keyR (zod σ j) (zwl σ)))))) (hfact σ 0)) (hfact σ 1)) (hfact σ 2)) (hfact σ 3)))), (3, .int (iI 3)), (0, .ref ((gbg G)))]) hx hb dX3_digest_124 rfl hl (by decide) rfl (fun ls hl => ?_)
    refine q_iinc (x := 3) (n := 1) (lv' := [(3, .int (iI 4)), (1, .long ((mxd (mxd (mxd (mxd (dgS (zod σ (zsh σ 2)) ((zst σ (zsh σ 2)).1) ((zst σ (zsh σ 2)).2.2) (dgS (zod σ (zsh σ 1)) ((zst σ (zsh σ 1)).1) ((zst σ (zsh σ 1)).2.2) (dgS (zod σ (zsh σ 0)) ((zst σ (zsh σ 0)).1) ((zst σ (zsh σ 0)).2.2) (mxd (mxd (dgV σ 1 (dgV σ 0 (dgB (zod σ (zbk σ 3)) ((zst σ (zbk σ 3)).1) ((zst σ (zbk σ 3)).2.2) (dgB (zod σ (zbk σ 2)) ((zst σ (zbk σ 2)).1) ((zst σ (zbk σ 2)).2.2) (dgB (zod σ (zbk σ 1)) ((zst σ (zbk σ 1)).1) ((zst σ (zbk σ 1)).2.2) (dgB (zod σ (zbk σ 0)) ((zst σ (zbk σ 0)).1) ((zst σ (zbk σ 0)).2.2) 17706)))))) 0) (if zwt σ = 0 then -1 else keyR (zod σ j) (zwl σ)))))) (hfact σ 0)) (hfact σ 1)) (hfact σ 2)) (hfact σ 3)))), (0, .ref ((gbg G)))]) hx hb dX3_digest_125 hl (k := 1) rfl (by decide) rfl (fun ls hl => ?_)
    refine lv_goto (tgt := 110) hx hb dX3_digest_128 (by decide) ?_
    refine lv_iload_n hx hb dX3_digest_110 rfl (lv_at hl 0 rfl) ?_
    refine q_iconst hx hb dX3_digest_111 ?_
    refine q_icmp_gt hx hb dX3_digest_112 (tgt := 131) (by decide) (by omega) (by omega) (fun c40 => ?_) (fun c40 => absurd c40 (by omega))
    refine lv_lload_n hx hb dX3_digest_131 rfl (lv_at hl 1 rfl) ?_
    refine lv_aload_n hx hb dX3_digest_132 rfl (lv_at hl 2 rfl) ?_
    refine q_vMi C0 lX3_271 (c_X3_isSound l D y L F _ O G σ hC hW) ⟨rfl, rfl⟩ rfl hP hD hS hA hC.1.1 hC.1.2 rfl rfl rfl hl rfl (Nat.le_of_ble_eq_true rfl) dX3_digest_133 ⟨Nat.le_of_ble_eq_true rfl, Nat.le_of_ble_eq_true rfl⟩ (fun r41 H locs L42 F42 hP hD hS hz42 hp42 => ?_)
    refine W.widen (k := 14) (n := 728) (Nat.le_of_ble_eq_true rfl) (Nat.le_of_ble_eq_true rfl) ?_
    obtain ⟨er, hC, hLs43, hfr43⟩ := hp42
    replace er := er.symm
    subst er
    have hfr : ∀ a ∈ L, F42 a = F a := fun a h1 => (hfr43 a (hLs a h1)).trans (hfr a h1)
    have hLs : ∀ a ∈ L, a ∈ L42 := fun a h1 => hLs43 a (hLs a h1)
    have b_r41 := kR_isSound_b σ
    refine q_if_eq hx hb dX3_digest_136 (tgt := 143) (by decide) (by omega) (fun c44 => ?_) (fun c44 => ?_)
    · refine q_iconst hx hb dX3_digest_143 ?_
      refine q_sSl C0 lX3_261 (c_X3_mixed l D y L42 F42 (mxd (mxd (mxd (mxd (dgS (zod σ (zsh σ 2)) ((zst σ (zsh σ 2)).1) ((zst σ (zsh σ 2)).2.2) (dgS (zod σ (zsh σ 1)) ((zst σ (zsh σ 1)).1) ((zst σ (zsh σ 1)).2.2) (dgS (zod σ (zsh σ 0)) ((zst σ (zsh σ 0)).1) ((zst σ (zsh σ 0)).2.2) (mxd (mxd (dgV σ 1 (dgV σ 0 (dgB (zod σ (zbk σ 3)) ((zst σ (zbk σ 3)).1) ((zst σ (zbk σ 3)).2.2) (dgB (zod σ (zbk σ 2)) ((zst σ (zbk σ 2)).1) ((zst σ (zbk σ 2)).2.2) (dgB (zod σ (zbk σ 1)) ((zst σ (zbk σ 1)).1) ((zst σ (zbk σ 1)).2.2) (dgB (zod σ (zbk σ 0)) ((zst σ (zbk σ 0)).1) ((zst σ (zbk σ 0)).2.2) 17706)))))) 0) (if zwt σ = 0 then -1 else keyR (zod σ j) (zwl σ)))))) (hfact σ 0)) (hfact σ 1)) (hfact σ 2)) (hfact σ 3)) 0) ⟨rfl, rfl⟩ rfl hP rfl hl rfl (Nat.le_of_ble_eq_true rfl) dX3_digest_144 ⟨Nat.le_of_ble_eq_true rfl, Nat.le_of_ble_eq_true rfl⟩ (fun r45 e_r45 => ?_)
      replace e_r45 := e_r45.symm
      subst e_r45
      exact q_retMl C0 hret hlk dX3_digest_147 hP hD hS (⟨(by unfold kR_digest1 dgA; rw [show goI σ j = 0 by omega]; rw [show kR_isSound σ = 0 by omega]; rfl), hC, hLs, hfr⟩)
    · refine q_iconst hx hb dX3_digest_139 ?_
      refine lv_goto (tgt := 144) hx hb dX3_digest_140 (by decide) ?_
      refine q_sSl C0 lX3_261 (c_X3_mixed l D y L42 F42 (mxd (mxd (mxd (mxd (dgS (zod σ (zsh σ 2)) ((zst σ (zsh σ 2)).1) ((zst σ (zsh σ 2)).2.2) (dgS (zod σ (zsh σ 1)) ((zst σ (zsh σ 1)).1) ((zst σ (zsh σ 1)).2.2) (dgS (zod σ (zsh σ 0)) ((zst σ (zsh σ 0)).1) ((zst σ (zsh σ 0)).2.2) (mxd (mxd (dgV σ 1 (dgV σ 0 (dgB (zod σ (zbk σ 3)) ((zst σ (zbk σ 3)).1) ((zst σ (zbk σ 3)).2.2) (dgB (zod σ (zbk σ 2)) ((zst σ (zbk σ 2)).1) ((zst σ (zbk σ 2)).2.2) (dgB (zod σ (zbk σ 1)) ((zst σ (zbk σ 1)).1) ((zst σ (zbk σ 1)).2.2) (dgB (zod σ (zbk σ 0)) ((zst σ (zbk σ 0)).1) ((zst σ (zbk σ 0)).2.2) 17706)))))) 0) (if zwt σ = 0 then -1 else keyR (zod σ j) (zwl σ)))))) (hfact σ 0)) (hfact σ 1)) (hfact σ 2)) (hfact σ 3)) 1) ⟨rfl, rfl⟩ rfl hP rfl hl rfl (Nat.le_of_ble_eq_true rfl) dX3_digest_144 ⟨Nat.le_of_ble_eq_true rfl, Nat.le_of_ble_eq_true rfl⟩ (fun r46 e_r46 => ?_)
      replace e_r46 := e_r46.symm
      subst e_r46
      exact q_retMl C0 hret hlk dX3_digest_147 hP hD hS (⟨(by unfold kR_digest1 dgA; rw [show goI σ j = 0 by omega]; rw [show kR_isSound σ = 1 by omega]; rfl), hC, hLs, hfr⟩)
  · refine q_iconst hx hb dX3_digest_63 ?_
    refine lv_goto (tgt := 68) hx hb dX3_digest_64 (by decide) ?_
    refine q_sSl C0 lX3_261 (c_X3_mixed l D y L F (dgV σ 1 (dgV σ 0 (dgB (zod σ (zbk σ 3)) ((zst σ (zbk σ 3)).1) ((zst σ (zbk σ 3)).2.2) (dgB (zod σ (zbk σ 2)) ((zst σ (zbk σ 2)).1) ((zst σ (zbk σ 2)).2.2) (dgB (zod σ (zbk σ 1)) ((zst σ (zbk σ 1)).1) ((zst σ (zbk σ 1)).2.2) (dgB (zod σ (zbk σ 0)) ((zst σ (zbk σ 0)).1) ((zst σ (zbk σ 0)).2.2) 17706)))))) 1) ⟨rfl, rfl⟩ rfl hP rfl hl rfl (Nat.le_of_ble_eq_true rfl) dX3_digest_68 ⟨Nat.zero_le _, Nat.zero_le _⟩ (fun r47 e_r47 => ?_)
    replace e_r47 := e_r47.symm
    subst e_r47
    refine lv_lstore_n (lv' := [(1, .long ((mxd (dgV σ 1 (dgV σ 0 (dgB (zod σ (zbk σ 3)) ((zst σ (zbk σ 3)).1) ((zst σ (zbk σ 3)).2.2) (dgB (zod σ (zbk σ 2)) ((zst σ (zbk σ 2)).1) ((zst σ (zbk σ 2)).2.2) (dgB (zod σ (zbk σ 1)) ((zst σ (zbk σ 1)).1) ((zst σ (zbk σ 1)).2.2) (dgB (zod σ (zbk σ 0)) ((zst σ (zbk σ 0)).1) ((zst σ (zbk σ 0)).2.2) 17706)))))) 1))), (3, .int (iI 2)), (0, .ref ((gbg G)))]) hx hb dX3_digest_71 rfl hl (by decide) rfl (fun ls hl => ?_)
    refine lv_lload_n hx hb dX3_digest_72 rfl (lv_at hl 0 rfl) ?_
    refine lv_aload_n hx hb dX3_digest_73 rfl (lv_at hl 2 rfl) ?_
    refine q_get C0 iX3 hP hC.1.1 hC.1.2 rfl 3 (by decide) flX3_33 rfl rfl dX3_digest_74 ?_
    refine q_vS C0 lX3_265 (c_X2_toldKey1 l D y L F O G σ j hC hwk (hW.2.2.2.1 _ hwk) (by omega) (by omega)) ⟨rfl, rfl⟩ rfl hP (CP_k1 hC hwk).1 (CP_k1 hC hwk).2 rfl rfl rfl hl rfl (Nat.le_of_ble_eq_true rfl) dX3_digest_77 ⟨Nat.zero_le _, Nat.zero_le _⟩ (fun r48 e_r48 => ?_)
    replace e_r48 := e_r48.symm
    subst e_r48
    refine q_sSl C0 lX3_261 (c_X3_mixed l D y L F (mxd (dgV σ 1 (dgV σ 0 (dgB (zod σ (zbk σ 3)) ((zst σ (zbk σ 3)).1) ((zst σ (zbk σ 3)).2.2) (dgB (zod σ (zbk σ 2)) ((zst σ (zbk σ 2)).1) ((zst σ (zbk σ 2)).2.2) (dgB (zod σ (zbk σ 1)) ((zst σ (zbk σ 1)).1) ((zst σ (zbk σ 1)).2.2) (dgB (zod σ (zbk σ 0)) ((zst σ (zbk σ 0)).1) ((zst σ (zbk σ 0)).2.2) 17706)))))) 1) (if zwt σ = 0 then -1 else keyR (zod σ j) (zwl σ))) ⟨rfl, rfl⟩ rfl hP rfl hl rfl (Nat.le_of_ble_eq_true rfl) dX3_digest_80 ⟨Nat.zero_le _, Nat.zero_le _⟩ (fun r49 e_r49 => ?_)
    replace e_r49 := e_r49.symm
    subst e_r49
    refine lv_lstore_n (lv' := [(1, .long ((mxd (mxd (dgV σ 1 (dgV σ 0 (dgB (zod σ (zbk σ 3)) ((zst σ (zbk σ 3)).1) ((zst σ (zbk σ 3)).2.2) (dgB (zod σ (zbk σ 2)) ((zst σ (zbk σ 2)).1) ((zst σ (zbk σ 2)).2.2) (dgB (zod σ (zbk σ 1)) ((zst σ (zbk σ 1)).1) ((zst σ (zbk σ 1)).2.2) (dgB (zod σ (zbk σ 0)) ((zst σ (zbk σ 0)).1) ((zst σ (zbk σ 0)).2.2) 17706)))))) 1) (if zwt σ = 0 then -1 else keyR (zod σ j) (zwl σ))))), (3, .int (iI 2)), (0, .ref ((gbg G)))]) hx hb dX3_digest_83 rfl hl (by decide) rfl (fun ls hl => ?_)
    refine q_iconst hx hb dX3_digest_84 ?_
    refine lv_istore_n (lv' := [(3, .int (iI 0)), (1, .long ((mxd (mxd (dgV σ 1 (dgV σ 0 (dgB (zod σ (zbk σ 3)) ((zst σ (zbk σ 3)).1) ((zst σ (zbk σ 3)).2.2) (dgB (zod σ (zbk σ 2)) ((zst σ (zbk σ 2)).1) ((zst σ (zbk σ 2)).2.2) (dgB (zod σ (zbk σ 1)) ((zst σ (zbk σ 1)).1) ((zst σ (zbk σ 1)).2.2) (dgB (zod σ (zbk σ 0)) ((zst σ (zbk σ 0)).1) ((zst σ (zbk σ 0)).2.2) 17706)))))) 1) (if zwt σ = 0 then -1 else keyR (zod σ j) (zwl σ))))), (0, .ref ((gbg G)))]) hx hb dX3_digest_85 rfl hl (by decide) rfl (fun ls hl => ?_)
    refine lv_iload_n hx hb dX3_digest_86 rfl (lv_at hl 0 rfl) ?_
    refine q_iconst hx hb dX3_digest_87 ?_
    refine q_icmp_ge hx hb dX3_digest_88 (tgt := 108) (by decide) (by omega) (by omega) (fun c50 => absurd c50 (by omega)) (fun c50 => ?_)
    refine lv_lload_n hx hb dX3_digest_91 rfl (lv_at hl 1 rfl) ?_
    refine lv_aload_n hx hb dX3_digest_92 rfl (lv_at hl 2 rfl) ?_
    refine q_get C0 iX3 hP hC.1.1 hC.1.2 rfl 1 (by decide) flX3_18 rfl rfl dX3_digest_93 ?_
    refine lv_iload_n hx hb dX3_digest_96 rfl (lv_at hl 0 rfl) ?_
    refine q_aald C0 hP hC.2.2.1.1 hC.2.2.1.2 (t := 1) rfl (by omega) (by decide) (v := .ref ((grh G (zsh σ 0)))) rfl dX3_digest_97 ?_
    refine q_sSl C0 lX3_268 (c_X3_digestShelf l D y L F (grh G (zsh σ 0)) (grw G (zsh σ 0)) (zod σ (zsh σ 0)) ((zst σ (zsh σ 0)).1) ((zst σ (zsh σ 0)).2.1) ((zst σ (zsh σ 0)).2.2) (mxd (mxd (dgV σ 1 (dgV σ 0 (dgB (zod σ (zbk σ 3)) ((zst σ (zbk σ 3)).1) ((zst σ (zbk σ 3)).2.2) (dgB (zod σ (zbk σ 2)) ((zst σ (zbk σ 2)).1) ((zst σ (zbk σ 2)).2.2) (dgB (zod σ (zbk σ 1)) ((zst σ (zbk σ 1)).1) ((zst σ (zbk σ 1)).2.2) (dgB (zod σ (zbk σ 0)) ((zst σ (zbk σ 0)).1) ((zst σ (zbk σ 0)).2.2) 17706)))))) 1) (if zwt σ = 0 then -1 else keyR (zod σ j) (zwl σ))) (CP_r hC (hW.2.1 0)) (by have := hW.2.2.2.2.2.2.2.2.2.1 _ (hW.2.1 0); omega)) ⟨rfl, rfl⟩ rfl hP rfl hl rfl (Nat.le_of_ble_eq_true rfl) dX3_digest_98 ⟨Nat.zero_le _, Nat.zero_le _⟩ (fun r51 e_r51 => ?_)
    replace e_r51 := e_r51.symm
    subst e_r51
    refine lv_lstore_n (lv' := [(1, .long ((dgS (zod σ (zsh σ 0)) ((zst σ (zsh σ 0)).1) ((zst σ (zsh σ 0)).2.2) (mxd (mxd (dgV σ 1 (dgV σ 0 (dgB (zod σ (zbk σ 3)) ((zst σ (zbk σ 3)).1) ((zst σ (zbk σ 3)).2.2) (dgB (zod σ (zbk σ 2)) ((zst σ (zbk σ 2)).1) ((zst σ (zbk σ 2)).2.2) (dgB (zod σ (zbk σ 1)) ((zst σ (zbk σ 1)).1) ((zst σ (zbk σ 1)).2.2) (dgB (zod σ (zbk σ 0)) ((zst σ (zbk σ 0)).1) ((zst σ (zbk σ 0)).2.2) 17706)))))) 1) (if zwt σ = 0 then -1 else keyR (zod σ j) (zwl σ)))))), (3, .int (iI 0)), (0, .ref ((gbg G)))]) hx hb dX3_digest_101 rfl hl (by decide) rfl (fun ls hl => ?_)
    refine q_iinc (x := 0) (n := 1) (lv' := [(3, .int (iI 1)), (1, .long ((dgS (zod σ (zsh σ 0)) ((zst σ (zsh σ 0)).1) ((zst σ (zsh σ 0)).2.2) (mxd (mxd (dgV σ 1 (dgV σ 0 (dgB (zod σ (zbk σ 3)) ((zst σ (zbk σ 3)).1) ((zst σ (zbk σ 3)).2.2) (dgB (zod σ (zbk σ 2)) ((zst σ (zbk σ 2)).1) ((zst σ (zbk σ 2)).2.2) (dgB (zod σ (zbk σ 1)) ((zst σ (zbk σ 1)).1) ((zst σ (zbk σ 1)).2.2) (dgB (zod σ (zbk σ 0)) ((zst σ (zbk σ 0)).1) ((zst σ (zbk σ 0)).2.2) 17706)))))) 1) (if zwt σ = 0 then -1 else keyR (zod σ j) (zwl σ)))))), (0, .ref ((gbg G)))]) hx hb dX3_digest_102 hl (k := 1) rfl (by decide) rfl (fun ls hl => ?_)
    refine lv_goto (tgt := 86) hx hb dX3_digest_105 (by decide) ?_
    refine lv_iload_n hx hb dX3_digest_86 rfl (lv_at hl 0 rfl) ?_
    refine q_iconst hx hb dX3_digest_87 ?_
    refine q_icmp_ge hx hb dX3_digest_88 (tgt := 108) (by decide) (by omega) (by omega) (fun c52 => absurd c52 (by omega)) (fun c52 => ?_)
    refine lv_lload_n hx hb dX3_digest_91 rfl (lv_at hl 1 rfl) ?_
    refine lv_aload_n hx hb dX3_digest_92 rfl (lv_at hl 2 rfl) ?_
    refine q_get C0 iX3 hP hC.1.1 hC.1.2 rfl 1 (by decide) flX3_18 rfl rfl dX3_digest_93 ?_
    refine lv_iload_n hx hb dX3_digest_96 rfl (lv_at hl 0 rfl) ?_
    refine q_aald C0 hP hC.2.2.1.1 hC.2.2.1.2 (t := 1) rfl (by omega) (by decide) (v := .ref ((grh G (zsh σ 1)))) rfl dX3_digest_97 ?_
    refine q_sSl C0 lX3_268 (c_X3_digestShelf l D y L F (grh G (zsh σ 1)) (grw G (zsh σ 1)) (zod σ (zsh σ 1)) ((zst σ (zsh σ 1)).1) ((zst σ (zsh σ 1)).2.1) ((zst σ (zsh σ 1)).2.2) (dgS (zod σ (zsh σ 0)) ((zst σ (zsh σ 0)).1) ((zst σ (zsh σ 0)).2.2) (mxd (mxd (dgV σ 1 (dgV σ 0 (dgB (zod σ (zbk σ 3)) ((zst σ (zbk σ 3)).1) ((zst σ (zbk σ 3)).2.2) (dgB (zod σ (zbk σ 2)) ((zst σ (zbk σ 2)).1) ((zst σ (zbk σ 2)).2.2) (dgB (zod σ (zbk σ 1)) ((zst σ (zbk σ 1)).1) ((zst σ (zbk σ 1)).2.2) (dgB (zod σ (zbk σ 0)) ((zst σ (zbk σ 0)).1) ((zst σ (zbk σ 0)).2.2) 17706)))))) 1) (if zwt σ = 0 then -1 else keyR (zod σ j) (zwl σ)))) (CP_r hC (hW.2.1 1)) (by have := hW.2.2.2.2.2.2.2.2.2.1 _ (hW.2.1 1); omega)) ⟨rfl, rfl⟩ rfl hP rfl hl rfl (Nat.le_of_ble_eq_true rfl) dX3_digest_98 ⟨Nat.zero_le _, Nat.zero_le _⟩ (fun r53 e_r53 => ?_)
    replace e_r53 := e_r53.symm
    subst e_r53
    refine lv_lstore_n (lv' := [(1, .long ((dgS (zod σ (zsh σ 1)) ((zst σ (zsh σ 1)).1) ((zst σ (zsh σ 1)).2.2) (dgS (zod σ (zsh σ 0)) ((zst σ (zsh σ 0)).1) ((zst σ (zsh σ 0)).2.2) (mxd (mxd (dgV σ 1 (dgV σ 0 (dgB (zod σ (zbk σ 3)) ((zst σ (zbk σ 3)).1) ((zst σ (zbk σ 3)).2.2) (dgB (zod σ (zbk σ 2)) ((zst σ (zbk σ 2)).1) ((zst σ (zbk σ 2)).2.2) (dgB (zod σ (zbk σ 1)) ((zst σ (zbk σ 1)).1) ((zst σ (zbk σ 1)).2.2) (dgB (zod σ (zbk σ 0)) ((zst σ (zbk σ 0)).1) ((zst σ (zbk σ 0)).2.2) 17706)))))) 1) (if zwt σ = 0 then -1 else keyR (zod σ j) (zwl σ))))))), (3, .int (iI 1)), (0, .ref ((gbg G)))]) hx hb dX3_digest_101 rfl hl (by decide) rfl (fun ls hl => ?_)
    refine q_iinc (x := 1) (n := 1) (lv' := [(3, .int (iI 2)), (1, .long ((dgS (zod σ (zsh σ 1)) ((zst σ (zsh σ 1)).1) ((zst σ (zsh σ 1)).2.2) (dgS (zod σ (zsh σ 0)) ((zst σ (zsh σ 0)).1) ((zst σ (zsh σ 0)).2.2) (mxd (mxd (dgV σ 1 (dgV σ 0 (dgB (zod σ (zbk σ 3)) ((zst σ (zbk σ 3)).1) ((zst σ (zbk σ 3)).2.2) (dgB (zod σ (zbk σ 2)) ((zst σ (zbk σ 2)).1) ((zst σ (zbk σ 2)).2.2) (dgB (zod σ (zbk σ 1)) ((zst σ (zbk σ 1)).1) ((zst σ (zbk σ 1)).2.2) (dgB (zod σ (zbk σ 0)) ((zst σ (zbk σ 0)).1) ((zst σ (zbk σ 0)).2.2) 17706)))))) 1) (if zwt σ = 0 then -1 else keyR (zod σ j) (zwl σ))))))), (0, .ref ((gbg G)))]) hx hb dX3_digest_102 hl (k := 1) rfl (by decide) rfl (fun ls hl => ?_)
    refine lv_goto (tgt := 86) hx hb dX3_digest_105 (by decide) ?_
    refine lv_iload_n hx hb dX3_digest_86 rfl (lv_at hl 0 rfl) ?_
    refine q_iconst hx hb dX3_digest_87 ?_
    refine q_icmp_ge hx hb dX3_digest_88 (tgt := 108) (by decide) (by omega) (by omega) (fun c54 => absurd c54 (by omega)) (fun c54 => ?_)
    refine lv_lload_n hx hb dX3_digest_91 rfl (lv_at hl 1 rfl) ?_
    refine lv_aload_n hx hb dX3_digest_92 rfl (lv_at hl 2 rfl) ?_
    refine q_get C0 iX3 hP hC.1.1 hC.1.2 rfl 1 (by decide) flX3_18 rfl rfl dX3_digest_93 ?_
    refine lv_iload_n hx hb dX3_digest_96 rfl (lv_at hl 0 rfl) ?_
    refine q_aald C0 hP hC.2.2.1.1 hC.2.2.1.2 (t := 1) rfl (by omega) (by decide) (v := .ref ((grh G (zsh σ 2)))) rfl dX3_digest_97 ?_
    refine q_sSl C0 lX3_268 (c_X3_digestShelf l D y L F (grh G (zsh σ 2)) (grw G (zsh σ 2)) (zod σ (zsh σ 2)) ((zst σ (zsh σ 2)).1) ((zst σ (zsh σ 2)).2.1) ((zst σ (zsh σ 2)).2.2) (dgS (zod σ (zsh σ 1)) ((zst σ (zsh σ 1)).1) ((zst σ (zsh σ 1)).2.2) (dgS (zod σ (zsh σ 0)) ((zst σ (zsh σ 0)).1) ((zst σ (zsh σ 0)).2.2) (mxd (mxd (dgV σ 1 (dgV σ 0 (dgB (zod σ (zbk σ 3)) ((zst σ (zbk σ 3)).1) ((zst σ (zbk σ 3)).2.2) (dgB (zod σ (zbk σ 2)) ((zst σ (zbk σ 2)).1) ((zst σ (zbk σ 2)).2.2) (dgB (zod σ (zbk σ 1)) ((zst σ (zbk σ 1)).1) ((zst σ (zbk σ 1)).2.2) (dgB (zod σ (zbk σ 0)) ((zst σ (zbk σ 0)).1) ((zst σ (zbk σ 0)).2.2) 17706)))))) 1) (if zwt σ = 0 then -1 else keyR (zod σ j) (zwl σ))))) (CP_r hC (hW.2.1 2)) (by have := hW.2.2.2.2.2.2.2.2.2.1 _ (hW.2.1 2); omega)) ⟨rfl, rfl⟩ rfl hP rfl hl rfl (Nat.le_of_ble_eq_true rfl) dX3_digest_98 ⟨Nat.zero_le _, Nat.zero_le _⟩ (fun r55 e_r55 => ?_)
    replace e_r55 := e_r55.symm
    subst e_r55
    refine lv_lstore_n (lv' := [(1, .long ((dgS (zod σ (zsh σ 2)) ((zst σ (zsh σ 2)).1) ((zst σ (zsh σ 2)).2.2) (dgS (zod σ (zsh σ 1)) ((zst σ (zsh σ 1)).1) ((zst σ (zsh σ 1)).2.2) (dgS (zod σ (zsh σ 0)) ((zst σ (zsh σ 0)).1) ((zst σ (zsh σ 0)).2.2) (mxd (mxd (dgV σ 1 (dgV σ 0 (dgB (zod σ (zbk σ 3)) ((zst σ (zbk σ 3)).1) ((zst σ (zbk σ 3)).2.2) (dgB (zod σ (zbk σ 2)) ((zst σ (zbk σ 2)).1) ((zst σ (zbk σ 2)).2.2) (dgB (zod σ (zbk σ 1)) ((zst σ (zbk σ 1)).1) ((zst σ (zbk σ 1)).2.2) (dgB (zod σ (zbk σ 0)) ((zst σ (zbk σ 0)).1) ((zst σ (zbk σ 0)).2.2) 17706)))))) 1) (if zwt σ = 0 then -1 else keyR (zod σ j) (zwl σ)))))))), (3, .int (iI 2)), (0, .ref ((gbg G)))]) hx hb dX3_digest_101 rfl hl (by decide) rfl (fun ls hl => ?_)
    refine q_iinc (x := 2) (n := 1) (lv' := [(3, .int (iI 3)), (1, .long ((dgS (zod σ (zsh σ 2)) ((zst σ (zsh σ 2)).1) ((zst σ (zsh σ 2)).2.2) (dgS (zod σ (zsh σ 1)) ((zst σ (zsh σ 1)).1) ((zst σ (zsh σ 1)).2.2) (dgS (zod σ (zsh σ 0)) ((zst σ (zsh σ 0)).1) ((zst σ (zsh σ 0)).2.2) (mxd (mxd (dgV σ 1 (dgV σ 0 (dgB (zod σ (zbk σ 3)) ((zst σ (zbk σ 3)).1) ((zst σ (zbk σ 3)).2.2) (dgB (zod σ (zbk σ 2)) ((zst σ (zbk σ 2)).1) ((zst σ (zbk σ 2)).2.2) (dgB (zod σ (zbk σ 1)) ((zst σ (zbk σ 1)).1) ((zst σ (zbk σ 1)).2.2) (dgB (zod σ (zbk σ 0)) ((zst σ (zbk σ 0)).1) ((zst σ (zbk σ 0)).2.2) 17706)))))) 1) (if zwt σ = 0 then -1 else keyR (zod σ j) (zwl σ)))))))), (0, .ref ((gbg G)))]) hx hb dX3_digest_102 hl (k := 1) rfl (by decide) rfl (fun ls hl => ?_)
    refine lv_goto (tgt := 86) hx hb dX3_digest_105 (by decide) ?_
    refine lv_iload_n hx hb dX3_digest_86 rfl (lv_at hl 0 rfl) ?_
    refine q_iconst hx hb dX3_digest_87 ?_
    refine q_icmp_ge hx hb dX3_digest_88 (tgt := 108) (by decide) (by omega) (by omega) (fun c56 => ?_) (fun c56 => absurd c56 (by omega))
    refine q_iconst hx hb dX3_digest_108 ?_
    refine lv_istore_n (lv' := [(3, .int (iI 0)), (1, .long ((dgS (zod σ (zsh σ 2)) ((zst σ (zsh σ 2)).1) ((zst σ (zsh σ 2)).2.2) (dgS (zod σ (zsh σ 1)) ((zst σ (zsh σ 1)).1) ((zst σ (zsh σ 1)).2.2) (dgS (zod σ (zsh σ 0)) ((zst σ (zsh σ 0)).1) ((zst σ (zsh σ 0)).2.2) (mxd (mxd (dgV σ 1 (dgV σ 0 (dgB (zod σ (zbk σ 3)) ((zst σ (zbk σ 3)).1) ((zst σ (zbk σ 3)).2.2) (dgB (zod σ (zbk σ 2)) ((zst σ (zbk σ 2)).1) ((zst σ (zbk σ 2)).2.2) (dgB (zod σ (zbk σ 1)) ((zst σ (zbk σ 1)).1) ((zst σ (zbk σ 1)).2.2) (dgB (zod σ (zbk σ 0)) ((zst σ (zbk σ 0)).1) ((zst σ (zbk σ 0)).2.2) 17706)))))) 1) (if zwt σ = 0 then -1 else keyR (zod σ j) (zwl σ)))))))), (0, .ref ((gbg G)))]) hx hb dX3_digest_109 rfl hl (by decide) rfl (fun ls hl => ?_)
    refine lv_iload_n hx hb dX3_digest_110 rfl (lv_at hl 0 rfl) ?_
    refine q_iconst hx hb dX3_digest_111 ?_
    refine q_icmp_gt hx hb dX3_digest_112 (tgt := 131) (by decide) (by omega) (by omega) (fun c57 => absurd c57 (by omega)) (fun c57 => ?_)
    refine lv_lload_n hx hb dX3_digest_115 rfl (lv_at hl 1 rfl) ?_
    refine lv_aload_n hx hb dX3_digest_116 rfl (lv_at hl 2 rfl) ?_
    refine lv_iload_n hx hb dX3_digest_117 rfl (lv_at hl 0 rfl) ?_
    refine q_vS C0 lX3_238 (c_X3_houseFact l D y L F O G σ 0 hC (by omega)) ⟨rfl, rfl⟩ rfl hP hC.1.1 hC.1.2 rfl rfl rfl hl rfl (Nat.le_of_ble_eq_true rfl) dX3_digest_118 ⟨Nat.zero_le _, Nat.zero_le _⟩ (fun r58 e_r58 => ?_)
    replace e_r58 := e_r58.symm
    subst e_r58
    refine q_sSl C0 lX3_261 (c_X3_mixed l D y L F (dgS (zod σ (zsh σ 2)) ((zst σ (zsh σ 2)).1) ((zst σ (zsh σ 2)).2.2) (dgS (zod σ (zsh σ 1)) ((zst σ (zsh σ 1)).1) ((zst σ (zsh σ 1)).2.2) (dgS (zod σ (zsh σ 0)) ((zst σ (zsh σ 0)).1) ((zst σ (zsh σ 0)).2.2) (mxd (mxd (dgV σ 1 (dgV σ 0 (dgB (zod σ (zbk σ 3)) ((zst σ (zbk σ 3)).1) ((zst σ (zbk σ 3)).2.2) (dgB (zod σ (zbk σ 2)) ((zst σ (zbk σ 2)).1) ((zst σ (zbk σ 2)).2.2) (dgB (zod σ (zbk σ 1)) ((zst σ (zbk σ 1)).1) ((zst σ (zbk σ 1)).2.2) (dgB (zod σ (zbk σ 0)) ((zst σ (zbk σ 0)).1) ((zst σ (zbk σ 0)).2.2) 17706)))))) 1) (if zwt σ = 0 then -1 else keyR (zod σ j) (zwl σ)))))) (hfact σ 0)) ⟨rfl, rfl⟩ rfl hP rfl hl rfl (Nat.le_of_ble_eq_true rfl) dX3_digest_121 ⟨Nat.zero_le _, Nat.zero_le _⟩ (fun r59 e_r59 => ?_)
    replace e_r59 := e_r59.symm
    subst e_r59
    refine lv_lstore_n (lv' := [(1, .long ((mxd (dgS (zod σ (zsh σ 2)) ((zst σ (zsh σ 2)).1) ((zst σ (zsh σ 2)).2.2) (dgS (zod σ (zsh σ 1)) ((zst σ (zsh σ 1)).1) ((zst σ (zsh σ 1)).2.2) (dgS (zod σ (zsh σ 0)) ((zst σ (zsh σ 0)).1) ((zst σ (zsh σ 0)).2.2) (mxd (mxd (dgV σ 1 (dgV σ 0 (dgB (zod σ (zbk σ 3)) ((zst σ (zbk σ 3)).1) ((zst σ (zbk σ 3)).2.2) (dgB (zod σ (zbk σ 2)) ((zst σ (zbk σ 2)).1) ((zst σ (zbk σ 2)).2.2) (dgB (zod σ (zbk σ 1)) ((zst σ (zbk σ 1)).1) ((zst σ (zbk σ 1)).2.2) (dgB (zod σ (zbk σ 0)) ((zst σ (zbk σ 0)).1) ((zst σ (zbk σ 0)).2.2) 17706)))))) 1) (if zwt σ = 0 then -1 else keyR (zod σ j) (zwl σ)))))) (hfact σ 0)))), (3, .int (iI 0)), (0, .ref ((gbg G)))]) hx hb dX3_digest_124 rfl hl (by decide) rfl (fun ls hl => ?_)
    refine q_iinc (x := 0) (n := 1) (lv' := [(3, .int (iI 1)), (1, .long ((mxd (dgS (zod σ (zsh σ 2)) ((zst σ (zsh σ 2)).1) ((zst σ (zsh σ 2)).2.2) (dgS (zod σ (zsh σ 1)) ((zst σ (zsh σ 1)).1) ((zst σ (zsh σ 1)).2.2) (dgS (zod σ (zsh σ 0)) ((zst σ (zsh σ 0)).1) ((zst σ (zsh σ 0)).2.2) (mxd (mxd (dgV σ 1 (dgV σ 0 (dgB (zod σ (zbk σ 3)) ((zst σ (zbk σ 3)).1) ((zst σ (zbk σ 3)).2.2) (dgB (zod σ (zbk σ 2)) ((zst σ (zbk σ 2)).1) ((zst σ (zbk σ 2)).2.2) (dgB (zod σ (zbk σ 1)) ((zst σ (zbk σ 1)).1) ((zst σ (zbk σ 1)).2.2) (dgB (zod σ (zbk σ 0)) ((zst σ (zbk σ 0)).1) ((zst σ (zbk σ 0)).2.2) 17706)))))) 1) (if zwt σ = 0 then -1 else keyR (zod σ j) (zwl σ)))))) (hfact σ 0)))), (0, .ref ((gbg G)))]) hx hb dX3_digest_125 hl (k := 1) rfl (by decide) rfl (fun ls hl => ?_)
    refine lv_goto (tgt := 110) hx hb dX3_digest_128 (by decide) ?_
    refine lv_iload_n hx hb dX3_digest_110 rfl (lv_at hl 0 rfl) ?_
    refine q_iconst hx hb dX3_digest_111 ?_
    refine q_icmp_gt hx hb dX3_digest_112 (tgt := 131) (by decide) (by omega) (by omega) (fun c60 => absurd c60 (by omega)) (fun c60 => ?_)
    refine lv_lload_n hx hb dX3_digest_115 rfl (lv_at hl 1 rfl) ?_
    refine lv_aload_n hx hb dX3_digest_116 rfl (lv_at hl 2 rfl) ?_
    refine lv_iload_n hx hb dX3_digest_117 rfl (lv_at hl 0 rfl) ?_
    refine q_vS C0 lX3_238 (c_X3_houseFact l D y L F O G σ 1 hC (by omega)) ⟨rfl, rfl⟩ rfl hP hC.1.1 hC.1.2 rfl rfl rfl hl rfl (Nat.le_of_ble_eq_true rfl) dX3_digest_118 ⟨Nat.zero_le _, Nat.zero_le _⟩ (fun r61 e_r61 => ?_)
    replace e_r61 := e_r61.symm
    subst e_r61
    refine q_sSl C0 lX3_261 (c_X3_mixed l D y L F (mxd (dgS (zod σ (zsh σ 2)) ((zst σ (zsh σ 2)).1) ((zst σ (zsh σ 2)).2.2) (dgS (zod σ (zsh σ 1)) ((zst σ (zsh σ 1)).1) ((zst σ (zsh σ 1)).2.2) (dgS (zod σ (zsh σ 0)) ((zst σ (zsh σ 0)).1) ((zst σ (zsh σ 0)).2.2) (mxd (mxd (dgV σ 1 (dgV σ 0 (dgB (zod σ (zbk σ 3)) ((zst σ (zbk σ 3)).1) ((zst σ (zbk σ 3)).2.2) (dgB (zod σ (zbk σ 2)) ((zst σ (zbk σ 2)).1) ((zst σ (zbk σ 2)).2.2) (dgB (zod σ (zbk σ 1)) ((zst σ (zbk σ 1)).1) ((zst σ (zbk σ 1)).2.2) (dgB (zod σ (zbk σ 0)) ((zst σ (zbk σ 0)).1) ((zst σ (zbk σ 0)).2.2) 17706)))))) 1) (if zwt σ = 0 then -1 else keyR (zod σ j) (zwl σ)))))) (hfact σ 0)) (hfact σ 1)) ⟨rfl, rfl⟩ rfl hP rfl hl rfl (Nat.le_of_ble_eq_true rfl) dX3_digest_121 ⟨Nat.zero_le _, Nat.zero_le _⟩ (fun r62 e_r62 => ?_)
    replace e_r62 := e_r62.symm
    subst e_r62
    refine lv_lstore_n (lv' := [(1, .long ((mxd (mxd (dgS (zod σ (zsh σ 2)) ((zst σ (zsh σ 2)).1) ((zst σ (zsh σ 2)).2.2) (dgS (zod σ (zsh σ 1)) ((zst σ (zsh σ 1)).1) ((zst σ (zsh σ 1)).2.2) (dgS (zod σ (zsh σ 0)) ((zst σ (zsh σ 0)).1) ((zst σ (zsh σ 0)).2.2) (mxd (mxd (dgV σ 1 (dgV σ 0 (dgB (zod σ (zbk σ 3)) ((zst σ (zbk σ 3)).1) ((zst σ (zbk σ 3)).2.2) (dgB (zod σ (zbk σ 2)) ((zst σ (zbk σ 2)).1) ((zst σ (zbk σ 2)).2.2) (dgB (zod σ (zbk σ 1)) ((zst σ (zbk σ 1)).1) ((zst σ (zbk σ 1)).2.2) (dgB (zod σ (zbk σ 0)) ((zst σ (zbk σ 0)).1) ((zst σ (zbk σ 0)).2.2) 17706)))))) 1) (if zwt σ = 0 then -1 else keyR (zod σ j) (zwl σ)))))) (hfact σ 0)) (hfact σ 1)))), (3, .int (iI 1)), (0, .ref ((gbg G)))]) hx hb dX3_digest_124 rfl hl (by decide) rfl (fun ls hl => ?_)
    refine q_iinc (x := 1) (n := 1) (lv' := [(3, .int (iI 2)), (1, .long ((mxd (mxd (dgS (zod σ (zsh σ 2)) ((zst σ (zsh σ 2)).1) ((zst σ (zsh σ 2)).2.2) (dgS (zod σ (zsh σ 1)) ((zst σ (zsh σ 1)).1) ((zst σ (zsh σ 1)).2.2) (dgS (zod σ (zsh σ 0)) ((zst σ (zsh σ 0)).1) ((zst σ (zsh σ 0)).2.2) (mxd (mxd (dgV σ 1 (dgV σ 0 (dgB (zod σ (zbk σ 3)) ((zst σ (zbk σ 3)).1) ((zst σ (zbk σ 3)).2.2) (dgB (zod σ (zbk σ 2)) ((zst σ (zbk σ 2)).1) ((zst σ (zbk σ 2)).2.2) (dgB (zod σ (zbk σ 1)) ((zst σ (zbk σ 1)).1) ((zst σ (zbk σ 1)).2.2) (dgB (zod σ (zbk σ 0)) ((zst σ (zbk σ 0)).1) ((zst σ (zbk σ 0)).2.2) 17706)))))) 1) (if zwt σ = 0 then -1 else keyR (zod σ j) (zwl σ)))))) (hfact σ 0)) (hfact σ 1)))), (0, .ref ((gbg G)))]) hx hb dX3_digest_125 hl (k := 1) rfl (by decide) rfl (fun ls hl => ?_)
    refine lv_goto (tgt := 110) hx hb dX3_digest_128 (by decide) ?_
    refine lv_iload_n hx hb dX3_digest_110 rfl (lv_at hl 0 rfl) ?_
    refine q_iconst hx hb dX3_digest_111 ?_
    refine q_icmp_gt hx hb dX3_digest_112 (tgt := 131) (by decide) (by omega) (by omega) (fun c63 => absurd c63 (by omega)) (fun c63 => ?_)
    refine lv_lload_n hx hb dX3_digest_115 rfl (lv_at hl 1 rfl) ?_
    refine lv_aload_n hx hb dX3_digest_116 rfl (lv_at hl 2 rfl) ?_
    refine lv_iload_n hx hb dX3_digest_117 rfl (lv_at hl 0 rfl) ?_
    refine q_vS C0 lX3_238 (c_X3_houseFact l D y L F O G σ 2 hC (by omega)) ⟨rfl, rfl⟩ rfl hP hC.1.1 hC.1.2 rfl rfl rfl hl rfl (Nat.le_of_ble_eq_true rfl) dX3_digest_118 ⟨Nat.zero_le _, Nat.zero_le _⟩ (fun r64 e_r64 => ?_)
    replace e_r64 := e_r64.symm
    subst e_r64
    refine q_sSl C0 lX3_261 (c_X3_mixed l D y L F (mxd (mxd (dgS (zod σ (zsh σ 2)) ((zst σ (zsh σ 2)).1) ((zst σ (zsh σ 2)).2.2) (dgS (zod σ (zsh σ 1)) ((zst σ (zsh σ 1)).1) ((zst σ (zsh σ 1)).2.2) (dgS (zod σ (zsh σ 0)) ((zst σ (zsh σ 0)).1) ((zst σ (zsh σ 0)).2.2) (mxd (mxd (dgV σ 1 (dgV σ 0 (dgB (zod σ (zbk σ 3)) ((zst σ (zbk σ 3)).1) ((zst σ (zbk σ 3)).2.2) (dgB (zod σ (zbk σ 2)) ((zst σ (zbk σ 2)).1) ((zst σ (zbk σ 2)).2.2) (dgB (zod σ (zbk σ 1)) ((zst σ (zbk σ 1)).1) ((zst σ (zbk σ 1)).2.2) (dgB (zod σ (zbk σ 0)) ((zst σ (zbk σ 0)).1) ((zst σ (zbk σ 0)).2.2) 17706)))))) 1) (if zwt σ = 0 then -1 else keyR (zod σ j) (zwl σ)))))) (hfact σ 0)) (hfact σ 1)) (hfact σ 2)) ⟨rfl, rfl⟩ rfl hP rfl hl rfl (Nat.le_of_ble_eq_true rfl) dX3_digest_121 ⟨Nat.zero_le _, Nat.zero_le _⟩ (fun r65 e_r65 => ?_)
    replace e_r65 := e_r65.symm
    subst e_r65
    refine lv_lstore_n (lv' := [(1, .long ((mxd (mxd (mxd (dgS (zod σ (zsh σ 2)) ((zst σ (zsh σ 2)).1) ((zst σ (zsh σ 2)).2.2) (dgS (zod σ (zsh σ 1)) ((zst σ (zsh σ 1)).1) ((zst σ (zsh σ 1)).2.2) (dgS (zod σ (zsh σ 0)) ((zst σ (zsh σ 0)).1) ((zst σ (zsh σ 0)).2.2) (mxd (mxd (dgV σ 1 (dgV σ 0 (dgB (zod σ (zbk σ 3)) ((zst σ (zbk σ 3)).1) ((zst σ (zbk σ 3)).2.2) (dgB (zod σ (zbk σ 2)) ((zst σ (zbk σ 2)).1) ((zst σ (zbk σ 2)).2.2) (dgB (zod σ (zbk σ 1)) ((zst σ (zbk σ 1)).1) ((zst σ (zbk σ 1)).2.2) (dgB (zod σ (zbk σ 0)) ((zst σ (zbk σ 0)).1) ((zst σ (zbk σ 0)).2.2) 17706)))))) 1) (if zwt σ = 0 then -1 else keyR (zod σ j) (zwl σ)))))) (hfact σ 0)) (hfact σ 1)) (hfact σ 2)))), (3, .int (iI 2)), (0, .ref ((gbg G)))]) hx hb dX3_digest_124 rfl hl (by decide) rfl (fun ls hl => ?_)
    refine q_iinc (x := 2) (n := 1) (lv' := [(3, .int (iI 3)), (1, .long ((mxd (mxd (mxd (dgS (zod σ (zsh σ 2)) ((zst σ (zsh σ 2)).1) ((zst σ (zsh σ 2)).2.2) (dgS (zod σ (zsh σ 1)) ((zst σ (zsh σ 1)).1) ((zst σ (zsh σ 1)).2.2) (dgS (zod σ (zsh σ 0)) ((zst σ (zsh σ 0)).1) ((zst σ (zsh σ 0)).2.2) (mxd (mxd (dgV σ 1 (dgV σ 0 (dgB (zod σ (zbk σ 3)) ((zst σ (zbk σ 3)).1) ((zst σ (zbk σ 3)).2.2) (dgB (zod σ (zbk σ 2)) ((zst σ (zbk σ 2)).1) ((zst σ (zbk σ 2)).2.2) (dgB (zod σ (zbk σ 1)) ((zst σ (zbk σ 1)).1) ((zst σ (zbk σ 1)).2.2) (dgB (zod σ (zbk σ 0)) ((zst σ (zbk σ 0)).1) ((zst σ (zbk σ 0)).2.2) 17706)))))) 1) (if zwt σ = 0 then -1 else keyR (zod σ j) (zwl σ)))))) (hfact σ 0)) (hfact σ 1)) (hfact σ 2)))), (0, .ref ((gbg G)))]) hx hb dX3_digest_125 hl (k := 1) rfl (by decide) rfl (fun ls hl => ?_)
    refine lv_goto (tgt := 110) hx hb dX3_digest_128 (by decide) ?_
    refine lv_iload_n hx hb dX3_digest_110 rfl (lv_at hl 0 rfl) ?_
    refine q_iconst hx hb dX3_digest_111 ?_
    refine q_icmp_gt hx hb dX3_digest_112 (tgt := 131) (by decide) (by omega) (by omega) (fun c66 => absurd c66 (by omega)) (fun c66 => ?_)
    refine lv_lload_n hx hb dX3_digest_115 rfl (lv_at hl 1 rfl) ?_
    refine lv_aload_n hx hb dX3_digest_116 rfl (lv_at hl 2 rfl) ?_
    refine lv_iload_n hx hb dX3_digest_117 rfl (lv_at hl 0 rfl) ?_
    refine q_vS C0 lX3_238 (c_X3_houseFact l D y L F O G σ 3 hC (by omega)) ⟨rfl, rfl⟩ rfl hP hC.1.1 hC.1.2 rfl rfl rfl hl rfl (Nat.le_of_ble_eq_true rfl) dX3_digest_118 ⟨Nat.zero_le _, Nat.zero_le _⟩ (fun r67 e_r67 => ?_)
    replace e_r67 := e_r67.symm
    subst e_r67
    refine q_sSl C0 lX3_261 (c_X3_mixed l D y L F (mxd (mxd (mxd (dgS (zod σ (zsh σ 2)) ((zst σ (zsh σ 2)).1) ((zst σ (zsh σ 2)).2.2) (dgS (zod σ (zsh σ 1)) ((zst σ (zsh σ 1)).1) ((zst σ (zsh σ 1)).2.2) (dgS (zod σ (zsh σ 0)) ((zst σ (zsh σ 0)).1) ((zst σ (zsh σ 0)).2.2) (mxd (mxd (dgV σ 1 (dgV σ 0 (dgB (zod σ (zbk σ 3)) ((zst σ (zbk σ 3)).1) ((zst σ (zbk σ 3)).2.2) (dgB (zod σ (zbk σ 2)) ((zst σ (zbk σ 2)).1) ((zst σ (zbk σ 2)).2.2) (dgB (zod σ (zbk σ 1)) ((zst σ (zbk σ 1)).1) ((zst σ (zbk σ 1)).2.2) (dgB (zod σ (zbk σ 0)) ((zst σ (zbk σ 0)).1) ((zst σ (zbk σ 0)).2.2) 17706)))))) 1) (if zwt σ = 0 then -1 else keyR (zod σ j) (zwl σ)))))) (hfact σ 0)) (hfact σ 1)) (hfact σ 2)) (hfact σ 3)) ⟨rfl, rfl⟩ rfl hP rfl hl rfl (Nat.le_of_ble_eq_true rfl) dX3_digest_121 ⟨Nat.zero_le _, Nat.zero_le _⟩ (fun r68 e_r68 => ?_)
    replace e_r68 := e_r68.symm
    subst e_r68
    refine lv_lstore_n (lv' := [(1, .long ((mxd (mxd (mxd (mxd (dgS (zod σ (zsh σ 2)) ((zst σ (zsh σ 2)).1) ((zst σ (zsh σ 2)).2.2) (dgS (zod σ (zsh σ 1)) ((zst σ (zsh σ 1)).1) ((zst σ (zsh σ 1)).2.2) (dgS (zod σ (zsh σ 0)) ((zst σ (zsh σ 0)).1) ((zst σ (zsh σ 0)).2.2) (mxd (mxd (dgV σ 1 (dgV σ 0 (dgB (zod σ (zbk σ 3)) ((zst σ (zbk σ 3)).1) ((zst σ (zbk σ 3)).2.2) (dgB (zod σ (zbk σ 2)) ((zst σ (zbk σ 2)).1) ((zst σ (zbk σ 2)).2.2) (dgB (zod σ (zbk σ 1)) ((zst σ (zbk σ 1)).1) ((zst σ (zbk σ 1)).2.2) (dgB (zod σ (zbk σ 0)) ((zst σ (zbk σ 0)).1) ((zst σ (zbk σ 0)).2.2) 17706)))))) 1) (if zwt σ = 0 then -1 else keyR (zod σ j) (zwl σ)))))) (hfact σ 0)) (hfact σ 1)) (hfact σ 2)) (hfact σ 3)))), (3, .int (iI 3)), (0, .ref ((gbg G)))]) hx hb dX3_digest_124 rfl hl (by decide) rfl (fun ls hl => ?_)
    refine q_iinc (x := 3) (n := 1) (lv' := [(3, .int (iI 4)), (1, .long ((mxd (mxd (mxd (mxd (dgS (zod σ (zsh σ 2)) ((zst σ (zsh σ 2)).1) ((zst σ (zsh σ 2)).2.2) (dgS (zod σ (zsh σ 1)) ((zst σ (zsh σ 1)).1) ((zst σ (zsh σ 1)).2.2) (dgS (zod σ (zsh σ 0)) ((zst σ (zsh σ 0)).1) ((zst σ (zsh σ 0)).2.2) (mxd (mxd (dgV σ 1 (dgV σ 0 (dgB (zod σ (zbk σ 3)) ((zst σ (zbk σ 3)).1) ((zst σ (zbk σ 3)).2.2) (dgB (zod σ (zbk σ 2)) ((zst σ (zbk σ 2)).1) ((zst σ (zbk σ 2)).2.2) (dgB (zod σ (zbk σ 1)) ((zst σ (zbk σ 1)).1) ((zst σ (zbk σ 1)).2.2) (dgB (zod σ (zbk σ 0)) ((zst σ (zbk σ 0)).1) ((zst σ (zbk σ 0)).2.2) 17706)))))) 1) (if zwt σ = 0 then -1 else keyR (zod σ j) (zwl σ)))))) (hfact σ 0)) (hfact σ 1)) (hfact σ 2)) (hfact σ 3)))), (0, .ref ((gbg G)))]) hx hb dX3_digest_125 hl (k := 1) rfl (by decide) rfl (fun ls hl => ?_)
    refine lv_goto (tgt := 110) hx hb dX3_digest_128 (by decide) ?_
    refine lv_iload_n hx hb dX3_digest_110 rfl (lv_at hl 0 rfl) ?_
    refine q_iconst hx hb dX3_digest_111 ?_
    refine q_icmp_gt hx hb dX3_digest_112 (tgt := 131) (by decide) (by omega) (by omega) (fun c69 => ?_) (fun c69 => absurd c69 (by omega))
    refine lv_lload_n hx hb dX3_digest_131 rfl (lv_at hl 1 rfl) ?_
    refine lv_aload_n hx hb dX3_digest_132 rfl (lv_at hl 2 rfl) ?_
    refine q_vMi C0 lX3_271 (c_X3_isSound l D y L F _ O G σ hC hW) ⟨rfl, rfl⟩ rfl hP hD hS hA hC.1.1 hC.1.2 rfl rfl rfl hl rfl (Nat.le_of_ble_eq_true rfl) dX3_digest_133 ⟨Nat.le_of_ble_eq_true rfl, Nat.le_of_ble_eq_true rfl⟩ (fun r70 H locs L71 F71 hP hD hS hz71 hp71 => ?_)
    refine W.widen (k := 14) (n := 728) (Nat.le_of_ble_eq_true rfl) (Nat.le_of_ble_eq_true rfl) ?_
    obtain ⟨er, hC, hLs72, hfr72⟩ := hp71
    replace er := er.symm
    subst er
    have hfr : ∀ a ∈ L, F71 a = F a := fun a h1 => (hfr72 a (hLs a h1)).trans (hfr a h1)
    have hLs : ∀ a ∈ L, a ∈ L71 := fun a h1 => hLs72 a (hLs a h1)
    have b_r70 := kR_isSound_b σ
    refine q_if_eq hx hb dX3_digest_136 (tgt := 143) (by decide) (by omega) (fun c73 => ?_) (fun c73 => ?_)
    · refine q_iconst hx hb dX3_digest_143 ?_
      refine q_sSl C0 lX3_261 (c_X3_mixed l D y L71 F71 (mxd (mxd (mxd (mxd (dgS (zod σ (zsh σ 2)) ((zst σ (zsh σ 2)).1) ((zst σ (zsh σ 2)).2.2) (dgS (zod σ (zsh σ 1)) ((zst σ (zsh σ 1)).1) ((zst σ (zsh σ 1)).2.2) (dgS (zod σ (zsh σ 0)) ((zst σ (zsh σ 0)).1) ((zst σ (zsh σ 0)).2.2) (mxd (mxd (dgV σ 1 (dgV σ 0 (dgB (zod σ (zbk σ 3)) ((zst σ (zbk σ 3)).1) ((zst σ (zbk σ 3)).2.2) (dgB (zod σ (zbk σ 2)) ((zst σ (zbk σ 2)).1) ((zst σ (zbk σ 2)).2.2) (dgB (zod σ (zbk σ 1)) ((zst σ (zbk σ 1)).1) ((zst σ (zbk σ 1)).2.2) (dgB (zod σ (zbk σ 0)) ((zst σ (zbk σ 0)).1) ((zst σ (zbk σ 0)).2.2) 17706)))))) 1) (if zwt σ = 0 then -1 else keyR (zod σ j) (zwl σ)))))) (hfact σ 0)) (hfact σ 1)) (hfact σ 2)) (hfact σ 3)) 0) ⟨rfl, rfl⟩ rfl hP rfl hl rfl (Nat.le_of_ble_eq_true rfl) dX3_digest_144 ⟨Nat.le_of_ble_eq_true rfl, Nat.le_of_ble_eq_true rfl⟩ (fun r74 e_r74 => ?_)
      replace e_r74 := e_r74.symm
      subst e_r74
      exact q_retMl C0 hret hlk dX3_digest_147 hP hD hS (⟨(by unfold kR_digest1 dgA; rw [show goI σ j = 1 by omega]; rw [show kR_isSound σ = 0 by omega]; rfl), hC, hLs, hfr⟩)
    · refine q_iconst hx hb dX3_digest_139 ?_
      refine lv_goto (tgt := 144) hx hb dX3_digest_140 (by decide) ?_
      refine q_sSl C0 lX3_261 (c_X3_mixed l D y L71 F71 (mxd (mxd (mxd (mxd (dgS (zod σ (zsh σ 2)) ((zst σ (zsh σ 2)).1) ((zst σ (zsh σ 2)).2.2) (dgS (zod σ (zsh σ 1)) ((zst σ (zsh σ 1)).1) ((zst σ (zsh σ 1)).2.2) (dgS (zod σ (zsh σ 0)) ((zst σ (zsh σ 0)).1) ((zst σ (zsh σ 0)).2.2) (mxd (mxd (dgV σ 1 (dgV σ 0 (dgB (zod σ (zbk σ 3)) ((zst σ (zbk σ 3)).1) ((zst σ (zbk σ 3)).2.2) (dgB (zod σ (zbk σ 2)) ((zst σ (zbk σ 2)).1) ((zst σ (zbk σ 2)).2.2) (dgB (zod σ (zbk σ 1)) ((zst σ (zbk σ 1)).1) ((zst σ (zbk σ 1)).2.2) (dgB (zod σ (zbk σ 0)) ((zst σ (zbk σ 0)).1) ((zst σ (zbk σ 0)).2.2) 17706)))))) 1) (if zwt σ = 0 then -1 else keyR (zod σ j) (zwl σ)))))) (hfact σ 0)) (hfact σ 1)) (hfact σ 2)) (hfact σ 3)) 1) ⟨rfl, rfl⟩ rfl hP rfl hl rfl (Nat.le_of_ble_eq_true rfl) dX3_digest_144 ⟨Nat.le_of_ble_eq_true rfl, Nat.le_of_ble_eq_true rfl⟩ (fun r75 e_r75 => ?_)
      replace e_r75 := e_r75.symm
      subst e_r75
      exact q_retMl C0 hret hlk dX3_digest_147 hP hD hS (⟨(by unfold kR_digest1 dgA; rw [show goI σ j = 1 by omega]; rw [show kR_isSound σ = 1 by omega]; rfl), hC, hLs, hfr⟩)
