section QM7
variable {p : Program} {l : Launch} {e : Env} {R : Room} {s : State} {m : MethodId} {args : Array Value} {below : List Frame} {meth : Method} {c : Code} {H : Heap} {locs : List Loc} {cells slots : Nat} {Q : State → Prop} {cc : ByteArray} {pc : Nat} {ls : Array Slot} {rest : List Value}
variable {D : va_G} {y : Nat → ClassId} {nL : Nat} {kw : Cond} {own : String} {L : List Nat} {F : Nat → va_E} {a : Nat} {A : Nat → Prop} {H0 : Heap}
variable {yy : MethodName} {bytes : ByteArray} {maxL n index mc ms : Nat} {ret : Option FieldType} {rm : Room} {As st : List Value}
theorem q_alenq (C0 : Cx D y p c cc nL s m args kw own) (hP : va_P D vwCl (va_pl L F) H) (ha : a ∈ L) {n t : Nat} {cA : ClassId} {C : String} {g : Int → Option Nat} (hF : F a = arrQ cA n g) (hdg : decode cc pc = .ok (.arraylength, 1)) (ht : (tysG y)[t]? = some (cA, .object C)) (kk : W p l e R s m args below meth c H locs cells slots Q (F0 m (pc + 1) ls (.int (iI (n : Int)) :: rest))) : W p l e R s m args below meth c H locs cells slots Q (F0 m pc ls (.ref a :: rest)) := by
  obtain ⟨⟨hx, hb, hml, hown, hts⟩, hK⟩ := C0
  obtain ⟨j, hj⟩ := va_pl_get (X := []) (f := F) ha
  rw [hF] at hj
  exact va_alen hx hb hK.1 hP j t hj ht (v := iI (n : Int)) (iI_ofnat n).symm hdg kk
end QM7
def mpU (o : Int) (f : Int → Int) (r : Int) : Int := turn o r * 100 + f (turn o (turn o r))
def dmBk (μ : MS) (i : Int) (s : Int64) : Int64 := mxP (mpU (vod μ (vbk μ i)) (vst μ (vbk μ i))) (vst μ (vbk μ i)) 0 (mxd (mxd (mxd s (cntP (vst μ (vbk μ i)) 0 99)) (vod μ (vbk μ i))) (hashM (vod μ (vbk μ i)) (vst μ (vbk μ i))))
def dmSh (μ : MS) (i : Int) (s : Int64) : Int64 := mxP (turn (vod μ (vsh μ i))) (vst μ (vsh μ i)) 0 (mxd (mxd (mxd s (cntP (vst μ (vsh μ i)) 0 99)) (vod μ (vsh μ i))) (sumM (vod μ (vsh μ i)) (vst μ (vsh μ i))))
def dmVw (μ : MS) (v : Int) (s : Int64) : Int64 := mxd (mxd (mxd (mxd s (cntP (vst μ (vvw μ v)) (vvl μ v) (vvh μ v))) (keyR (vod μ (vvw μ v)) (firP (vst μ (vvw μ v)) (vvl μ v) (vvh μ v)))) (keyR (vod μ (vvw μ v)) (lasP (vst μ (vvw μ v)) (vvl μ v) (vvh μ v)))) (sumP (wmU (vst μ (vvw μ v))) (vvl μ v) (vvh μ v))
def dmCt (μ : MS) (i : Int) (s : Int64) : Int64 := mxd s (vct μ i)
def goW (μ : MS) : Int64 := if vbr μ = 0 then 1 else 0
def dm3 (μ : MS) (g : Int64) : Int64 := mxd (itrP (dmVw μ) 0 1 (itrP (dmBk μ) 0 3 17706) * 31 + g) (vtd μ)
def dmA (μ : MS) (g : Int64) : Int64 := itrP (dmCt μ) 0 3 (itrP (dmSh μ) 0 2 (dm3 μ g)) * 31 + 1
def jS_digest0 (μ : MS) : MS := tOb μ none (vbr μ) (vtd μ) (vbh μ) 0
def jR_digest0 (μ : MS) : Int64 := dmA μ 0
def jS_digest1 (μ : MS) (j : Nat) : MS := tOb μ (some j) (vbr μ) (vtd μ) (vbh μ) 0
def jR_digest1 (μ : MS) (j : Nat) : Int64 := dmA μ (goW μ)
def jS_init : MS := (7, fun _ => 0, fun _ => emp, fun b => if b = 1 then 1 else if b = 2 then 2 else if b = 3 then 3 else 0, fun b => if b = 1 then 5 else if b = 2 then 6 else 4, fun v => if v = 1 then 1 else 0, fun _ => 0, fun _ => 99, none, 0, -1, 0, fun _ => 0, 0)
set_option maxHeartbeats 3000000 in
set_option maxRecDepth 100000 in
theorem c_X6_digest0 (l : Launch) (D : va_G) (y : Nat → ClassId) (L : List Nat) (F : Nat → va_E) (sz : Nat) (O : Nat → Prop) (G : MG) (μ : MS) (hC : MP y L F O G μ) (hW : MW μ) (hwk : vwk μ = none) : Met l yX6_digest (.code yX6_digest cX6_digest 8 (some .long) :: Tt) ({ frames := 3, cells := 0, slots := 0, locals := 66 }) (PcM D y L F sz [.ref ((ubg G))]) (cMl D (AL L sz) (fun r L1 F1 => r = jR_digest0 μ ∧ ∃ (O1 : Nat → Prop) (G1 : MG), MP y L1 F1 O1 G1 (jS_digest0 μ) ∧ ubg G1 = ubg G ∧ Ext O O1 L L1 F F1)) 0 0 (AL L sz) := by
  have hO : OE O F F := fun _ _ => rfl
  have hw5 := hW.2.2.2.2.2.1
  have hw6 := hW.2.2.2.2.2.2.1
  have cb_ := fun f => cntP_b f (lo := 0) (hi := 99) (by omega) (by omega)
  refine q_ofM (lv := [(0, .ref ((ubg G)))]) (by decide) (Nat.le_of_ble_eq_true rfl) rfl (fun p e s m below meth c C0 hret hlk hnm hA hP hD hS ls hl => ?_)
  have hx := C0.1.1
  have hb := C0.1.2.1
  have hts := C0.1.2.2.2.2
  refine lv_ldc2 (v := 17706) hx hb C0.1.2.2.2.1 (hts _ (List.mem_cons_of_mem _ cLX6_204)) dX6_digest_0 ?_
  refine lv_lstore_n (lv' := [(1, .long (17706)), (0, .ref ((ubg G)))]) hx hb dX6_digest_3 rfl hl (by decide) rfl (fun ls hl => ?_)
  refine lv_aload_n hx hb dX6_digest_4 rfl (lv_at hl 1 rfl) ?_
  refine q_get C0 iX6 hP (MP_o0 hC hwk).1 (MP_o0 hC hwk).2 rfl 0 (by decide) flX6_11 rfl (v := .ref ((uab G))) rfl dX6_digest_5 ?_
  refine lv_astore_n (lv' := [(3, .ref ((uab G))), (1, .long (17706)), (0, .ref ((ubg G)))]) hx hb dX6_digest_8 rfl hl (by decide) rfl (fun ls hl => ?_)
  refine lv_aload_n hx hb dX6_digest_9 rfl (lv_at hl 0 rfl) ?_
  refine q_alenq C0 hP hC.2.1.1 hC.2.1.2 dX6_digest_10 (t := 3) rfl ?_
  refine lv_istore (lv' := [(4, .int (iI 4)), (3, .ref ((uab G))), (1, .long (17706)), (0, .ref ((ubg G)))]) hx hb dX6_digest_11 hl (by decide) rfl (fun ls hl => ?_)
  refine q_iconst hx hb dX6_digest_13 ?_
  refine lv_istore (lv' := [(5, .int (iI 0)), (4, .int (iI 4)), (3, .ref ((uab G))), (1, .long (17706)), (0, .ref ((ubg G)))]) hx hb dX6_digest_14 hl (by decide) rfl (fun ls hl => ?_)
  have LP16 : ∀ (n_LP16 : Nat) (i : Int) (sv : Int64) (H : Heap) (locs : List Loc), (0 ≤ i ∧ i ≤ 4) → (itrP (dmBk μ) 0 3 (17706) = itrP (dmBk μ) i 3 sv) → (va_P D vwCl (va_pl L F) H) → (va_D (AL L sz) (va_pl L F)) → (va_S (AL L sz) s.heap H locs) → (4 - i).toNat = n_LP16 → ∀ ls : Array Slot, lv_has ls 8 [(0, .ref ((ubg G))), (1, .long (sv)), (3, .ref ((uab G))), (4, .int (iI 4)), (5, .int (iI i))] → W p l e ({ frames := 3, cells := 0, slots := 0, locals := 66 } : Room) s m [.ref ((ubg G))].toArray below meth c H locs 0 0 (MQ below (cMl D (AL L sz) (fun r L1 F1 => r = jR_digest0 μ ∧ ∃ (O1 : Nat → Prop) (G1 : MG), MP y L1 F1 O1 G1 (jS_digest0 μ) ∧ ubg G1 = ubg G ∧ Ext O O1 L L1 F F1)) [.ref ((ubg G))].toArray s 0 0 (AL L sz)) (F0 m 16 ls []) := by
    intro n_LP16
    induction n_LP16 using Nat.strongRecOn with
    | ind n_LP16 ih_LP16 =>
      intro i sv H locs hi hI hP hD hS hm_LP16 ls hl
      refine lv_iload hx hb dX6_digest_16 (lv_at hl 4 rfl) ?_
      refine lv_iload hx hb dX6_digest_18 (lv_at hl 3 rfl) ?_
      refine q_icmp_ge hx hb dX6_digest_20 (tgt := 116) (by decide) (by omega) (by omega) (fun c1 => ?_) (fun c1 => ?_)
      · refine q_iconst hx hb dX6_digest_116 ?_
        refine lv_istore_n (lv' := [(3, .int (iI 0)), (0, .ref ((ubg G))), (1, .long (sv)), (4, .int (iI 4)), (5, .int (iI i))]) hx hb dX6_digest_117 rfl hl (by decide) rfl (fun ls hl => ?_)
        have LP118 : ∀ (n_LP118 : Nat) (i : Int) (sv : Int64) (H : Heap) (locs : List Loc), (0 ≤ i ∧ i ≤ 2) → (itrP (dmVw μ) 0 1 (itrP (dmBk μ) 0 3 17706) = itrP (dmVw μ) i 1 sv) → (va_P D vwCl (va_pl L F) H) → (va_D (AL L sz) (va_pl L F)) → (va_S (AL L sz) s.heap H locs) → (2 - i).toNat = n_LP118 → ∀ ls : Array Slot, lv_has ls 8 [(0, .ref ((ubg G))), (1, .long (sv)), (3, .int (iI i))] → W p l e ({ frames := 3, cells := 0, slots := 0, locals := 66 } : Room) s m [.ref ((ubg G))].toArray below meth c H locs 0 0 (MQ below (cMl D (AL L sz) (fun r L1 F1 => r = jR_digest0 μ ∧ ∃ (O1 : Nat → Prop) (G1 : MG), MP y L1 F1 O1 G1 (jS_digest0 μ) ∧ ubg G1 = ubg G ∧ Ext O O1 L L1 F F1)) [.ref ((ubg G))].toArray s 0 0 (AL L sz)) (F0 m 118 ls []) := by
          intro n_LP118
          induction n_LP118 using Nat.strongRecOn with
          | ind n_LP118 ih_LP118 =>
            intro i sv H locs hi hI hP hD hS hm_LP118 ls hl
            refine lv_iload_n hx hb dX6_digest_118 rfl (lv_at hl 2 rfl) ?_
            refine q_iconst hx hb dX6_digest_119 ?_
            refine q_icmp_ge hx hb dX6_digest_120 (tgt := 201) (by decide) (by omega) (by omega) (fun c2 => ?_) (fun c2 => ?_)
            · refine lv_lload_n hx hb dX6_digest_201 rfl (lv_at hl 1 rfl) ?_
              refine lv_aload_n hx hb dX6_digest_202 rfl (lv_at hl 0 rfl) ?_
              refine q_vS C0 lX6_189 (c_X6_isGoing0 l D y L F O G μ hC (by first | exact hwk | rfl)) ⟨rfl, rfl⟩ rfl hP (MP_o0 hC hwk).1 (MP_o0 hC hwk).2 rfl rfl rfl hl rfl (Nat.le_of_ble_eq_true rfl) dX6_digest_203 ⟨Nat.zero_le _, Nat.zero_le _⟩ (fun r3 e_r3 => ?_)
              subst e_r3
              refine q_if_eq hx hb dX6_digest_206 (tgt := 213) (by decide) (by omega) (fun c4 => ?_) (fun c4 => absurd c4 (by omega))
              refine lv_lconst (v := 0) hx hb dX6_digest_213 rfl ?_
              refine q_sSl C0 lX6_206 (c_X6_add l D y L F sv 0) ⟨rfl, rfl⟩ rfl hP rfl hl rfl (Nat.le_of_ble_eq_true rfl) dX6_digest_214 ⟨Nat.zero_le _, Nat.zero_le _⟩ (fun r5 e_r5 => ?_)
              subst e_r5
              refine lv_aload_n hx hb dX6_digest_217 rfl (lv_at hl 0 rfl) ?_
              refine q_get C0 iX6 hP (MP_o0 hC hwk).1 (MP_o0 hC hwk).2 rfl 7 (by decide) flX6_28 rfl (v := .int (iI (vtd μ))) rfl dX6_digest_218 ?_
              refine lv_i2l hx hb dX6_digest_221 rfl ?_
              refine q_sSl C0 lX6_206 (c_X6_add l D y L F (sv * 31 + 0) ((iI (vtd μ)).toInt64)) ⟨rfl, rfl⟩ rfl hP rfl hl rfl (Nat.le_of_ble_eq_true rfl) dX6_digest_222 ⟨Nat.zero_le _, Nat.zero_le _⟩ (fun r6 e_r6 => ?_)
              subst e_r6
              refine lv_lstore_n (lv' := [(1, .long (((sv * 31 + 0) * 31 + ((iI (vtd μ)).toInt64)))), (0, .ref ((ubg G))), (3, .int (iI i))]) hx hb dX6_digest_225 rfl hl (by decide) rfl (fun ls hl => ?_)
              refine lv_aload_n hx hb dX6_digest_226 rfl (lv_at hl 1 rfl) ?_
              refine q_get C0 iX6 hP (MP_o0 hC hwk).1 (MP_o0 hC hwk).2 rfl 1 (by decide) flX6_15 rfl (v := .ref ((uas G))) rfl dX6_digest_227 ?_
              refine lv_astore_n (lv' := [(3, .ref ((uas G))), (1, .long (((sv * 31 + 0) * 31 + ((iI (vtd μ)).toInt64)))), (0, .ref ((ubg G)))]) hx hb dX6_digest_230 rfl hl (by decide) rfl (fun ls hl => ?_)
              refine lv_aload_n hx hb dX6_digest_231 rfl (lv_at hl 0 rfl) ?_
              refine q_alenq C0 hP hC.2.2.1.1 hC.2.2.1.2 dX6_digest_232 (t := 3) rfl ?_
              refine lv_istore (lv' := [(4, .int (iI 3)), (3, .ref ((uas G))), (1, .long (((sv * 31 + 0) * 31 + ((iI (vtd μ)).toInt64)))), (0, .ref ((ubg G)))]) hx hb dX6_digest_233 hl (by decide) rfl (fun ls hl => ?_)
              refine q_iconst hx hb dX6_digest_235 ?_
              refine lv_istore (lv' := [(5, .int (iI 0)), (4, .int (iI 3)), (3, .ref ((uas G))), (1, .long (((sv * 31 + 0) * 31 + ((iI (vtd μ)).toInt64)))), (0, .ref ((ubg G)))]) hx hb dX6_digest_236 hl (by decide) rfl (fun ls hl => ?_)
              have LP238 : ∀ (n_LP238 : Nat) (i : Int) (sv : Int64) (H : Heap) (locs : List Loc), (0 ≤ i ∧ i ≤ 3) → (itrP (dmSh μ) 0 2 (dm3 μ 0) = itrP (dmSh μ) i 2 sv) → (va_P D vwCl (va_pl L F) H) → (va_D (AL L sz) (va_pl L F)) → (va_S (AL L sz) s.heap H locs) → (3 - i).toNat = n_LP238 → ∀ ls : Array Slot, lv_has ls 8 [(0, .ref ((ubg G))), (1, .long (sv)), (3, .ref ((uas G))), (4, .int (iI 3)), (5, .int (iI i))] → W p l e ({ frames := 3, cells := 0, slots := 0, locals := 66 } : Room) s m [.ref ((ubg G))].toArray below meth c H locs 0 0 (MQ below (cMl D (AL L sz) (fun r L1 F1 => r = jR_digest0 μ ∧ ∃ (O1 : Nat → Prop) (G1 : MG), MP y L1 F1 O1 G1 (jS_digest0 μ) ∧ ubg G1 = ubg G ∧ Ext O O1 L L1 F F1)) [.ref ((ubg G))].toArray s 0 0 (AL L sz)) (F0 m 238 ls []) := by
                intro n_LP238
                induction n_LP238 using Nat.strongRecOn with
                | ind n_LP238 ih_LP238 =>
                  intro i sv H locs hi hI hP hD hS hm_LP238 ls hl
                  refine lv_iload hx hb dX6_digest_238 (lv_at hl 4 rfl) ?_
                  refine lv_iload hx hb dX6_digest_240 (lv_at hl 3 rfl) ?_
                  refine q_icmp_ge hx hb dX6_digest_242 (tgt := 333) (by decide) (by omega) (by omega) (fun c7 => ?_) (fun c7 => ?_)
                  · refine lv_aload_n hx hb dX6_digest_333 rfl (lv_at hl 0 rfl) ?_
                    refine q_get C0 iX6 hP (MP_o0 hC hwk).1 (MP_o0 hC hwk).2 rfl 9 (by decide) flX6_32 rfl (v := .ref ((uac G))) rfl dX6_digest_334 ?_
                    refine lv_astore_n (lv' := [(3, .ref ((uac G))), (0, .ref ((ubg G))), (1, .long (sv)), (4, .int (iI 3)), (5, .int (iI i))]) hx hb dX6_digest_337 rfl hl (by decide) rfl (fun ls hl => ?_)
                    refine lv_aload_n hx hb dX6_digest_338 rfl (lv_at hl 0 rfl) ?_
                    refine q_alen C0 hP hC.2.2.2.2.2.2.1.1 hC.2.2.2.2.2.2.1.2 dX6_digest_339 ?_
                    refine lv_istore (lv' := [(4, .int (iI 4)), (3, .ref ((uac G))), (0, .ref ((ubg G))), (1, .long (sv)), (5, .int (iI i))]) hx hb dX6_digest_340 hl (by decide) rfl (fun ls hl => ?_)
                    refine q_iconst hx hb dX6_digest_342 ?_
                    refine lv_istore (lv' := [(5, .int (iI 0)), (4, .int (iI 4)), (3, .ref ((uac G))), (0, .ref ((ubg G))), (1, .long (sv))]) hx hb dX6_digest_343 hl (by decide) rfl (fun ls hl => ?_)
                    have LP345 : ∀ (n_LP345 : Nat) (i : Int) (sv : Int64) (H : Heap) (locs : List Loc), (0 ≤ i ∧ i ≤ 4) → (itrP (dmCt μ) 0 3 (itrP (dmSh μ) 0 2 (dm3 μ 0)) = itrP (dmCt μ) i 3 sv) → (va_P D vwCl (va_pl L F) H) → (va_D (AL L sz) (va_pl L F)) → (va_S (AL L sz) s.heap H locs) → (4 - i).toNat = n_LP345 → ∀ ls : Array Slot, lv_has ls 8 [(0, .ref ((ubg G))), (1, .long (sv)), (3, .ref ((uac G))), (4, .int (iI 4)), (5, .int (iI i))] → W p l e ({ frames := 3, cells := 0, slots := 0, locals := 66 } : Room) s m [.ref ((ubg G))].toArray below meth c H locs 0 0 (MQ below (cMl D (AL L sz) (fun r L1 F1 => r = jR_digest0 μ ∧ ∃ (O1 : Nat → Prop) (G1 : MG), MP y L1 F1 O1 G1 (jS_digest0 μ) ∧ ubg G1 = ubg G ∧ Ext O O1 L L1 F F1)) [.ref ((ubg G))].toArray s 0 0 (AL L sz)) (F0 m 345 ls []) := by
                      intro n_LP345
                      induction n_LP345 using Nat.strongRecOn with
                      | ind n_LP345 ih_LP345 =>
                        intro i sv H locs hi hI hP hD hS hm_LP345 ls hl
                        refine lv_iload hx hb dX6_digest_345 (lv_at hl 4 rfl) ?_
                        refine lv_iload hx hb dX6_digest_347 (lv_at hl 3 rfl) ?_
                        refine q_icmp_ge hx hb dX6_digest_349 (tgt := 372) (by decide) (by omega) (by omega) (fun c8 => ?_) (fun c8 => ?_)
                        · refine lv_aload_n hx hb dX6_digest_372 rfl (lv_at hl 0 rfl) ?_
                          refine q_iconst hx hb dX6_digest_373 ?_
                          refine q_put C0 iX6 tyX6 tyX6_ok nmX6 hP hD hS (MP_o0 hC hwk).1 (MP_o0 hC hwk).2 rfl 10 (by decide) flX6_38 rfl rfl rfl rfl (Nat.le_of_ble_eq_true rfl) dX6_digest_374 (fun H locs hP hD hS => ?_)
                          obtain ⟨F9, eF9⟩ : ∃ z, z = va_up F (ubg G) (.inr (8, [.ref ((uab G)), .ref ((uas G)), .ref ((uav G)), .ref ((uaf G)), .ref ((uat G)), .null, .int (iI (vbr μ)), .int (iI (vtd μ)), .int (iI (vbh μ)), .ref ((uac G)), .int (iI 0)])) := ⟨_, rfl⟩
                          have hP : va_P D vwCl (va_pl L F9) H := by rw [eF9]; exact hP
                          have hD : va_D (AL L sz) (va_pl L F9) := by rw [eF9]; exact hD
                          have hO : OE O F F9 := by rw [eF9]; exact hO.tr (OE1 (MP_O hC).1)
                          have hC : MP y L F9 O G (tOb μ none (vbr μ) (vtd μ) (vbh μ) 0) := by rw [eF9]; exact MP_ob hC (va_up_self _ _ _) (fun q hq => va_up_ne _ _ hq)
                          refine lv_lload_n hx hb dX6_digest_377 rfl (lv_at hl 1 rfl) ?_
                          refine lv_lconst (v := 1) hx hb dX6_digest_378 rfl ?_
                          refine q_sSl C0 lX6_206 (c_X6_add l D y L F9 sv 1) ⟨rfl, rfl⟩ rfl hP rfl hl rfl (Nat.le_of_ble_eq_true rfl) dX6_digest_379 ⟨Nat.zero_le _, Nat.zero_le _⟩ (fun r10 e_r10 => ?_)
                          subst e_r10
                          exact q_retMl C0 hret hlk dX6_digest_382 hP hD hS (⟨(by unfold jR_digest0 dmA; rw [hI, itrP_e (by omega)]), O, G, hC, rfl, Ext0 hO⟩)
                        · refine lv_aload_n hx hb dX6_digest_352 rfl (lv_at hl 2 rfl) ?_
                          refine lv_iload hx hb dX6_digest_353 (lv_at hl 4 rfl) ?_
                          refine q_iald C0 hP (f := (vct μ)) hC.2.2.2.2.2.2.1.1 hC.2.2.2.2.2.2.1.2 (by omega) (by decide) dX6_digest_355 ?_
                          refine lv_istore (lv' := [(6, .int (iI (((vct μ) i)))), (0, .ref ((ubg G))), (1, .long (sv)), (3, .ref ((uac G))), (4, .int (iI 4)), (5, .int (iI i))]) hx hb dX6_digest_356 hl (by decide) rfl (fun ls hl => ?_)
                          refine lv_lload_n hx hb dX6_digest_358 rfl (lv_at hl 2 rfl) ?_
                          refine lv_iload hx hb dX6_digest_359 (lv_at hl 0 rfl) ?_
                          refine lv_i2l hx hb dX6_digest_361 rfl ?_
                          refine q_sSl C0 lX6_206 (c_X6_add l D y L F sv ((iI ((vct μ) i)).toInt64)) ⟨rfl, rfl⟩ rfl hP rfl hl rfl (Nat.le_of_ble_eq_true rfl) dX6_digest_362 ⟨Nat.zero_le _, Nat.zero_le _⟩ (fun r11 e_r11 => ?_)
                          subst e_r11
                          refine lv_lstore_n (lv' := [(1, .long ((sv * 31 + ((iI ((vct μ) i)).toInt64)))), (6, .int (iI (((vct μ) i)))), (0, .ref ((ubg G))), (3, .ref ((uac G))), (4, .int (iI 4)), (5, .int (iI i))]) hx hb dX6_digest_365 rfl hl (by decide) rfl (fun ls hl => ?_)
                          refine q_iinc (x := i) (n := 1) (lv' := [(5, .int (iI ((i + 1)))), (1, .long ((sv * 31 + ((iI ((vct μ) i)).toInt64)))), (6, .int (iI (((vct μ) i)))), (0, .ref ((ubg G))), (3, .ref ((uac G))), (4, .int (iI 4))]) hx hb dX6_digest_366 hl (k := 5) rfl (by decide) rfl (fun ls hl => ?_)
                          refine lv_goto (tgt := 345) hx hb dX6_digest_369 (by decide) ?_
                          exact ih_LP345 _ (by omega) (i + 1) (sv * 31 + ((iI ((vct μ) i)).toInt64)) _ _ (by omega) (by rw [hI, itrP_s (by omega)]; first | (rw [hJ, mxP_e (by omega)]; done) | rfl) (hP) (hD) (hS) rfl ls (lv_sub hl [3, 1, 4, 5, 0] rfl)
                    exact LP345 _ 0 sv _ _ (by omega) (by rw [hI, show itrP (dmSh μ) i 2 sv = sv from itrP_e (by omega)]) (hP) (hD) (hS) rfl ls (lv_sub hl [3, 4, 2, 1, 0] rfl)
                  · refine lv_aload_n hx hb dX6_digest_245 rfl (lv_at hl 2 rfl) ?_
                    refine lv_iload hx hb dX6_digest_246 (lv_at hl 4 rfl) ?_
                    refine q_aald C0 hP hC.2.2.1.1 hC.2.2.1.2 (t := 3) rfl (by omega) (by decide) (v := .ref ((urh G (vsh μ i)))) rfl dX6_digest_248 ?_
                    refine lv_astore (lv' := [(6, .ref ((urh G (vsh μ i)))), (0, .ref ((ubg G))), (1, .long (sv)), (3, .ref ((uas G))), (4, .int (iI 3)), (5, .int (iI i))]) hx hb dX6_digest_249 hl (by decide) rfl (fun ls hl => ?_)
                    refine lv_lload_n hx hb dX6_digest_251 rfl (lv_at hl 2 rfl) ?_
                    refine lv_aload hx hb dX6_digest_252 (lv_at hl 0 rfl) ?_
                    refine q_iconst hx hb dX6_digest_254 ?_
                    refine q_bipush hx hb dX6_digest_255 (by decide) ?_
                    refine q_vS C0 lX6_67 (c_X5_many l D y L F (urh G (vsh μ i)) (urw G (vsh μ i)) (vod μ (vsh μ i)) (vst μ (vsh μ i)) 0 99 (MP_r hC (hW.2.1 i)) (by omega) (by omega)) ⟨rfl, rfl⟩ rfl hP (MP_r hC (hW.2.1 i)).1 (MP_r hC (hW.2.1 i)).2.1 rfl rfl rfl hl rfl (Nat.le_of_ble_eq_true rfl) dX6_digest_257 ⟨Nat.zero_le _, Nat.zero_le _⟩ (fun r12 e_r12 => ?_)
                    subst e_r12
                    refine lv_i2l hx hb dX6_digest_260 rfl ?_
                    refine q_sSl C0 lX6_206 (c_X6_add l D y L F sv ((iI (cntP (vst μ (vsh μ i)) 0 99)).toInt64)) ⟨rfl, rfl⟩ rfl hP rfl hl rfl (Nat.le_of_ble_eq_true rfl) dX6_digest_261 ⟨Nat.zero_le _, Nat.zero_le _⟩ (fun r13 e_r13 => ?_)
                    subst e_r13
                    refine lv_aload hx hb dX6_digest_264 (lv_at hl 0 rfl) ?_
                    refine q_getN C0 iX5 hP (MP_r hC (hW.2.1 i)).1 (MP_r hC (hW.2.1 i)).2.1 rfl 0 (by decide) C0.2.2.2.2.2.2.2.1 rfl (v := .int (iI ((vod μ (vsh μ i))))) rfl dX6_digest_266 ?_
                    refine lv_i2l hx hb dX6_digest_269 rfl ?_
                    refine q_sSl C0 lX6_206 (c_X6_add l D y L F (sv * 31 + ((iI (cntP (vst μ (vsh μ i)) 0 99)).toInt64)) ((iI (vod μ (vsh μ i))).toInt64)) ⟨rfl, rfl⟩ rfl hP rfl hl rfl (Nat.le_of_ble_eq_true rfl) dX6_digest_270 ⟨Nat.zero_le _, Nat.zero_le _⟩ (fun r14 e_r14 => ?_)
                    subst e_r14
                    refine lv_aload hx hb dX6_digest_273 (lv_at hl 0 rfl) ?_
                    refine q_sS C0 lX6_200 (c_X6_sum_ l D y L F (urh G (vsh μ i)) (urw G (vsh μ i)) (vod μ (vsh μ i)) (vst μ (vsh μ i)) (MP_r hC (hW.2.1 i))) ⟨rfl, rfl⟩ rfl hP rfl hl rfl (Nat.le_of_ble_eq_true rfl) dX6_digest_275 ⟨Nat.zero_le _, Nat.zero_le _⟩ (fun r15 e_r15 => ?_)
                    subst e_r15
                    refine lv_i2l hx hb dX6_digest_278 rfl ?_
                    refine q_sSl C0 lX6_206 (c_X6_add l D y L F ((sv * 31 + ((iI (cntP (vst μ (vsh μ i)) 0 99)).toInt64)) * 31 + ((iI (vod μ (vsh μ i))).toInt64)) ((iI (sumM (vod μ (vsh μ i)) (vst μ (vsh μ i)))).toInt64)) ⟨rfl, rfl⟩ rfl hP rfl hl rfl (Nat.le_of_ble_eq_true rfl) dX6_digest_279 ⟨Nat.zero_le _, Nat.zero_le _⟩ (fun r16 e_r16 => ?_)
                    subst e_r16
                    refine lv_lstore_n (lv' := [(1, .long ((((sv * 31 + ((iI (cntP (vst μ (vsh μ i)) 0 99)).toInt64)) * 31 + ((iI (vod μ (vsh μ i))).toInt64)) * 31 + ((iI (sumM (vod μ (vsh μ i)) (vst μ (vsh μ i)))).toInt64)))), (6, .ref ((urh G (vsh μ i)))), (0, .ref ((ubg G))), (3, .ref ((uas G))), (4, .int (iI 3)), (5, .int (iI i))]) hx hb dX6_digest_282 rfl hl (by decide) rfl (fun ls hl => ?_)
                    refine q_iconst hx hb dX6_digest_283 ?_
                    refine lv_istore (lv' := [(7, .int (iI 0)), (1, .long ((((sv * 31 + ((iI (cntP (vst μ (vsh μ i)) 0 99)).toInt64)) * 31 + ((iI (vod μ (vsh μ i))).toInt64)) * 31 + ((iI (sumM (vod μ (vsh μ i)) (vst μ (vsh μ i)))).toInt64)))), (6, .ref ((urh G (vsh μ i)))), (0, .ref ((ubg G))), (3, .ref ((uas G))), (4, .int (iI 3)), (5, .int (iI i))]) hx hb dX6_digest_284 hl (by decide) rfl (fun ls hl => ?_)
                    have LP286 : ∀ (n_LP286 : Nat) (r : Int) (tv : Int64) (H : Heap) (locs : List Loc), (0 ≤ r ∧ r ≤ 100) → (dmSh μ i sv = mxP (turn (vod μ (vsh μ i))) (vst μ (vsh μ i)) r tv) → (va_P D vwCl (va_pl L F) H) → (va_D (AL L sz) (va_pl L F)) → (va_S (AL L sz) s.heap H locs) → (100 - r).toNat = n_LP286 → ∀ ls : Array Slot, lv_has ls 8 [(0, .ref ((ubg G))), (1, .long (tv)), (3, .ref ((uas G))), (4, .int (iI 3)), (5, .int (iI i)), (6, .ref ((urh G (vsh μ i)))), (7, .int (iI r))] → W p l e ({ frames := 3, cells := 0, slots := 0, locals := 66 } : Room) s m [.ref ((ubg G))].toArray below meth c H locs 0 0 (MQ below (cMl D (AL L sz) (fun r L1 F1 => r = jR_digest0 μ ∧ ∃ (O1 : Nat → Prop) (G1 : MG), MP y L1 F1 O1 G1 (jS_digest0 μ) ∧ ubg G1 = ubg G ∧ Ext O O1 L L1 F F1)) [.ref ((ubg G))].toArray s 0 0 (AL L sz)) (F0 m 286 ls []) := by
                      intro n_LP286
                      induction n_LP286 using Nat.strongRecOn with
                      | ind n_LP286 ih_LP286 =>
                        intro r tv H locs hr hJ hP hD hS hm_LP286 ls hl
                        refine lv_iload hx hb dX6_digest_286 (lv_at hl 6 rfl) ?_
                        refine q_bipush hx hb dX6_digest_288 (by decide) ?_
                        refine q_icmp_ge hx hb dX6_digest_290 (tgt := 327) (by decide) (by omega) (by omega) (fun c17 => ?_) (fun c17 => ?_)
                        · refine q_iinc (x := i) (n := 1) (lv' := [(5, .int (iI ((i + 1)))), (0, .ref ((ubg G))), (1, .long (tv)), (3, .ref ((uas G))), (4, .int (iI 3)), (6, .ref ((urh G (vsh μ i)))), (7, .int (iI r))]) hx hb dX6_digest_327 hl (k := 4) rfl (by decide) rfl (fun ls hl => ?_)
                          refine lv_goto (tgt := 238) hx hb dX6_digest_330 (by decide) ?_
                          exact ih_LP238 _ (by omega) (i + 1) tv _ _ (by omega) (by rw [hI, itrP_s (by omega)]; first | (rw [hJ, mxP_e (by omega)]; done) | rfl) (hP) (hD) (hS) rfl ls (lv_sub hl [1, 2, 3, 4, 0] rfl)
                        · refine lv_aload hx hb dX6_digest_293 (lv_at hl 5 rfl) ?_
                          refine lv_aload hx hb dX6_digest_295 (lv_at hl 5 rfl) ?_
                          refine lv_iload hx hb dX6_digest_297 (lv_at hl 6 rfl) ?_
                          refine q_vS C0 lX6_100 (c_X5_key l D y L F (urh G (vsh μ i)) (urw G (vsh μ i)) (vod μ (vsh μ i)) (vst μ (vsh μ i)) r (MP_r hC (hW.2.1 i)) (by omega)) ⟨rfl, rfl⟩ rfl hP (MP_r hC (hW.2.1 i)).1 (MP_r hC (hW.2.1 i)).2.1 rfl rfl rfl hl rfl (Nat.le_of_ble_eq_true rfl) dX6_digest_299 ⟨Nat.zero_le _, Nat.zero_le _⟩ (fun r18 e_r18 => ?_)
                          subst e_r18
                          have b_19 := @turn_b (vod μ (vsh μ i)) r (by omega)
                          refine q_vS C0 lX6_49 (c_X5_has l D y L F (urh G (vsh μ i)) (urw G (vsh μ i)) (vod μ (vsh μ i)) (vst μ (vsh μ i)) (turn (vod μ (vsh μ i)) r) (MP_r hC (hW.2.1 i)) (by omega)) ⟨rfl, rfl⟩ rfl hP (MP_r hC (hW.2.1 i)).1 (MP_r hC (hW.2.1 i)).2.1 rfl rfl rfl hl rfl (Nat.le_of_ble_eq_true rfl) dX6_digest_302 ⟨Nat.zero_le _, Nat.zero_le _⟩ (fun r20 e_r20 => ?_)
                          subst e_r20
                          have b_21 := isT_b (vst μ (vsh μ i)) (turn (vod μ (vsh μ i)) (turn (vod μ (vsh μ i)) r))
                          refine q_if_eq hx hb dX6_digest_305 (tgt := 321) (by decide) (by omega) (fun c22 => ?_) (fun c22 => ?_)
                          · have t_ := isT_turn (vst μ (vsh μ i)) (vod μ (vsh μ i)) (r := r) (by omega)
                            refine q_iinc (x := r) (n := 1) (lv' := [(7, .int (iI ((r + 1)))), (0, .ref ((ubg G))), (1, .long (tv)), (3, .ref ((uas G))), (4, .int (iI 3)), (5, .int (iI i)), (6, .ref ((urh G (vsh μ i))))]) hx hb dX6_digest_321 hl (k := 6) rfl (by decide) rfl (fun ls hl => ?_)
                            refine lv_goto (tgt := 286) hx hb dX6_digest_324 (by decide) ?_
                            exact ih_LP286 _ (by omega) (r + 1) tv _ _ (by omega) (by rw [hJ, mxP_u (by omega)]; first | (rw [if_pos (by omega)]; done) | (rw [if_neg (by omega)]; done) | (rw [if_pos (by omega)]; rfl) | (rw [if_neg (by omega)]; rfl)) (hP) (hD) (hS) rfl ls (lv_sub hl [1, 2, 3, 4, 5, 6, 0] rfl)
                          · have t_ := isT_turn (vst μ (vsh μ i)) (vod μ (vsh μ i)) (r := r) (by omega)
                            refine lv_lload_n hx hb dX6_digest_308 rfl (lv_at hl 1 rfl) ?_
                            refine lv_aload hx hb dX6_digest_309 (lv_at hl 5 rfl) ?_
                            refine lv_iload hx hb dX6_digest_311 (lv_at hl 6 rfl) ?_
                            refine q_vS C0 lX6_100 (c_X5_key l D y L F (urh G (vsh μ i)) (urw G (vsh μ i)) (vod μ (vsh μ i)) (vst μ (vsh μ i)) r (MP_r hC (hW.2.1 i)) (by omega)) ⟨rfl, rfl⟩ rfl hP (MP_r hC (hW.2.1 i)).1 (MP_r hC (hW.2.1 i)).2.1 rfl rfl rfl hl rfl (Nat.le_of_ble_eq_true rfl) dX6_digest_313 ⟨Nat.zero_le _, Nat.zero_le _⟩ (fun r23 e_r23 => ?_)
                            subst e_r23
                            have b_24 := @turn_b (vod μ (vsh μ i)) r (by omega)
                            refine lv_i2l hx hb dX6_digest_316 rfl ?_
                            refine q_sSl C0 lX6_206 (c_X6_add l D y L F tv ((iI (turn (vod μ (vsh μ i)) r)).toInt64)) ⟨rfl, rfl⟩ rfl hP rfl hl rfl (Nat.le_of_ble_eq_true rfl) dX6_digest_317 ⟨Nat.zero_le _, Nat.zero_le _⟩ (fun r25 e_r25 => ?_)
                            subst e_r25
                            refine lv_lstore_n (lv' := [(1, .long ((tv * 31 + ((iI (turn (vod μ (vsh μ i)) r)).toInt64)))), (0, .ref ((ubg G))), (3, .ref ((uas G))), (4, .int (iI 3)), (5, .int (iI i)), (6, .ref ((urh G (vsh μ i)))), (7, .int (iI r))]) hx hb dX6_digest_320 rfl hl (by decide) rfl (fun ls hl => ?_)
                            refine q_iinc (x := r) (n := 1) (lv' := [(7, .int (iI ((r + 1)))), (1, .long ((tv * 31 + ((iI (turn (vod μ (vsh μ i)) r)).toInt64)))), (0, .ref ((ubg G))), (3, .ref ((uas G))), (4, .int (iI 3)), (5, .int (iI i)), (6, .ref ((urh G (vsh μ i))))]) hx hb dX6_digest_321 hl (k := 6) rfl (by decide) rfl (fun ls hl => ?_)
                            refine lv_goto (tgt := 286) hx hb dX6_digest_324 (by decide) ?_
                            exact ih_LP286 _ (by omega) (r + 1) (tv * 31 + ((iI (turn (vod μ (vsh μ i)) r)).toInt64)) _ _ (by omega) (by rw [hJ, mxP_u (by omega)]; first | (rw [if_pos (by omega)]; done) | (rw [if_neg (by omega)]; done) | (rw [if_pos (by omega)]; rfl) | (rw [if_neg (by omega)]; rfl)) (hP) (hD) (hS) rfl ls (lv_sub hl [2, 1, 3, 4, 5, 6, 0] rfl)
                    exact LP286 _ 0 (((sv * 31 + ((iI (cntP (vst μ (vsh μ i)) 0 99)).toInt64)) * 31 + ((iI (vod μ (vsh μ i))).toInt64)) * 31 + ((iI (sumM (vod μ (vsh μ i)) (vst μ (vsh μ i)))).toInt64)) _ _ (by omega) (rfl) (hP) (hD) (hS) rfl ls (lv_sub hl [3, 1, 4, 5, 6, 2, 0] rfl)
              exact LP238 _ 0 ((sv * 31 + 0) * 31 + ((iI (vtd μ)).toInt64)) _ _ (by omega) (by unfold dm3; rw [hI, show itrP (dmVw μ) i 1 sv = sv from itrP_e (by omega)]; rfl) (hP) (hD) (hS) rfl ls (lv_sub hl [4, 3, 2, 1, 0] rfl)
            · have vb_ := hW.2.2.2.2.1 i
              refine lv_lload_n hx hb dX6_digest_123 rfl (lv_at hl 1 rfl) ?_
              refine lv_aload_n hx hb dX6_digest_124 rfl (lv_at hl 0 rfl) ?_
              refine lv_iload_n hx hb dX6_digest_125 rfl (lv_at hl 2 rfl) ?_
              refine q_vS C0 lX6_171 (c_X6_seen l D y L F O G μ i hC (by omega) (hW.2.2.1 i) ⟨(hW.2.2.2.2.1 i).1, (hW.2.2.2.2.1 i).2.1⟩ (hW.2.2.2.2.1 i).2.2) ⟨rfl, rfl⟩ rfl hP (MP_o0 hC hwk).1 (MP_o0 hC hwk).2 rfl rfl rfl hl rfl (Nat.le_of_ble_eq_true rfl) dX6_digest_126 ⟨Nat.zero_le _, Nat.zero_le _⟩ (fun r26 e_r26 => ?_)
              replace e_r26 : r26 = cntP (vst μ (vvw μ i)) (vvl μ i) (vvh μ i) := e_r26.trans (by first | rfl | (rw [show vvw μ i = vvw μ i from (by first | rfl | exact iu_s _ _ _), show vvl μ i = vvl μ i from (by first | rfl | exact iu_s _ _ _), show vvh μ i = vvh μ i from (by first | rfl | exact iu_s _ _ _)]; done) | (rw [show vvw μ i = vvw μ i from (by first | rfl | exact iu_s _ _ _), show vvl μ i = vvl μ i from (by first | rfl | exact iu_s _ _ _), show vvh μ i = vvh μ i from (by first | rfl | exact iu_s _ _ _)]; rfl))
              subst e_r26
              refine lv_i2l hx hb dX6_digest_129 rfl ?_
              refine q_sSl C0 lX6_206 (c_X6_add l D y L F sv ((iI (cntP (vst μ (vvw μ i)) (vvl μ i) (vvh μ i))).toInt64)) ⟨rfl, rfl⟩ rfl hP rfl hl rfl (Nat.le_of_ble_eq_true rfl) dX6_digest_130 ⟨Nat.zero_le _, Nat.zero_le _⟩ (fun r27 e_r27 => ?_)
              subst e_r27
              refine lv_aload_n hx hb dX6_digest_133 rfl (lv_at hl 0 rfl) ?_
              refine q_get C0 iX6 hP (MP_o0 hC hwk).1 (MP_o0 hC hwk).2 rfl 2 (by decide) flX6_18 rfl (v := .ref ((uav G))) rfl dX6_digest_134 ?_
              refine lv_iload_n hx hb dX6_digest_137 rfl (lv_at hl 2 rfl) ?_
              refine q_aald C0 hP hC.2.2.2.1.1 hC.2.2.2.1.2 (t := 3) rfl (by omega) (by decide) (v := .ref ((urh G (vvw μ i)))) rfl dX6_digest_138 ?_
              refine lv_aload_n hx hb dX6_digest_139 rfl (lv_at hl 0 rfl) ?_
              refine q_get C0 iX6 hP (MP_o0 hC hwk).1 (MP_o0 hC hwk).2 rfl 3 (by decide) flX6_21 rfl (v := .ref ((uaf G))) rfl dX6_digest_140 ?_
              refine lv_iload_n hx hb dX6_digest_143 rfl (lv_at hl 2 rfl) ?_
              refine q_iald C0 hP (f := (vvl μ)) hC.2.2.2.2.1.1 hC.2.2.2.2.1.2 (by omega) (by decide) dX6_digest_144 ?_
              refine lv_aload_n hx hb dX6_digest_145 rfl (lv_at hl 0 rfl) ?_
              refine q_get C0 iX6 hP (MP_o0 hC hwk).1 (MP_o0 hC hwk).2 rfl 4 (by decide) flX6_25 rfl (v := .ref ((uat G))) rfl dX6_digest_146 ?_
              refine lv_iload_n hx hb dX6_digest_149 rfl (lv_at hl 2 rfl) ?_
              refine q_iald C0 hP (f := (vvh μ)) hC.2.2.2.2.2.1.1 hC.2.2.2.2.2.1.2 (by omega) (by decide) dX6_digest_150 ?_
              refine q_vS C0 lX6_111 (c_X5_first l D y L F (urh G (vvw μ i)) (urw G (vvw μ i)) (vod μ (vvw μ i)) (vst μ (vvw μ i)) ((vvl μ) i) ((vvh μ) i) (MP_r hC (hW.2.2.1 i)) (by omega) (by omega)) ⟨rfl, rfl⟩ rfl hP (MP_r hC (hW.2.2.1 i)).1 (MP_r hC (hW.2.2.1 i)).2.1 rfl rfl rfl hl rfl (Nat.le_of_ble_eq_true rfl) dX6_digest_151 ⟨Nat.zero_le _, Nat.zero_le _⟩ (fun r28 e_r28 => ?_)
              subst e_r28
              have b_29 := @keyR_b (vod μ (vvw μ i)) (firP (vst μ (vvw μ i)) ((vvl μ) i) ((vvh μ) i)) (firP_r (vst μ (vvw μ i)) ((vvl μ) i) ((vvh μ) i))
              refine lv_i2l hx hb dX6_digest_154 rfl ?_
              refine q_sSl C0 lX6_206 (c_X6_add l D y L F (sv * 31 + ((iI (cntP (vst μ (vvw μ i)) (vvl μ i) (vvh μ i))).toInt64)) ((iI (keyR (vod μ (vvw μ i)) (firP (vst μ (vvw μ i)) ((vvl μ) i) ((vvh μ) i)))).toInt64)) ⟨rfl, rfl⟩ rfl hP rfl hl rfl (Nat.le_of_ble_eq_true rfl) dX6_digest_155 ⟨Nat.zero_le _, Nat.zero_le _⟩ (fun r30 e_r30 => ?_)
              subst e_r30
              refine lv_lstore_n (lv' := [(1, .long (((sv * 31 + ((iI (cntP (vst μ (vvw μ i)) (vvl μ i) (vvh μ i))).toInt64)) * 31 + ((iI (keyR (vod μ (vvw μ i)) (firP (vst μ (vvw μ i)) ((vvl μ) i) ((vvh μ) i)))).toInt64)))), (0, .ref ((ubg G))), (3, .int (iI i))]) hx hb dX6_digest_158 rfl hl (by decide) rfl (fun ls hl => ?_)
              refine lv_lload_n hx hb dX6_digest_159 rfl (lv_at hl 0 rfl) ?_
              refine lv_aload_n hx hb dX6_digest_160 rfl (lv_at hl 1 rfl) ?_
              refine q_get C0 iX6 hP (MP_o0 hC hwk).1 (MP_o0 hC hwk).2 rfl 2 (by decide) flX6_18 rfl (v := .ref ((uav G))) rfl dX6_digest_161 ?_
              refine lv_iload_n hx hb dX6_digest_164 rfl (lv_at hl 2 rfl) ?_
              refine q_aald C0 hP hC.2.2.2.1.1 hC.2.2.2.1.2 (t := 3) rfl (by omega) (by decide) (v := .ref ((urh G (vvw μ i)))) rfl dX6_digest_165 ?_
              refine lv_aload_n hx hb dX6_digest_166 rfl (lv_at hl 1 rfl) ?_
              refine q_get C0 iX6 hP (MP_o0 hC hwk).1 (MP_o0 hC hwk).2 rfl 3 (by decide) flX6_21 rfl (v := .ref ((uaf G))) rfl dX6_digest_167 ?_
              refine lv_iload_n hx hb dX6_digest_170 rfl (lv_at hl 2 rfl) ?_
              refine q_iald C0 hP (f := (vvl μ)) hC.2.2.2.2.1.1 hC.2.2.2.2.1.2 (by omega) (by decide) dX6_digest_171 ?_
              refine lv_aload_n hx hb dX6_digest_172 rfl (lv_at hl 1 rfl) ?_
              refine q_get C0 iX6 hP (MP_o0 hC hwk).1 (MP_o0 hC hwk).2 rfl 4 (by decide) flX6_25 rfl (v := .ref ((uat G))) rfl dX6_digest_173 ?_
              refine lv_iload_n hx hb dX6_digest_176 rfl (lv_at hl 2 rfl) ?_
              refine q_iald C0 hP (f := (vvh μ)) hC.2.2.2.2.2.1.1 hC.2.2.2.2.2.1.2 (by omega) (by decide) dX6_digest_177 ?_
              refine q_vS C0 lX6_114 (c_X5_last l D y L F (urh G (vvw μ i)) (urw G (vvw μ i)) (vod μ (vvw μ i)) (vst μ (vvw μ i)) ((vvl μ) i) ((vvh μ) i) (MP_r hC (hW.2.2.1 i)) (by omega) (by omega)) ⟨rfl, rfl⟩ rfl hP (MP_r hC (hW.2.2.1 i)).1 (MP_r hC (hW.2.2.1 i)).2.1 rfl rfl rfl hl rfl (Nat.le_of_ble_eq_true rfl) dX6_digest_178 ⟨Nat.zero_le _, Nat.zero_le _⟩ (fun r31 e_r31 => ?_)
              subst e_r31
              have b_32 := @keyR_b (vod μ (vvw μ i)) (lasP (vst μ (vvw μ i)) ((vvl μ) i) ((vvh μ) i)) (lasP_r (vst μ (vvw μ i)) ((vvl μ) i) ((vvh μ) i))
              refine lv_i2l hx hb dX6_digest_181 rfl ?_
              refine q_sSl C0 lX6_206 (c_X6_add l D y L F ((sv * 31 + ((iI (cntP (vst μ (vvw μ i)) (vvl μ i) (vvh μ i))).toInt64)) * 31 + ((iI (keyR (vod μ (vvw μ i)) (firP (vst μ (vvw μ i)) ((vvl μ) i) ((vvh μ) i)))).toInt64)) ((iI (keyR (vod μ (vvw μ i)) (lasP (vst μ (vvw μ i)) ((vvl μ) i) ((vvh μ) i)))).toInt64)) ⟨rfl, rfl⟩ rfl hP rfl hl rfl (Nat.le_of_ble_eq_true rfl) dX6_digest_182 ⟨Nat.zero_le _, Nat.zero_le _⟩ (fun r33 e_r33 => ?_)
              subst e_r33
              refine lv_aload_n hx hb dX6_digest_185 rfl (lv_at hl 1 rfl) ?_
              refine lv_iload_n hx hb dX6_digest_186 rfl (lv_at hl 2 rfl) ?_
              refine q_vS C0 lX6_183 (c_X6_sum l D y L F O G μ i hC (by omega) (hW.2.2.1 i) ⟨(hW.2.2.2.2.1 i).1, (hW.2.2.2.2.1 i).2.1⟩ (hW.2.2.2.2.1 i).2.2) ⟨rfl, rfl⟩ rfl hP (MP_o0 hC hwk).1 (MP_o0 hC hwk).2 rfl rfl rfl hl rfl (Nat.le_of_ble_eq_true rfl) dX6_digest_187 ⟨Nat.zero_le _, Nat.zero_le _⟩ (fun r34 e_r34 => ?_)
              replace e_r34 : r34 = sumP (wmU (vst μ (vvw μ i))) (vvl μ i) (vvh μ i) := e_r34.trans (by first | rfl | (rw [show vvw μ i = vvw μ i from (by first | rfl | exact iu_s _ _ _), show vvl μ i = vvl μ i from (by first | rfl | exact iu_s _ _ _), show vvh μ i = vvh μ i from (by first | rfl | exact iu_s _ _ _)]; done) | (rw [show vvw μ i = vvw μ i from (by first | rfl | exact iu_s _ _ _), show vvl μ i = vvl μ i from (by first | rfl | exact iu_s _ _ _), show vvh μ i = vvh μ i from (by first | rfl | exact iu_s _ _ _)]; rfl))
              subst e_r34
              refine lv_i2l hx hb dX6_digest_190 rfl ?_
              refine q_sSl C0 lX6_206 (c_X6_add l D y L F (((sv * 31 + ((iI (cntP (vst μ (vvw μ i)) (vvl μ i) (vvh μ i))).toInt64)) * 31 + ((iI (keyR (vod μ (vvw μ i)) (firP (vst μ (vvw μ i)) ((vvl μ) i) ((vvh μ) i)))).toInt64)) * 31 + ((iI (keyR (vod μ (vvw μ i)) (lasP (vst μ (vvw μ i)) ((vvl μ) i) ((vvh μ) i)))).toInt64)) ((iI (sumP (wmU (vst μ (vvw μ i))) (vvl μ i) (vvh μ i))).toInt64)) ⟨rfl, rfl⟩ rfl hP rfl hl rfl (Nat.le_of_ble_eq_true rfl) dX6_digest_191 ⟨Nat.zero_le _, Nat.zero_le _⟩ (fun r35 e_r35 => ?_)
              subst e_r35
              refine lv_lstore_n (lv' := [(1, .long (((((sv * 31 + ((iI (cntP (vst μ (vvw μ i)) (vvl μ i) (vvh μ i))).toInt64)) * 31 + ((iI (keyR (vod μ (vvw μ i)) (firP (vst μ (vvw μ i)) ((vvl μ) i) ((vvh μ) i)))).toInt64)) * 31 + ((iI (keyR (vod μ (vvw μ i)) (lasP (vst μ (vvw μ i)) ((vvl μ) i) ((vvh μ) i)))).toInt64)) * 31 + ((iI (sumP (wmU (vst μ (vvw μ i))) (vvl μ i) (vvh μ i))).toInt64)))), (0, .ref ((ubg G))), (3, .int (iI i))]) hx hb dX6_digest_194 rfl hl (by decide) rfl (fun ls hl => ?_)
              refine q_iinc (x := i) (n := 1) (lv' := [(3, .int (iI ((i + 1)))), (1, .long (((((sv * 31 + ((iI (cntP (vst μ (vvw μ i)) (vvl μ i) (vvh μ i))).toInt64)) * 31 + ((iI (keyR (vod μ (vvw μ i)) (firP (vst μ (vvw μ i)) ((vvl μ) i) ((vvh μ) i)))).toInt64)) * 31 + ((iI (keyR (vod μ (vvw μ i)) (lasP (vst μ (vvw μ i)) ((vvl μ) i) ((vvh μ) i)))).toInt64)) * 31 + ((iI (sumP (wmU (vst μ (vvw μ i))) (vvl μ i) (vvh μ i))).toInt64)))), (0, .ref ((ubg G)))]) hx hb dX6_digest_195 hl (k := 2) rfl (by decide) rfl (fun ls hl => ?_)
              refine lv_goto (tgt := 118) hx hb dX6_digest_198 (by decide) ?_
              exact ih_LP118 _ (by omega) (i + 1) ((((sv * 31 + ((iI (cntP (vst μ (vvw μ i)) (vvl μ i) (vvh μ i))).toInt64)) * 31 + ((iI (keyR (vod μ (vvw μ i)) (firP (vst μ (vvw μ i)) ((vvl μ) i) ((vvh μ) i)))).toInt64)) * 31 + ((iI (keyR (vod μ (vvw μ i)) (lasP (vst μ (vvw μ i)) ((vvl μ) i) ((vvh μ) i)))).toInt64)) * 31 + ((iI (sumP (wmU (vst μ (vvw μ i))) (vvl μ i) (vvh μ i))).toInt64)) _ _ (by omega) (by rw [hI, itrP_s (by omega)]; first | (rw [hJ, mxP_e (by omega)]; done) | rfl) (hP) (hD) (hS) rfl ls (lv_sub hl [2, 1, 0] rfl)
        exact LP118 _ 0 sv _ _ (by omega) (by rw [hI, show itrP (dmBk μ) i 3 sv = sv from itrP_e (by omega)]) (hP) (hD) (hS) rfl ls (lv_sub hl [1, 2, 0] rfl)
      · refine lv_aload_n hx hb dX6_digest_23 rfl (lv_at hl 2 rfl) ?_
        refine lv_iload hx hb dX6_digest_24 (lv_at hl 4 rfl) ?_
        refine q_aald C0 hP hC.2.1.1 hC.2.1.2 (t := 3) rfl (by omega) (by decide) (v := .ref ((urh G (vbk μ i)))) rfl dX6_digest_26 ?_
        refine lv_astore (lv' := [(6, .ref ((urh G (vbk μ i)))), (0, .ref ((ubg G))), (1, .long (sv)), (3, .ref ((uab G))), (4, .int (iI 4)), (5, .int (iI i))]) hx hb dX6_digest_27 hl (by decide) rfl (fun ls hl => ?_)
        refine lv_lload_n hx hb dX6_digest_29 rfl (lv_at hl 2 rfl) ?_
        refine lv_aload hx hb dX6_digest_30 (lv_at hl 0 rfl) ?_
        refine q_iconst hx hb dX6_digest_32 ?_
        refine q_bipush hx hb dX6_digest_33 (by decide) ?_
        refine q_vS C0 lX6_67 (c_X5_many l D y L F (urh G (vbk μ i)) (urw G (vbk μ i)) (vod μ (vbk μ i)) (vst μ (vbk μ i)) 0 99 (MP_r hC (hW.1 i)) (by omega) (by omega)) ⟨rfl, rfl⟩ rfl hP (MP_r hC (hW.1 i)).1 (MP_r hC (hW.1 i)).2.1 rfl rfl rfl hl rfl (Nat.le_of_ble_eq_true rfl) dX6_digest_35 ⟨Nat.zero_le _, Nat.zero_le _⟩ (fun r36 e_r36 => ?_)
        subst e_r36
        refine lv_i2l hx hb dX6_digest_38 rfl ?_
        refine q_sSl C0 lX6_206 (c_X6_add l D y L F sv ((iI (cntP (vst μ (vbk μ i)) 0 99)).toInt64)) ⟨rfl, rfl⟩ rfl hP rfl hl rfl (Nat.le_of_ble_eq_true rfl) dX6_digest_39 ⟨Nat.zero_le _, Nat.zero_le _⟩ (fun r37 e_r37 => ?_)
        subst e_r37
        refine lv_aload hx hb dX6_digest_42 (lv_at hl 0 rfl) ?_
        refine q_getN C0 iX5 hP (MP_r hC (hW.1 i)).1 (MP_r hC (hW.1 i)).2.1 rfl 0 (by decide) C0.2.2.2.2.2.2.2.1 rfl (v := .int (iI ((vod μ (vbk μ i))))) rfl dX6_digest_44 ?_
        refine lv_i2l hx hb dX6_digest_47 rfl ?_
        refine q_sSl C0 lX6_206 (c_X6_add l D y L F (sv * 31 + ((iI (cntP (vst μ (vbk μ i)) 0 99)).toInt64)) ((iI (vod μ (vbk μ i))).toInt64)) ⟨rfl, rfl⟩ rfl hP rfl hl rfl (Nat.le_of_ble_eq_true rfl) dX6_digest_48 ⟨Nat.zero_le _, Nat.zero_le _⟩ (fun r38 e_r38 => ?_)
        subst e_r38
        refine lv_aload hx hb dX6_digest_51 (lv_at hl 0 rfl) ?_
        refine q_sS C0 lX6_131 (c_X6_hash l D y L F (urh G (vbk μ i)) (urw G (vbk μ i)) (vod μ (vbk μ i)) (vst μ (vbk μ i)) (MP_r hC (hW.1 i))) ⟨rfl, rfl⟩ rfl hP rfl hl rfl (Nat.le_of_ble_eq_true rfl) dX6_digest_53 ⟨Nat.zero_le _, Nat.zero_le _⟩ (fun r39 e_r39 => ?_)
        subst e_r39
        refine lv_i2l hx hb dX6_digest_56 rfl ?_
        refine q_sSl C0 lX6_206 (c_X6_add l D y L F ((sv * 31 + ((iI (cntP (vst μ (vbk μ i)) 0 99)).toInt64)) * 31 + ((iI (vod μ (vbk μ i))).toInt64)) ((iI (hashM (vod μ (vbk μ i)) (vst μ (vbk μ i)))).toInt64)) ⟨rfl, rfl⟩ rfl hP rfl hl rfl (Nat.le_of_ble_eq_true rfl) dX6_digest_57 ⟨Nat.zero_le _, Nat.zero_le _⟩ (fun r40 e_r40 => ?_)
        subst e_r40
        refine lv_lstore_n (lv' := [(1, .long ((((sv * 31 + ((iI (cntP (vst μ (vbk μ i)) 0 99)).toInt64)) * 31 + ((iI (vod μ (vbk μ i))).toInt64)) * 31 + ((iI (hashM (vod μ (vbk μ i)) (vst μ (vbk μ i)))).toInt64)))), (6, .ref ((urh G (vbk μ i)))), (0, .ref ((ubg G))), (3, .ref ((uab G))), (4, .int (iI 4)), (5, .int (iI i))]) hx hb dX6_digest_60 rfl hl (by decide) rfl (fun ls hl => ?_)
        refine q_iconst hx hb dX6_digest_61 ?_
        refine lv_istore (lv' := [(7, .int (iI 0)), (1, .long ((((sv * 31 + ((iI (cntP (vst μ (vbk μ i)) 0 99)).toInt64)) * 31 + ((iI (vod μ (vbk μ i))).toInt64)) * 31 + ((iI (hashM (vod μ (vbk μ i)) (vst μ (vbk μ i)))).toInt64)))), (6, .ref ((urh G (vbk μ i)))), (0, .ref ((ubg G))), (3, .ref ((uab G))), (4, .int (iI 4)), (5, .int (iI i))]) hx hb dX6_digest_62 hl (by decide) rfl (fun ls hl => ?_)
        have LP64 : ∀ (n_LP64 : Nat) (r : Int) (tv : Int64) (H : Heap) (locs : List Loc), (0 ≤ r ∧ r ≤ 100) → (dmBk μ i sv = mxP (mpU (vod μ (vbk μ i)) (vst μ (vbk μ i))) (vst μ (vbk μ i)) r tv) → (va_P D vwCl (va_pl L F) H) → (va_D (AL L sz) (va_pl L F)) → (va_S (AL L sz) s.heap H locs) → (100 - r).toNat = n_LP64 → ∀ ls : Array Slot, lv_has ls 8 [(0, .ref ((ubg G))), (1, .long (tv)), (3, .ref ((uab G))), (4, .int (iI 4)), (5, .int (iI i)), (6, .ref ((urh G (vbk μ i)))), (7, .int (iI r))] → W p l e ({ frames := 3, cells := 0, slots := 0, locals := 66 } : Room) s m [.ref ((ubg G))].toArray below meth c H locs 0 0 (MQ below (cMl D (AL L sz) (fun r L1 F1 => r = jR_digest0 μ ∧ ∃ (O1 : Nat → Prop) (G1 : MG), MP y L1 F1 O1 G1 (jS_digest0 μ) ∧ ubg G1 = ubg G ∧ Ext O O1 L L1 F F1)) [.ref ((ubg G))].toArray s 0 0 (AL L sz)) (F0 m 64 ls []) := by
          intro n_LP64
          induction n_LP64 using Nat.strongRecOn with
          | ind n_LP64 ih_LP64 =>
            intro r tv H locs hr hJ hP hD hS hm_LP64 ls hl
            refine lv_iload hx hb dX6_digest_64 (lv_at hl 6 rfl) ?_
            refine q_bipush hx hb dX6_digest_66 (by decide) ?_
            refine q_icmp_ge hx hb dX6_digest_68 (tgt := 110) (by decide) (by omega) (by omega) (fun c41 => ?_) (fun c41 => ?_)
            · refine q_iinc (x := i) (n := 1) (lv' := [(5, .int (iI ((i + 1)))), (0, .ref ((ubg G))), (1, .long (tv)), (3, .ref ((uab G))), (4, .int (iI 4)), (6, .ref ((urh G (vbk μ i)))), (7, .int (iI r))]) hx hb dX6_digest_110 hl (k := 4) rfl (by decide) rfl (fun ls hl => ?_)
              refine lv_goto (tgt := 16) hx hb dX6_digest_113 (by decide) ?_
              exact ih_LP16 _ (by omega) (i + 1) tv _ _ (by omega) (by rw [hI, itrP_s (by omega)]; first | (rw [hJ, mxP_e (by omega)]; done) | rfl) (hP) (hD) (hS) rfl ls (lv_sub hl [1, 2, 3, 4, 0] rfl)
            · refine lv_aload hx hb dX6_digest_71 (lv_at hl 5 rfl) ?_
              refine lv_aload hx hb dX6_digest_73 (lv_at hl 5 rfl) ?_
              refine lv_iload hx hb dX6_digest_75 (lv_at hl 6 rfl) ?_
              refine q_vS C0 lX6_100 (c_X5_key l D y L F (urh G (vbk μ i)) (urw G (vbk μ i)) (vod μ (vbk μ i)) (vst μ (vbk μ i)) r (MP_r hC (hW.1 i)) (by omega)) ⟨rfl, rfl⟩ rfl hP (MP_r hC (hW.1 i)).1 (MP_r hC (hW.1 i)).2.1 rfl rfl rfl hl rfl (Nat.le_of_ble_eq_true rfl) dX6_digest_77 ⟨Nat.zero_le _, Nat.zero_le _⟩ (fun r42 e_r42 => ?_)
              subst e_r42
              have b_43 := @turn_b (vod μ (vbk μ i)) r (by omega)
              refine q_vS C0 lX6_49 (c_X5_has l D y L F (urh G (vbk μ i)) (urw G (vbk μ i)) (vod μ (vbk μ i)) (vst μ (vbk μ i)) (turn (vod μ (vbk μ i)) r) (MP_r hC (hW.1 i)) (by omega)) ⟨rfl, rfl⟩ rfl hP (MP_r hC (hW.1 i)).1 (MP_r hC (hW.1 i)).2.1 rfl rfl rfl hl rfl (Nat.le_of_ble_eq_true rfl) dX6_digest_80 ⟨Nat.zero_le _, Nat.zero_le _⟩ (fun r44 e_r44 => ?_)
              subst e_r44
              have b_45 := isT_b (vst μ (vbk μ i)) (turn (vod μ (vbk μ i)) (turn (vod μ (vbk μ i)) r))
              refine q_if_eq hx hb dX6_digest_83 (tgt := 104) (by decide) (by omega) (fun c46 => ?_) (fun c46 => ?_)
              · have t_ := isT_turn (vst μ (vbk μ i)) (vod μ (vbk μ i)) (r := r) (by omega)
                refine q_iinc (x := r) (n := 1) (lv' := [(7, .int (iI ((r + 1)))), (0, .ref ((ubg G))), (1, .long (tv)), (3, .ref ((uab G))), (4, .int (iI 4)), (5, .int (iI i)), (6, .ref ((urh G (vbk μ i))))]) hx hb dX6_digest_104 hl (k := 6) rfl (by decide) rfl (fun ls hl => ?_)
                refine lv_goto (tgt := 64) hx hb dX6_digest_107 (by decide) ?_
                exact ih_LP64 _ (by omega) (r + 1) tv _ _ (by omega) (by rw [hJ, mxP_u (by omega)]; first | (rw [if_pos (by omega)]; done) | (rw [if_neg (by omega)]; done) | (rw [if_pos (by omega)]; rfl) | (rw [if_neg (by omega)]; rfl)) (hP) (hD) (hS) rfl ls (lv_sub hl [1, 2, 3, 4, 5, 6, 0] rfl)
              · have t_ := isT_turn (vst μ (vbk μ i)) (vod μ (vbk μ i)) (r := r) (by omega)
                refine lv_lload_n hx hb dX6_digest_86 rfl (lv_at hl 1 rfl) ?_
                refine lv_aload hx hb dX6_digest_87 (lv_at hl 5 rfl) ?_
                refine lv_aload hx hb dX6_digest_89 (lv_at hl 5 rfl) ?_
                refine lv_iload hx hb dX6_digest_91 (lv_at hl 6 rfl) ?_
                refine q_vS C0 lX6_100 (c_X5_key l D y L F (urh G (vbk μ i)) (urw G (vbk μ i)) (vod μ (vbk μ i)) (vst μ (vbk μ i)) r (MP_r hC (hW.1 i)) (by omega)) ⟨rfl, rfl⟩ rfl hP (MP_r hC (hW.1 i)).1 (MP_r hC (hW.1 i)).2.1 rfl rfl rfl hl rfl (Nat.le_of_ble_eq_true rfl) dX6_digest_93 ⟨Nat.zero_le _, Nat.zero_le _⟩ (fun r47 e_r47 => ?_)
                subst e_r47
                have b_48 := @turn_b (vod μ (vbk μ i)) r (by omega)
                refine q_vS C0 lX6_117 (c_X5_pair l D y L F (urh G (vbk μ i)) (urw G (vbk μ i)) (vod μ (vbk μ i)) (vst μ (vbk μ i)) (turn (vod μ (vbk μ i)) r) (MP_r hC (hW.1 i)) (by omega)) ⟨rfl, rfl⟩ rfl hP (MP_r hC (hW.1 i)).1 (MP_r hC (hW.1 i)).2.1 rfl rfl rfl hl rfl (Nat.le_of_ble_eq_true rfl) dX6_digest_96 ⟨Nat.zero_le _, Nat.zero_le _⟩ (fun r49 e_r49 => ?_)
                subst e_r49
                refine lv_i2l hx hb dX6_digest_99 rfl ?_
                refine q_sSl C0 lX6_206 (c_X6_add l D y L F tv ((iI ((turn (vod μ (vbk μ i)) r) * 100 + (vst μ (vbk μ i)) (turn (vod μ (vbk μ i)) (turn (vod μ (vbk μ i)) r)))).toInt64)) ⟨rfl, rfl⟩ rfl hP rfl hl rfl (Nat.le_of_ble_eq_true rfl) dX6_digest_100 ⟨Nat.zero_le _, Nat.zero_le _⟩ (fun r50 e_r50 => ?_)
                subst e_r50
                refine lv_lstore_n (lv' := [(1, .long ((tv * 31 + ((iI ((turn (vod μ (vbk μ i)) r) * 100 + (vst μ (vbk μ i)) (turn (vod μ (vbk μ i)) (turn (vod μ (vbk μ i)) r)))).toInt64)))), (0, .ref ((ubg G))), (3, .ref ((uab G))), (4, .int (iI 4)), (5, .int (iI i)), (6, .ref ((urh G (vbk μ i)))), (7, .int (iI r))]) hx hb dX6_digest_103 rfl hl (by decide) rfl (fun ls hl => ?_)
                refine q_iinc (x := r) (n := 1) (lv' := [(7, .int (iI ((r + 1)))), (1, .long ((tv * 31 + ((iI ((turn (vod μ (vbk μ i)) r) * 100 + (vst μ (vbk μ i)) (turn (vod μ (vbk μ i)) (turn (vod μ (vbk μ i)) r)))).toInt64)))), (0, .ref ((ubg G))), (3, .ref ((uab G))), (4, .int (iI 4)), (5, .int (iI i)), (6, .ref ((urh G (vbk μ i))))]) hx hb dX6_digest_104 hl (k := 6) rfl (by decide) rfl (fun ls hl => ?_)
                refine lv_goto (tgt := 64) hx hb dX6_digest_107 (by decide) ?_
                exact ih_LP64 _ (by omega) (r + 1) (tv * 31 + ((iI ((turn (vod μ (vbk μ i)) r) * 100 + (vst μ (vbk μ i)) (turn (vod μ (vbk μ i)) (turn (vod μ (vbk μ i)) r)))).toInt64)) _ _ (by omega) (by rw [hJ, mxP_u (by omega)]; first | (rw [if_pos (by omega)]; done) | (rw [if_neg (by omega)]; done) | (rw [if_pos (by omega)]; rfl) | (rw [if_neg (by omega)]; rfl)) (hP) (hD) (hS) rfl ls (lv_sub hl [2, 1, 3, 4, 5, 6, 0] rfl)
        exact LP64 _ 0 (((sv * 31 + ((iI (cntP (vst μ (vbk μ i)) 0 99)).toInt64)) * 31 + ((iI (vod μ (vbk μ i))).toInt64)) * 31 + ((iI (hashM (vod μ (vbk μ i)) (vst μ (vbk μ i)))).toInt64)) _ _ (by omega) (rfl) (hP) (hD) (hS) rfl ls (lv_sub hl [3, 1, 4, 5, 6, 2, 0] rfl)
  exact LP16 _ 0 17706 _ _ (by omega) (rfl) (hP) (hD) (hS) rfl ls (lv_sub hl [4, 3, 2, 1, 0] rfl)
set_option maxHeartbeats 3000000 in
set_option maxRecDepth 100000 in
theorem c_X6_digest1 (l : Launch) (D : va_G) (y : Nat → ClassId) (L : List Nat) (F : Nat → va_E) (sz : Nat) (O : Nat → Prop) (G : MG) (μ : MS) (j : Nat) (hC : MP y L F O G μ) (hW : MW μ) (hwk : vwk μ = some j) : Met l yX6_digest (.code yX6_digest cX6_digest 8 (some .long) :: Tt) ({ frames := 3, cells := 0, slots := 0, locals := 66 }) (PcM D y L F sz [.ref ((ubg G))]) (cMl D (AL L sz) (fun r L1 F1 => r = jR_digest1 μ j ∧ ∃ (O1 : Nat → Prop) (G1 : MG), MP y L1 F1 O1 G1 (jS_digest1 μ j) ∧ ubg G1 = ubg G ∧ Ext O O1 L L1 F F1)) 0 0 (AL L sz) := by
  have hO : OE O F F := fun _ _ => rfl
  have hw5 := hW.2.2.2.2.2.1
  have hw6 := hW.2.2.2.2.2.2.1
  have cb_ := fun f => cntP_b f (lo := 0) (hi := 99) (by omega) (by omega)
  refine q_ofM (lv := [(0, .ref ((ubg G)))]) (by decide) (Nat.le_of_ble_eq_true rfl) rfl (fun p e s m below meth c C0 hret hlk hnm hA hP hD hS ls hl => ?_)
  have hx := C0.1.1
  have hb := C0.1.2.1
  have hts := C0.1.2.2.2.2
  refine lv_ldc2 (v := 17706) hx hb C0.1.2.2.2.1 (hts _ (List.mem_cons_of_mem _ cLX6_204)) dX6_digest_0 ?_
  refine lv_lstore_n (lv' := [(1, .long (17706)), (0, .ref ((ubg G)))]) hx hb dX6_digest_3 rfl hl (by decide) rfl (fun ls hl => ?_)
  refine lv_aload_n hx hb dX6_digest_4 rfl (lv_at hl 1 rfl) ?_
  refine q_get C0 iX6 hP (MP_o1 hC hwk).1 (MP_o1 hC hwk).2 rfl 0 (by decide) flX6_11 rfl (v := .ref ((uab G))) rfl dX6_digest_5 ?_
  refine lv_astore_n (lv' := [(3, .ref ((uab G))), (1, .long (17706)), (0, .ref ((ubg G)))]) hx hb dX6_digest_8 rfl hl (by decide) rfl (fun ls hl => ?_)
  refine lv_aload_n hx hb dX6_digest_9 rfl (lv_at hl 0 rfl) ?_
  refine q_alenq C0 hP hC.2.1.1 hC.2.1.2 dX6_digest_10 (t := 3) rfl ?_
  refine lv_istore (lv' := [(4, .int (iI 4)), (3, .ref ((uab G))), (1, .long (17706)), (0, .ref ((ubg G)))]) hx hb dX6_digest_11 hl (by decide) rfl (fun ls hl => ?_)
  refine q_iconst hx hb dX6_digest_13 ?_
  refine lv_istore (lv' := [(5, .int (iI 0)), (4, .int (iI 4)), (3, .ref ((uab G))), (1, .long (17706)), (0, .ref ((ubg G)))]) hx hb dX6_digest_14 hl (by decide) rfl (fun ls hl => ?_)
  have LP16 : ∀ (n_LP16 : Nat) (i : Int) (sv : Int64) (H : Heap) (locs : List Loc), (0 ≤ i ∧ i ≤ 4) → (itrP (dmBk μ) 0 3 (17706) = itrP (dmBk μ) i 3 sv) → (va_P D vwCl (va_pl L F) H) → (va_D (AL L sz) (va_pl L F)) → (va_S (AL L sz) s.heap H locs) → (4 - i).toNat = n_LP16 → ∀ ls : Array Slot, lv_has ls 8 [(0, .ref ((ubg G))), (1, .long (sv)), (3, .ref ((uab G))), (4, .int (iI 4)), (5, .int (iI i))] → W p l e ({ frames := 3, cells := 0, slots := 0, locals := 66 } : Room) s m [.ref ((ubg G))].toArray below meth c H locs 0 0 (MQ below (cMl D (AL L sz) (fun r L1 F1 => r = jR_digest1 μ j ∧ ∃ (O1 : Nat → Prop) (G1 : MG), MP y L1 F1 O1 G1 (jS_digest1 μ j) ∧ ubg G1 = ubg G ∧ Ext O O1 L L1 F F1)) [.ref ((ubg G))].toArray s 0 0 (AL L sz)) (F0 m 16 ls []) := by
    intro n_LP16
    induction n_LP16 using Nat.strongRecOn with
    | ind n_LP16 ih_LP16 =>
      intro i sv H locs hi hI hP hD hS hm_LP16 ls hl
      refine lv_iload hx hb dX6_digest_16 (lv_at hl 4 rfl) ?_
      refine lv_iload hx hb dX6_digest_18 (lv_at hl 3 rfl) ?_
      refine q_icmp_ge hx hb dX6_digest_20 (tgt := 116) (by decide) (by omega) (by omega) (fun c1 => ?_) (fun c1 => ?_)
      · refine q_iconst hx hb dX6_digest_116 ?_
        refine lv_istore_n (lv' := [(3, .int (iI 0)), (0, .ref ((ubg G))), (1, .long (sv)), (4, .int (iI 4)), (5, .int (iI i))]) hx hb dX6_digest_117 rfl hl (by decide) rfl (fun ls hl => ?_)
        have LP118 : ∀ (n_LP118 : Nat) (i : Int) (sv : Int64) (H : Heap) (locs : List Loc), (0 ≤ i ∧ i ≤ 2) → (itrP (dmVw μ) 0 1 (itrP (dmBk μ) 0 3 17706) = itrP (dmVw μ) i 1 sv) → (va_P D vwCl (va_pl L F) H) → (va_D (AL L sz) (va_pl L F)) → (va_S (AL L sz) s.heap H locs) → (2 - i).toNat = n_LP118 → ∀ ls : Array Slot, lv_has ls 8 [(0, .ref ((ubg G))), (1, .long (sv)), (3, .int (iI i))] → W p l e ({ frames := 3, cells := 0, slots := 0, locals := 66 } : Room) s m [.ref ((ubg G))].toArray below meth c H locs 0 0 (MQ below (cMl D (AL L sz) (fun r L1 F1 => r = jR_digest1 μ j ∧ ∃ (O1 : Nat → Prop) (G1 : MG), MP y L1 F1 O1 G1 (jS_digest1 μ j) ∧ ubg G1 = ubg G ∧ Ext O O1 L L1 F F1)) [.ref ((ubg G))].toArray s 0 0 (AL L sz)) (F0 m 118 ls []) := by
          intro n_LP118
          induction n_LP118 using Nat.strongRecOn with
          | ind n_LP118 ih_LP118 =>
            intro i sv H locs hi hI hP hD hS hm_LP118 ls hl
            refine lv_iload_n hx hb dX6_digest_118 rfl (lv_at hl 2 rfl) ?_
            refine q_iconst hx hb dX6_digest_119 ?_
            refine q_icmp_ge hx hb dX6_digest_120 (tgt := 201) (by decide) (by omega) (by omega) (fun c2 => ?_) (fun c2 => ?_)
            · refine lv_lload_n hx hb dX6_digest_201 rfl (lv_at hl 1 rfl) ?_
              refine lv_aload_n hx hb dX6_digest_202 rfl (lv_at hl 0 rfl) ?_
              refine q_vS C0 lX6_189 (c_X6_isGoing1 l D y L F O G μ j hC (by first | exact hwk | rfl) (by first | exact hw5 | omega)) ⟨rfl, rfl⟩ rfl hP (MP_o1 hC hwk).1 (MP_o1 hC hwk).2 rfl rfl rfl hl rfl (Nat.le_of_ble_eq_true rfl) dX6_digest_203 ⟨Nat.zero_le _, Nat.zero_le _⟩ (fun r3 e_r3 => ?_)
              subst e_r3
              refine q_if_eq hx hb dX6_digest_206 (tgt := 213) (by decide) (by omega) (fun c4 => ?_) (fun c4 => ?_)
              · have g_ : goW μ = 0 := if_neg (fun z => by have q : (if vbr μ = 0 then (1 : Int) else 0) = 0 := (by first | exact c4 | exact Classical.not_not.mp c4 | omega); rw [if_pos z] at q; exact absurd q (by decide))
                refine lv_lconst (v := 0) hx hb dX6_digest_213 rfl ?_
                refine q_sSl C0 lX6_206 (c_X6_add l D y L F sv 0) ⟨rfl, rfl⟩ rfl hP rfl hl rfl (Nat.le_of_ble_eq_true rfl) dX6_digest_214 ⟨Nat.zero_le _, Nat.zero_le _⟩ (fun r5 e_r5 => ?_)
                subst e_r5
                refine lv_aload_n hx hb dX6_digest_217 rfl (lv_at hl 0 rfl) ?_
                refine q_get C0 iX6 hP (MP_o1 hC hwk).1 (MP_o1 hC hwk).2 rfl 7 (by decide) flX6_28 rfl (v := .int (iI (vtd μ))) rfl dX6_digest_218 ?_
                refine lv_i2l hx hb dX6_digest_221 rfl ?_
                refine q_sSl C0 lX6_206 (c_X6_add l D y L F (sv * 31 + 0) ((iI (vtd μ)).toInt64)) ⟨rfl, rfl⟩ rfl hP rfl hl rfl (Nat.le_of_ble_eq_true rfl) dX6_digest_222 ⟨Nat.zero_le _, Nat.zero_le _⟩ (fun r6 e_r6 => ?_)
                subst e_r6
                refine lv_lstore_n (lv' := [(1, .long (((sv * 31 + 0) * 31 + ((iI (vtd μ)).toInt64)))), (0, .ref ((ubg G))), (3, .int (iI i))]) hx hb dX6_digest_225 rfl hl (by decide) rfl (fun ls hl => ?_)
                refine lv_aload_n hx hb dX6_digest_226 rfl (lv_at hl 1 rfl) ?_
                refine q_get C0 iX6 hP (MP_o1 hC hwk).1 (MP_o1 hC hwk).2 rfl 1 (by decide) flX6_15 rfl (v := .ref ((uas G))) rfl dX6_digest_227 ?_
                refine lv_astore_n (lv' := [(3, .ref ((uas G))), (1, .long (((sv * 31 + 0) * 31 + ((iI (vtd μ)).toInt64)))), (0, .ref ((ubg G)))]) hx hb dX6_digest_230 rfl hl (by decide) rfl (fun ls hl => ?_)
                refine lv_aload_n hx hb dX6_digest_231 rfl (lv_at hl 0 rfl) ?_
                refine q_alenq C0 hP hC.2.2.1.1 hC.2.2.1.2 dX6_digest_232 (t := 3) rfl ?_
                refine lv_istore (lv' := [(4, .int (iI 3)), (3, .ref ((uas G))), (1, .long (((sv * 31 + 0) * 31 + ((iI (vtd μ)).toInt64)))), (0, .ref ((ubg G)))]) hx hb dX6_digest_233 hl (by decide) rfl (fun ls hl => ?_)
                refine q_iconst hx hb dX6_digest_235 ?_
                refine lv_istore (lv' := [(5, .int (iI 0)), (4, .int (iI 3)), (3, .ref ((uas G))), (1, .long (((sv * 31 + 0) * 31 + ((iI (vtd μ)).toInt64)))), (0, .ref ((ubg G)))]) hx hb dX6_digest_236 hl (by decide) rfl (fun ls hl => ?_)
                have LP238 : ∀ (n_LP238 : Nat) (i : Int) (sv : Int64) (H : Heap) (locs : List Loc), (0 ≤ i ∧ i ≤ 3) → (itrP (dmSh μ) 0 2 (dm3 μ (goW μ)) = itrP (dmSh μ) i 2 sv) → (va_P D vwCl (va_pl L F) H) → (va_D (AL L sz) (va_pl L F)) → (va_S (AL L sz) s.heap H locs) → (3 - i).toNat = n_LP238 → ∀ ls : Array Slot, lv_has ls 8 [(0, .ref ((ubg G))), (1, .long (sv)), (3, .ref ((uas G))), (4, .int (iI 3)), (5, .int (iI i))] → W p l e ({ frames := 3, cells := 0, slots := 0, locals := 66 } : Room) s m [.ref ((ubg G))].toArray below meth c H locs 0 0 (MQ below (cMl D (AL L sz) (fun r L1 F1 => r = jR_digest1 μ j ∧ ∃ (O1 : Nat → Prop) (G1 : MG), MP y L1 F1 O1 G1 (jS_digest1 μ j) ∧ ubg G1 = ubg G ∧ Ext O O1 L L1 F F1)) [.ref ((ubg G))].toArray s 0 0 (AL L sz)) (F0 m 238 ls []) := by
                  intro n_LP238
                  induction n_LP238 using Nat.strongRecOn with
                  | ind n_LP238 ih_LP238 =>
                    intro i sv H locs hi hI hP hD hS hm_LP238 ls hl
                    refine lv_iload hx hb dX6_digest_238 (lv_at hl 4 rfl) ?_
                    refine lv_iload hx hb dX6_digest_240 (lv_at hl 3 rfl) ?_
                    refine q_icmp_ge hx hb dX6_digest_242 (tgt := 333) (by decide) (by omega) (by omega) (fun c7 => ?_) (fun c7 => ?_)
                    · refine lv_aload_n hx hb dX6_digest_333 rfl (lv_at hl 0 rfl) ?_
                      refine q_get C0 iX6 hP (MP_o1 hC hwk).1 (MP_o1 hC hwk).2 rfl 9 (by decide) flX6_32 rfl (v := .ref ((uac G))) rfl dX6_digest_334 ?_
                      refine lv_astore_n (lv' := [(3, .ref ((uac G))), (0, .ref ((ubg G))), (1, .long (sv)), (4, .int (iI 3)), (5, .int (iI i))]) hx hb dX6_digest_337 rfl hl (by decide) rfl (fun ls hl => ?_)
                      refine lv_aload_n hx hb dX6_digest_338 rfl (lv_at hl 0 rfl) ?_
                      refine q_alen C0 hP hC.2.2.2.2.2.2.1.1 hC.2.2.2.2.2.2.1.2 dX6_digest_339 ?_
                      refine lv_istore (lv' := [(4, .int (iI 4)), (3, .ref ((uac G))), (0, .ref ((ubg G))), (1, .long (sv)), (5, .int (iI i))]) hx hb dX6_digest_340 hl (by decide) rfl (fun ls hl => ?_)
                      refine q_iconst hx hb dX6_digest_342 ?_
                      refine lv_istore (lv' := [(5, .int (iI 0)), (4, .int (iI 4)), (3, .ref ((uac G))), (0, .ref ((ubg G))), (1, .long (sv))]) hx hb dX6_digest_343 hl (by decide) rfl (fun ls hl => ?_)
                      have LP345 : ∀ (n_LP345 : Nat) (i : Int) (sv : Int64) (H : Heap) (locs : List Loc), (0 ≤ i ∧ i ≤ 4) → (itrP (dmCt μ) 0 3 (itrP (dmSh μ) 0 2 (dm3 μ (goW μ))) = itrP (dmCt μ) i 3 sv) → (va_P D vwCl (va_pl L F) H) → (va_D (AL L sz) (va_pl L F)) → (va_S (AL L sz) s.heap H locs) → (4 - i).toNat = n_LP345 → ∀ ls : Array Slot, lv_has ls 8 [(0, .ref ((ubg G))), (1, .long (sv)), (3, .ref ((uac G))), (4, .int (iI 4)), (5, .int (iI i))] → W p l e ({ frames := 3, cells := 0, slots := 0, locals := 66 } : Room) s m [.ref ((ubg G))].toArray below meth c H locs 0 0 (MQ below (cMl D (AL L sz) (fun r L1 F1 => r = jR_digest1 μ j ∧ ∃ (O1 : Nat → Prop) (G1 : MG), MP y L1 F1 O1 G1 (jS_digest1 μ j) ∧ ubg G1 = ubg G ∧ Ext O O1 L L1 F F1)) [.ref ((ubg G))].toArray s 0 0 (AL L sz)) (F0 m 345 ls []) := by
                        intro n_LP345
                        induction n_LP345 using Nat.strongRecOn with
                        | ind n_LP345 ih_LP345 =>
                          intro i sv H locs hi hI hP hD hS hm_LP345 ls hl
                          refine lv_iload hx hb dX6_digest_345 (lv_at hl 4 rfl) ?_
                          refine lv_iload hx hb dX6_digest_347 (lv_at hl 3 rfl) ?_
                          refine q_icmp_ge hx hb dX6_digest_349 (tgt := 372) (by decide) (by omega) (by omega) (fun c8 => ?_) (fun c8 => ?_)
                          · refine lv_aload_n hx hb dX6_digest_372 rfl (lv_at hl 0 rfl) ?_
                            refine q_iconst hx hb dX6_digest_373 ?_
                            refine q_put C0 iX6 tyX6 tyX6_ok nmX6 hP hD hS (MP_o1 hC hwk).1 (MP_o1 hC hwk).2 rfl 10 (by decide) flX6_38 rfl rfl rfl rfl (Nat.le_of_ble_eq_true rfl) dX6_digest_374 (fun H locs hP hD hS => ?_)
                            obtain ⟨F9, eF9⟩ : ∃ z, z = va_up F (ubg G) (.inr (8, [.ref ((uab G)), .ref ((uas G)), .ref ((uav G)), .ref ((uaf G)), .ref ((uat G)), .ref ((urh G j)), .int (iI (vbr μ)), .int (iI (vtd μ)), .int (iI (vbh μ)), .ref ((uac G)), .int (iI 0)])) := ⟨_, rfl⟩
                            have hP : va_P D vwCl (va_pl L F9) H := by rw [eF9]; exact hP
                            have hD : va_D (AL L sz) (va_pl L F9) := by rw [eF9]; exact hD
                            have hO : OE O F F9 := by rw [eF9]; exact hO.tr (OE1 (MP_O hC).1)
                            have hC : MP y L F9 O G (tOb μ (some j) (vbr μ) (vtd μ) (vbh μ) 0) := by rw [eF9]; exact MP_ob hC (va_up_self _ _ _) (fun q hq => va_up_ne _ _ hq)
                            refine lv_lload_n hx hb dX6_digest_377 rfl (lv_at hl 1 rfl) ?_
                            refine lv_lconst (v := 1) hx hb dX6_digest_378 rfl ?_
                            refine q_sSl C0 lX6_206 (c_X6_add l D y L F9 sv 1) ⟨rfl, rfl⟩ rfl hP rfl hl rfl (Nat.le_of_ble_eq_true rfl) dX6_digest_379 ⟨Nat.zero_le _, Nat.zero_le _⟩ (fun r10 e_r10 => ?_)
                            subst e_r10
                            exact q_retMl C0 hret hlk dX6_digest_382 hP hD hS (⟨(by unfold jR_digest1 dmA; rw [hI, itrP_e (by omega)]), O, G, hC, rfl, Ext0 hO⟩)
                          · refine lv_aload_n hx hb dX6_digest_352 rfl (lv_at hl 2 rfl) ?_
                            refine lv_iload hx hb dX6_digest_353 (lv_at hl 4 rfl) ?_
                            refine q_iald C0 hP (f := (vct μ)) hC.2.2.2.2.2.2.1.1 hC.2.2.2.2.2.2.1.2 (by omega) (by decide) dX6_digest_355 ?_
                            refine lv_istore (lv' := [(6, .int (iI (((vct μ) i)))), (0, .ref ((ubg G))), (1, .long (sv)), (3, .ref ((uac G))), (4, .int (iI 4)), (5, .int (iI i))]) hx hb dX6_digest_356 hl (by decide) rfl (fun ls hl => ?_)
                            refine lv_lload_n hx hb dX6_digest_358 rfl (lv_at hl 2 rfl) ?_
                            refine lv_iload hx hb dX6_digest_359 (lv_at hl 0 rfl) ?_
                            refine lv_i2l hx hb dX6_digest_361 rfl ?_
                            refine q_sSl C0 lX6_206 (c_X6_add l D y L F sv ((iI ((vct μ) i)).toInt64)) ⟨rfl, rfl⟩ rfl hP rfl hl rfl (Nat.le_of_ble_eq_true rfl) dX6_digest_362 ⟨Nat.zero_le _, Nat.zero_le _⟩ (fun r11 e_r11 => ?_)
                            subst e_r11
                            refine lv_lstore_n (lv' := [(1, .long ((sv * 31 + ((iI ((vct μ) i)).toInt64)))), (6, .int (iI (((vct μ) i)))), (0, .ref ((ubg G))), (3, .ref ((uac G))), (4, .int (iI 4)), (5, .int (iI i))]) hx hb dX6_digest_365 rfl hl (by decide) rfl (fun ls hl => ?_)
                            refine q_iinc (x := i) (n := 1) (lv' := [(5, .int (iI ((i + 1)))), (1, .long ((sv * 31 + ((iI ((vct μ) i)).toInt64)))), (6, .int (iI (((vct μ) i)))), (0, .ref ((ubg G))), (3, .ref ((uac G))), (4, .int (iI 4))]) hx hb dX6_digest_366 hl (k := 5) rfl (by decide) rfl (fun ls hl => ?_)
                            refine lv_goto (tgt := 345) hx hb dX6_digest_369 (by decide) ?_
                            exact ih_LP345 _ (by omega) (i + 1) (sv * 31 + ((iI ((vct μ) i)).toInt64)) _ _ (by omega) (by rw [hI, itrP_s (by omega)]; first | (rw [hJ, mxP_e (by omega)]; done) | rfl) (hP) (hD) (hS) rfl ls (lv_sub hl [3, 1, 4, 5, 0] rfl)
                      exact LP345 _ 0 sv _ _ (by omega) (by rw [hI, show itrP (dmSh μ) i 2 sv = sv from itrP_e (by omega)]) (hP) (hD) (hS) rfl ls (lv_sub hl [3, 4, 2, 1, 0] rfl)
                    · refine lv_aload_n hx hb dX6_digest_245 rfl (lv_at hl 2 rfl) ?_
                      refine lv_iload hx hb dX6_digest_246 (lv_at hl 4 rfl) ?_
                      refine q_aald C0 hP hC.2.2.1.1 hC.2.2.1.2 (t := 3) rfl (by omega) (by decide) (v := .ref ((urh G (vsh μ i)))) rfl dX6_digest_248 ?_
                      refine lv_astore (lv' := [(6, .ref ((urh G (vsh μ i)))), (0, .ref ((ubg G))), (1, .long (sv)), (3, .ref ((uas G))), (4, .int (iI 3)), (5, .int (iI i))]) hx hb dX6_digest_249 hl (by decide) rfl (fun ls hl => ?_)
                      refine lv_lload_n hx hb dX6_digest_251 rfl (lv_at hl 2 rfl) ?_
                      refine lv_aload hx hb dX6_digest_252 (lv_at hl 0 rfl) ?_
                      refine q_iconst hx hb dX6_digest_254 ?_
                      refine q_bipush hx hb dX6_digest_255 (by decide) ?_
                      refine q_vS C0 lX6_67 (c_X5_many l D y L F (urh G (vsh μ i)) (urw G (vsh μ i)) (vod μ (vsh μ i)) (vst μ (vsh μ i)) 0 99 (MP_r hC (hW.2.1 i)) (by omega) (by omega)) ⟨rfl, rfl⟩ rfl hP (MP_r hC (hW.2.1 i)).1 (MP_r hC (hW.2.1 i)).2.1 rfl rfl rfl hl rfl (Nat.le_of_ble_eq_true rfl) dX6_digest_257 ⟨Nat.zero_le _, Nat.zero_le _⟩ (fun r12 e_r12 => ?_)
                      subst e_r12
                      refine lv_i2l hx hb dX6_digest_260 rfl ?_
                      refine q_sSl C0 lX6_206 (c_X6_add l D y L F sv ((iI (cntP (vst μ (vsh μ i)) 0 99)).toInt64)) ⟨rfl, rfl⟩ rfl hP rfl hl rfl (Nat.le_of_ble_eq_true rfl) dX6_digest_261 ⟨Nat.zero_le _, Nat.zero_le _⟩ (fun r13 e_r13 => ?_)
                      subst e_r13
                      refine lv_aload hx hb dX6_digest_264 (lv_at hl 0 rfl) ?_
                      refine q_getN C0 iX5 hP (MP_r hC (hW.2.1 i)).1 (MP_r hC (hW.2.1 i)).2.1 rfl 0 (by decide) C0.2.2.2.2.2.2.2.1 rfl (v := .int (iI ((vod μ (vsh μ i))))) rfl dX6_digest_266 ?_
                      refine lv_i2l hx hb dX6_digest_269 rfl ?_
                      refine q_sSl C0 lX6_206 (c_X6_add l D y L F (sv * 31 + ((iI (cntP (vst μ (vsh μ i)) 0 99)).toInt64)) ((iI (vod μ (vsh μ i))).toInt64)) ⟨rfl, rfl⟩ rfl hP rfl hl rfl (Nat.le_of_ble_eq_true rfl) dX6_digest_270 ⟨Nat.zero_le _, Nat.zero_le _⟩ (fun r14 e_r14 => ?_)
                      subst e_r14
                      refine lv_aload hx hb dX6_digest_273 (lv_at hl 0 rfl) ?_
                      refine q_sS C0 lX6_200 (c_X6_sum_ l D y L F (urh G (vsh μ i)) (urw G (vsh μ i)) (vod μ (vsh μ i)) (vst μ (vsh μ i)) (MP_r hC (hW.2.1 i))) ⟨rfl, rfl⟩ rfl hP rfl hl rfl (Nat.le_of_ble_eq_true rfl) dX6_digest_275 ⟨Nat.zero_le _, Nat.zero_le _⟩ (fun r15 e_r15 => ?_)
                      subst e_r15
                      refine lv_i2l hx hb dX6_digest_278 rfl ?_
                      refine q_sSl C0 lX6_206 (c_X6_add l D y L F ((sv * 31 + ((iI (cntP (vst μ (vsh μ i)) 0 99)).toInt64)) * 31 + ((iI (vod μ (vsh μ i))).toInt64)) ((iI (sumM (vod μ (vsh μ i)) (vst μ (vsh μ i)))).toInt64)) ⟨rfl, rfl⟩ rfl hP rfl hl rfl (Nat.le_of_ble_eq_true rfl) dX6_digest_279 ⟨Nat.zero_le _, Nat.zero_le _⟩ (fun r16 e_r16 => ?_)
                      subst e_r16
                      refine lv_lstore_n (lv' := [(1, .long ((((sv * 31 + ((iI (cntP (vst μ (vsh μ i)) 0 99)).toInt64)) * 31 + ((iI (vod μ (vsh μ i))).toInt64)) * 31 + ((iI (sumM (vod μ (vsh μ i)) (vst μ (vsh μ i)))).toInt64)))), (6, .ref ((urh G (vsh μ i)))), (0, .ref ((ubg G))), (3, .ref ((uas G))), (4, .int (iI 3)), (5, .int (iI i))]) hx hb dX6_digest_282 rfl hl (by decide) rfl (fun ls hl => ?_)
                      refine q_iconst hx hb dX6_digest_283 ?_
                      refine lv_istore (lv' := [(7, .int (iI 0)), (1, .long ((((sv * 31 + ((iI (cntP (vst μ (vsh μ i)) 0 99)).toInt64)) * 31 + ((iI (vod μ (vsh μ i))).toInt64)) * 31 + ((iI (sumM (vod μ (vsh μ i)) (vst μ (vsh μ i)))).toInt64)))), (6, .ref ((urh G (vsh μ i)))), (0, .ref ((ubg G))), (3, .ref ((uas G))), (4, .int (iI 3)), (5, .int (iI i))]) hx hb dX6_digest_284 hl (by decide) rfl (fun ls hl => ?_)
                      have LP286 : ∀ (n_LP286 : Nat) (r : Int) (tv : Int64) (H : Heap) (locs : List Loc), (0 ≤ r ∧ r ≤ 100) → (dmSh μ i sv = mxP (turn (vod μ (vsh μ i))) (vst μ (vsh μ i)) r tv) → (va_P D vwCl (va_pl L F) H) → (va_D (AL L sz) (va_pl L F)) → (va_S (AL L sz) s.heap H locs) → (100 - r).toNat = n_LP286 → ∀ ls : Array Slot, lv_has ls 8 [(0, .ref ((ubg G))), (1, .long (tv)), (3, .ref ((uas G))), (4, .int (iI 3)), (5, .int (iI i)), (6, .ref ((urh G (vsh μ i)))), (7, .int (iI r))] → W p l e ({ frames := 3, cells := 0, slots := 0, locals := 66 } : Room) s m [.ref ((ubg G))].toArray below meth c H locs 0 0 (MQ below (cMl D (AL L sz) (fun r L1 F1 => r = jR_digest1 μ j ∧ ∃ (O1 : Nat → Prop) (G1 : MG), MP y L1 F1 O1 G1 (jS_digest1 μ j) ∧ ubg G1 = ubg G ∧ Ext O O1 L L1 F F1)) [.ref ((ubg G))].toArray s 0 0 (AL L sz)) (F0 m 286 ls []) := by
                        intro n_LP286
                        induction n_LP286 using Nat.strongRecOn with
                        | ind n_LP286 ih_LP286 =>
                          intro r tv H locs hr hJ hP hD hS hm_LP286 ls hl
                          refine lv_iload hx hb dX6_digest_286 (lv_at hl 6 rfl) ?_
                          refine q_bipush hx hb dX6_digest_288 (by decide) ?_
                          refine q_icmp_ge hx hb dX6_digest_290 (tgt := 327) (by decide) (by omega) (by omega) (fun c17 => ?_) (fun c17 => ?_)
                          · refine q_iinc (x := i) (n := 1) (lv' := [(5, .int (iI ((i + 1)))), (0, .ref ((ubg G))), (1, .long (tv)), (3, .ref ((uas G))), (4, .int (iI 3)), (6, .ref ((urh G (vsh μ i)))), (7, .int (iI r))]) hx hb dX6_digest_327 hl (k := 4) rfl (by decide) rfl (fun ls hl => ?_)
                            refine lv_goto (tgt := 238) hx hb dX6_digest_330 (by decide) ?_
                            exact ih_LP238 _ (by omega) (i + 1) tv _ _ (by omega) (by rw [hI, itrP_s (by omega)]; first | (rw [hJ, mxP_e (by omega)]; done) | rfl) (hP) (hD) (hS) rfl ls (lv_sub hl [1, 2, 3, 4, 0] rfl)
                          · refine lv_aload hx hb dX6_digest_293 (lv_at hl 5 rfl) ?_
                            refine lv_aload hx hb dX6_digest_295 (lv_at hl 5 rfl) ?_
                            refine lv_iload hx hb dX6_digest_297 (lv_at hl 6 rfl) ?_
                            refine q_vS C0 lX6_100 (c_X5_key l D y L F (urh G (vsh μ i)) (urw G (vsh μ i)) (vod μ (vsh μ i)) (vst μ (vsh μ i)) r (MP_r hC (hW.2.1 i)) (by omega)) ⟨rfl, rfl⟩ rfl hP (MP_r hC (hW.2.1 i)).1 (MP_r hC (hW.2.1 i)).2.1 rfl rfl rfl hl rfl (Nat.le_of_ble_eq_true rfl) dX6_digest_299 ⟨Nat.zero_le _, Nat.zero_le _⟩ (fun r18 e_r18 => ?_)
                            subst e_r18
                            have b_19 := @turn_b (vod μ (vsh μ i)) r (by omega)
                            refine q_vS C0 lX6_49 (c_X5_has l D y L F (urh G (vsh μ i)) (urw G (vsh μ i)) (vod μ (vsh μ i)) (vst μ (vsh μ i)) (turn (vod μ (vsh μ i)) r) (MP_r hC (hW.2.1 i)) (by omega)) ⟨rfl, rfl⟩ rfl hP (MP_r hC (hW.2.1 i)).1 (MP_r hC (hW.2.1 i)).2.1 rfl rfl rfl hl rfl (Nat.le_of_ble_eq_true rfl) dX6_digest_302 ⟨Nat.zero_le _, Nat.zero_le _⟩ (fun r20 e_r20 => ?_)
                            subst e_r20
                            have b_21 := isT_b (vst μ (vsh μ i)) (turn (vod μ (vsh μ i)) (turn (vod μ (vsh μ i)) r))
                            refine q_if_eq hx hb dX6_digest_305 (tgt := 321) (by decide) (by omega) (fun c22 => ?_) (fun c22 => ?_)
                            · have t_ := isT_turn (vst μ (vsh μ i)) (vod μ (vsh μ i)) (r := r) (by omega)
                              refine q_iinc (x := r) (n := 1) (lv' := [(7, .int (iI ((r + 1)))), (0, .ref ((ubg G))), (1, .long (tv)), (3, .ref ((uas G))), (4, .int (iI 3)), (5, .int (iI i)), (6, .ref ((urh G (vsh μ i))))]) hx hb dX6_digest_321 hl (k := 6) rfl (by decide) rfl (fun ls hl => ?_)
                              refine lv_goto (tgt := 286) hx hb dX6_digest_324 (by decide) ?_
                              exact ih_LP286 _ (by omega) (r + 1) tv _ _ (by omega) (by rw [hJ, mxP_u (by omega)]; first | (rw [if_pos (by omega)]; done) | (rw [if_neg (by omega)]; done) | (rw [if_pos (by omega)]; rfl) | (rw [if_neg (by omega)]; rfl)) (hP) (hD) (hS) rfl ls (lv_sub hl [1, 2, 3, 4, 5, 6, 0] rfl)
                            · have t_ := isT_turn (vst μ (vsh μ i)) (vod μ (vsh μ i)) (r := r) (by omega)
                              refine lv_lload_n hx hb dX6_digest_308 rfl (lv_at hl 1 rfl) ?_
                              refine lv_aload hx hb dX6_digest_309 (lv_at hl 5 rfl) ?_
                              refine lv_iload hx hb dX6_digest_311 (lv_at hl 6 rfl) ?_
                              refine q_vS C0 lX6_100 (c_X5_key l D y L F (urh G (vsh μ i)) (urw G (vsh μ i)) (vod μ (vsh μ i)) (vst μ (vsh μ i)) r (MP_r hC (hW.2.1 i)) (by omega)) ⟨rfl, rfl⟩ rfl hP (MP_r hC (hW.2.1 i)).1 (MP_r hC (hW.2.1 i)).2.1 rfl rfl rfl hl rfl (Nat.le_of_ble_eq_true rfl) dX6_digest_313 ⟨Nat.zero_le _, Nat.zero_le _⟩ (fun r23 e_r23 => ?_)
                              subst e_r23
                              have b_24 := @turn_b (vod μ (vsh μ i)) r (by omega)
                              refine lv_i2l hx hb dX6_digest_316 rfl ?_
                              refine q_sSl C0 lX6_206 (c_X6_add l D y L F tv ((iI (turn (vod μ (vsh μ i)) r)).toInt64)) ⟨rfl, rfl⟩ rfl hP rfl hl rfl (Nat.le_of_ble_eq_true rfl) dX6_digest_317 ⟨Nat.zero_le _, Nat.zero_le _⟩ (fun r25 e_r25 => ?_)
                              subst e_r25
                              refine lv_lstore_n (lv' := [(1, .long ((tv * 31 + ((iI (turn (vod μ (vsh μ i)) r)).toInt64)))), (0, .ref ((ubg G))), (3, .ref ((uas G))), (4, .int (iI 3)), (5, .int (iI i)), (6, .ref ((urh G (vsh μ i)))), (7, .int (iI r))]) hx hb dX6_digest_320 rfl hl (by decide) rfl (fun ls hl => ?_)
                              refine q_iinc (x := r) (n := 1) (lv' := [(7, .int (iI ((r + 1)))), (1, .long ((tv * 31 + ((iI (turn (vod μ (vsh μ i)) r)).toInt64)))), (0, .ref ((ubg G))), (3, .ref ((uas G))), (4, .int (iI 3)), (5, .int (iI i)), (6, .ref ((urh G (vsh μ i))))]) hx hb dX6_digest_321 hl (k := 6) rfl (by decide) rfl (fun ls hl => ?_)
                              refine lv_goto (tgt := 286) hx hb dX6_digest_324 (by decide) ?_
                              exact ih_LP286 _ (by omega) (r + 1) (tv * 31 + ((iI (turn (vod μ (vsh μ i)) r)).toInt64)) _ _ (by omega) (by rw [hJ, mxP_u (by omega)]; first | (rw [if_pos (by omega)]; done) | (rw [if_neg (by omega)]; done) | (rw [if_pos (by omega)]; rfl) | (rw [if_neg (by omega)]; rfl)) (hP) (hD) (hS) rfl ls (lv_sub hl [2, 1, 3, 4, 5, 6, 0] rfl)
                      exact LP286 _ 0 (((sv * 31 + ((iI (cntP (vst μ (vsh μ i)) 0 99)).toInt64)) * 31 + ((iI (vod μ (vsh μ i))).toInt64)) * 31 + ((iI (sumM (vod μ (vsh μ i)) (vst μ (vsh μ i)))).toInt64)) _ _ (by omega) (rfl) (hP) (hD) (hS) rfl ls (lv_sub hl [3, 1, 4, 5, 6, 2, 0] rfl)
                exact LP238 _ 0 ((sv * 31 + 0) * 31 + ((iI (vtd μ)).toInt64)) _ _ (by omega) (by unfold dm3; rw [g_, hI, show itrP (dmVw μ) i 1 sv = sv from itrP_e (by omega)]; rfl) (hP) (hD) (hS) rfl ls (lv_sub hl [4, 3, 2, 1, 0] rfl)
              · have g_ : goW μ = 1 := if_pos (Classical.byContradiction (fun z => absurd (if_neg z) c4))
                refine lv_lconst (v := 1) hx hb dX6_digest_209 rfl ?_
                refine lv_goto (tgt := 214) hx hb dX6_digest_210 (by decide) ?_
                refine q_sSl C0 lX6_206 (c_X6_add l D y L F sv 1) ⟨rfl, rfl⟩ rfl hP rfl hl rfl (Nat.le_of_ble_eq_true rfl) dX6_digest_214 ⟨Nat.zero_le _, Nat.zero_le _⟩ (fun r26 e_r26 => ?_)
                subst e_r26
                refine lv_aload_n hx hb dX6_digest_217 rfl (lv_at hl 0 rfl) ?_
                refine q_get C0 iX6 hP (MP_o1 hC hwk).1 (MP_o1 hC hwk).2 rfl 7 (by decide) flX6_28 rfl (v := .int (iI (vtd μ))) rfl dX6_digest_218 ?_
                refine lv_i2l hx hb dX6_digest_221 rfl ?_
                refine q_sSl C0 lX6_206 (c_X6_add l D y L F (sv * 31 + 1) ((iI (vtd μ)).toInt64)) ⟨rfl, rfl⟩ rfl hP rfl hl rfl (Nat.le_of_ble_eq_true rfl) dX6_digest_222 ⟨Nat.zero_le _, Nat.zero_le _⟩ (fun r27 e_r27 => ?_)
                subst e_r27
                refine lv_lstore_n (lv' := [(1, .long (((sv * 31 + 1) * 31 + ((iI (vtd μ)).toInt64)))), (0, .ref ((ubg G))), (3, .int (iI i))]) hx hb dX6_digest_225 rfl hl (by decide) rfl (fun ls hl => ?_)
                refine lv_aload_n hx hb dX6_digest_226 rfl (lv_at hl 1 rfl) ?_
                refine q_get C0 iX6 hP (MP_o1 hC hwk).1 (MP_o1 hC hwk).2 rfl 1 (by decide) flX6_15 rfl (v := .ref ((uas G))) rfl dX6_digest_227 ?_
                refine lv_astore_n (lv' := [(3, .ref ((uas G))), (1, .long (((sv * 31 + 1) * 31 + ((iI (vtd μ)).toInt64)))), (0, .ref ((ubg G)))]) hx hb dX6_digest_230 rfl hl (by decide) rfl (fun ls hl => ?_)
                refine lv_aload_n hx hb dX6_digest_231 rfl (lv_at hl 0 rfl) ?_
                refine q_alenq C0 hP hC.2.2.1.1 hC.2.2.1.2 dX6_digest_232 (t := 3) rfl ?_
                refine lv_istore (lv' := [(4, .int (iI 3)), (3, .ref ((uas G))), (1, .long (((sv * 31 + 1) * 31 + ((iI (vtd μ)).toInt64)))), (0, .ref ((ubg G)))]) hx hb dX6_digest_233 hl (by decide) rfl (fun ls hl => ?_)
                refine q_iconst hx hb dX6_digest_235 ?_
                refine lv_istore (lv' := [(5, .int (iI 0)), (4, .int (iI 3)), (3, .ref ((uas G))), (1, .long (((sv * 31 + 1) * 31 + ((iI (vtd μ)).toInt64)))), (0, .ref ((ubg G)))]) hx hb dX6_digest_236 hl (by decide) rfl (fun ls hl => ?_)
                have LP238 : ∀ (n_LP238 : Nat) (i : Int) (sv : Int64) (H : Heap) (locs : List Loc), (0 ≤ i ∧ i ≤ 3) → (itrP (dmSh μ) 0 2 (dm3 μ (goW μ)) = itrP (dmSh μ) i 2 sv) → (va_P D vwCl (va_pl L F) H) → (va_D (AL L sz) (va_pl L F)) → (va_S (AL L sz) s.heap H locs) → (3 - i).toNat = n_LP238 → ∀ ls : Array Slot, lv_has ls 8 [(0, .ref ((ubg G))), (1, .long (sv)), (3, .ref ((uas G))), (4, .int (iI 3)), (5, .int (iI i))] → W p l e ({ frames := 3, cells := 0, slots := 0, locals := 66 } : Room) s m [.ref ((ubg G))].toArray below meth c H locs 0 0 (MQ below (cMl D (AL L sz) (fun r L1 F1 => r = jR_digest1 μ j ∧ ∃ (O1 : Nat → Prop) (G1 : MG), MP y L1 F1 O1 G1 (jS_digest1 μ j) ∧ ubg G1 = ubg G ∧ Ext O O1 L L1 F F1)) [.ref ((ubg G))].toArray s 0 0 (AL L sz)) (F0 m 238 ls []) := by
                  intro n_LP238
                  induction n_LP238 using Nat.strongRecOn with
                  | ind n_LP238 ih_LP238 =>
                    intro i sv H locs hi hI hP hD hS hm_LP238 ls hl
                    refine lv_iload hx hb dX6_digest_238 (lv_at hl 4 rfl) ?_
                    refine lv_iload hx hb dX6_digest_240 (lv_at hl 3 rfl) ?_
                    refine q_icmp_ge hx hb dX6_digest_242 (tgt := 333) (by decide) (by omega) (by omega) (fun c28 => ?_) (fun c28 => ?_)
                    · refine lv_aload_n hx hb dX6_digest_333 rfl (lv_at hl 0 rfl) ?_
                      refine q_get C0 iX6 hP (MP_o1 hC hwk).1 (MP_o1 hC hwk).2 rfl 9 (by decide) flX6_32 rfl (v := .ref ((uac G))) rfl dX6_digest_334 ?_
                      refine lv_astore_n (lv' := [(3, .ref ((uac G))), (0, .ref ((ubg G))), (1, .long (sv)), (4, .int (iI 3)), (5, .int (iI i))]) hx hb dX6_digest_337 rfl hl (by decide) rfl (fun ls hl => ?_)
                      refine lv_aload_n hx hb dX6_digest_338 rfl (lv_at hl 0 rfl) ?_
                      refine q_alen C0 hP hC.2.2.2.2.2.2.1.1 hC.2.2.2.2.2.2.1.2 dX6_digest_339 ?_
                      refine lv_istore (lv' := [(4, .int (iI 4)), (3, .ref ((uac G))), (0, .ref ((ubg G))), (1, .long (sv)), (5, .int (iI i))]) hx hb dX6_digest_340 hl (by decide) rfl (fun ls hl => ?_)
                      refine q_iconst hx hb dX6_digest_342 ?_
                      refine lv_istore (lv' := [(5, .int (iI 0)), (4, .int (iI 4)), (3, .ref ((uac G))), (0, .ref ((ubg G))), (1, .long (sv))]) hx hb dX6_digest_343 hl (by decide) rfl (fun ls hl => ?_)
                      have LP345 : ∀ (n_LP345 : Nat) (i : Int) (sv : Int64) (H : Heap) (locs : List Loc), (0 ≤ i ∧ i ≤ 4) → (itrP (dmCt μ) 0 3 (itrP (dmSh μ) 0 2 (dm3 μ (goW μ))) = itrP (dmCt μ) i 3 sv) → (va_P D vwCl (va_pl L F) H) → (va_D (AL L sz) (va_pl L F)) → (va_S (AL L sz) s.heap H locs) → (4 - i).toNat = n_LP345 → ∀ ls : Array Slot, lv_has ls 8 [(0, .ref ((ubg G))), (1, .long (sv)), (3, .ref ((uac G))), (4, .int (iI 4)), (5, .int (iI i))] → W p l e ({ frames := 3, cells := 0, slots := 0, locals := 66 } : Room) s m [.ref ((ubg G))].toArray below meth c H locs 0 0 (MQ below (cMl D (AL L sz) (fun r L1 F1 => r = jR_digest1 μ j ∧ ∃ (O1 : Nat → Prop) (G1 : MG), MP y L1 F1 O1 G1 (jS_digest1 μ j) ∧ ubg G1 = ubg G ∧ Ext O O1 L L1 F F1)) [.ref ((ubg G))].toArray s 0 0 (AL L sz)) (F0 m 345 ls []) := by
                        intro n_LP345
                        induction n_LP345 using Nat.strongRecOn with
                        | ind n_LP345 ih_LP345 =>
                          intro i sv H locs hi hI hP hD hS hm_LP345 ls hl
                          refine lv_iload hx hb dX6_digest_345 (lv_at hl 4 rfl) ?_
                          refine lv_iload hx hb dX6_digest_347 (lv_at hl 3 rfl) ?_
                          refine q_icmp_ge hx hb dX6_digest_349 (tgt := 372) (by decide) (by omega) (by omega) (fun c29 => ?_) (fun c29 => ?_)
                          · refine lv_aload_n hx hb dX6_digest_372 rfl (lv_at hl 0 rfl) ?_
                            refine q_iconst hx hb dX6_digest_373 ?_
                            refine q_put C0 iX6 tyX6 tyX6_ok nmX6 hP hD hS (MP_o1 hC hwk).1 (MP_o1 hC hwk).2 rfl 10 (by decide) flX6_38 rfl rfl rfl rfl (Nat.le_of_ble_eq_true rfl) dX6_digest_374 (fun H locs hP hD hS => ?_)
                            obtain ⟨F30, eF30⟩ : ∃ z, z = va_up F (ubg G) (.inr (8, [.ref ((uab G)), .ref ((uas G)), .ref ((uav G)), .ref ((uaf G)), .ref ((uat G)), .ref ((urh G j)), .int (iI (vbr μ)), .int (iI (vtd μ)), .int (iI (vbh μ)), .ref ((uac G)), .int (iI 0)])) := ⟨_, rfl⟩
                            have hP : va_P D vwCl (va_pl L F30) H := by rw [eF30]; exact hP
                            have hD : va_D (AL L sz) (va_pl L F30) := by rw [eF30]; exact hD
                            have hO : OE O F F30 := by rw [eF30]; exact hO.tr (OE1 (MP_O hC).1)
                            have hC : MP y L F30 O G (tOb μ (some j) (vbr μ) (vtd μ) (vbh μ) 0) := by rw [eF30]; exact MP_ob hC (va_up_self _ _ _) (fun q hq => va_up_ne _ _ hq)
                            refine lv_lload_n hx hb dX6_digest_377 rfl (lv_at hl 1 rfl) ?_
                            refine lv_lconst (v := 1) hx hb dX6_digest_378 rfl ?_
                            refine q_sSl C0 lX6_206 (c_X6_add l D y L F30 sv 1) ⟨rfl, rfl⟩ rfl hP rfl hl rfl (Nat.le_of_ble_eq_true rfl) dX6_digest_379 ⟨Nat.zero_le _, Nat.zero_le _⟩ (fun r31 e_r31 => ?_)
                            subst e_r31
                            exact q_retMl C0 hret hlk dX6_digest_382 hP hD hS (⟨(by unfold jR_digest1 dmA; rw [hI, itrP_e (by omega)]), O, G, hC, rfl, Ext0 hO⟩)
                          · refine lv_aload_n hx hb dX6_digest_352 rfl (lv_at hl 2 rfl) ?_
                            refine lv_iload hx hb dX6_digest_353 (lv_at hl 4 rfl) ?_
                            refine q_iald C0 hP (f := (vct μ)) hC.2.2.2.2.2.2.1.1 hC.2.2.2.2.2.2.1.2 (by omega) (by decide) dX6_digest_355 ?_
                            refine lv_istore (lv' := [(6, .int (iI (((vct μ) i)))), (0, .ref ((ubg G))), (1, .long (sv)), (3, .ref ((uac G))), (4, .int (iI 4)), (5, .int (iI i))]) hx hb dX6_digest_356 hl (by decide) rfl (fun ls hl => ?_)
                            refine lv_lload_n hx hb dX6_digest_358 rfl (lv_at hl 2 rfl) ?_
                            refine lv_iload hx hb dX6_digest_359 (lv_at hl 0 rfl) ?_
                            refine lv_i2l hx hb dX6_digest_361 rfl ?_
                            refine q_sSl C0 lX6_206 (c_X6_add l D y L F sv ((iI ((vct μ) i)).toInt64)) ⟨rfl, rfl⟩ rfl hP rfl hl rfl (Nat.le_of_ble_eq_true rfl) dX6_digest_362 ⟨Nat.zero_le _, Nat.zero_le _⟩ (fun r32 e_r32 => ?_)
                            subst e_r32
                            refine lv_lstore_n (lv' := [(1, .long ((sv * 31 + ((iI ((vct μ) i)).toInt64)))), (6, .int (iI (((vct μ) i)))), (0, .ref ((ubg G))), (3, .ref ((uac G))), (4, .int (iI 4)), (5, .int (iI i))]) hx hb dX6_digest_365 rfl hl (by decide) rfl (fun ls hl => ?_)
                            refine q_iinc (x := i) (n := 1) (lv' := [(5, .int (iI ((i + 1)))), (1, .long ((sv * 31 + ((iI ((vct μ) i)).toInt64)))), (6, .int (iI (((vct μ) i)))), (0, .ref ((ubg G))), (3, .ref ((uac G))), (4, .int (iI 4))]) hx hb dX6_digest_366 hl (k := 5) rfl (by decide) rfl (fun ls hl => ?_)
                            refine lv_goto (tgt := 345) hx hb dX6_digest_369 (by decide) ?_
                            exact ih_LP345 _ (by omega) (i + 1) (sv * 31 + ((iI ((vct μ) i)).toInt64)) _ _ (by omega) (by rw [hI, itrP_s (by omega)]; first | (rw [hJ, mxP_e (by omega)]; done) | rfl) (hP) (hD) (hS) rfl ls (lv_sub hl [3, 1, 4, 5, 0] rfl)
                      exact LP345 _ 0 sv _ _ (by omega) (by rw [hI, show itrP (dmSh μ) i 2 sv = sv from itrP_e (by omega)]) (hP) (hD) (hS) rfl ls (lv_sub hl [3, 4, 2, 1, 0] rfl)
                    · refine lv_aload_n hx hb dX6_digest_245 rfl (lv_at hl 2 rfl) ?_
                      refine lv_iload hx hb dX6_digest_246 (lv_at hl 4 rfl) ?_
                      refine q_aald C0 hP hC.2.2.1.1 hC.2.2.1.2 (t := 3) rfl (by omega) (by decide) (v := .ref ((urh G (vsh μ i)))) rfl dX6_digest_248 ?_
                      refine lv_astore (lv' := [(6, .ref ((urh G (vsh μ i)))), (0, .ref ((ubg G))), (1, .long (sv)), (3, .ref ((uas G))), (4, .int (iI 3)), (5, .int (iI i))]) hx hb dX6_digest_249 hl (by decide) rfl (fun ls hl => ?_)
                      refine lv_lload_n hx hb dX6_digest_251 rfl (lv_at hl 2 rfl) ?_
                      refine lv_aload hx hb dX6_digest_252 (lv_at hl 0 rfl) ?_
                      refine q_iconst hx hb dX6_digest_254 ?_
                      refine q_bipush hx hb dX6_digest_255 (by decide) ?_
                      refine q_vS C0 lX6_67 (c_X5_many l D y L F (urh G (vsh μ i)) (urw G (vsh μ i)) (vod μ (vsh μ i)) (vst μ (vsh μ i)) 0 99 (MP_r hC (hW.2.1 i)) (by omega) (by omega)) ⟨rfl, rfl⟩ rfl hP (MP_r hC (hW.2.1 i)).1 (MP_r hC (hW.2.1 i)).2.1 rfl rfl rfl hl rfl (Nat.le_of_ble_eq_true rfl) dX6_digest_257 ⟨Nat.zero_le _, Nat.zero_le _⟩ (fun r33 e_r33 => ?_)
                      subst e_r33
                      refine lv_i2l hx hb dX6_digest_260 rfl ?_
                      refine q_sSl C0 lX6_206 (c_X6_add l D y L F sv ((iI (cntP (vst μ (vsh μ i)) 0 99)).toInt64)) ⟨rfl, rfl⟩ rfl hP rfl hl rfl (Nat.le_of_ble_eq_true rfl) dX6_digest_261 ⟨Nat.zero_le _, Nat.zero_le _⟩ (fun r34 e_r34 => ?_)
                      subst e_r34
                      refine lv_aload hx hb dX6_digest_264 (lv_at hl 0 rfl) ?_
                      refine q_getN C0 iX5 hP (MP_r hC (hW.2.1 i)).1 (MP_r hC (hW.2.1 i)).2.1 rfl 0 (by decide) C0.2.2.2.2.2.2.2.1 rfl (v := .int (iI ((vod μ (vsh μ i))))) rfl dX6_digest_266 ?_
                      refine lv_i2l hx hb dX6_digest_269 rfl ?_
                      refine q_sSl C0 lX6_206 (c_X6_add l D y L F (sv * 31 + ((iI (cntP (vst μ (vsh μ i)) 0 99)).toInt64)) ((iI (vod μ (vsh μ i))).toInt64)) ⟨rfl, rfl⟩ rfl hP rfl hl rfl (Nat.le_of_ble_eq_true rfl) dX6_digest_270 ⟨Nat.zero_le _, Nat.zero_le _⟩ (fun r35 e_r35 => ?_)
                      subst e_r35
                      refine lv_aload hx hb dX6_digest_273 (lv_at hl 0 rfl) ?_
                      refine q_sS C0 lX6_200 (c_X6_sum_ l D y L F (urh G (vsh μ i)) (urw G (vsh μ i)) (vod μ (vsh μ i)) (vst μ (vsh μ i)) (MP_r hC (hW.2.1 i))) ⟨rfl, rfl⟩ rfl hP rfl hl rfl (Nat.le_of_ble_eq_true rfl) dX6_digest_275 ⟨Nat.zero_le _, Nat.zero_le _⟩ (fun r36 e_r36 => ?_)
                      subst e_r36
                      refine lv_i2l hx hb dX6_digest_278 rfl ?_
                      refine q_sSl C0 lX6_206 (c_X6_add l D y L F ((sv * 31 + ((iI (cntP (vst μ (vsh μ i)) 0 99)).toInt64)) * 31 + ((iI (vod μ (vsh μ i))).toInt64)) ((iI (sumM (vod μ (vsh μ i)) (vst μ (vsh μ i)))).toInt64)) ⟨rfl, rfl⟩ rfl hP rfl hl rfl (Nat.le_of_ble_eq_true rfl) dX6_digest_279 ⟨Nat.zero_le _, Nat.zero_le _⟩ (fun r37 e_r37 => ?_)
                      subst e_r37
                      refine lv_lstore_n (lv' := [(1, .long ((((sv * 31 + ((iI (cntP (vst μ (vsh μ i)) 0 99)).toInt64)) * 31 + ((iI (vod μ (vsh μ i))).toInt64)) * 31 + ((iI (sumM (vod μ (vsh μ i)) (vst μ (vsh μ i)))).toInt64)))), (6, .ref ((urh G (vsh μ i)))), (0, .ref ((ubg G))), (3, .ref ((uas G))), (4, .int (iI 3)), (5, .int (iI i))]) hx hb dX6_digest_282 rfl hl (by decide) rfl (fun ls hl => ?_)
                      refine q_iconst hx hb dX6_digest_283 ?_
                      refine lv_istore (lv' := [(7, .int (iI 0)), (1, .long ((((sv * 31 + ((iI (cntP (vst μ (vsh μ i)) 0 99)).toInt64)) * 31 + ((iI (vod μ (vsh μ i))).toInt64)) * 31 + ((iI (sumM (vod μ (vsh μ i)) (vst μ (vsh μ i)))).toInt64)))), (6, .ref ((urh G (vsh μ i)))), (0, .ref ((ubg G))), (3, .ref ((uas G))), (4, .int (iI 3)), (5, .int (iI i))]) hx hb dX6_digest_284 hl (by decide) rfl (fun ls hl => ?_)
                      have LP286 : ∀ (n_LP286 : Nat) (r : Int) (tv : Int64) (H : Heap) (locs : List Loc), (0 ≤ r ∧ r ≤ 100) → (dmSh μ i sv = mxP (turn (vod μ (vsh μ i))) (vst μ (vsh μ i)) r tv) → (va_P D vwCl (va_pl L F) H) → (va_D (AL L sz) (va_pl L F)) → (va_S (AL L sz) s.heap H locs) → (100 - r).toNat = n_LP286 → ∀ ls : Array Slot, lv_has ls 8 [(0, .ref ((ubg G))), (1, .long (tv)), (3, .ref ((uas G))), (4, .int (iI 3)), (5, .int (iI i)), (6, .ref ((urh G (vsh μ i)))), (7, .int (iI r))] → W p l e ({ frames := 3, cells := 0, slots := 0, locals := 66 } : Room) s m [.ref ((ubg G))].toArray below meth c H locs 0 0 (MQ below (cMl D (AL L sz) (fun r L1 F1 => r = jR_digest1 μ j ∧ ∃ (O1 : Nat → Prop) (G1 : MG), MP y L1 F1 O1 G1 (jS_digest1 μ j) ∧ ubg G1 = ubg G ∧ Ext O O1 L L1 F F1)) [.ref ((ubg G))].toArray s 0 0 (AL L sz)) (F0 m 286 ls []) := by
                        intro n_LP286
                        induction n_LP286 using Nat.strongRecOn with
                        | ind n_LP286 ih_LP286 =>
                          intro r tv H locs hr hJ hP hD hS hm_LP286 ls hl
                          refine lv_iload hx hb dX6_digest_286 (lv_at hl 6 rfl) ?_
                          refine q_bipush hx hb dX6_digest_288 (by decide) ?_
                          refine q_icmp_ge hx hb dX6_digest_290 (tgt := 327) (by decide) (by omega) (by omega) (fun c38 => ?_) (fun c38 => ?_)
                          · refine q_iinc (x := i) (n := 1) (lv' := [(5, .int (iI ((i + 1)))), (0, .ref ((ubg G))), (1, .long (tv)), (3, .ref ((uas G))), (4, .int (iI 3)), (6, .ref ((urh G (vsh μ i)))), (7, .int (iI r))]) hx hb dX6_digest_327 hl (k := 4) rfl (by decide) rfl (fun ls hl => ?_)
                            refine lv_goto (tgt := 238) hx hb dX6_digest_330 (by decide) ?_
                            exact ih_LP238 _ (by omega) (i + 1) tv _ _ (by omega) (by rw [hI, itrP_s (by omega)]; first | (rw [hJ, mxP_e (by omega)]; done) | rfl) (hP) (hD) (hS) rfl ls (lv_sub hl [1, 2, 3, 4, 0] rfl)
                          · refine lv_aload hx hb dX6_digest_293 (lv_at hl 5 rfl) ?_
                            refine lv_aload hx hb dX6_digest_295 (lv_at hl 5 rfl) ?_
                            refine lv_iload hx hb dX6_digest_297 (lv_at hl 6 rfl) ?_
                            refine q_vS C0 lX6_100 (c_X5_key l D y L F (urh G (vsh μ i)) (urw G (vsh μ i)) (vod μ (vsh μ i)) (vst μ (vsh μ i)) r (MP_r hC (hW.2.1 i)) (by omega)) ⟨rfl, rfl⟩ rfl hP (MP_r hC (hW.2.1 i)).1 (MP_r hC (hW.2.1 i)).2.1 rfl rfl rfl hl rfl (Nat.le_of_ble_eq_true rfl) dX6_digest_299 ⟨Nat.zero_le _, Nat.zero_le _⟩ (fun r39 e_r39 => ?_)
                            subst e_r39
                            have b_40 := @turn_b (vod μ (vsh μ i)) r (by omega)
                            refine q_vS C0 lX6_49 (c_X5_has l D y L F (urh G (vsh μ i)) (urw G (vsh μ i)) (vod μ (vsh μ i)) (vst μ (vsh μ i)) (turn (vod μ (vsh μ i)) r) (MP_r hC (hW.2.1 i)) (by omega)) ⟨rfl, rfl⟩ rfl hP (MP_r hC (hW.2.1 i)).1 (MP_r hC (hW.2.1 i)).2.1 rfl rfl rfl hl rfl (Nat.le_of_ble_eq_true rfl) dX6_digest_302 ⟨Nat.zero_le _, Nat.zero_le _⟩ (fun r41 e_r41 => ?_)
                            subst e_r41
                            have b_42 := isT_b (vst μ (vsh μ i)) (turn (vod μ (vsh μ i)) (turn (vod μ (vsh μ i)) r))
                            refine q_if_eq hx hb dX6_digest_305 (tgt := 321) (by decide) (by omega) (fun c43 => ?_) (fun c43 => ?_)
                            · have t_ := isT_turn (vst μ (vsh μ i)) (vod μ (vsh μ i)) (r := r) (by omega)
                              refine q_iinc (x := r) (n := 1) (lv' := [(7, .int (iI ((r + 1)))), (0, .ref ((ubg G))), (1, .long (tv)), (3, .ref ((uas G))), (4, .int (iI 3)), (5, .int (iI i)), (6, .ref ((urh G (vsh μ i))))]) hx hb dX6_digest_321 hl (k := 6) rfl (by decide) rfl (fun ls hl => ?_)
                              refine lv_goto (tgt := 286) hx hb dX6_digest_324 (by decide) ?_
                              exact ih_LP286 _ (by omega) (r + 1) tv _ _ (by omega) (by rw [hJ, mxP_u (by omega)]; first | (rw [if_pos (by omega)]; done) | (rw [if_neg (by omega)]; done) | (rw [if_pos (by omega)]; rfl) | (rw [if_neg (by omega)]; rfl)) (hP) (hD) (hS) rfl ls (lv_sub hl [1, 2, 3, 4, 5, 6, 0] rfl)
                            · have t_ := isT_turn (vst μ (vsh μ i)) (vod μ (vsh μ i)) (r := r) (by omega)
                              refine lv_lload_n hx hb dX6_digest_308 rfl (lv_at hl 1 rfl) ?_
                              refine lv_aload hx hb dX6_digest_309 (lv_at hl 5 rfl) ?_
                              refine lv_iload hx hb dX6_digest_311 (lv_at hl 6 rfl) ?_
                              refine q_vS C0 lX6_100 (c_X5_key l D y L F (urh G (vsh μ i)) (urw G (vsh μ i)) (vod μ (vsh μ i)) (vst μ (vsh μ i)) r (MP_r hC (hW.2.1 i)) (by omega)) ⟨rfl, rfl⟩ rfl hP (MP_r hC (hW.2.1 i)).1 (MP_r hC (hW.2.1 i)).2.1 rfl rfl rfl hl rfl (Nat.le_of_ble_eq_true rfl) dX6_digest_313 ⟨Nat.zero_le _, Nat.zero_le _⟩ (fun r44 e_r44 => ?_)
                              subst e_r44
                              have b_45 := @turn_b (vod μ (vsh μ i)) r (by omega)
                              refine lv_i2l hx hb dX6_digest_316 rfl ?_
                              refine q_sSl C0 lX6_206 (c_X6_add l D y L F tv ((iI (turn (vod μ (vsh μ i)) r)).toInt64)) ⟨rfl, rfl⟩ rfl hP rfl hl rfl (Nat.le_of_ble_eq_true rfl) dX6_digest_317 ⟨Nat.zero_le _, Nat.zero_le _⟩ (fun r46 e_r46 => ?_)
                              subst e_r46
                              refine lv_lstore_n (lv' := [(1, .long ((tv * 31 + ((iI (turn (vod μ (vsh μ i)) r)).toInt64)))), (0, .ref ((ubg G))), (3, .ref ((uas G))), (4, .int (iI 3)), (5, .int (iI i)), (6, .ref ((urh G (vsh μ i)))), (7, .int (iI r))]) hx hb dX6_digest_320 rfl hl (by decide) rfl (fun ls hl => ?_)
                              refine q_iinc (x := r) (n := 1) (lv' := [(7, .int (iI ((r + 1)))), (1, .long ((tv * 31 + ((iI (turn (vod μ (vsh μ i)) r)).toInt64)))), (0, .ref ((ubg G))), (3, .ref ((uas G))), (4, .int (iI 3)), (5, .int (iI i)), (6, .ref ((urh G (vsh μ i))))]) hx hb dX6_digest_321 hl (k := 6) rfl (by decide) rfl (fun ls hl => ?_)
                              refine lv_goto (tgt := 286) hx hb dX6_digest_324 (by decide) ?_
                              exact ih_LP286 _ (by omega) (r + 1) (tv * 31 + ((iI (turn (vod μ (vsh μ i)) r)).toInt64)) _ _ (by omega) (by rw [hJ, mxP_u (by omega)]; first | (rw [if_pos (by omega)]; done) | (rw [if_neg (by omega)]; done) | (rw [if_pos (by omega)]; rfl) | (rw [if_neg (by omega)]; rfl)) (hP) (hD) (hS) rfl ls (lv_sub hl [2, 1, 3, 4, 5, 6, 0] rfl)
                      exact LP286 _ 0 (((sv * 31 + ((iI (cntP (vst μ (vsh μ i)) 0 99)).toInt64)) * 31 + ((iI (vod μ (vsh μ i))).toInt64)) * 31 + ((iI (sumM (vod μ (vsh μ i)) (vst μ (vsh μ i)))).toInt64)) _ _ (by omega) (rfl) (hP) (hD) (hS) rfl ls (lv_sub hl [3, 1, 4, 5, 6, 2, 0] rfl)
                exact LP238 _ 0 ((sv * 31 + 1) * 31 + ((iI (vtd μ)).toInt64)) _ _ (by omega) (by unfold dm3; rw [g_, hI, show itrP (dmVw μ) i 1 sv = sv from itrP_e (by omega)]; rfl) (hP) (hD) (hS) rfl ls (lv_sub hl [4, 3, 2, 1, 0] rfl)
            · have vb_ := hW.2.2.2.2.1 i
              refine lv_lload_n hx hb dX6_digest_123 rfl (lv_at hl 1 rfl) ?_
              refine lv_aload_n hx hb dX6_digest_124 rfl (lv_at hl 0 rfl) ?_
              refine lv_iload_n hx hb dX6_digest_125 rfl (lv_at hl 2 rfl) ?_
              refine q_vS C0 lX6_171 (c_X6_seen l D y L F O G μ i hC (by omega) (hW.2.2.1 i) ⟨(hW.2.2.2.2.1 i).1, (hW.2.2.2.2.1 i).2.1⟩ (hW.2.2.2.2.1 i).2.2) ⟨rfl, rfl⟩ rfl hP (MP_o1 hC hwk).1 (MP_o1 hC hwk).2 rfl rfl rfl hl rfl (Nat.le_of_ble_eq_true rfl) dX6_digest_126 ⟨Nat.zero_le _, Nat.zero_le _⟩ (fun r47 e_r47 => ?_)
              replace e_r47 : r47 = cntP (vst μ (vvw μ i)) (vvl μ i) (vvh μ i) := e_r47.trans (by first | rfl | (rw [show vvw μ i = vvw μ i from (by first | rfl | exact iu_s _ _ _), show vvl μ i = vvl μ i from (by first | rfl | exact iu_s _ _ _), show vvh μ i = vvh μ i from (by first | rfl | exact iu_s _ _ _)]; done) | (rw [show vvw μ i = vvw μ i from (by first | rfl | exact iu_s _ _ _), show vvl μ i = vvl μ i from (by first | rfl | exact iu_s _ _ _), show vvh μ i = vvh μ i from (by first | rfl | exact iu_s _ _ _)]; rfl))
              subst e_r47
              refine lv_i2l hx hb dX6_digest_129 rfl ?_
              refine q_sSl C0 lX6_206 (c_X6_add l D y L F sv ((iI (cntP (vst μ (vvw μ i)) (vvl μ i) (vvh μ i))).toInt64)) ⟨rfl, rfl⟩ rfl hP rfl hl rfl (Nat.le_of_ble_eq_true rfl) dX6_digest_130 ⟨Nat.zero_le _, Nat.zero_le _⟩ (fun r48 e_r48 => ?_)
              subst e_r48
              refine lv_aload_n hx hb dX6_digest_133 rfl (lv_at hl 0 rfl) ?_
              refine q_get C0 iX6 hP (MP_o1 hC hwk).1 (MP_o1 hC hwk).2 rfl 2 (by decide) flX6_18 rfl (v := .ref ((uav G))) rfl dX6_digest_134 ?_
              refine lv_iload_n hx hb dX6_digest_137 rfl (lv_at hl 2 rfl) ?_
              refine q_aald C0 hP hC.2.2.2.1.1 hC.2.2.2.1.2 (t := 3) rfl (by omega) (by decide) (v := .ref ((urh G (vvw μ i)))) rfl dX6_digest_138 ?_
              refine lv_aload_n hx hb dX6_digest_139 rfl (lv_at hl 0 rfl) ?_
              refine q_get C0 iX6 hP (MP_o1 hC hwk).1 (MP_o1 hC hwk).2 rfl 3 (by decide) flX6_21 rfl (v := .ref ((uaf G))) rfl dX6_digest_140 ?_
              refine lv_iload_n hx hb dX6_digest_143 rfl (lv_at hl 2 rfl) ?_
              refine q_iald C0 hP (f := (vvl μ)) hC.2.2.2.2.1.1 hC.2.2.2.2.1.2 (by omega) (by decide) dX6_digest_144 ?_
              refine lv_aload_n hx hb dX6_digest_145 rfl (lv_at hl 0 rfl) ?_
              refine q_get C0 iX6 hP (MP_o1 hC hwk).1 (MP_o1 hC hwk).2 rfl 4 (by decide) flX6_25 rfl (v := .ref ((uat G))) rfl dX6_digest_146 ?_
              refine lv_iload_n hx hb dX6_digest_149 rfl (lv_at hl 2 rfl) ?_
              refine q_iald C0 hP (f := (vvh μ)) hC.2.2.2.2.2.1.1 hC.2.2.2.2.2.1.2 (by omega) (by decide) dX6_digest_150 ?_
              refine q_vS C0 lX6_111 (c_X5_first l D y L F (urh G (vvw μ i)) (urw G (vvw μ i)) (vod μ (vvw μ i)) (vst μ (vvw μ i)) ((vvl μ) i) ((vvh μ) i) (MP_r hC (hW.2.2.1 i)) (by omega) (by omega)) ⟨rfl, rfl⟩ rfl hP (MP_r hC (hW.2.2.1 i)).1 (MP_r hC (hW.2.2.1 i)).2.1 rfl rfl rfl hl rfl (Nat.le_of_ble_eq_true rfl) dX6_digest_151 ⟨Nat.zero_le _, Nat.zero_le _⟩ (fun r49 e_r49 => ?_)
              subst e_r49
              have b_50 := @keyR_b (vod μ (vvw μ i)) (firP (vst μ (vvw μ i)) ((vvl μ) i) ((vvh μ) i)) (firP_r (vst μ (vvw μ i)) ((vvl μ) i) ((vvh μ) i))
              refine lv_i2l hx hb dX6_digest_154 rfl ?_
              refine q_sSl C0 lX6_206 (c_X6_add l D y L F (sv * 31 + ((iI (cntP (vst μ (vvw μ i)) (vvl μ i) (vvh μ i))).toInt64)) ((iI (keyR (vod μ (vvw μ i)) (firP (vst μ (vvw μ i)) ((vvl μ) i) ((vvh μ) i)))).toInt64)) ⟨rfl, rfl⟩ rfl hP rfl hl rfl (Nat.le_of_ble_eq_true rfl) dX6_digest_155 ⟨Nat.zero_le _, Nat.zero_le _⟩ (fun r51 e_r51 => ?_)
              subst e_r51
              refine lv_lstore_n (lv' := [(1, .long (((sv * 31 + ((iI (cntP (vst μ (vvw μ i)) (vvl μ i) (vvh μ i))).toInt64)) * 31 + ((iI (keyR (vod μ (vvw μ i)) (firP (vst μ (vvw μ i)) ((vvl μ) i) ((vvh μ) i)))).toInt64)))), (0, .ref ((ubg G))), (3, .int (iI i))]) hx hb dX6_digest_158 rfl hl (by decide) rfl (fun ls hl => ?_)
              refine lv_lload_n hx hb dX6_digest_159 rfl (lv_at hl 0 rfl) ?_
              refine lv_aload_n hx hb dX6_digest_160 rfl (lv_at hl 1 rfl) ?_
              refine q_get C0 iX6 hP (MP_o1 hC hwk).1 (MP_o1 hC hwk).2 rfl 2 (by decide) flX6_18 rfl (v := .ref ((uav G))) rfl dX6_digest_161 ?_
              refine lv_iload_n hx hb dX6_digest_164 rfl (lv_at hl 2 rfl) ?_
              refine q_aald C0 hP hC.2.2.2.1.1 hC.2.2.2.1.2 (t := 3) rfl (by omega) (by decide) (v := .ref ((urh G (vvw μ i)))) rfl dX6_digest_165 ?_
              refine lv_aload_n hx hb dX6_digest_166 rfl (lv_at hl 1 rfl) ?_
              refine q_get C0 iX6 hP (MP_o1 hC hwk).1 (MP_o1 hC hwk).2 rfl 3 (by decide) flX6_21 rfl (v := .ref ((uaf G))) rfl dX6_digest_167 ?_
              refine lv_iload_n hx hb dX6_digest_170 rfl (lv_at hl 2 rfl) ?_
              refine q_iald C0 hP (f := (vvl μ)) hC.2.2.2.2.1.1 hC.2.2.2.2.1.2 (by omega) (by decide) dX6_digest_171 ?_
              refine lv_aload_n hx hb dX6_digest_172 rfl (lv_at hl 1 rfl) ?_
              refine q_get C0 iX6 hP (MP_o1 hC hwk).1 (MP_o1 hC hwk).2 rfl 4 (by decide) flX6_25 rfl (v := .ref ((uat G))) rfl dX6_digest_173 ?_
              refine lv_iload_n hx hb dX6_digest_176 rfl (lv_at hl 2 rfl) ?_
              refine q_iald C0 hP (f := (vvh μ)) hC.2.2.2.2.2.1.1 hC.2.2.2.2.2.1.2 (by omega) (by decide) dX6_digest_177 ?_
              refine q_vS C0 lX6_114 (c_X5_last l D y L F (urh G (vvw μ i)) (urw G (vvw μ i)) (vod μ (vvw μ i)) (vst μ (vvw μ i)) ((vvl μ) i) ((vvh μ) i) (MP_r hC (hW.2.2.1 i)) (by omega) (by omega)) ⟨rfl, rfl⟩ rfl hP (MP_r hC (hW.2.2.1 i)).1 (MP_r hC (hW.2.2.1 i)).2.1 rfl rfl rfl hl rfl (Nat.le_of_ble_eq_true rfl) dX6_digest_178 ⟨Nat.zero_le _, Nat.zero_le _⟩ (fun r52 e_r52 => ?_)
              subst e_r52
              have b_53 := @keyR_b (vod μ (vvw μ i)) (lasP (vst μ (vvw μ i)) ((vvl μ) i) ((vvh μ) i)) (lasP_r (vst μ (vvw μ i)) ((vvl μ) i) ((vvh μ) i))
              refine lv_i2l hx hb dX6_digest_181 rfl ?_
              refine q_sSl C0 lX6_206 (c_X6_add l D y L F ((sv * 31 + ((iI (cntP (vst μ (vvw μ i)) (vvl μ i) (vvh μ i))).toInt64)) * 31 + ((iI (keyR (vod μ (vvw μ i)) (firP (vst μ (vvw μ i)) ((vvl μ) i) ((vvh μ) i)))).toInt64)) ((iI (keyR (vod μ (vvw μ i)) (lasP (vst μ (vvw μ i)) ((vvl μ) i) ((vvh μ) i)))).toInt64)) ⟨rfl, rfl⟩ rfl hP rfl hl rfl (Nat.le_of_ble_eq_true rfl) dX6_digest_182 ⟨Nat.zero_le _, Nat.zero_le _⟩ (fun r54 e_r54 => ?_)
              subst e_r54
              refine lv_aload_n hx hb dX6_digest_185 rfl (lv_at hl 1 rfl) ?_
              refine lv_iload_n hx hb dX6_digest_186 rfl (lv_at hl 2 rfl) ?_
              refine q_vS C0 lX6_183 (c_X6_sum l D y L F O G μ i hC (by omega) (hW.2.2.1 i) ⟨(hW.2.2.2.2.1 i).1, (hW.2.2.2.2.1 i).2.1⟩ (hW.2.2.2.2.1 i).2.2) ⟨rfl, rfl⟩ rfl hP (MP_o1 hC hwk).1 (MP_o1 hC hwk).2 rfl rfl rfl hl rfl (Nat.le_of_ble_eq_true rfl) dX6_digest_187 ⟨Nat.zero_le _, Nat.zero_le _⟩ (fun r55 e_r55 => ?_)
              replace e_r55 : r55 = sumP (wmU (vst μ (vvw μ i))) (vvl μ i) (vvh μ i) := e_r55.trans (by first | rfl | (rw [show vvw μ i = vvw μ i from (by first | rfl | exact iu_s _ _ _), show vvl μ i = vvl μ i from (by first | rfl | exact iu_s _ _ _), show vvh μ i = vvh μ i from (by first | rfl | exact iu_s _ _ _)]; done) | (rw [show vvw μ i = vvw μ i from (by first | rfl | exact iu_s _ _ _), show vvl μ i = vvl μ i from (by first | rfl | exact iu_s _ _ _), show vvh μ i = vvh μ i from (by first | rfl | exact iu_s _ _ _)]; rfl))
              subst e_r55
              refine lv_i2l hx hb dX6_digest_190 rfl ?_
              refine q_sSl C0 lX6_206 (c_X6_add l D y L F (((sv * 31 + ((iI (cntP (vst μ (vvw μ i)) (vvl μ i) (vvh μ i))).toInt64)) * 31 + ((iI (keyR (vod μ (vvw μ i)) (firP (vst μ (vvw μ i)) ((vvl μ) i) ((vvh μ) i)))).toInt64)) * 31 + ((iI (keyR (vod μ (vvw μ i)) (lasP (vst μ (vvw μ i)) ((vvl μ) i) ((vvh μ) i)))).toInt64)) ((iI (sumP (wmU (vst μ (vvw μ i))) (vvl μ i) (vvh μ i))).toInt64)) ⟨rfl, rfl⟩ rfl hP rfl hl rfl (Nat.le_of_ble_eq_true rfl) dX6_digest_191 ⟨Nat.zero_le _, Nat.zero_le _⟩ (fun r56 e_r56 => ?_)
              subst e_r56
              refine lv_lstore_n (lv' := [(1, .long (((((sv * 31 + ((iI (cntP (vst μ (vvw μ i)) (vvl μ i) (vvh μ i))).toInt64)) * 31 + ((iI (keyR (vod μ (vvw μ i)) (firP (vst μ (vvw μ i)) ((vvl μ) i) ((vvh μ) i)))).toInt64)) * 31 + ((iI (keyR (vod μ (vvw μ i)) (lasP (vst μ (vvw μ i)) ((vvl μ) i) ((vvh μ) i)))).toInt64)) * 31 + ((iI (sumP (wmU (vst μ (vvw μ i))) (vvl μ i) (vvh μ i))).toInt64)))), (0, .ref ((ubg G))), (3, .int (iI i))]) hx hb dX6_digest_194 rfl hl (by decide) rfl (fun ls hl => ?_)
              refine q_iinc (x := i) (n := 1) (lv' := [(3, .int (iI ((i + 1)))), (1, .long (((((sv * 31 + ((iI (cntP (vst μ (vvw μ i)) (vvl μ i) (vvh μ i))).toInt64)) * 31 + ((iI (keyR (vod μ (vvw μ i)) (firP (vst μ (vvw μ i)) ((vvl μ) i) ((vvh μ) i)))).toInt64)) * 31 + ((iI (keyR (vod μ (vvw μ i)) (lasP (vst μ (vvw μ i)) ((vvl μ) i) ((vvh μ) i)))).toInt64)) * 31 + ((iI (sumP (wmU (vst μ (vvw μ i))) (vvl μ i) (vvh μ i))).toInt64)))), (0, .ref ((ubg G)))]) hx hb dX6_digest_195 hl (k := 2) rfl (by decide) rfl (fun ls hl => ?_)
              refine lv_goto (tgt := 118) hx hb dX6_digest_198 (by decide) ?_
              exact ih_LP118 _ (by omega) (i + 1) ((((sv * 31 + ((iI (cntP (vst μ (vvw μ i)) (vvl μ i) (vvh μ i))).toInt64)) * 31 + ((iI (keyR (vod μ (vvw μ i)) (firP (vst μ (vvw μ i)) ((vvl μ) i) ((vvh μ) i)))).toInt64)) * 31 + ((iI (keyR (vod μ (vvw μ i)) (lasP (vst μ (vvw μ i)) ((vvl μ) i) ((vvh μ) i)))).toInt64)) * 31 + ((iI (sumP (wmU (vst μ (vvw μ i))) (vvl μ i) (vvh μ i))).toInt64)) _ _ (by omega) (by rw [hI, itrP_s (by omega)]; first | (rw [hJ, mxP_e (by omega)]; done) | rfl) (hP) (hD) (hS) rfl ls (lv_sub hl [2, 1, 0] rfl)
        exact LP118 _ 0 sv _ _ (by omega) (by rw [hI, show itrP (dmBk μ) i 3 sv = sv from itrP_e (by omega)]) (hP) (hD) (hS) rfl ls (lv_sub hl [1, 2, 0] rfl)
      · refine lv_aload_n hx hb dX6_digest_23 rfl (lv_at hl 2 rfl) ?_
        refine lv_iload hx hb dX6_digest_24 (lv_at hl 4 rfl) ?_
        refine q_aald C0 hP hC.2.1.1 hC.2.1.2 (t := 3) rfl (by omega) (by decide) (v := .ref ((urh G (vbk μ i)))) rfl dX6_digest_26 ?_
        refine lv_astore (lv' := [(6, .ref ((urh G (vbk μ i)))), (0, .ref ((ubg G))), (1, .long (sv)), (3, .ref ((uab G))), (4, .int (iI 4)), (5, .int (iI i))]) hx hb dX6_digest_27 hl (by decide) rfl (fun ls hl => ?_)
        refine lv_lload_n hx hb dX6_digest_29 rfl (lv_at hl 2 rfl) ?_
        refine lv_aload hx hb dX6_digest_30 (lv_at hl 0 rfl) ?_
        refine q_iconst hx hb dX6_digest_32 ?_
        refine q_bipush hx hb dX6_digest_33 (by decide) ?_
        refine q_vS C0 lX6_67 (c_X5_many l D y L F (urh G (vbk μ i)) (urw G (vbk μ i)) (vod μ (vbk μ i)) (vst μ (vbk μ i)) 0 99 (MP_r hC (hW.1 i)) (by omega) (by omega)) ⟨rfl, rfl⟩ rfl hP (MP_r hC (hW.1 i)).1 (MP_r hC (hW.1 i)).2.1 rfl rfl rfl hl rfl (Nat.le_of_ble_eq_true rfl) dX6_digest_35 ⟨Nat.zero_le _, Nat.zero_le _⟩ (fun r57 e_r57 => ?_)
        subst e_r57
        refine lv_i2l hx hb dX6_digest_38 rfl ?_
        refine q_sSl C0 lX6_206 (c_X6_add l D y L F sv ((iI (cntP (vst μ (vbk μ i)) 0 99)).toInt64)) ⟨rfl, rfl⟩ rfl hP rfl hl rfl (Nat.le_of_ble_eq_true rfl) dX6_digest_39 ⟨Nat.zero_le _, Nat.zero_le _⟩ (fun r58 e_r58 => ?_)
        subst e_r58
        refine lv_aload hx hb dX6_digest_42 (lv_at hl 0 rfl) ?_
        refine q_getN C0 iX5 hP (MP_r hC (hW.1 i)).1 (MP_r hC (hW.1 i)).2.1 rfl 0 (by decide) C0.2.2.2.2.2.2.2.1 rfl (v := .int (iI ((vod μ (vbk μ i))))) rfl dX6_digest_44 ?_
        refine lv_i2l hx hb dX6_digest_47 rfl ?_
        refine q_sSl C0 lX6_206 (c_X6_add l D y L F (sv * 31 + ((iI (cntP (vst μ (vbk μ i)) 0 99)).toInt64)) ((iI (vod μ (vbk μ i))).toInt64)) ⟨rfl, rfl⟩ rfl hP rfl hl rfl (Nat.le_of_ble_eq_true rfl) dX6_digest_48 ⟨Nat.zero_le _, Nat.zero_le _⟩ (fun r59 e_r59 => ?_)
        subst e_r59
        refine lv_aload hx hb dX6_digest_51 (lv_at hl 0 rfl) ?_
        refine q_sS C0 lX6_131 (c_X6_hash l D y L F (urh G (vbk μ i)) (urw G (vbk μ i)) (vod μ (vbk μ i)) (vst μ (vbk μ i)) (MP_r hC (hW.1 i))) ⟨rfl, rfl⟩ rfl hP rfl hl rfl (Nat.le_of_ble_eq_true rfl) dX6_digest_53 ⟨Nat.zero_le _, Nat.zero_le _⟩ (fun r60 e_r60 => ?_)
        subst e_r60
        refine lv_i2l hx hb dX6_digest_56 rfl ?_
        refine q_sSl C0 lX6_206 (c_X6_add l D y L F ((sv * 31 + ((iI (cntP (vst μ (vbk μ i)) 0 99)).toInt64)) * 31 + ((iI (vod μ (vbk μ i))).toInt64)) ((iI (hashM (vod μ (vbk μ i)) (vst μ (vbk μ i)))).toInt64)) ⟨rfl, rfl⟩ rfl hP rfl hl rfl (Nat.le_of_ble_eq_true rfl) dX6_digest_57 ⟨Nat.zero_le _, Nat.zero_le _⟩ (fun r61 e_r61 => ?_)
        subst e_r61
        refine lv_lstore_n (lv' := [(1, .long ((((sv * 31 + ((iI (cntP (vst μ (vbk μ i)) 0 99)).toInt64)) * 31 + ((iI (vod μ (vbk μ i))).toInt64)) * 31 + ((iI (hashM (vod μ (vbk μ i)) (vst μ (vbk μ i)))).toInt64)))), (6, .ref ((urh G (vbk μ i)))), (0, .ref ((ubg G))), (3, .ref ((uab G))), (4, .int (iI 4)), (5, .int (iI i))]) hx hb dX6_digest_60 rfl hl (by decide) rfl (fun ls hl => ?_)
        refine q_iconst hx hb dX6_digest_61 ?_
        refine lv_istore (lv' := [(7, .int (iI 0)), (1, .long ((((sv * 31 + ((iI (cntP (vst μ (vbk μ i)) 0 99)).toInt64)) * 31 + ((iI (vod μ (vbk μ i))).toInt64)) * 31 + ((iI (hashM (vod μ (vbk μ i)) (vst μ (vbk μ i)))).toInt64)))), (6, .ref ((urh G (vbk μ i)))), (0, .ref ((ubg G))), (3, .ref ((uab G))), (4, .int (iI 4)), (5, .int (iI i))]) hx hb dX6_digest_62 hl (by decide) rfl (fun ls hl => ?_)
        have LP64 : ∀ (n_LP64 : Nat) (r : Int) (tv : Int64) (H : Heap) (locs : List Loc), (0 ≤ r ∧ r ≤ 100) → (dmBk μ i sv = mxP (mpU (vod μ (vbk μ i)) (vst μ (vbk μ i))) (vst μ (vbk μ i)) r tv) → (va_P D vwCl (va_pl L F) H) → (va_D (AL L sz) (va_pl L F)) → (va_S (AL L sz) s.heap H locs) → (100 - r).toNat = n_LP64 → ∀ ls : Array Slot, lv_has ls 8 [(0, .ref ((ubg G))), (1, .long (tv)), (3, .ref ((uab G))), (4, .int (iI 4)), (5, .int (iI i)), (6, .ref ((urh G (vbk μ i)))), (7, .int (iI r))] → W p l e ({ frames := 3, cells := 0, slots := 0, locals := 66 } : Room) s m [.ref ((ubg G))].toArray below meth c H locs 0 0 (MQ below (cMl D (AL L sz) (fun r L1 F1 => r = jR_digest1 μ j ∧ ∃ (O1 : Nat → Prop) (G1 : MG), MP y L1 F1 O1 G1 (jS_digest1 μ j) ∧ ubg G1 = ubg G ∧ Ext O O1 L L1 F F1)) [.ref ((ubg G))].toArray s 0 0 (AL L sz)) (F0 m 64 ls []) := by
          intro n_LP64
          induction n_LP64 using Nat.strongRecOn with
          | ind n_LP64 ih_LP64 =>
            intro r tv H locs hr hJ hP hD hS hm_LP64 ls hl
            refine lv_iload hx hb dX6_digest_64 (lv_at hl 6 rfl) ?_
            refine q_bipush hx hb dX6_digest_66 (by decide) ?_
            refine q_icmp_ge hx hb dX6_digest_68 (tgt := 110) (by decide) (by omega) (by omega) (fun c62 => ?_) (fun c62 => ?_)
            · refine q_iinc (x := i) (n := 1) (lv' := [(5, .int (iI ((i + 1)))), (0, .ref ((ubg G))), (1, .long (tv)), (3, .ref ((uab G))), (4, .int (iI 4)), (6, .ref ((urh G (vbk μ i)))), (7, .int (iI r))]) hx hb dX6_digest_110 hl (k := 4) rfl (by decide) rfl (fun ls hl => ?_)
              refine lv_goto (tgt := 16) hx hb dX6_digest_113 (by decide) ?_
              exact ih_LP16 _ (by omega) (i + 1) tv _ _ (by omega) (by rw [hI, itrP_s (by omega)]; first | (rw [hJ, mxP_e (by omega)]; done) | rfl) (hP) (hD) (hS) rfl ls (lv_sub hl [1, 2, 3, 4, 0] rfl)
            · refine lv_aload hx hb dX6_digest_71 (lv_at hl 5 rfl) ?_
              refine lv_aload hx hb dX6_digest_73 (lv_at hl 5 rfl) ?_
              refine lv_iload hx hb dX6_digest_75 (lv_at hl 6 rfl) ?_
              refine q_vS C0 lX6_100 (c_X5_key l D y L F (urh G (vbk μ i)) (urw G (vbk μ i)) (vod μ (vbk μ i)) (vst μ (vbk μ i)) r (MP_r hC (hW.1 i)) (by omega)) ⟨rfl, rfl⟩ rfl hP (MP_r hC (hW.1 i)).1 (MP_r hC (hW.1 i)).2.1 rfl rfl rfl hl rfl (Nat.le_of_ble_eq_true rfl) dX6_digest_77 ⟨Nat.zero_le _, Nat.zero_le _⟩ (fun r63 e_r63 => ?_)
              subst e_r63
              have b_64 := @turn_b (vod μ (vbk μ i)) r (by omega)
              refine q_vS C0 lX6_49 (c_X5_has l D y L F (urh G (vbk μ i)) (urw G (vbk μ i)) (vod μ (vbk μ i)) (vst μ (vbk μ i)) (turn (vod μ (vbk μ i)) r) (MP_r hC (hW.1 i)) (by omega)) ⟨rfl, rfl⟩ rfl hP (MP_r hC (hW.1 i)).1 (MP_r hC (hW.1 i)).2.1 rfl rfl rfl hl rfl (Nat.le_of_ble_eq_true rfl) dX6_digest_80 ⟨Nat.zero_le _, Nat.zero_le _⟩ (fun r65 e_r65 => ?_)
              subst e_r65
              have b_66 := isT_b (vst μ (vbk μ i)) (turn (vod μ (vbk μ i)) (turn (vod μ (vbk μ i)) r))
              refine q_if_eq hx hb dX6_digest_83 (tgt := 104) (by decide) (by omega) (fun c67 => ?_) (fun c67 => ?_)
              · have t_ := isT_turn (vst μ (vbk μ i)) (vod μ (vbk μ i)) (r := r) (by omega)
                refine q_iinc (x := r) (n := 1) (lv' := [(7, .int (iI ((r + 1)))), (0, .ref ((ubg G))), (1, .long (tv)), (3, .ref ((uab G))), (4, .int (iI 4)), (5, .int (iI i)), (6, .ref ((urh G (vbk μ i))))]) hx hb dX6_digest_104 hl (k := 6) rfl (by decide) rfl (fun ls hl => ?_)
                refine lv_goto (tgt := 64) hx hb dX6_digest_107 (by decide) ?_
                exact ih_LP64 _ (by omega) (r + 1) tv _ _ (by omega) (by rw [hJ, mxP_u (by omega)]; first | (rw [if_pos (by omega)]; done) | (rw [if_neg (by omega)]; done) | (rw [if_pos (by omega)]; rfl) | (rw [if_neg (by omega)]; rfl)) (hP) (hD) (hS) rfl ls (lv_sub hl [1, 2, 3, 4, 5, 6, 0] rfl)
              · have t_ := isT_turn (vst μ (vbk μ i)) (vod μ (vbk μ i)) (r := r) (by omega)
                refine lv_lload_n hx hb dX6_digest_86 rfl (lv_at hl 1 rfl) ?_
                refine lv_aload hx hb dX6_digest_87 (lv_at hl 5 rfl) ?_
                refine lv_aload hx hb dX6_digest_89 (lv_at hl 5 rfl) ?_
                refine lv_iload hx hb dX6_digest_91 (lv_at hl 6 rfl) ?_
                refine q_vS C0 lX6_100 (c_X5_key l D y L F (urh G (vbk μ i)) (urw G (vbk μ i)) (vod μ (vbk μ i)) (vst μ (vbk μ i)) r (MP_r hC (hW.1 i)) (by omega)) ⟨rfl, rfl⟩ rfl hP (MP_r hC (hW.1 i)).1 (MP_r hC (hW.1 i)).2.1 rfl rfl rfl hl rfl (Nat.le_of_ble_eq_true rfl) dX6_digest_93 ⟨Nat.zero_le _, Nat.zero_le _⟩ (fun r68 e_r68 => ?_)
                subst e_r68
                have b_69 := @turn_b (vod μ (vbk μ i)) r (by omega)
                refine q_vS C0 lX6_117 (c_X5_pair l D y L F (urh G (vbk μ i)) (urw G (vbk μ i)) (vod μ (vbk μ i)) (vst μ (vbk μ i)) (turn (vod μ (vbk μ i)) r) (MP_r hC (hW.1 i)) (by omega)) ⟨rfl, rfl⟩ rfl hP (MP_r hC (hW.1 i)).1 (MP_r hC (hW.1 i)).2.1 rfl rfl rfl hl rfl (Nat.le_of_ble_eq_true rfl) dX6_digest_96 ⟨Nat.zero_le _, Nat.zero_le _⟩ (fun r70 e_r70 => ?_)
                subst e_r70
                refine lv_i2l hx hb dX6_digest_99 rfl ?_
                refine q_sSl C0 lX6_206 (c_X6_add l D y L F tv ((iI ((turn (vod μ (vbk μ i)) r) * 100 + (vst μ (vbk μ i)) (turn (vod μ (vbk μ i)) (turn (vod μ (vbk μ i)) r)))).toInt64)) ⟨rfl, rfl⟩ rfl hP rfl hl rfl (Nat.le_of_ble_eq_true rfl) dX6_digest_100 ⟨Nat.zero_le _, Nat.zero_le _⟩ (fun r71 e_r71 => ?_)
                subst e_r71
                refine lv_lstore_n (lv' := [(1, .long ((tv * 31 + ((iI ((turn (vod μ (vbk μ i)) r) * 100 + (vst μ (vbk μ i)) (turn (vod μ (vbk μ i)) (turn (vod μ (vbk μ i)) r)))).toInt64)))), (0, .ref ((ubg G))), (3, .ref ((uab G))), (4, .int (iI 4)), (5, .int (iI i)), (6, .ref ((urh G (vbk μ i)))), (7, .int (iI r))]) hx hb dX6_digest_103 rfl hl (by decide) rfl (fun ls hl => ?_)
                refine q_iinc (x := r) (n := 1) (lv' := [(7, .int (iI ((r + 1)))), (1, .long ((tv * 31 + ((iI ((turn (vod μ (vbk μ i)) r) * 100 + (vst μ (vbk μ i)) (turn (vod μ (vbk μ i)) (turn (vod μ (vbk μ i)) r)))).toInt64)))), (0, .ref ((ubg G))), (3, .ref ((uab G))), (4, .int (iI 4)), (5, .int (iI i)), (6, .ref ((urh G (vbk μ i))))]) hx hb dX6_digest_104 hl (k := 6) rfl (by decide) rfl (fun ls hl => ?_)
                refine lv_goto (tgt := 64) hx hb dX6_digest_107 (by decide) ?_
                exact ih_LP64 _ (by omega) (r + 1) (tv * 31 + ((iI ((turn (vod μ (vbk μ i)) r) * 100 + (vst μ (vbk μ i)) (turn (vod μ (vbk μ i)) (turn (vod μ (vbk μ i)) r)))).toInt64)) _ _ (by omega) (by rw [hJ, mxP_u (by omega)]; first | (rw [if_pos (by omega)]; done) | (rw [if_neg (by omega)]; done) | (rw [if_pos (by omega)]; rfl) | (rw [if_neg (by omega)]; rfl)) (hP) (hD) (hS) rfl ls (lv_sub hl [2, 1, 3, 4, 5, 6, 0] rfl)
        exact LP64 _ 0 (((sv * 31 + ((iI (cntP (vst μ (vbk μ i)) 0 99)).toInt64)) * 31 + ((iI (vod μ (vbk μ i))).toInt64)) * 31 + ((iI (hashM (vod μ (vbk μ i)) (vst μ (vbk μ i)))).toInt64)) _ _ (by omega) (rfl) (hP) (hD) (hS) rfl ls (lv_sub hl [3, 1, 4, 5, 6, 2, 0] rfl)
  exact LP16 _ 0 17706 _ _ (by omega) (rfl) (hP) (hD) (hS) rfl ls (lv_sub hl [4, 3, 2, 1, 0] rfl)
