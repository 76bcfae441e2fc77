-- nest mates' constructors
def CLN (y : MethodName) (b : ByteArray) (n k : Nat) : Prop := Cond.instanceMethod y ∈ Tt ∧ Cond.initialized y.cls ∈ Tt ∧ Cond.code y b n none ∈ Tt ∧ y.name = "<init>" ∧ (y.cls ≠ "java/lang/invoke/MethodHandle" ∧ y.cls ≠ "java/lang/invoke/VarHandle" ∧ (parseMethodDescriptor y.desc).map (fun d => d.parameters.length) = some k)
theorem nX2 : CLN yX2_init cX2_init 1 0 := ⟨w1_83, iniX2, w1_84, by decide, ⟨by decide +kernel, by decide +kernel, by decide +kernel⟩⟩
theorem nX4 : CLN yX4_init cX4_init 1 0 := ⟨w2_64, iniX4, w2_65, by decide, ⟨by decide +kernel, by decide +kernel, by decide +kernel⟩⟩
section QN
variable {p : Program} {l : Launch} {e : Env} {R : Room} {s : State} {m : MethodId} {args : Array Value} {below : List Frame} {meth : Method} {c : Code} {H : Heap} {locs : List Loc} {cells slots : Nat} {Q : State → Prop} {cc : ByteArray} {pc : Nat} {ls : Array Slot} {rest : List Value}
variable {D : va_G} {y : Nat → ClassId} {nL : Nat} {kw : Cond} {own : String} {L : List Nat} {F : Nat → va_E} {a : Nat} {A : Nat → Prop} {H0 : Heap}
variable {yy : MethodName} {bytes : ByteArray} {maxL n index mc ms : Nat} {ret : Option FieldType} {rm : Room} {As st : List Value}
theorem q_inMv {post : Unit → List Nat → (Nat → va_E) → Prop} {host : String} (C0 : Cx D y p c cc nL s m args kw own) (k : CLN yy bytes maxL n ∧ va_Nw (.methodLinkNest own index yy host) s) (hM : Met l yy (.code yy bytes maxL none :: Tt) rm (PcM D y L F H.size (.ref a :: As)) (cMv D (AL L H.size) post) mc ms (AL L H.size)) (hrc : rm.cells = mc ∧ rm.slots = ms) (hR : (Nat.ble (rm.frames + 1) R.frames && Nat.ble (8 + (maxL + 11) + rm.locals) R.locals) = true) (hP : va_P D vwCl (va_pl L F) H) (hD : va_D A (va_pl L F)) (hS : va_S A H0 H locs) (hA : ∀ q, H0.size ≤ q → A q) (hn : As.length = n) {lv : List (Nat × Value)} (hl : lv_has ls nL lv) (hst : st = As.reverse ++ .ref a :: rest) (hW : (rest.map fun v => v.category).sum ≤ 8) (hdg : decode cc pc = .ok (.invokespecial index, 3)) (hcs : cells + mc ≤ R.cells ∧ slots + ms ≤ R.slots)
    (kk : ∀ (r : Unit) (H1 : Heap) (locs1 : List Loc) (L1 : List Nat) (F1 : Nat → va_E), va_P D vwCl (va_pl L1 F1) H1 → va_D A (va_pl L1 F1) → va_S A H0 H1 locs1 → H.size ≤ H1.size → post r L1 F1 → W p l e R s m args below meth c H1 locs1 (cells + mc) (slots + ms) Q (F0 m (pc + 3) ls (rest))) : W p l e R s m args below meth c H locs cells slots Q (F0 m pc ls st) := by
  subst hst
  have hts := C0.1.2.2.2.2
  obtain ⟨⟨k1, k2, k3, k4, k5⟩, k6⟩ := k
  rw [Bool.and_eq_true] at hR
  have cw : va_CN R s args own index yy host bytes maxL none (.code yy bytes maxL none :: Tt) rm mc ms n := va_cnB n hts (fun w hw => by
    rcases List.mem_cons.mp hw with rfl | hw
    · exact ⟨List.mem_cons_of_mem _ k3, good_of_word (List.mem_filter.mp k3).2⟩
    · exact ⟨List.mem_cons_of_mem _ hw, good_of_word (List.mem_filter.mp hw).2⟩) rfl hrc.1 hrc.2 k6 (hts _ (List.mem_cons_of_mem _ k2)) k5 ⟨Nat.le_of_ble_eq_true hR.1, Nat.le_of_ble_eq_true hR.2⟩
  exact q_goMv (va_runIN (H := H) (locs := locs) (cells := cells) (slots := slots) (rest := rest) (g := F0 m pc ls (As.reverse ++ .ref a :: rest)) (e := e) (below := below) (meth := meth) C0.1 hM ⟨cw, k4, hts _ (List.mem_cons_of_mem _ k1)⟩ ⟨PcM_blind _ _ _ _ _ _, preM C0 hP hD _⟩ rfl hn hl.1 rfl (lv_room hW) hdg ⟨hcs.1, hcs.2⟩) hS (AL_in (D := D) hD hS hA) kk
theorem q_newq (C0 : Cx D y p c cc nL s m args kw own) {C : String} {t : Nat} (hcl : Cond.classLink own index C ∈ Tt) (hao : va_AO C s) (ht : (tysG y)[t]? = some (y t, .object C)) (hP : va_P D vwCl (va_pl L F) H) (hD : va_D A (va_pl L F)) (hS : va_S A H0 H locs) (hA : ∀ q, H0.size ≤ q → A q) {z : Int} {N : Nat} (hz : z = N) (hN : N ≤ 65536) (hcells : cells + 1 ≤ R.cells) (hslots : slots + N ≤ R.slots) (hdg : decode cc pc = .ok (.anewarray index, 3))
    (kk : ∀ (q : Nat) (H1 : Heap), q ∉ L → va_P D vwCl (va_pl (L ++ [q]) (va_up F q (arrQ (y t) N (fun _ => none)))) H1 → va_D A (va_pl (L ++ [q]) (va_up F q (arrQ (y t) N (fun _ => none)))) → va_S A H0 H1 locs → W p l e R s m args below meth c H1 locs (cells + 1) (slots + N) Q (F0 m (pc + 3) ls (.ref q :: rest))) : W p l e R s m args below meth c H locs cells slots Q (F0 m pc ls (.int (iI z) :: rest)) := by
  obtain ⟨⟨hx, hb, hml, hown, hts⟩, hK⟩ := C0
  refine va_newq (C := C) (N' := N) hx hb hown (hts _ (List.mem_cons_of_mem _ hcl)) hao hK.1 hP hD hS hA ?_ ?_ ?_ hcells hslots hdg (fun q cA H1 hK1 hP1 hD1 hS1 => ?_)
  · rw [hz, iI_0, iI_lt (by omega) (by omega)]; omega
  · rw [hz, iI_clamp (by omega)]; omega
  · omega
  · have hcA : cA = y t := by
      obtain ⟨h0, kA, comp, f2, f3, f4, f1⟩ := hK1.2 5 (cA, .object C) rfl
      obtain ⟨g0, kB, comp2, g2, g3, g4, g1⟩ := hK.1.2 t (y t, .object C) ht
      exact Option.some.inj (f1.symm.trans g1)
    subst hcA
    have hq : q ∉ L := pl_notin hD1
    rw [va_pl_push hq] at hP1 hD1
    exact kk q H1 hq hP1 hD1 hS1
end QN
/-- an entry may be told otherwise, if its cell is the same -/
theorem va_P_re {D : va_G} {L : List Nat} {F : Nat → va_E} {H : Heap} {a : Nat} {e : va_E} (hP : va_P D vwCl (va_pl L F) H) (h : ∀ X : Heap, va_at D vwCl (a, F a) X → va_at D vwCl (a, e) X) : va_P D vwCl (va_pl L (va_up F a e)) H := by
  intro k q hk
  obtain ⟨b, hb, rfl⟩ := List.mem_map.mp (List.mem_of_getElem? hk)
  obtain ⟨i, hi⟩ := va_pl_get (X := []) (f := F) hb
  have h0 := hP i _ (by simpa using hi)
  by_cases hba : b = a
  · subst hba
    rw [va_up_self]
    exact h _ h0
  · rw [va_up_ne _ _ hba]
    exact h0
theorem va_D_re {A : Nat → Prop} {L : List Nat} {F F1 : Nat → va_E} (hD : va_D A (va_pl L F)) : va_D A (va_pl L F1) := by
  have cv : ∀ (i : Nat) (q : Nat × va_E), (va_pl L F1)[i]? = some q → (va_pl L F)[i]? = some (q.1, F q.1) := by
    intro i q hq
    unfold va_pl at hq ⊢
    rw [List.getElem?_map] at hq ⊢
    cases hL : L[i]? with
    | none => rw [hL] at hq; cases hq
    | some b => rw [hL] at hq; cases hq; rfl
  exact ⟨fun i j p q h1 h2 e => hD.1 i j _ _ (cv i p h1) (cv j q h2) e, fun k q hk => by
    have z := hD.2 k _ (cv k q hk)
    exact z⟩
theorem at_arrQ {D : va_G} {a n : Nat} {cA : ClassId} {g g2 : Int → Option Nat} (h : ∀ i : Int, 0 ≤ i → i < n → g i = g2 i) (X : Heap) (h1 : va_at D vwCl (a, arrQ cA n g) X) : va_at D vwCl (a, arrQ cA n g2) X := by
  have e : vp_cell cA (n, .inr (.inr (.inr (.inr (fun k => g (k : Int)))))) = vp_cell cA (n, .inr (.inr (.inr (.inr (fun k => g2 (k : Int)))))) := by
    dsimp only [vp_cell]
    unfold arrV
    congr 2
    funext j
    show va_rf (g (j.val : Int)) = va_rf (g2 (j.val : Int))
    rw [h _ (by omega) (by have := j.isLt; omega)]
  exact (show X[a]? = some _ from h1).trans (congrArg some e)
