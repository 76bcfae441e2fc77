-- the law: the picture of both, and what a call does to it
def LI (y : Nat → ClassId) (L : List Nat) (F : Nat → va_E) (bg mg ou : Nat) (σ : CS) (μ : MS) : Prop := ∃ (O : Nat → Prop) (G : CG) (U : Nat → Prop) (V : MG) (nv : Int64) (sv : Value), CP y L F O G σ ∧ gbg G = bg ∧ MP y L F U V μ ∧ ubg V = mg ∧ (∀ q, O q → q ∈ L ∧ ¬ U q ∧ q ≠ ou) ∧ (∀ q, U q → q ∈ L ∧ q ≠ ou) ∧ ou ∈ L ∧ F ou = .inr (6, [.long nv, sv])
section LIS
variable {y : Nat → ClassId} {L L1 : List Nat} {F F1 : Nat → va_E} {O O1 U U1 : Nat → Prop} {G G1 : CG} {V V1 : MG} {σ σ1 : CS} {μ μ1 : MS} {bg mg ou : Nat} {nv n1 : Int64} {sv s1 : Value}
theorem CP_cut (h : CP y L F O G σ) : CP y L F (fun q => O q ∧ q ∈ L) G σ := by
  obtain ⟨h1, h2, h3, h4, h5, h6, h7, h8, hO⟩ := h
  have h7' : ∀ i, i < zn σ → Rw y L F (grh G i) (grw G i) (zod σ i) (zst σ i).1 (zst σ i).2.1 (zst σ i).2.2 := h7
  exact ⟨h1, h2, h3, h4, h5, h6, h7, h8, ⟨hO.1, h1.1⟩, ⟨hO.2.1, h2.1⟩, ⟨hO.2.2.1, h3.1⟩, ⟨hO.2.2.2.1, h4.1⟩, ⟨hO.2.2.2.2.1, h6.1⟩, fun i a b => ⟨hO.2.2.2.2.2.1 i a b, (h5 i a b).1⟩, fun i hi => ⟨⟨(hO.2.2.2.2.2.2 i hi).1, (h7' i hi).1⟩, ⟨(hO.2.2.2.2.2.2 i hi).2, (h7' i hi).2.2.1⟩⟩⟩
theorem MP_cut (h : MP y L F U V μ) : MP y L F (fun q => U q ∧ q ∈ L) V μ := by
  obtain ⟨h1, h2, h3, h4, h5, h6, h7, h8, h9, hO⟩ := h
  have h8' : ∀ i, i < vn μ → urh V i ∈ L ∧ urw V i ∈ L := fun i hi => ⟨(h8 i hi).1, (h8 i hi).2.2.1⟩
  exact ⟨h1, h2, h3, h4, h5, h6, h7, h8, h9, ⟨hO.1, h1.1⟩, ⟨hO.2.1, h2.1⟩, ⟨hO.2.2.1, h3.1⟩, ⟨hO.2.2.2.1, h4.1⟩, ⟨hO.2.2.2.2.1, h5.1⟩, ⟨hO.2.2.2.2.2.1, h6.1⟩, ⟨hO.2.2.2.2.2.2.1, h7.1⟩, fun i hi => ⟨⟨(hO.2.2.2.2.2.2.2 i hi).1, (h8' i hi).1⟩, ⟨(hO.2.2.2.2.2.2.2 i hi).2, (h8' i hi).2⟩⟩⟩
theorem LI_c (hg : gbg G = bg) (hM : MP y L F U V μ) (hv : ubg V = mg) (d1 : ∀ q, O q → q ∈ L ∧ ¬ U q ∧ q ≠ ou) (d2 : ∀ q, U q → q ∈ L ∧ q ≠ ou) (ho : ou ∈ L) (hC1 : CP y L1 F1 O1 G1 σ1) (hg1 : gbg G1 = gbg G) (hs : ∀ q ∈ L, q ∈ L1) (hf : ∀ q ∈ L, ¬ O q → q ≠ ou → F1 q = F q) (hO1 : ∀ q, O1 q → O q ∨ q ∉ L) (hF1 : F1 ou = .inr (6, [.long n1, s1])) : LI y L1 F1 bg mg ou σ1 μ :=
  ⟨fun q => O1 q ∧ q ∈ L1, G1, U, V, n1, s1, CP_cut hC1, hg1.trans hg, MP_fr hM hs (fun q hq hu => hf q hq (fun z => (d1 q z).2.1 hu) (d2 q hu).2), hv, fun q h => ⟨h.2, fun hu => (hO1 q h.1).elim (fun z => (d1 q z).2.1 hu) (fun z => z (d2 q hu).1), fun z => (hO1 q h.1).elim (fun w => (d1 q w).2.2 z) (fun w => w (z ▸ ho))⟩, fun q hu => ⟨hs q (d2 q hu).1, (d2 q hu).2⟩, hs ou ho, hF1⟩
theorem LI_m (hC : CP y L F O G σ) (hg : gbg G = bg) (d1 : ∀ q, O q → q ∈ L ∧ ¬ U q ∧ q ≠ ou) (d2 : ∀ q, U q → q ∈ L ∧ q ≠ ou) (ho : ou ∈ L) (hF : F ou = .inr (6, [.long nv, sv])) (hM1 : MP y L1 F1 U1 V1 μ1) (hv1 : ubg V1 = mg) (hE : Ext U U1 L L1 F F1) : LI y L1 F1 bg mg ou σ μ1 :=
  ⟨O, G, fun q => U1 q ∧ q ∈ L1, V1, nv, sv, CP_fr hC hE.1 (fun q hq h9 => hE.2.1 q hq (d1 q h9).2.1), hg, MP_cut hM1, hv1, fun q h => ⟨hE.1 q (d1 q h).1, fun hu => (hE.2.2 q hu.1).elim (d1 q h).2.1 (fun z => z (d1 q h).1), (d1 q h).2.2⟩, fun q hu => ⟨hu.2, fun z => (hE.2.2 q hu.1).elim (fun w => (d2 q w).2 z) (fun w => w (z ▸ ho))⟩, hE.1 ou ho, (hE.2.1 ou ho (fun z => (d2 ou z).2 rfl)).trans hF⟩
theorem cS_of {okA okB : Prop} [Decidable (okA ∧ okB)] {σ2 : CS} {r e2 : Int} {Rv : Int64} (h : (okA ∧ okB ∧ r = 0 ∧ σ1 = σ2 ∧ n1 = Rv) ∨ (¬ okA ∧ r = 1 ∧ σ1 = σ) ∨ (okA ∧ ¬ okB ∧ r = e2 ∧ σ1 = σ)) : σ1 = if okA ∧ okB then σ2 else σ := by
  rcases h with ⟨a, b, _, e, _⟩ | ⟨a, _, e⟩ | ⟨a, b, _, e⟩
  · rw [if_pos ⟨a, b⟩]; exact e
  · rw [if_neg (fun z => a z.1)]; exact e
  · rw [if_neg (fun z => b z.2)]; exact e
end LIS
def zb (v : Int) : Int := if v = 0 then 0 else 1
def sxI (xs : Nat → Int32) (j : Int) : Int := (xs j.toNat).toInt
theorem sxI_b (xs : Nat → Int32) (j : Int) : -2147483648 ≤ sxI xs j ∧ sxI xs j ≤ 2147483647 := ⟨Int32.le_toInt _, by have := Int32.toInt_lt (xs j.toNat); unfold sxI; omega⟩
def XS0 (s : State) : Prop := vx_Zq Bundle.tN "UNASSIGNED_STACK" Bundle.steD (AL [] s.heap.size) s s.heap ∧ vx_Zq Bundle.tN "SUPPRESSED_SENTINEL" Bundle.listD (AL [] s.heap.size) s s.heap
/-- what stands throughout the law's body -/
def LX (D : va_G) (y : Nat → ClassId) (sl : List (Nat × Nat × Nat)) (p : Program) (c : Code) (s : State) (m : MethodId) (b N : Nat) (xs : Nat → Int32) : Prop := Cx D y p c cL_law 7 s m #[.ref b] (.initialized RX3) RL ∧ JW sl (AL [] s.heap.size) s s.heap ∧ va_Nc xIA xIO s ∧ XS0 s ∧ va_X b N xs s s.heap ∧ b < s.heap.size ∧ N ≤ 448
theorem XS_of {s : State} {L : List Nat} {F : Nat → va_E} {H : Heap} {locs : List Loc} (h : XS0 s) (hS : va_S (AL [] s.heap.size) s.heap H locs) (hD : va_D (AL [] s.heap.size) (va_pl L F)) : XS L s H := by
  have hs : ∀ q, q ∈ L → AL [] s.heap.size q := fun q hq => by
    obtain ⟨k, hk⟩ := va_pl_get (X := []) (f := F) hq
    exact hD.2 k _ hk
  exact ⟨(h.1.kept hS.2.1).narrow hs, (h.2.kept hS.2.1).narrow hs⟩
section LRW
variable {p : Program} {l : Launch} {e : Env} {R : Room} {s : State} {m : MethodId} {args : Array Value} {below : List Frame} {meth : Method} {c : Code} {H : Heap} {locs : List Loc} {cells slots : Nat} {Q : State → Prop} {cc : ByteArray} {pc : Nat} {ls : Array Slot} {rest : List Value} {A : Nat → Prop}
theorem q_sld (hx : p.tables.exec = Jvm.exec) (hb : c.code = cc) {b N : Nat} {xs : Nat → Int32} (hX : va_X b N xs s s.heap) (hbl : b < s.heap.size) (hbA : ¬ A b) (hS : va_S A s.heap H locs) {j : Int} (hj : 0 ≤ j ∧ j < N) (hN : N ≤ 448) (hdg : decode cc pc = .ok (.iaload, 1)) (kk : W p l e R s m args below meth c H locs cells slots Q (F0 m (pc + 1) ls (.int (iI (sxI xs j)) :: rest))) : W p l e R s m args below meth c H locs cells slots Q (F0 m pc ls (.int (iI j) :: .ref b :: rest)) :=
  va_sld hx hb hX hbl hbA hS (iI_in hj.1 hj.2 (by omega)) hdg (by
    rw [iI_clamp (by omega), show xs j.toNat = iI (sxI xs j) from (Int32.ofInt_toInt _).symm]
    exact kk)
theorem q_slen (hx : p.tables.exec = Jvm.exec) (hb : c.code = cc) {b N : Nat} {xs : Nat → Int32} (hX : va_X b N xs s s.heap) (hbl : b < s.heap.size) (hbA : ¬ A b) (hS : va_S A s.heap H locs) (hdg : decode cc pc = .ok (.arraylength, 1)) (kk : W p l e R s m args below meth c H locs cells slots Q (F0 m (pc + 1) ls (.int (iI (N : Int)) :: rest))) : W p l e R s m args below meth c H locs cells slots Q (F0 m pc ls (.ref b :: rest)) :=
  va_slen hx hb hX hbl hbA hS hdg (by
    rw [show Int32.ofNat N = iI (N : Int) from Int32.ofInt_eq_ofNat.symm]
    exact kk)
end LRW
theorem AL_nil {n q : Nat} (h : q < n) : ¬ AL [] n q := fun z => z.elim (fun w => nomatch w) (fun w => absurd w (by omega))
def cS_freshBook (σ : CS) (xb xo : Int) : CS := if ((0 ≤ xb ∧ xb ≤ 3)) ∧ ((0 ≤ xo ∧ xo ≤ 2)) then kS_freshBook σ xb xo else σ
def cS_buildBook (σ : CS) (xb xa xw : Int) : CS := if ((0 ≤ xb ∧ xb ≤ 3) ∧ (0 ≤ xa ∧ xa ≤ 3)) ∧ ((0 ≤ xw ∧ xw ≤ 6)) then kS_buildBook σ xb xa xw else σ
def cS_splitBook (σ : CS) (xb xk xc : Int) : CS := if ((0 ≤ xb ∧ xb ≤ 3) ∧ (0 ≤ xc ∧ xc ≤ 3)) ∧ ((0 ≤ xk ∧ xk ≤ 99)) then kS_splitBook σ xb xk xc else σ
def cS_fill (σ : CS) (xb xf xs xn xw : Int) : CS := if ((0 ≤ xb ∧ xb ≤ 3)) ∧ ((0 ≤ xf ∧ xf ≤ 99) ∧ (0 ≤ xs ∧ xs ≤ 99) ∧ (0 ≤ xn ∧ xn ≤ 100) ∧ (-1 ≤ xw ∧ xw ≤ 99)) then kS_fill σ xb xf xs xn xw else σ
def cS_pour (σ : CS) (xb xc : Int) : CS := if ((0 ≤ xb ∧ xb ≤ 3) ∧ (0 ≤ xc ∧ xc ≤ 3)) ∧ (True) then kS_pour σ xb xc else σ
def cS_keep (σ : CS) (xb xc xw : Int) : CS := if ((0 ≤ xb ∧ xb ≤ 3) ∧ (0 ≤ xc ∧ xc ≤ 3)) ∧ (True) then kS_keep σ xb xc xw else σ
def cS_put (σ : CS) (xb xk xw xt : Int) : CS := if ((0 ≤ xb ∧ xb ≤ 3)) ∧ ((0 ≤ xk ∧ xk ≤ 99) ∧ (0 ≤ xw ∧ xw ≤ 99) ∧ (0 ≤ xt ∧ xt ≤ 2)) then kS_put σ xb xk xw xt else σ
def cS_exchange (σ : CS) (xb xk xo xw : Int) : CS := if ((0 ≤ xb ∧ xb ≤ 3)) ∧ ((0 ≤ xk ∧ xk ≤ 99) ∧ (0 ≤ xo ∧ xo ≤ 99) ∧ (-1 ≤ xw ∧ xw ≤ 99)) then kS_exchange σ xb xk xo xw else σ
def cS_take (σ : CS) (xb xk : Int) : CS := if ((0 ≤ xb ∧ xb ≤ 3)) ∧ ((0 ≤ xk ∧ xk ≤ 99)) then kS_take σ xb xk else σ
def cS_drop (σ : CS) (xb xt : Int) : CS := if ((0 ≤ xb ∧ xb ≤ 3)) ∧ ((0 ≤ xt ∧ xt ≤ 2)) then kS_drop σ xb xt else σ
def cS_has (σ : CS) (xb xw xn : Int) : CS := if ((0 ≤ xb ∧ xb ≤ 3)) ∧ ((0 ≤ xn ∧ xn ≤ 99)) then kS_has σ xb xw xn else σ
def cS_near (σ : CS) (xb xk xt xw : Int) : CS := if ((0 ≤ xb ∧ xb ≤ 3)) ∧ ((0 ≤ xk ∧ xk ≤ 99) ∧ (0 ≤ xt ∧ xt ≤ 4)) then kS_near σ xb xk xt xw else σ
def cS_end (σ : CS) (xb xw xv : Int) : CS := if ((0 ≤ xb ∧ xb ≤ 3)) ∧ (True) then kS_end σ xb xw xv else σ
def cS_keyAt (σ : CS) (xb xn xw : Int) : CS := if ((0 ≤ xb ∧ xb ≤ 3)) ∧ ((0 ≤ xn ∧ xn ≤ 99)) then kS_keyAt σ xb xn xw else σ
def cS_tellBook (σ : CS) (xb xt : Int) : CS := if ((0 ≤ xb ∧ xb ≤ 3)) ∧ ((0 ≤ xt ∧ xt ≤ 3)) then kS_tellBook σ xb xt else σ
def cS_sameBooks (σ : CS) (xb xc : Int) : CS := if ((0 ≤ xb ∧ xb ≤ 3) ∧ (0 ≤ xc ∧ xc ≤ 3)) ∧ (True) then kS_sameBooks σ xb xc else σ
def cS_openView (σ : CS) (xv xb xkind xlow xhigh xends : Int) : CS := if ((0 ≤ xv ∧ xv ≤ 1) ∧ (0 ≤ xb ∧ xb ≤ 3)) ∧ ((0 ≤ xkind ∧ xkind ≤ 2) ∧ (0 ≤ xlow ∧ xlow ≤ 99) ∧ (0 ≤ xhigh ∧ xhigh ≤ 99) ∧ (0 ≤ xends ∧ xends ≤ 3)) then kS_openView σ xv xb xkind xlow xhigh xends else σ
def cS_narrowView (σ : CS) (xv xkind xlow xhigh : Int) : CS := if ((0 ≤ xv ∧ xv ≤ 1)) ∧ ((0 ≤ xkind ∧ xkind ≤ 2) ∧ (0 ≤ xlow ∧ xlow ≤ 99) ∧ (0 ≤ xhigh ∧ xhigh ≤ 99)) then kS_narrowView σ xv xkind xlow xhigh else σ
def cS_buildFromView (σ : CS) (xb xv xw : Int) : CS := if ((0 ≤ xb ∧ xb ≤ 3) ∧ (0 ≤ xv ∧ xv ≤ 1)) ∧ ((0 ≤ xw ∧ xw ≤ 1)) then kS_buildFromView σ xb xv xw else σ
def cS_viewPut (σ : CS) (xv xk xw : Int) : CS := if ((0 ≤ xv ∧ xv ≤ 1)) ∧ ((0 ≤ xk ∧ xk ≤ 99) ∧ (0 ≤ xw ∧ xw ≤ 99)) then kS_viewPut σ xv xk xw else σ
def cS_viewTake (σ : CS) (xv xk : Int) : CS := if ((0 ≤ xv ∧ xv ≤ 1)) ∧ ((0 ≤ xk ∧ xk ≤ 99)) then kS_viewTake σ xv xk else σ
def cS_viewDrop (σ : CS) (xv xt : Int) : CS := if ((0 ≤ xv ∧ xv ≤ 1)) ∧ ((0 ≤ xt ∧ xt ≤ 2)) then kS_viewDrop σ xv xt else σ
def cS_viewNear (σ : CS) (xv xk xt : Int) : CS := if ((0 ≤ xv ∧ xv ≤ 1)) ∧ ((0 ≤ xk ∧ xk ≤ 99) ∧ (0 ≤ xt ∧ xt ≤ 4)) then kS_viewNear σ xv xk xt else σ
def cS_viewTell (σ : CS) (xv xt : Int) : CS := if ((0 ≤ xv ∧ xv ≤ 1)) ∧ ((0 ≤ xt ∧ xt ≤ 3)) then kS_viewTell σ xv xt else σ
def cS_startWalk (σ : CS) (xb : Int) : CS := if ((0 ≤ xb ∧ xb ≤ 3)) ∧ (True) then kS_startWalk σ xb else σ
def cS_freshShelf (σ : CS) (xb xo : Int) : CS := if ((0 ≤ xb ∧ xb ≤ 2)) ∧ ((0 ≤ xo ∧ xo ≤ 2)) then kS_freshShelf σ xb xo else σ
def cS_buildShelf (σ : CS) (xb xa xw : Int) : CS := if ((0 ≤ xb ∧ xb ≤ 2) ∧ (0 ≤ xa ∧ xa ≤ 2)) ∧ ((0 ≤ xw ∧ xw ≤ 6)) then kS_buildShelf σ xb xa xw else σ
def cS_keysOf (σ : CS) (xb xa : Int) : CS := if ((0 ≤ xb ∧ xb ≤ 2) ∧ (0 ≤ xa ∧ xa ≤ 3)) ∧ (True) then kS_keysOf σ xb xa else σ
def cS_lay (σ : CS) (xb xf xs xn xw : Int) : CS := if ((0 ≤ xb ∧ xb ≤ 2)) ∧ ((0 ≤ xf ∧ xf ≤ 99) ∧ (0 ≤ xs ∧ xs ≤ 99) ∧ (0 ≤ xn ∧ xn ≤ 100)) then kS_lay σ xb xf xs xn xw else σ
def cS_shelfBoth (σ : CS) (xb xc xt : Int) : CS := if ((0 ≤ xb ∧ xb ≤ 2) ∧ (0 ≤ xc ∧ xc ≤ 2)) ∧ ((0 ≤ xt ∧ xt ≤ 2)) then kS_shelfBoth σ xb xc xt else σ
def cS_shelfDrop (σ : CS) (xb xt : Int) : CS := if ((0 ≤ xb ∧ xb ≤ 2)) ∧ ((0 ≤ xt ∧ xt ≤ 2)) then kS_shelfDrop σ xb xt else σ
def cS_shelfCut (σ : CS) (xb xlow xhigh xt xc : Int) : CS := if ((0 ≤ xb ∧ xb ≤ 2) ∧ (0 ≤ xc ∧ xc ≤ 2)) ∧ ((0 ≤ xlow ∧ xlow ≤ 99) ∧ (0 ≤ xhigh ∧ xhigh ≤ 99) ∧ (0 ≤ xt ∧ xt ≤ 4)) then kS_shelfCut σ xb xlow xhigh xt xc else σ
def cS_shelfNear (σ : CS) (xb xk xt : Int) : CS := if ((0 ≤ xb ∧ xb ≤ 2)) ∧ ((0 ≤ xk ∧ xk ≤ 99) ∧ (0 ≤ xt ∧ xt ≤ 4)) then kS_shelfNear σ xb xk xt else σ
def cS_shelfTell (σ : CS) (xb xt : Int) : CS := if ((0 ≤ xb ∧ xb ≤ 2)) ∧ ((0 ≤ xt ∧ xt ≤ 4)) then kS_shelfTell σ xb xt else σ
def cS_sameShelves (σ : CS) (xb xc xt : Int) : CS := if ((0 ≤ xb ∧ xb ≤ 2) ∧ (0 ≤ xc ∧ xc ≤ 2)) ∧ ((0 ≤ xt ∧ xt ≤ 1)) then kS_sameShelves σ xb xc xt else σ
def cS_house (σ : CS) (xt : Int) : CS := if (True) ∧ ((0 ≤ xt ∧ xt ≤ 3)) then kS_house σ xt else σ
def cS_walkSet (σ : CS) (xw : Int) : CS := if (True) ∧ ((0 ≤ xw ∧ xw ≤ 99)) then (match zwk σ with | none => kS_walkSet0 σ xw | some j => kS_walkSet1 σ j xw) else σ
def cS_bookText (σ : CS) (xb : Int) : CS := if ((0 ≤ xb ∧ xb ≤ 3)) ∧ (True) then kS_bookText σ xb else σ
def cS_walkNext (σ : CS) : CS := match zwk σ with | none => kS_walkNext0 σ | some j => kS_walkNext1 σ j
def cS_walkTake (σ : CS) : CS := match zwk σ with | none => kS_walkTake0 σ | some j => kS_walkTake1 σ j
def cS_knock (σ : CS) : CS := kS_knock σ
def cS_isSound (σ : CS) : CS := σ
def cS_digest (σ : CS) : CS := σ
def cJ_walkNext (μ : MS) : MS := match vwk μ with | none => jS_walkNext0 μ | some j => jS_walkNext1 μ j
def cJ_walkTake (μ : MS) : MS := match vwk μ with | none => jS_walkTake0 μ | some j => jS_walkTake1 μ j
def cJ_walkSet (μ : MS) (xw : Int) : MS := match vwk μ with | none => jS_walkSet0 μ xw | some j => jS_walkSet1 μ j xw
def cJ_digest (μ : MS) : MS := match vwk μ with | none => jS_digest0 μ | some j => jS_digest1 μ j
theorem tL_156 : CLT RL 156 yL_freshBook cL_freshBook 5 (some .int) [(0, 11, 14, 19), (0, 11, 18, 21)] 4 := ⟨mlL_156, iniL, w2_76, w2_75, ⟨by decide +kernel, by decide +kernel, by decide +kernel⟩⟩
theorem tL_162 : CLT RL 162 yL_buildBook cL_buildBook 6 (some .int) [(0, 13, 16, 19), (0, 13, 20, 21)] 5 := ⟨mlL_162, iniL, w2_175, w2_174, ⟨by decide +kernel, by decide +kernel, by decide +kernel⟩⟩
theorem tL_166 : CLT RL 166 yL_splitBook cL_splitBook 6 (some .int) [(0, 13, 16, 19), (0, 13, 20, 21)] 5 := ⟨mlL_166, iniL, w2_185, w2_184, ⟨by decide +kernel, by decide +kernel, by decide +kernel⟩⟩
theorem tL_169 : CLT RL 169 yL_fill cL_fill 8 (some .int) [(0, 17, 20, 19), (0, 17, 24, 21)] 7 := ⟨mlL_169, iniL, w2_210, w2_209, ⟨by decide +kernel, by decide +kernel, by decide +kernel⟩⟩
theorem tL_173 : CLT RL 173 yL_pour cL_pour 5 (some .int) [(0, 11, 14, 19)] 4 := ⟨mlL_173, iniL, w2_235, w2_234, ⟨by decide +kernel, by decide +kernel, by decide +kernel⟩⟩
theorem tL_176 : CLT RL 176 yL_keep cL_keep 6 (some .int) [(0, 13, 16, 19)] 5 := ⟨mlL_176, iniL, w3_3, w3_2, ⟨by decide +kernel, by decide +kernel, by decide +kernel⟩⟩
theorem tL_180 : CLT RL 180 yL_put cL_put 7 (some .int) [(0, 15, 18, 19), (0, 15, 22, 21)] 6 := ⟨mlL_180, iniL, w3_14, w3_13, ⟨by decide +kernel, by decide +kernel, by decide +kernel⟩⟩
theorem tL_184 : CLT RL 184 yL_exchange cL_exchange 7 (some .int) [(0, 15, 18, 19), (0, 15, 22, 21)] 6 := ⟨mlL_184, iniL, w3_23, w3_22, ⟨by decide +kernel, by decide +kernel, by decide +kernel⟩⟩
theorem tL_187 : CLT RL 187 yL_take cL_take 5 (some .int) [(0, 11, 14, 19), (0, 11, 18, 21)] 4 := ⟨mlL_187, iniL, w3_31, w3_30, ⟨by decide +kernel, by decide +kernel, by decide +kernel⟩⟩
theorem tL_190 : CLT RL 190 yL_drop cL_drop 5 (some .int) [(0, 11, 14, 19), (0, 11, 18, 21)] 4 := ⟨mlL_190, iniL, w3_38, w3_37, ⟨by decide +kernel, by decide +kernel, by decide +kernel⟩⟩
theorem tL_193 : CLT RL 193 yL_has cL_has 6 (some .int) [(0, 20, 23, 19), (0, 20, 27, 21)] 5 := ⟨mlL_193, iniL, w3_52, w3_51, ⟨by decide +kernel, by decide +kernel, by decide +kernel⟩⟩
theorem tL_197 : CLT RL 197 yL_near cL_near 7 (some .int) [(0, 15, 18, 19), (0, 15, 22, 21)] 6 := ⟨mlL_197, iniL, w3_63, w3_62, ⟨by decide +kernel, by decide +kernel, by decide +kernel⟩⟩
theorem tL_201 : CLT RL 201 yL_end cL_end 6 (some .int) [(0, 13, 16, 19)] 5 := ⟨mlL_201, iniL, w3_70, w3_69, ⟨by decide +kernel, by decide +kernel, by decide +kernel⟩⟩
theorem tL_205 : CLT RL 205 yL_keyAt cL_keyAt 6 (some .int) [(0, 13, 16, 19), (0, 13, 20, 21)] 5 := ⟨mlL_205, iniL, w3_81, w3_80, ⟨by decide +kernel, by decide +kernel, by decide +kernel⟩⟩
theorem tL_208 : CLT RL 208 yL_tellBook cL_tellBook 5 (some .int) [(0, 11, 14, 19), (0, 11, 18, 21)] 4 := ⟨mlL_208, iniL, w3_92, w3_91, ⟨by decide +kernel, by decide +kernel, by decide +kernel⟩⟩
theorem tL_211 : CLT RL 211 yL_bookText cL_bookText 4 (some .int) [(0, 9, 12, 19)] 3 := ⟨mlL_211, iniL, w3_99, w3_98, ⟨by decide +kernel, by decide +kernel, by decide +kernel⟩⟩
theorem tL_215 : CLT RL 215 yL_sameBooks cL_sameBooks 5 (some .int) [(0, 18, 21, 19)] 4 := ⟨mlL_215, iniL, w4_129, w4_128, ⟨by decide +kernel, by decide +kernel, by decide +kernel⟩⟩
theorem tL_218 : CLT RL 218 yL_openView cL_openView 9 (some .int) [(0, 19, 22, 19), (0, 19, 26, 21)] 8 := ⟨mlL_218, iniL, w4_136, w4_135, ⟨by decide +kernel, by decide +kernel, by decide +kernel⟩⟩
theorem tL_222 : CLT RL 222 yL_narrowView cL_narrowView 7 (some .int) [(0, 15, 18, 19), (0, 15, 22, 21)] 6 := ⟨mlL_222, iniL, w4_151, w4_150, ⟨by decide +kernel, by decide +kernel, by decide +kernel⟩⟩
theorem tL_225 : CLT RL 225 yL_buildFromView cL_buildFromView 6 (some .int) [(0, 13, 16, 19), (0, 13, 20, 21)] 5 := ⟨mlL_225, iniL, w4_162, w4_161, ⟨by decide +kernel, by decide +kernel, by decide +kernel⟩⟩
theorem tL_228 : CLT RL 228 yL_viewPut cL_viewPut 6 (some .int) [(0, 13, 16, 19), (0, 13, 20, 21)] 5 := ⟨mlL_228, iniL, w4_169, w4_168, ⟨by decide +kernel, by decide +kernel, by decide +kernel⟩⟩
theorem tL_231 : CLT RL 231 yL_viewTake cL_viewTake 5 (some .int) [(0, 11, 14, 19), (0, 11, 18, 21)] 4 := ⟨mlL_231, iniL, w4_176, w4_175, ⟨by decide +kernel, by decide +kernel, by decide +kernel⟩⟩
theorem tL_234 : CLT RL 234 yL_viewDrop cL_viewDrop 5 (some .int) [(0, 11, 14, 19), (0, 11, 18, 21)] 4 := ⟨mlL_234, iniL, w4_183, w4_182, ⟨by decide +kernel, by decide +kernel, by decide +kernel⟩⟩
theorem tL_237 : CLT RL 237 yL_viewNear cL_viewNear 6 (some .int) [(0, 13, 16, 19), (0, 13, 20, 21)] 5 := ⟨mlL_237, iniL, w4_190, w4_189, ⟨by decide +kernel, by decide +kernel, by decide +kernel⟩⟩
theorem tL_240 : CLT RL 240 yL_viewTell cL_viewTell 5 (some .int) [(0, 11, 14, 19), (0, 11, 18, 21)] 4 := ⟨mlL_240, iniL, w4_197, w4_196, ⟨by decide +kernel, by decide +kernel, by decide +kernel⟩⟩
theorem tL_243 : CLT RL 243 yL_startWalk cL_startWalk 4 (some .int) [(0, 10, 13, 19)] 3 := ⟨mlL_243, iniL, w4_204, w4_203, ⟨by decide +kernel, by decide +kernel, by decide +kernel⟩⟩
theorem tL_251 : CLT RL 251 yL_walkSet cL_walkSet 4 (some .int) [(0, 10, 13, 21)] 3 := ⟨mlL_251, iniL, w4_215, w4_214, ⟨by decide +kernel, by decide +kernel, by decide +kernel⟩⟩
theorem tL_258 : CLT RL 258 yL_freshShelf cL_freshShelf 5 (some .int) [(0, 11, 14, 19), (0, 11, 18, 21)] 4 := ⟨mlL_258, iniL, w4_227, w4_226, ⟨by decide +kernel, by decide +kernel, by decide +kernel⟩⟩
theorem tL_261 : CLT RL 261 yL_buildShelf cL_buildShelf 6 (some .int) [(0, 13, 16, 19), (0, 13, 20, 21)] 5 := ⟨mlL_261, iniL, w4_239, w4_238, ⟨by decide +kernel, by decide +kernel, by decide +kernel⟩⟩
theorem tL_264 : CLT RL 264 yL_keysOf cL_keysOf 5 (some .int) [(0, 11, 14, 19)] 4 := ⟨mlL_264, iniL, w5_6, w5_5, ⟨by decide +kernel, by decide +kernel, by decide +kernel⟩⟩
theorem tL_267 : CLT RL 267 yL_lay cL_lay 8 (some .int) [(0, 17, 20, 19), (0, 17, 24, 21)] 7 := ⟨mlL_267, iniL, w5_17, w5_16, ⟨by decide +kernel, by decide +kernel, by decide +kernel⟩⟩
theorem tL_271 : CLT RL 271 yL_shelfBoth cL_shelfBoth 6 (some .int) [(0, 13, 16, 19), (0, 13, 20, 21)] 5 := ⟨mlL_271, iniL, w5_28, w5_27, ⟨by decide +kernel, by decide +kernel, by decide +kernel⟩⟩
theorem tL_274 : CLT RL 274 yL_shelfDrop cL_shelfDrop 5 (some .int) [(0, 11, 14, 19), (0, 11, 18, 21)] 4 := ⟨mlL_274, iniL, w5_35, w5_34, ⟨by decide +kernel, by decide +kernel, by decide +kernel⟩⟩
theorem tL_277 : CLT RL 277 yL_shelfCut cL_shelfCut 8 (some .int) [(0, 17, 20, 19), (0, 17, 24, 21)] 7 := ⟨mlL_277, iniL, w5_46, w5_45, ⟨by decide +kernel, by decide +kernel, by decide +kernel⟩⟩
theorem tL_280 : CLT RL 280 yL_shelfNear cL_shelfNear 6 (some .int) [(0, 13, 16, 19), (0, 13, 20, 21)] 5 := ⟨mlL_280, iniL, w5_53, w5_52, ⟨by decide +kernel, by decide +kernel, by decide +kernel⟩⟩
theorem tL_283 : CLT RL 283 yL_shelfTell cL_shelfTell 5 (some .int) [(0, 11, 14, 19), (0, 11, 18, 21)] 4 := ⟨mlL_283, iniL, w5_60, w5_59, ⟨by decide +kernel, by decide +kernel, by decide +kernel⟩⟩
theorem tL_286 : CLT RL 286 yL_sameShelves cL_sameShelves 6 (some .int) [(0, 20, 23, 19), (0, 20, 27, 21)] 5 := ⟨mlL_286, iniL, w5_67, w5_66, ⟨by decide +kernel, by decide +kernel, by decide +kernel⟩⟩
theorem tL_289 : CLT RL 289 yL_house cL_house 4 (some .int) [(0, 10, 13, 21)] 3 := ⟨mlL_289, iniL, w5_78, w5_77, ⟨by decide +kernel, by decide +kernel, by decide +kernel⟩⟩
