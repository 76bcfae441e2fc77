-- the law: the picture of both, and what a call does to it
def LI (y : Nat → ClassId) (L : List Nat) (F : Nat → va_E) (bg mg ou : Nat) (σ : CS) (μ : MS) : Prop := ∃ (O : Nat → Prop) (G : CG) (U : Nat → Prop) (V : MG) (nv : Int64) (sv : Value), CP y L F O G σ ∧ gbg G = bg ∧ MP y L F U V μ ∧ ubg V = mg ∧ (∀ q, O q → q ∈ L ∧ ¬ U q ∧ q ≠ ou) ∧ (∀ q, U q → q ∈ L ∧ q ≠ ou) ∧ ou ∈ L ∧ F ou = .inr (6, [.long nv, sv])
section LIS
variable {y : Nat → ClassId} {L L1 : List Nat} {F F1 : Nat → va_E} {O O1 U U1 : Nat → Prop} {G G1 : CG} {V V1 : MG} {σ σ1 : CS} {μ μ1 : MS} {bg mg ou : Nat} {nv n1 : Int64} {sv s1 : Value}
theorem CP_cut (h : CP y L F O G σ) : CP y L F (fun q => O q ∧ q ∈ L) G σ := by
  obtain ⟨h1, h2, h3, h4, h5, h6, h7, h8, hO⟩ := h
  have h7' : ∀ i, i < zn σ → Rw y L F (grh G i) (grw G i) (zod σ i) (zst σ i).1 (zst σ i).2.1 (zst σ i).2.2 := h7
  exact ⟨h1, h2, h3, h4, h5, h6, h7, h8, ⟨hO.1, h1.1⟩, ⟨hO.2.1, h2.1⟩, ⟨hO.2.2.1, h3.1⟩, ⟨hO.2.2.2.1, h4.1⟩, ⟨hO.2.2.2.2.1, h6.1⟩, fun i a b => ⟨hO.2.2.2.2.2.1 i a b, (h5 i a b).1⟩, fun i hi => ⟨⟨(hO.2.2.2.2.2.2 i hi).1, (h7' i hi).1⟩, ⟨(hO.2.2.2.2.2.2 i hi).2, (h7' i hi).2.2.1⟩⟩⟩
theorem MP_cut (h : MP y L F U V μ) : MP y L F (fun q => U q ∧ q ∈ L) V μ := by
  obtain ⟨h1, h2, h3, h4, h5, h6, h7, h8, h9, hO⟩ := h
  have h8' : ∀ i, i < vn μ → urh V i ∈ L ∧ urw V i ∈ L := fun i hi => ⟨(h8 i hi).1, (h8 i hi).2.2.1⟩
  exact ⟨h1, h2, h3, h4, h5, h6, h7, h8, h9, ⟨hO.1, h1.1⟩, ⟨hO.2.1, h2.1⟩, ⟨hO.2.2.1, h3.1⟩, ⟨hO.2.2.2.1, h4.1⟩, ⟨hO.2.2.2.2.1, h5.1⟩, ⟨hO.2.2.2.2.2.1, h6.1⟩, ⟨hO.2.2.2.2.2.2.1, h7.1⟩, fun i hi => ⟨⟨(hO.2.2.2.2.2.2.2 i hi).1, (h8' i hi).1⟩, ⟨(hO.2.2.2.2.2.2.2 i hi).2, (h8' i hi).2⟩⟩⟩
theorem LI_c (hg : gbg G = bg) (hM : MP y L F U V μ) (hv : ubg V = mg) (d1 : ∀ q, O q → q ∈ L ∧ ¬ U q ∧ q ≠ ou) (d2 : ∀ q, U q → q ∈ L ∧ q ≠ ou) (ho : ou ∈ L) (hC1 : CP y L1 F1 O1 G1 σ1) (hg1 : gbg G1 = gbg G) (hs : ∀ q ∈ L, q ∈ L1) (hf : ∀ q ∈ L, ¬ O q → q ≠ ou → F1 q = F q) (hO1 : ∀ q, O1 q → O q ∨ q ∉ L) (hF1 : F1 ou = .inr (6, [.long n1, s1])) : LI y L1 F1 bg mg ou σ1 μ :=
  ⟨fun q => O1 q ∧ q ∈ L1, G1, U, V, n1, s1, CP_cut hC1, hg1.trans hg, MP_fr hM hs (fun q hq hu => hf q hq (fun z => (d1 q z).2.1 hu) (d2 q hu).2), hv, fun q h => ⟨h.2, fun hu => (hO1 q h.1).elim (fun z => (d1 q z).2.1 hu) (fun z => z (d2 q hu).1), fun z => (hO1 q h.1).elim (fun w => (d1 q w).2.2 z) (fun w => w (z ▸ ho))⟩, fun q hu => ⟨hs q (d2 q hu).1, (d2 q hu).2⟩, hs ou ho, hF1⟩
theorem LI_m (hC : CP y L F O G σ) (hg : gbg G = bg) (d1 : ∀ q, O q → q ∈ L ∧ ¬ U q ∧ q ≠ ou) (d2 : ∀ q, U q → q ∈ L ∧ q ≠ ou) (ho : ou ∈ L) (hF : F ou = .inr (6, [.long nv, sv])) (hM1 : MP y L1 F1 U1 V1 μ1) (hv1 : ubg V1 = mg) (hE : Ext U U1 L L1 F F1) : LI y L1 F1 bg mg ou σ μ1 :=
  ⟨O, G, fun q => U1 q ∧ q ∈ L1, V1, nv, sv, CP_fr hC hE.1 (fun q hq h9 => hE.2.1 q hq (d1 q h9).2.1), hg, MP_cut hM1, hv1, fun q h => ⟨hE.1 q (d1 q h).1, fun hu => (hE.2.2 q hu.1).elim (d1 q h).2.1 (fun z => z (d1 q h).1), (d1 q h).2.2⟩, fun q hu => ⟨hu.2, fun z => (hE.2.2 q hu.1).elim (fun w => (d2 q w).2 z) (fun w => w (z ▸ ho))⟩, hE.1 ou ho, (hE.2.1 ou ho (fun z => (d2 ou z).2 rfl)).trans hF⟩
/-- the same, out.n told -/
def LIn (y : Nat → ClassId) (L : List Nat) (F : Nat → va_E) (bg mg ou : Nat) (nv : Int64) (σ : CS) (μ : MS) : Prop := ∃ (O : Nat → Prop) (G : CG) (U : Nat → Prop) (V : MG) (sv : Value), CP y L F O G σ ∧ gbg G = bg ∧ MP y L F U V μ ∧ ubg V = mg ∧ (∀ q, O q → q ∈ L ∧ ¬ U q ∧ q ≠ ou) ∧ (∀ q, U q → q ∈ L ∧ q ≠ ou) ∧ ou ∈ L ∧ F ou = .inr (6, [.long nv, sv])
theorem LIn_LI (h : LIn y L F bg mg ou nv σ μ) : LI y L F bg mg ou σ μ := by
  obtain ⟨O, G, U, V, sv, h⟩ := h
  exact ⟨O, G, U, V, nv, sv, h⟩
theorem LI_cn (hg : gbg G = bg) (hM : MP y L F U V μ) (hv : ubg V = mg) (d1 : ∀ q, O q → q ∈ L ∧ ¬ U q ∧ q ≠ ou) (d2 : ∀ q, U q → q ∈ L ∧ q ≠ ou) (ho : ou ∈ L) (hC1 : CP y L1 F1 O1 G1 σ1) (hg1 : gbg G1 = gbg G) (hs : ∀ q ∈ L, q ∈ L1) (hf : ∀ q ∈ L, ¬ O q → q ≠ ou → F1 q = F q) (hO1 : ∀ q, O1 q → O q ∨ q ∉ L) (hF1 : F1 ou = .inr (6, [.long n1, s1])) : LIn y L1 F1 bg mg ou n1 σ1 μ :=
  ⟨fun q => O1 q ∧ q ∈ L1, G1, U, V, s1, CP_cut hC1, hg1.trans hg, MP_fr hM hs (fun q hq hu => hf q hq (fun z => (d1 q z).2.1 hu) (d2 q hu).2), hv, fun q h => ⟨h.2, fun hu => (hO1 q h.1).elim (fun z => (d1 q z).2.1 hu) (fun z => z (d2 q hu).1), fun z => (hO1 q h.1).elim (fun w => (d1 q w).2.2 z) (fun w => w (z ▸ ho))⟩, fun q hu => ⟨hs q (d2 q hu).1, (d2 q hu).2⟩, hs ou ho, hF1⟩
theorem LI_mn (hC : CP y L F O G σ) (hg : gbg G = bg) (d1 : ∀ q, O q → q ∈ L ∧ ¬ U q ∧ q ≠ ou) (d2 : ∀ q, U q → q ∈ L ∧ q ≠ ou) (ho : ou ∈ L) (hF : F ou = .inr (6, [.long nv, sv])) (hM1 : MP y L1 F1 U1 V1 μ1) (hv1 : ubg V1 = mg) (hE : Ext U U1 L L1 F F1) : LIn y L1 F1 bg mg ou nv σ μ1 :=
  ⟨O, G, fun q => U1 q ∧ q ∈ L1, V1, sv, CP_fr hC hE.1 (fun q hq h9 => hE.2.1 q hq (d1 q h9).2.1), hg, MP_cut hM1, hv1, fun q h => ⟨hE.1 q (d1 q h).1, fun hu => (hE.2.2 q hu.1).elim (d1 q h).2.1 (fun z => z (d1 q h).1), (d1 q h).2.2⟩, fun q hu => ⟨hu.2, fun z => (hE.2.2 q hu.1).elim (fun w => (d2 q w).2 z) (fun w => w (z ▸ ho))⟩, hE.1 ou ho, (hE.2.1 ou ho (fun z => (d2 ou z).2 rfl)).trans hF⟩
theorem cmp_of {okA okB : Prop} {σ2 : CS} {r th e2 ja ka : Int} {Rv : Int64} (h : (okA ∧ okB ∧ r = 0 ∧ σ1 = σ2 ∧ n1 = Rv) ∨ (¬ okA ∧ r = 1 ∧ σ1 = σ) ∨ (okA ∧ ¬ okB ∧ r = e2 ∧ σ1 = σ)) (g : (okA ∧ okB ∧ th = 0 ∧ ja = ka) ∨ (¬ okA ∧ th = 1) ∨ (okA ∧ ¬ okB ∧ th = e2)) (he : e2 = 1 ∨ e2 = 2) : r = th ∧ (0 ≤ r ∧ r ≤ 2) ∧ (r = 0 → n1 = Rv ∧ ja = ka) := by
  rcases h with ⟨a, b, c, _, d⟩ | ⟨a, c, _⟩ | ⟨a, b, c, _⟩
  · rcases g with ⟨_, _, e, f⟩ | ⟨e, _⟩ | ⟨_, e, _⟩
    · exact ⟨by omega, by omega, fun _ => ⟨d, f⟩⟩
    · exact absurd a e
    · exact absurd b e
  · rcases g with ⟨e, _⟩ | ⟨_, e⟩ | ⟨e, _⟩
    · exact absurd e a
    · exact ⟨by omega, by omega, fun z => by omega⟩
    · exact absurd e a
  · rcases g with ⟨_, e, _⟩ | ⟨e, _⟩ | ⟨_, _, e⟩
    · exact absurd e b
    · exact absurd a e
    · exact ⟨by omega, by omega, fun z => by omega⟩
theorem cS_of {okA okB : Prop} [Decidable (okA ∧ okB)] {σ2 : CS} {r e2 : Int} {Rv : Int64} (h : (okA ∧ okB ∧ r = 0 ∧ σ1 = σ2 ∧ n1 = Rv) ∨ (¬ okA ∧ r = 1 ∧ σ1 = σ) ∨ (okA ∧ ¬ okB ∧ r = e2 ∧ σ1 = σ)) : σ1 = if okA ∧ okB then σ2 else σ := by
  rcases h with ⟨a, b, _, e, _⟩ | ⟨a, _, e⟩ | ⟨a, b, _, e⟩
  · rw [if_pos ⟨a, b⟩]; exact e
  · rw [if_neg (fun z => a z.1)]; exact e
  · rw [if_neg (fun z => b z.2)]; exact e
end LIS
def zb (v : Int) : Int := if v = 0 then 0 else 1
def sxI (xs : Nat → Int32) (j : Int) : Int := (xs j.toNat).toInt
theorem sxI_b (xs : Nat → Int32) (j : Int) : -2147483648 ≤ sxI xs j ∧ sxI xs j ≤ 2147483647 := ⟨Int32.le_toInt _, by have := Int32.toInt_lt (xs j.toNat); unfold sxI; omega⟩
def XS0 (s : State) : Prop := vx_Zq Bundle.tN "UNASSIGNED_STACK" Bundle.steD (AL [] s.heap.size) s s.heap ∧ vx_Zq Bundle.tN "SUPPRESSED_SENTINEL" Bundle.listD (AL [] s.heap.size) s s.heap
/-- what stands throughout the law's body -/
def LX (D : va_G) (y : Nat → ClassId) (sl : List (Nat × Nat × Nat)) (p : Program) (c : Code) (s : State) (m : MethodId) (b N : Nat) (xs : Nat → Int32) : Prop := Cx D y p c cL_law 7 s m #[.ref b] (.initialized RX3) RL ∧ JW sl (AL [] s.heap.size) s s.heap ∧ va_Nc xIA xIO s ∧ XS0 s ∧ va_X b N xs s s.heap ∧ b < s.heap.size ∧ N ≤ 448
theorem XS_of {s : State} {L : List Nat} {F : Nat → va_E} {H : Heap} {locs : List Loc} (h : XS0 s) (hS : va_S (AL [] s.heap.size) s.heap H locs) (hD : va_D (AL [] s.heap.size) (va_pl L F)) : XS L s H := by
  have hs : ∀ q, q ∈ L → AL [] s.heap.size q := fun q hq => by
    obtain ⟨k, hk⟩ := va_pl_get (X := []) (f := F) hq
    exact hD.2 k _ hk
  exact ⟨(h.1.kept hS.2.1).narrow hs, (h.2.kept hS.2.1).narrow hs⟩
section LRW
variable {p : Program} {l : Launch} {e : Env} {R : Room} {s : State} {m : MethodId} {args : Array Value} {below : List Frame} {meth : Method} {c : Code} {H : Heap} {locs : List Loc} {cells slots : Nat} {Q : State → Prop} {cc : ByteArray} {pc : Nat} {ls : Array Slot} {rest : List Value} {A : Nat → Prop}
theorem q_sld (hx : p.tables.exec = Jvm.exec) (hb : c.code = cc) {b N : Nat} {xs : Nat → Int32} (hX : va_X b N xs s s.heap) (hbl : b < s.heap.size) (hbA : ¬ A b) (hS : va_S A s.heap H locs) {j : Int} (hj : 0 ≤ j ∧ j < N) (hN : N ≤ 448) (hdg : decode cc pc = .ok (.iaload, 1)) (kk : W p l e R s m args below meth c H locs cells slots Q (F0 m (pc + 1) ls (.int (iI (sxI xs j)) :: rest))) : W p l e R s m args below meth c H locs cells slots Q (F0 m pc ls (.int (iI j) :: .ref b :: rest)) :=
  va_sld hx hb hX hbl hbA hS (iI_in hj.1 hj.2 (by omega)) hdg (by
    rw [iI_clamp (by omega), show xs j.toNat = iI (sxI xs j) from (Int32.ofInt_toInt _).symm]
    exact kk)
theorem q_icmpE (hx : p.tables.exec = Jvm.exec) (hb : c.code = cc) {a b off : Int} {tgt : Nat} (hdg : decode cc pc = .ok (.if_icmp .eq off, 3)) (ht : (pc : Int) + off = (tgt : Int)) (he : a = b) (kk : W p l e R s m args below meth c H locs cells slots Q (F0 m tgt ls rest)) : W p l e R s m args below meth c H locs cells slots Q (F0 m pc ls (.int (iI b) :: .int (iI a) :: rest)) :=
  lv_icmp_eq hx hb hdg ht (fun _ => kk) (fun h => absurd (congrArg iI he) h)
theorem q_lcmpE (hx : p.tables.exec = Jvm.exec) (hb : c.code = cc) {a b : Int64}  (hdg : decode cc pc = .ok (.lcmp, 1)) (he : a = b) (kk : W p l e R s m args below meth c H locs cells slots Q (F0 m (pc + 1) ls (.int (iI 0) :: rest))) : W p l e R s m args below meth c H locs cells slots Q (F0 m pc ls (.long b :: .long a :: rest)) := by
  subst he
  refine W.lcmp hx hb hdg ?_
  have e : lg_cmp a a = iI 0 := by
    unfold lg_cmp
    rw [if_neg (Int64.lt_irrefl), if_pos rfl]
    decide
  rw [e]
  exact kk
theorem q_slen (hx : p.tables.exec = Jvm.exec) (hb : c.code = cc) {b N : Nat} {xs : Nat → Int32} (hX : va_X b N xs s s.heap) (hbl : b < s.heap.size) (hbA : ¬ A b) (hS : va_S A s.heap H locs) (hdg : decode cc pc = .ok (.arraylength, 1)) (kk : W p l e R s m args below meth c H locs cells slots Q (F0 m (pc + 1) ls (.int (iI (N : Int)) :: rest))) : W p l e R s m args below meth c H locs cells slots Q (F0 m pc ls (.ref b :: rest)) :=
  va_slen hx hb hX hbl hbA hS hdg (by
    rw [show Int32.ofNat N = iI (N : Int) from Int32.ofInt_eq_ofNat.symm]
    exact kk)
end LRW
theorem AL_nil {n q : Nat} (h : q < n) : ¬ AL [] n q := fun z => z.elim (fun w => nomatch w) (fun w => absurd w (by omega))
def cS_freshBook (σ : CS) (xb xo : Int) : CS := if ((0 ≤ xb ∧ xb ≤ 3)) ∧ ((0 ≤ xo ∧ xo ≤ 2)) then kS_freshBook σ xb xo else σ
def cS_buildBook (σ : CS) (xb xa xw : Int) : CS := if ((0 ≤ xb ∧ xb ≤ 3) ∧ (0 ≤ xa ∧ xa ≤ 3)) ∧ ((0 ≤ xw ∧ xw ≤ 6)) then kS_buildBook σ xb xa xw else σ
def cS_splitBook (σ : CS) (xb xk xc : Int) : CS := if ((0 ≤ xb ∧ xb ≤ 3) ∧ (0 ≤ xc ∧ xc ≤ 3)) ∧ ((0 ≤ xk ∧ xk ≤ 99)) then kS_splitBook σ xb xk xc else σ
def cS_fill (σ : CS) (xb xf xs xn xw : Int) : CS := if ((0 ≤ xb ∧ xb ≤ 3)) ∧ ((0 ≤ xf ∧ xf ≤ 99) ∧ (0 ≤ xs ∧ xs ≤ 99) ∧ (0 ≤ xn ∧ xn ≤ 100) ∧ (-1 ≤ xw ∧ xw ≤ 99)) then kS_fill σ xb xf xs xn xw else σ
def cS_pour (σ : CS) (xb xc : Int) : CS := if ((0 ≤ xb ∧ xb ≤ 3) ∧ (0 ≤ xc ∧ xc ≤ 3)) ∧ (True) then kS_pour σ xb xc else σ
def cS_keep (σ : CS) (xb xc xw : Int) : CS := if ((0 ≤ xb ∧ xb ≤ 3) ∧ (0 ≤ xc ∧ xc ≤ 3)) ∧ (True) then kS_keep σ xb xc xw else σ
def cS_put (σ : CS) (xb xk xw xt : Int) : CS := if ((0 ≤ xb ∧ xb ≤ 3)) ∧ ((0 ≤ xk ∧ xk ≤ 99) ∧ (0 ≤ xw ∧ xw ≤ 99) ∧ (0 ≤ xt ∧ xt ≤ 2)) then kS_put σ xb xk xw xt else σ
def cS_exchange (σ : CS) (xb xk xo xw : Int) : CS := if ((0 ≤ xb ∧ xb ≤ 3)) ∧ ((0 ≤ xk ∧ xk ≤ 99) ∧ (0 ≤ xo ∧ xo ≤ 99) ∧ (-1 ≤ xw ∧ xw ≤ 99)) then kS_exchange σ xb xk xo xw else σ
def cS_take (σ : CS) (xb xk : Int) : CS := if ((0 ≤ xb ∧ xb ≤ 3)) ∧ ((0 ≤ xk ∧ xk ≤ 99)) then kS_take σ xb xk else σ
def cS_drop (σ : CS) (xb xt : Int) : CS := if ((0 ≤ xb ∧ xb ≤ 3)) ∧ ((0 ≤ xt ∧ xt ≤ 2)) then kS_drop σ xb xt else σ
def cS_has (σ : CS) (xb xw xn : Int) : CS := if ((0 ≤ xb ∧ xb ≤ 3)) ∧ ((0 ≤ xn ∧ xn ≤ 99)) then kS_has σ xb xw xn else σ
def cS_near (σ : CS) (xb xk xt xw : Int) : CS := if ((0 ≤ xb ∧ xb ≤ 3)) ∧ ((0 ≤ xk ∧ xk ≤ 99) ∧ (0 ≤ xt ∧ xt ≤ 4)) then kS_near σ xb xk xt xw else σ
def cS_end (σ : CS) (xb xw xv : Int) : CS := if ((0 ≤ xb ∧ xb ≤ 3)) ∧ (True) then kS_end σ xb xw xv else σ
def cS_keyAt (σ : CS) (xb xn xw : Int) : CS := if ((0 ≤ xb ∧ xb ≤ 3)) ∧ ((0 ≤ xn ∧ xn ≤ 99)) then kS_keyAt σ xb xn xw else σ
def cS_tellBook (σ : CS) (xb xt : Int) : CS := if ((0 ≤ xb ∧ xb ≤ 3)) ∧ ((0 ≤ xt ∧ xt ≤ 3)) then kS_tellBook σ xb xt else σ
def cS_sameBooks (σ : CS) (xb xc : Int) : CS := if ((0 ≤ xb ∧ xb ≤ 3) ∧ (0 ≤ xc ∧ xc ≤ 3)) ∧ (True) then kS_sameBooks σ xb xc else σ
def cS_openView (σ : CS) (xv xb xkind xlow xhigh xends : Int) : CS := if ((0 ≤ xv ∧ xv ≤ 1) ∧ (0 ≤ xb ∧ xb ≤ 3)) ∧ ((0 ≤ xkind ∧ xkind ≤ 2) ∧ (0 ≤ xlow ∧ xlow ≤ 99) ∧ (0 ≤ xhigh ∧ xhigh ≤ 99) ∧ (0 ≤ xends ∧ xends ≤ 3)) then kS_openView σ xv xb xkind xlow xhigh xends else σ
def cS_narrowView (σ : CS) (xv xkind xlow xhigh : Int) : CS := if ((0 ≤ xv ∧ xv ≤ 1)) ∧ ((0 ≤ xkind ∧ xkind ≤ 2) ∧ (0 ≤ xlow ∧ xlow ≤ 99) ∧ (0 ≤ xhigh ∧ xhigh ≤ 99)) then kS_narrowView σ xv xkind xlow xhigh else σ
def cS_buildFromView (σ : CS) (xb xv xw : Int) : CS := if ((0 ≤ xb ∧ xb ≤ 3) ∧ (0 ≤ xv ∧ xv ≤ 1)) ∧ ((0 ≤ xw ∧ xw ≤ 1)) then kS_buildFromView σ xb xv xw else σ
def cS_viewPut (σ : CS) (xv xk xw : Int) : CS := if ((0 ≤ xv ∧ xv ≤ 1)) ∧ ((0 ≤ xk ∧ xk ≤ 99) ∧ (0 ≤ xw ∧ xw ≤ 99)) then kS_viewPut σ xv xk xw else σ
def cS_viewTake (σ : CS) (xv xk : Int) : CS := if ((0 ≤ xv ∧ xv ≤ 1)) ∧ ((0 ≤ xk ∧ xk ≤ 99)) then kS_viewTake σ xv xk else σ
def cS_viewDrop (σ : CS) (xv xt : Int) : CS := if ((0 ≤ xv ∧ xv ≤ 1)) ∧ ((0 ≤ xt ∧ xt ≤ 2)) then kS_viewDrop σ xv xt else σ
def cS_viewNear (σ : CS) (xv xk xt : Int) : CS := if ((0 ≤ xv ∧ xv ≤ 1)) ∧ ((0 ≤ xk ∧ xk ≤ 99) ∧ (0 ≤ xt ∧ xt ≤ 4)) then kS_viewNear σ xv xk xt else σ
def cS_viewTell (σ : CS) (xv xt : Int) : CS := if ((0 ≤ xv ∧ xv ≤ 1)) ∧ ((0 ≤ xt ∧ xt ≤ 3)) then kS_viewTell σ xv xt else σ
def cS_startWalk (σ : CS) (xb : Int) : CS := if ((0 ≤ xb ∧ xb ≤ 3)) ∧ (True) then kS_startWalk σ xb else σ
def cS_freshShelf (σ : CS) (xb xo : Int) : CS := if ((0 ≤ xb ∧ xb ≤ 2)) ∧ ((0 ≤ xo ∧ xo ≤ 2)) then kS_freshShelf σ xb xo else σ
def cS_buildShelf (σ : CS) (xb xa xw : Int) : CS := if ((0 ≤ xb ∧ xb ≤ 2) ∧ (0 ≤ xa ∧ xa ≤ 2)) ∧ ((0 ≤ xw ∧ xw ≤ 6)) then kS_buildShelf σ xb xa xw else σ
def cS_keysOf (σ : CS) (xb xa : Int) : CS := if ((0 ≤ xb ∧ xb ≤ 2) ∧ (0 ≤ xa ∧ xa ≤ 3)) ∧ (True) then kS_keysOf σ xb xa else σ
def cS_lay (σ : CS) (xb xf xs xn xw : Int) : CS := if ((0 ≤ xb ∧ xb ≤ 2)) ∧ ((0 ≤ xf ∧ xf ≤ 99) ∧ (0 ≤ xs ∧ xs ≤ 99) ∧ (0 ≤ xn ∧ xn ≤ 100)) then kS_lay σ xb xf xs xn xw else σ
def cS_shelfBoth (σ : CS) (xb xc xt : Int) : CS := if ((0 ≤ xb ∧ xb ≤ 2) ∧ (0 ≤ xc ∧ xc ≤ 2)) ∧ ((0 ≤ xt ∧ xt ≤ 2)) then kS_shelfBoth σ xb xc xt else σ
def cS_shelfDrop (σ : CS) (xb xt : Int) : CS := if ((0 ≤ xb ∧ xb ≤ 2)) ∧ ((0 ≤ xt ∧ xt ≤ 2)) then kS_shelfDrop σ xb xt else σ
def cS_shelfCut (σ : CS) (xb xlow xhigh xt xc : Int) : CS := if ((0 ≤ xb ∧ xb ≤ 2) ∧ (0 ≤ xc ∧ xc ≤ 2)) ∧ ((0 ≤ xlow ∧ xlow ≤ 99) ∧ (0 ≤ xhigh ∧ xhigh ≤ 99) ∧ (0 ≤ xt ∧ xt ≤ 4)) then kS_shelfCut σ xb xlow xhigh xt xc else σ
def cS_shelfNear (σ : CS) (xb xk xt : Int) : CS := if ((0 ≤ xb ∧ xb ≤ 2)) ∧ ((0 ≤ xk ∧ xk ≤ 99) ∧ (0 ≤ xt ∧ xt ≤ 4)) then kS_shelfNear σ xb xk xt else σ
def cS_shelfTell (σ : CS) (xb xt : Int) : CS := if ((0 ≤ xb ∧ xb ≤ 2)) ∧ ((0 ≤ xt ∧ xt ≤ 4)) then kS_shelfTell σ xb xt else σ
def cS_sameShelves (σ : CS) (xb xc xt : Int) : CS := if ((0 ≤ xb ∧ xb ≤ 2) ∧ (0 ≤ xc ∧ xc ≤ 2)) ∧ ((0 ≤ xt ∧ xt ≤ 1)) then kS_sameShelves σ xb xc xt else σ
def cS_house (σ : CS) (xt : Int) : CS := if (True) ∧ ((0 ≤ xt ∧ xt ≤ 3)) then kS_house σ xt else σ
def cS_walkSet (σ : CS) (xw : Int) : CS := if (True) ∧ ((0 ≤ xw ∧ xw ≤ 99)) then (match zwk σ with | none => kS_walkSet0 σ xw | some j => kS_walkSet1 σ j xw) else σ
def cS_bookText (σ : CS) (xb : Int) : CS := if ((0 ≤ xb ∧ xb ≤ 3)) ∧ (True) then kS_bookText σ xb else σ
def cS_walkNext (σ : CS) : CS := match zwk σ with | none => kS_walkNext0 σ | some j => kS_walkNext1 σ j
def cS_walkTake (σ : CS) : CS := match zwk σ with | none => kS_walkTake0 σ | some j => kS_walkTake1 σ j
def cS_knock (σ : CS) : CS := kS_knock σ
def cS_isSound (σ : CS) : CS := σ
def cS_digest (σ : CS) : CS := σ
def EQ_freshBook (σ : CS) (μ : MS) (xb xo : Int) : Prop := (((0 ≤ xb ∧ xb ≤ 3)) ∧ ((0 ≤ xo ∧ xo ≤ 2)) ∧ vth (jS_freshBook μ xb xo) = 0 ∧ jR_freshBook μ xb xo = kR_freshBook σ xb xo) ∨ (¬ ((0 ≤ xb ∧ xb ≤ 3)) ∧ vth (jS_freshBook μ xb xo) = 1) ∨ (((0 ≤ xb ∧ xb ≤ 3)) ∧ ¬ ((0 ≤ xo ∧ xo ≤ 2)) ∧ vth (jS_freshBook μ xb xo) = 2)
def EQ_buildBook (σ : CS) (μ : MS) (xb xa xw : Int) : Prop := (((0 ≤ xb ∧ xb ≤ 3) ∧ (0 ≤ xa ∧ xa ≤ 3)) ∧ ((0 ≤ xw ∧ xw ≤ 6)) ∧ vth (jS_buildBook μ xb xa xw) = 0 ∧ jR_buildBook μ xb xa xw = kR_buildBook σ xb xa xw) ∨ (¬ ((0 ≤ xb ∧ xb ≤ 3) ∧ (0 ≤ xa ∧ xa ≤ 3)) ∧ vth (jS_buildBook μ xb xa xw) = 1) ∨ (((0 ≤ xb ∧ xb ≤ 3) ∧ (0 ≤ xa ∧ xa ≤ 3)) ∧ ¬ ((0 ≤ xw ∧ xw ≤ 6)) ∧ vth (jS_buildBook μ xb xa xw) = 2)
def EQ_splitBook (σ : CS) (μ : MS) (xb xk xc : Int) : Prop := (((0 ≤ xb ∧ xb ≤ 3) ∧ (0 ≤ xc ∧ xc ≤ 3)) ∧ ((0 ≤ xk ∧ xk ≤ 99)) ∧ vth (jS_splitBook μ xb xk xc) = 0 ∧ jR_splitBook μ xb xk xc = kR_splitBook σ xb xk xc) ∨ (¬ ((0 ≤ xb ∧ xb ≤ 3) ∧ (0 ≤ xc ∧ xc ≤ 3)) ∧ vth (jS_splitBook μ xb xk xc) = 1) ∨ (((0 ≤ xb ∧ xb ≤ 3) ∧ (0 ≤ xc ∧ xc ≤ 3)) ∧ ¬ ((0 ≤ xk ∧ xk ≤ 99)) ∧ vth (jS_splitBook μ xb xk xc) = 2)
def EQ_fill (σ : CS) (μ : MS) (xb xf xs xn xw : Int) : Prop := (((0 ≤ xb ∧ xb ≤ 3)) ∧ ((0 ≤ xf ∧ xf ≤ 99) ∧ (0 ≤ xs ∧ xs ≤ 99) ∧ (0 ≤ xn ∧ xn ≤ 100) ∧ (-1 ≤ xw ∧ xw ≤ 99)) ∧ vth (jS_fill μ xb xf xs xn xw) = 0 ∧ jR_fill μ xb xf xs xn xw = kR_fill σ xb xf xs xn xw) ∨ (¬ ((0 ≤ xb ∧ xb ≤ 3)) ∧ vth (jS_fill μ xb xf xs xn xw) = 1) ∨ (((0 ≤ xb ∧ xb ≤ 3)) ∧ ¬ ((0 ≤ xf ∧ xf ≤ 99) ∧ (0 ≤ xs ∧ xs ≤ 99) ∧ (0 ≤ xn ∧ xn ≤ 100) ∧ (-1 ≤ xw ∧ xw ≤ 99)) ∧ vth (jS_fill μ xb xf xs xn xw) = 2)
def EQ_pour (σ : CS) (μ : MS) (xb xc : Int) : Prop := (((0 ≤ xb ∧ xb ≤ 3) ∧ (0 ≤ xc ∧ xc ≤ 3)) ∧ (True) ∧ vth (jS_pour μ xb xc) = 0 ∧ jR_pour μ xb xc = kR_pour σ xb xc) ∨ (¬ ((0 ≤ xb ∧ xb ≤ 3) ∧ (0 ≤ xc ∧ xc ≤ 3)) ∧ vth (jS_pour μ xb xc) = 1) ∨ (((0 ≤ xb ∧ xb ≤ 3) ∧ (0 ≤ xc ∧ xc ≤ 3)) ∧ ¬ (True) ∧ vth (jS_pour μ xb xc) = 1)
def EQ_keep (σ : CS) (μ : MS) (xb xc xw : Int) : Prop := (((0 ≤ xb ∧ xb ≤ 3) ∧ (0 ≤ xc ∧ xc ≤ 3)) ∧ (True) ∧ vth (jS_keep μ xb xc xw) = 0 ∧ jR_keep μ xb xc xw = kR_keep σ xb xc xw) ∨ (¬ ((0 ≤ xb ∧ xb ≤ 3) ∧ (0 ≤ xc ∧ xc ≤ 3)) ∧ vth (jS_keep μ xb xc xw) = 1) ∨ (((0 ≤ xb ∧ xb ≤ 3) ∧ (0 ≤ xc ∧ xc ≤ 3)) ∧ ¬ (True) ∧ vth (jS_keep μ xb xc xw) = 1)
def EQ_put (σ : CS) (μ : MS) (xb xk xw xt : Int) : Prop := (((0 ≤ xb ∧ xb ≤ 3)) ∧ ((0 ≤ xk ∧ xk ≤ 99) ∧ (0 ≤ xw ∧ xw ≤ 99) ∧ (0 ≤ xt ∧ xt ≤ 2)) ∧ vth (jS_put μ xb xk xw xt) = 0 ∧ jR_put μ xb xk xw xt = kR_put σ xb xk xw xt) ∨ (¬ ((0 ≤ xb ∧ xb ≤ 3)) ∧ vth (jS_put μ xb xk xw xt) = 1) ∨ (((0 ≤ xb ∧ xb ≤ 3)) ∧ ¬ ((0 ≤ xk ∧ xk ≤ 99) ∧ (0 ≤ xw ∧ xw ≤ 99) ∧ (0 ≤ xt ∧ xt ≤ 2)) ∧ vth (jS_put μ xb xk xw xt) = 2)
def EQ_exchange (σ : CS) (μ : MS) (xb xk xo xw : Int) : Prop := (((0 ≤ xb ∧ xb ≤ 3)) ∧ ((0 ≤ xk ∧ xk ≤ 99) ∧ (0 ≤ xo ∧ xo ≤ 99) ∧ (-1 ≤ xw ∧ xw ≤ 99)) ∧ vth (jS_exchange μ xb xk xo xw) = 0 ∧ jR_exchange μ xb xk xo xw = kR_exchange σ xb xk xo xw) ∨ (¬ ((0 ≤ xb ∧ xb ≤ 3)) ∧ vth (jS_exchange μ xb xk xo xw) = 1) ∨ (((0 ≤ xb ∧ xb ≤ 3)) ∧ ¬ ((0 ≤ xk ∧ xk ≤ 99) ∧ (0 ≤ xo ∧ xo ≤ 99) ∧ (-1 ≤ xw ∧ xw ≤ 99)) ∧ vth (jS_exchange μ xb xk xo xw) = 2)
def EQ_take (σ : CS) (μ : MS) (xb xk : Int) : Prop := (((0 ≤ xb ∧ xb ≤ 3)) ∧ ((0 ≤ xk ∧ xk ≤ 99)) ∧ vth (jS_take μ xb xk) = 0 ∧ jR_take μ xb xk = kR_take σ xb xk) ∨ (¬ ((0 ≤ xb ∧ xb ≤ 3)) ∧ vth (jS_take μ xb xk) = 1) ∨ (((0 ≤ xb ∧ xb ≤ 3)) ∧ ¬ ((0 ≤ xk ∧ xk ≤ 99)) ∧ vth (jS_take μ xb xk) = 2)
def EQ_drop (σ : CS) (μ : MS) (xb xt : Int) : Prop := (((0 ≤ xb ∧ xb ≤ 3)) ∧ ((0 ≤ xt ∧ xt ≤ 2)) ∧ vth (jS_drop μ xb xt) = 0 ∧ jR_drop μ xb xt = kR_drop σ xb xt) ∨ (¬ ((0 ≤ xb ∧ xb ≤ 3)) ∧ vth (jS_drop μ xb xt) = 1) ∨ (((0 ≤ xb ∧ xb ≤ 3)) ∧ ¬ ((0 ≤ xt ∧ xt ≤ 2)) ∧ vth (jS_drop μ xb xt) = 2)
def EQ_has (σ : CS) (μ : MS) (xb xw xn : Int) : Prop := (((0 ≤ xb ∧ xb ≤ 3)) ∧ ((0 ≤ xn ∧ xn ≤ 99)) ∧ vth (jS_has μ xb xw xn) = 0 ∧ jR_has μ xb xw xn = kR_has σ xb xw xn) ∨ (¬ ((0 ≤ xb ∧ xb ≤ 3)) ∧ vth (jS_has μ xb xw xn) = 1) ∨ (((0 ≤ xb ∧ xb ≤ 3)) ∧ ¬ ((0 ≤ xn ∧ xn ≤ 99)) ∧ vth (jS_has μ xb xw xn) = 2)
def EQ_near (σ : CS) (μ : MS) (xb xk xt xw : Int) : Prop := (((0 ≤ xb ∧ xb ≤ 3)) ∧ ((0 ≤ xk ∧ xk ≤ 99) ∧ (0 ≤ xt ∧ xt ≤ 4)) ∧ vth (jS_near μ xb xk xt xw) = 0 ∧ jR_near μ xb xk xt xw = kR_near σ xb xk xt xw) ∨ (¬ ((0 ≤ xb ∧ xb ≤ 3)) ∧ vth (jS_near μ xb xk xt xw) = 1) ∨ (((0 ≤ xb ∧ xb ≤ 3)) ∧ ¬ ((0 ≤ xk ∧ xk ≤ 99) ∧ (0 ≤ xt ∧ xt ≤ 4)) ∧ vth (jS_near μ xb xk xt xw) = 2)
def EQ_end (σ : CS) (μ : MS) (xb xw xv : Int) : Prop := (((0 ≤ xb ∧ xb ≤ 3)) ∧ (True) ∧ vth (jS_end μ xb xw xv) = 0 ∧ jR_end μ xb xw xv = kR_end σ xb xw xv) ∨ (¬ ((0 ≤ xb ∧ xb ≤ 3)) ∧ vth (jS_end μ xb xw xv) = 1) ∨ (((0 ≤ xb ∧ xb ≤ 3)) ∧ ¬ (True) ∧ vth (jS_end μ xb xw xv) = 1)
def EQ_keyAt (σ : CS) (μ : MS) (xb xn xw : Int) : Prop := (((0 ≤ xb ∧ xb ≤ 3)) ∧ ((0 ≤ xn ∧ xn ≤ 99)) ∧ vth (jS_keyAt μ xb xn xw) = 0 ∧ jR_keyAt μ xb xn xw = kR_keyAt σ xb xn xw) ∨ (¬ ((0 ≤ xb ∧ xb ≤ 3)) ∧ vth (jS_keyAt μ xb xn xw) = 1) ∨ (((0 ≤ xb ∧ xb ≤ 3)) ∧ ¬ ((0 ≤ xn ∧ xn ≤ 99)) ∧ vth (jS_keyAt μ xb xn xw) = 2)
def EQ_tellBook (σ : CS) (μ : MS) (xb xt : Int) : Prop := (((0 ≤ xb ∧ xb ≤ 3)) ∧ ((0 ≤ xt ∧ xt ≤ 3)) ∧ vth (jS_tellBook μ xb xt) = 0 ∧ jR_tellBook μ xb xt = kR_tellBook σ xb xt) ∨ (¬ ((0 ≤ xb ∧ xb ≤ 3)) ∧ vth (jS_tellBook μ xb xt) = 1) ∨ (((0 ≤ xb ∧ xb ≤ 3)) ∧ ¬ ((0 ≤ xt ∧ xt ≤ 3)) ∧ vth (jS_tellBook μ xb xt) = 2)
def EQ_sameBooks (σ : CS) (μ : MS) (xb xc : Int) : Prop := (((0 ≤ xb ∧ xb ≤ 3) ∧ (0 ≤ xc ∧ xc ≤ 3)) ∧ (True) ∧ vth (jS_sameBooks μ xb xc) = 0 ∧ jR_sameBooks μ xb xc = kR_sameBooks σ xb xc) ∨ (¬ ((0 ≤ xb ∧ xb ≤ 3) ∧ (0 ≤ xc ∧ xc ≤ 3)) ∧ vth (jS_sameBooks μ xb xc) = 1) ∨ (((0 ≤ xb ∧ xb ≤ 3) ∧ (0 ≤ xc ∧ xc ≤ 3)) ∧ ¬ (True) ∧ vth (jS_sameBooks μ xb xc) = 1)
def EQ_openView (σ : CS) (μ : MS) (xv xb xkind xlow xhigh xends : Int) : Prop := (((0 ≤ xv ∧ xv ≤ 1) ∧ (0 ≤ xb ∧ xb ≤ 3)) ∧ ((0 ≤ xkind ∧ xkind ≤ 2) ∧ (0 ≤ xlow ∧ xlow ≤ 99) ∧ (0 ≤ xhigh ∧ xhigh ≤ 99) ∧ (0 ≤ xends ∧ xends ≤ 3)) ∧ vth (jS_openView μ xv xb xkind xlow xhigh xends) = 0 ∧ jR_openView μ xv xb xkind xlow xhigh xends = kR_openView σ xv xb xkind xlow xhigh xends) ∨ (¬ ((0 ≤ xv ∧ xv ≤ 1) ∧ (0 ≤ xb ∧ xb ≤ 3)) ∧ vth (jS_openView μ xv xb xkind xlow xhigh xends) = 1) ∨ (((0 ≤ xv ∧ xv ≤ 1) ∧ (0 ≤ xb ∧ xb ≤ 3)) ∧ ¬ ((0 ≤ xkind ∧ xkind ≤ 2) ∧ (0 ≤ xlow ∧ xlow ≤ 99) ∧ (0 ≤ xhigh ∧ xhigh ≤ 99) ∧ (0 ≤ xends ∧ xends ≤ 3)) ∧ vth (jS_openView μ xv xb xkind xlow xhigh xends) = 2)
def EQ_narrowView (σ : CS) (μ : MS) (xv xkind xlow xhigh : Int) : Prop := (((0 ≤ xv ∧ xv ≤ 1)) ∧ ((0 ≤ xkind ∧ xkind ≤ 2) ∧ (0 ≤ xlow ∧ xlow ≤ 99) ∧ (0 ≤ xhigh ∧ xhigh ≤ 99)) ∧ vth (jS_narrowView μ xv xkind xlow xhigh) = 0 ∧ jR_narrowView μ xv xkind xlow xhigh = kR_narrowView σ xv xkind xlow xhigh) ∨ (¬ ((0 ≤ xv ∧ xv ≤ 1)) ∧ vth (jS_narrowView μ xv xkind xlow xhigh) = 1) ∨ (((0 ≤ xv ∧ xv ≤ 1)) ∧ ¬ ((0 ≤ xkind ∧ xkind ≤ 2) ∧ (0 ≤ xlow ∧ xlow ≤ 99) ∧ (0 ≤ xhigh ∧ xhigh ≤ 99)) ∧ vth (jS_narrowView μ xv xkind xlow xhigh) = 2)
def EQ_buildFromView (σ : CS) (μ : MS) (xb xv xw : Int) : Prop := (((0 ≤ xb ∧ xb ≤ 3) ∧ (0 ≤ xv ∧ xv ≤ 1)) ∧ ((0 ≤ xw ∧ xw ≤ 1)) ∧ vth (jS_buildFromView μ xb xv xw) = 0 ∧ jR_buildFromView μ xb xv xw = kR_buildFromView σ xb xv xw) ∨ (¬ ((0 ≤ xb ∧ xb ≤ 3) ∧ (0 ≤ xv ∧ xv ≤ 1)) ∧ vth (jS_buildFromView μ xb xv xw) = 1) ∨ (((0 ≤ xb ∧ xb ≤ 3) ∧ (0 ≤ xv ∧ xv ≤ 1)) ∧ ¬ ((0 ≤ xw ∧ xw ≤ 1)) ∧ vth (jS_buildFromView μ xb xv xw) = 2)
def EQ_viewPut (σ : CS) (μ : MS) (xv xk xw : Int) : Prop := (((0 ≤ xv ∧ xv ≤ 1)) ∧ ((0 ≤ xk ∧ xk ≤ 99) ∧ (0 ≤ xw ∧ xw ≤ 99)) ∧ vth (jS_viewPut μ xv xk xw) = 0 ∧ jR_viewPut μ xv xk xw = kR_viewPut σ xv xk xw) ∨ (¬ ((0 ≤ xv ∧ xv ≤ 1)) ∧ vth (jS_viewPut μ xv xk xw) = 1) ∨ (((0 ≤ xv ∧ xv ≤ 1)) ∧ ¬ ((0 ≤ xk ∧ xk ≤ 99) ∧ (0 ≤ xw ∧ xw ≤ 99)) ∧ vth (jS_viewPut μ xv xk xw) = 2)
def EQ_viewTake (σ : CS) (μ : MS) (xv xk : Int) : Prop := (((0 ≤ xv ∧ xv ≤ 1)) ∧ ((0 ≤ xk ∧ xk ≤ 99)) ∧ vth (jS_viewTake μ xv xk) = 0 ∧ jR_viewTake μ xv xk = kR_viewTake σ xv xk) ∨ (¬ ((0 ≤ xv ∧ xv ≤ 1)) ∧ vth (jS_viewTake μ xv xk) = 1) ∨ (((0 ≤ xv ∧ xv ≤ 1)) ∧ ¬ ((0 ≤ xk ∧ xk ≤ 99)) ∧ vth (jS_viewTake μ xv xk) = 2)
def EQ_viewDrop (σ : CS) (μ : MS) (xv xt : Int) : Prop := (((0 ≤ xv ∧ xv ≤ 1)) ∧ ((0 ≤ xt ∧ xt ≤ 2)) ∧ vth (jS_viewDrop μ xv xt) = 0 ∧ jR_viewDrop μ xv xt = kR_viewDrop σ xv xt) ∨ (¬ ((0 ≤ xv ∧ xv ≤ 1)) ∧ vth (jS_viewDrop μ xv xt) = 1) ∨ (((0 ≤ xv ∧ xv ≤ 1)) ∧ ¬ ((0 ≤ xt ∧ xt ≤ 2)) ∧ vth (jS_viewDrop μ xv xt) = 2)
def EQ_viewNear (σ : CS) (μ : MS) (xv xk xt : Int) : Prop := (((0 ≤ xv ∧ xv ≤ 1)) ∧ ((0 ≤ xk ∧ xk ≤ 99) ∧ (0 ≤ xt ∧ xt ≤ 4)) ∧ vth (jS_viewNear μ xv xk xt) = 0 ∧ jR_viewNear μ xv xk xt = kR_viewNear σ xv xk xt) ∨ (¬ ((0 ≤ xv ∧ xv ≤ 1)) ∧ vth (jS_viewNear μ xv xk xt) = 1) ∨ (((0 ≤ xv ∧ xv ≤ 1)) ∧ ¬ ((0 ≤ xk ∧ xk ≤ 99) ∧ (0 ≤ xt ∧ xt ≤ 4)) ∧ vth (jS_viewNear μ xv xk xt) = 2)
def EQ_viewTell (σ : CS) (μ : MS) (xv xt : Int) : Prop := (((0 ≤ xv ∧ xv ≤ 1)) ∧ ((0 ≤ xt ∧ xt ≤ 3)) ∧ vth (jS_viewTell μ xv xt) = 0 ∧ jR_viewTell μ xv xt = kR_viewTell σ xv xt) ∨ (¬ ((0 ≤ xv ∧ xv ≤ 1)) ∧ vth (jS_viewTell μ xv xt) = 1) ∨ (((0 ≤ xv ∧ xv ≤ 1)) ∧ ¬ ((0 ≤ xt ∧ xt ≤ 3)) ∧ vth (jS_viewTell μ xv xt) = 2)
def EQ_startWalk (σ : CS) (μ : MS) (xb : Int) : Prop := (((0 ≤ xb ∧ xb ≤ 3)) ∧ (True) ∧ vth (jS_startWalk μ xb) = 0 ∧ jR_startWalk μ xb = kR_startWalk σ xb) ∨ (¬ ((0 ≤ xb ∧ xb ≤ 3)) ∧ vth (jS_startWalk μ xb) = 1) ∨ (((0 ≤ xb ∧ xb ≤ 3)) ∧ ¬ (True) ∧ vth (jS_startWalk μ xb) = 1)
def EQ_freshShelf (σ : CS) (μ : MS) (xb xo : Int) : Prop := (((0 ≤ xb ∧ xb ≤ 2)) ∧ ((0 ≤ xo ∧ xo ≤ 2)) ∧ vth (jS_freshShelf μ xb xo) = 0 ∧ jR_freshShelf μ xb xo = kR_freshShelf σ xb xo) ∨ (¬ ((0 ≤ xb ∧ xb ≤ 2)) ∧ vth (jS_freshShelf μ xb xo) = 1) ∨ (((0 ≤ xb ∧ xb ≤ 2)) ∧ ¬ ((0 ≤ xo ∧ xo ≤ 2)) ∧ vth (jS_freshShelf μ xb xo) = 2)
def EQ_buildShelf (σ : CS) (μ : MS) (xb xa xw : Int) : Prop := (((0 ≤ xb ∧ xb ≤ 2) ∧ (0 ≤ xa ∧ xa ≤ 2)) ∧ ((0 ≤ xw ∧ xw ≤ 6)) ∧ vth (jS_buildShelf μ xb xa xw) = 0 ∧ jR_buildShelf μ xb xa xw = kR_buildShelf σ xb xa xw) ∨ (¬ ((0 ≤ xb ∧ xb ≤ 2) ∧ (0 ≤ xa ∧ xa ≤ 2)) ∧ vth (jS_buildShelf μ xb xa xw) = 1) ∨ (((0 ≤ xb ∧ xb ≤ 2) ∧ (0 ≤ xa ∧ xa ≤ 2)) ∧ ¬ ((0 ≤ xw ∧ xw ≤ 6)) ∧ vth (jS_buildShelf μ xb xa xw) = 2)
def EQ_keysOf (σ : CS) (μ : MS) (xb xa : Int) : Prop := (((0 ≤ xb ∧ xb ≤ 2) ∧ (0 ≤ xa ∧ xa ≤ 3)) ∧ (True) ∧ vth (jS_keysOf μ xb xa) = 0 ∧ jR_keysOf μ xb xa = kR_keysOf σ xb xa) ∨ (¬ ((0 ≤ xb ∧ xb ≤ 2) ∧ (0 ≤ xa ∧ xa ≤ 3)) ∧ vth (jS_keysOf μ xb xa) = 1) ∨ (((0 ≤ xb ∧ xb ≤ 2) ∧ (0 ≤ xa ∧ xa ≤ 3)) ∧ ¬ (True) ∧ vth (jS_keysOf μ xb xa) = 1)
def EQ_lay (σ : CS) (μ : MS) (xb xf xs xn xw : Int) : Prop := (((0 ≤ xb ∧ xb ≤ 2)) ∧ ((0 ≤ xf ∧ xf ≤ 99) ∧ (0 ≤ xs ∧ xs ≤ 99) ∧ (0 ≤ xn ∧ xn ≤ 100)) ∧ vth (jS_lay μ xb xf xs xn xw) = 0 ∧ jR_lay μ xb xf xs xn xw = kR_lay σ xb xf xs xn xw) ∨ (¬ ((0 ≤ xb ∧ xb ≤ 2)) ∧ vth (jS_lay μ xb xf xs xn xw) = 1) ∨ (((0 ≤ xb ∧ xb ≤ 2)) ∧ ¬ ((0 ≤ xf ∧ xf ≤ 99) ∧ (0 ≤ xs ∧ xs ≤ 99) ∧ (0 ≤ xn ∧ xn ≤ 100)) ∧ vth (jS_lay μ xb xf xs xn xw) = 2)
def EQ_shelfBoth (σ : CS) (μ : MS) (xb xc xt : Int) : Prop := (((0 ≤ xb ∧ xb ≤ 2) ∧ (0 ≤ xc ∧ xc ≤ 2)) ∧ ((0 ≤ xt ∧ xt ≤ 2)) ∧ vth (jS_shelfBoth μ xb xc xt) = 0 ∧ jR_shelfBoth μ xb xc xt = kR_shelfBoth σ xb xc xt) ∨ (¬ ((0 ≤ xb ∧ xb ≤ 2) ∧ (0 ≤ xc ∧ xc ≤ 2)) ∧ vth (jS_shelfBoth μ xb xc xt) = 1) ∨ (((0 ≤ xb ∧ xb ≤ 2) ∧ (0 ≤ xc ∧ xc ≤ 2)) ∧ ¬ ((0 ≤ xt ∧ xt ≤ 2)) ∧ vth (jS_shelfBoth μ xb xc xt) = 2)
def EQ_shelfDrop (σ : CS) (μ : MS) (xb xt : Int) : Prop := (((0 ≤ xb ∧ xb ≤ 2)) ∧ ((0 ≤ xt ∧ xt ≤ 2)) ∧ vth (jS_shelfDrop μ xb xt) = 0 ∧ jR_shelfDrop μ xb xt = kR_shelfDrop σ xb xt) ∨ (¬ ((0 ≤ xb ∧ xb ≤ 2)) ∧ vth (jS_shelfDrop μ xb xt) = 1) ∨ (((0 ≤ xb ∧ xb ≤ 2)) ∧ ¬ ((0 ≤ xt ∧ xt ≤ 2)) ∧ vth (jS_shelfDrop μ xb xt) = 2)
def EQ_shelfCut (σ : CS) (μ : MS) (xb xlow xhigh xt xc : Int) : Prop := (((0 ≤ xb ∧ xb ≤ 2) ∧ (0 ≤ xc ∧ xc ≤ 2)) ∧ ((0 ≤ xlow ∧ xlow ≤ 99) ∧ (0 ≤ xhigh ∧ xhigh ≤ 99) ∧ (0 ≤ xt ∧ xt ≤ 4)) ∧ vth (jS_shelfCut μ xb xlow xhigh xt xc) = 0 ∧ jR_shelfCut μ xb xlow xhigh xt xc = kR_shelfCut σ xb xlow xhigh xt xc) ∨ (¬ ((0 ≤ xb ∧ xb ≤ 2) ∧ (0 ≤ xc ∧ xc ≤ 2)) ∧ vth (jS_shelfCut μ xb xlow xhigh xt xc) = 1) ∨ (((0 ≤ xb ∧ xb ≤ 2) ∧ (0 ≤ xc ∧ xc ≤ 2)) ∧ ¬ ((0 ≤ xlow ∧ xlow ≤ 99) ∧ (0 ≤ xhigh ∧ xhigh ≤ 99) ∧ (0 ≤ xt ∧ xt ≤ 4)) ∧ vth (jS_shelfCut μ xb xlow xhigh xt xc) = 2)
def EQ_shelfNear (σ : CS) (μ : MS) (xb xk xt : Int) : Prop := (((0 ≤ xb ∧ xb ≤ 2)) ∧ ((0 ≤ xk ∧ xk ≤ 99) ∧ (0 ≤ xt ∧ xt ≤ 4)) ∧ vth (jS_shelfNear μ xb xk xt) = 0 ∧ jR_shelfNear μ xb xk xt = kR_shelfNear σ xb xk xt) ∨ (¬ ((0 ≤ xb ∧ xb ≤ 2)) ∧ vth (jS_shelfNear μ xb xk xt) = 1) ∨ (((0 ≤ xb ∧ xb ≤ 2)) ∧ ¬ ((0 ≤ xk ∧ xk ≤ 99) ∧ (0 ≤ xt ∧ xt ≤ 4)) ∧ vth (jS_shelfNear μ xb xk xt) = 2)
def EQ_shelfTell (σ : CS) (μ : MS) (xb xt : Int) : Prop := (((0 ≤ xb ∧ xb ≤ 2)) ∧ ((0 ≤ xt ∧ xt ≤ 4)) ∧ vth (jS_shelfTell μ xb xt) = 0 ∧ jR_shelfTell μ xb xt = kR_shelfTell σ xb xt) ∨ (¬ ((0 ≤ xb ∧ xb ≤ 2)) ∧ vth (jS_shelfTell μ xb xt) = 1) ∨ (((0 ≤ xb ∧ xb ≤ 2)) ∧ ¬ ((0 ≤ xt ∧ xt ≤ 4)) ∧ vth (jS_shelfTell μ xb xt) = 2)
def EQ_sameShelves (σ : CS) (μ : MS) (xb xc xt : Int) : Prop := (((0 ≤ xb ∧ xb ≤ 2) ∧ (0 ≤ xc ∧ xc ≤ 2)) ∧ ((0 ≤ xt ∧ xt ≤ 1)) ∧ vth (jS_sameShelves μ xb xc xt) = 0 ∧ jR_sameShelves μ xb xc xt = kR_sameShelves σ xb xc xt) ∨ (¬ ((0 ≤ xb ∧ xb ≤ 2) ∧ (0 ≤ xc ∧ xc ≤ 2)) ∧ vth (jS_sameShelves μ xb xc xt) = 1) ∨ (((0 ≤ xb ∧ xb ≤ 2) ∧ (0 ≤ xc ∧ xc ≤ 2)) ∧ ¬ ((0 ≤ xt ∧ xt ≤ 1)) ∧ vth (jS_sameShelves μ xb xc xt) = 2)
def EQ_house (σ : CS) (μ : MS) (xt : Int) : Prop := ((True) ∧ ((0 ≤ xt ∧ xt ≤ 3)) ∧ vth (jS_house μ xt) = 0 ∧ jR_house μ xt = kR_house σ xt) ∨ (¬ (True) ∧ vth (jS_house μ xt) = 1) ∨ ((True) ∧ ¬ ((0 ≤ xt ∧ xt ≤ 3)) ∧ vth (jS_house μ xt) = 1)
def EQ_walkSet (σ : CS) (μ : MS) (xw : Int) : Prop := vwk μ = zwk σ ∧ (zwk σ = none → (True ∧ (0 ≤ xw ∧ xw ≤ 99) ∧ vth (jS_walkSet0 μ xw) = 0 ∧ jR_walkSet0 μ xw = kR_walkSet0 σ xw) ∨ (¬ True ∧ vth (jS_walkSet0 μ xw) = 1) ∨ (True ∧ ¬ (0 ≤ xw ∧ xw ≤ 99) ∧ vth (jS_walkSet0 μ xw) = 1)) ∧ ∀ j, zwk σ = some j → (True ∧ (0 ≤ xw ∧ xw ≤ 99) ∧ vth (jS_walkSet1 μ j xw) = 0 ∧ jR_walkSet1 μ j xw = kR_walkSet1 σ j xw) ∨ (¬ True ∧ vth (jS_walkSet1 μ j xw) = 1) ∨ (True ∧ ¬ (0 ≤ xw ∧ xw ≤ 99) ∧ vth (jS_walkSet1 μ j xw) = 1)
def EQ_walkNext (σ : CS) (μ : MS) : Prop := vwk μ = zwk σ ∧ (zwk σ = none → jR_walkNext0 μ = kR_walkNext0 σ) ∧ ∀ j, zwk σ = some j → jR_walkNext1 μ j = kR_walkNext1 σ j
def EQ_walkTake (σ : CS) (μ : MS) : Prop := vwk μ = zwk σ ∧ (zwk σ = none → jR_walkTake0 μ = kR_walkTake0 σ) ∧ ∀ j, zwk σ = some j → jR_walkTake1 μ j = kR_walkTake1 σ j
def EQ_digest (σ : CS) (μ : MS) : Prop := vwk μ = zwk σ ∧ (zwk σ = none → jR_digest0 μ = kR_digest0 σ) ∧ ∀ j, zwk σ = some j → jR_digest1 μ j = kR_digest1 σ j
def EQ_knock (σ : CS) (μ : MS) : Prop := kR_knock σ = jR_knock μ
def EQ_isSound (σ : CS) (μ : MS) : Prop := kR_isSound σ = jR_isSound μ
def cJ_walkNext (μ : MS) : MS := match vwk μ with | none => jS_walkNext0 μ | some j => jS_walkNext1 μ j
def cJ_walkTake (μ : MS) : MS := match vwk μ with | none => jS_walkTake0 μ | some j => jS_walkTake1 μ j
def cJ_walkSet (μ : MS) (xw : Int) : MS := match vwk μ with | none => jS_walkSet0 μ xw | some j => jS_walkSet1 μ j xw
def cJ_digest (μ : MS) : MS := match vwk μ with | none => jS_digest0 μ | some j => jS_digest1 μ j
theorem tL_156 : CLT RL 156 yL_freshBook cL_freshBook 5 (some .int) [(0, 11, 14, 19), (0, 11, 18, 21)] 4 := ⟨mlL_156, iniL, w2_76, w2_75, ⟨by decide +kernel, by decide +kernel, by decide +kernel⟩⟩
theorem tL_162 : CLT RL 162 yL_buildBook cL_buildBook 6 (some .int) [(0, 13, 16, 19), (0, 13, 20, 21)] 5 := ⟨mlL_162, iniL, w2_175, w2_174, ⟨by decide +kernel, by decide +kernel, by decide +kernel⟩⟩
theorem tL_166 : CLT RL 166 yL_splitBook cL_splitBook 6 (some .int) [(0, 13, 16, 19), (0, 13, 20, 21)] 5 := ⟨mlL_166, iniL, w2_185, w2_184, ⟨by decide +kernel, by decide +kernel, by decide +kernel⟩⟩
theorem tL_169 : CLT RL 169 yL_fill cL_fill 8 (some .int) [(0, 17, 20, 19), (0, 17, 24, 21)] 7 := ⟨mlL_169, iniL, w2_210, w2_209, ⟨by decide +kernel, by decide +kernel, by decide +kernel⟩⟩
theorem tL_173 : CLT RL 173 yL_pour cL_pour 5 (some .int) [(0, 11, 14, 19)] 4 := ⟨mlL_173, iniL, w2_235, w2_234, ⟨by decide +kernel, by decide +kernel, by decide +kernel⟩⟩
theorem tL_176 : CLT RL 176 yL_keep cL_keep 6 (some .int) [(0, 13, 16, 19)] 5 := ⟨mlL_176, iniL, w3_3, w3_2, ⟨by decide +kernel, by decide +kernel, by decide +kernel⟩⟩
theorem tL_180 : CLT RL 180 yL_put cL_put 7 (some .int) [(0, 15, 18, 19), (0, 15, 22, 21)] 6 := ⟨mlL_180, iniL, w3_14, w3_13, ⟨by decide +kernel, by decide +kernel, by decide +kernel⟩⟩
theorem tL_184 : CLT RL 184 yL_exchange cL_exchange 7 (some .int) [(0, 15, 18, 19), (0, 15, 22, 21)] 6 := ⟨mlL_184, iniL, w3_23, w3_22, ⟨by decide +kernel, by decide +kernel, by decide +kernel⟩⟩
theorem tL_187 : CLT RL 187 yL_take cL_take 5 (some .int) [(0, 11, 14, 19), (0, 11, 18, 21)] 4 := ⟨mlL_187, iniL, w3_31, w3_30, ⟨by decide +kernel, by decide +kernel, by decide +kernel⟩⟩
theorem tL_190 : CLT RL 190 yL_drop cL_drop 5 (some .int) [(0, 11, 14, 19), (0, 11, 18, 21)] 4 := ⟨mlL_190, iniL, w3_38, w3_37, ⟨by decide +kernel, by decide +kernel, by decide +kernel⟩⟩
theorem tL_193 : CLT RL 193 yL_has cL_has 6 (some .int) [(0, 20, 23, 19), (0, 20, 27, 21)] 5 := ⟨mlL_193, iniL, w3_52, w3_51, ⟨by decide +kernel, by decide +kernel, by decide +kernel⟩⟩
theorem tL_197 : CLT RL 197 yL_near cL_near 7 (some .int) [(0, 15, 18, 19), (0, 15, 22, 21)] 6 := ⟨mlL_197, iniL, w3_63, w3_62, ⟨by decide +kernel, by decide +kernel, by decide +kernel⟩⟩
theorem tL_201 : CLT RL 201 yL_end cL_end 6 (some .int) [(0, 13, 16, 19)] 5 := ⟨mlL_201, iniL, w3_70, w3_69, ⟨by decide +kernel, by decide +kernel, by decide +kernel⟩⟩
theorem tL_205 : CLT RL 205 yL_keyAt cL_keyAt 6 (some .int) [(0, 13, 16, 19), (0, 13, 20, 21)] 5 := ⟨mlL_205, iniL, w3_81, w3_80, ⟨by decide +kernel, by decide +kernel, by decide +kernel⟩⟩
theorem tL_208 : CLT RL 208 yL_tellBook cL_tellBook 5 (some .int) [(0, 11, 14, 19), (0, 11, 18, 21)] 4 := ⟨mlL_208, iniL, w3_92, w3_91, ⟨by decide +kernel, by decide +kernel, by decide +kernel⟩⟩
theorem tL_211 : CLT RL 211 yL_bookText cL_bookText 4 (some .int) [(0, 9, 12, 19)] 3 := ⟨mlL_211, iniL, w3_99, w3_98, ⟨by decide +kernel, by decide +kernel, by decide +kernel⟩⟩
theorem tL_215 : CLT RL 215 yL_sameBooks cL_sameBooks 5 (some .int) [(0, 18, 21, 19)] 4 := ⟨mlL_215, iniL, w4_129, w4_128, ⟨by decide +kernel, by decide +kernel, by decide +kernel⟩⟩
theorem tL_218 : CLT RL 218 yL_openView cL_openView 9 (some .int) [(0, 19, 22, 19), (0, 19, 26, 21)] 8 := ⟨mlL_218, iniL, w4_136, w4_135, ⟨by decide +kernel, by decide +kernel, by decide +kernel⟩⟩
theorem tL_222 : CLT RL 222 yL_narrowView cL_narrowView 7 (some .int) [(0, 15, 18, 19), (0, 15, 22, 21)] 6 := ⟨mlL_222, iniL, w4_151, w4_150, ⟨by decide +kernel, by decide +kernel, by decide +kernel⟩⟩
theorem tL_225 : CLT RL 225 yL_buildFromView cL_buildFromView 6 (some .int) [(0, 13, 16, 19), (0, 13, 20, 21)] 5 := ⟨mlL_225, iniL, w4_162, w4_161, ⟨by decide +kernel, by decide +kernel, by decide +kernel⟩⟩
theorem tL_228 : CLT RL 228 yL_viewPut cL_viewPut 6 (some .int) [(0, 13, 16, 19), (0, 13, 20, 21)] 5 := ⟨mlL_228, iniL, w4_169, w4_168, ⟨by decide +kernel, by decide +kernel, by decide +kernel⟩⟩
theorem tL_231 : CLT RL 231 yL_viewTake cL_viewTake 5 (some .int) [(0, 11, 14, 19), (0, 11, 18, 21)] 4 := ⟨mlL_231, iniL, w4_176, w4_175, ⟨by decide +kernel, by decide +kernel, by decide +kernel⟩⟩
theorem tL_234 : CLT RL 234 yL_viewDrop cL_viewDrop 5 (some .int) [(0, 11, 14, 19), (0, 11, 18, 21)] 4 := ⟨mlL_234, iniL, w4_183, w4_182, ⟨by decide +kernel, by decide +kernel, by decide +kernel⟩⟩
theorem tL_237 : CLT RL 237 yL_viewNear cL_viewNear 6 (some .int) [(0, 13, 16, 19), (0, 13, 20, 21)] 5 := ⟨mlL_237, iniL, w4_190, w4_189, ⟨by decide +kernel, by decide +kernel, by decide +kernel⟩⟩
theorem tL_240 : CLT RL 240 yL_viewTell cL_viewTell 5 (some .int) [(0, 11, 14, 19), (0, 11, 18, 21)] 4 := ⟨mlL_240, iniL, w4_197, w4_196, ⟨by decide +kernel, by decide +kernel, by decide +kernel⟩⟩
theorem tL_243 : CLT RL 243 yL_startWalk cL_startWalk 4 (some .int) [(0, 10, 13, 19)] 3 := ⟨mlL_243, iniL, w4_204, w4_203, ⟨by decide +kernel, by decide +kernel, by decide +kernel⟩⟩
theorem tL_251 : CLT RL 251 yL_walkSet cL_walkSet 4 (some .int) [(0, 10, 13, 21)] 3 := ⟨mlL_251, iniL, w4_215, w4_214, ⟨by decide +kernel, by decide +kernel, by decide +kernel⟩⟩
theorem tL_258 : CLT RL 258 yL_freshShelf cL_freshShelf 5 (some .int) [(0, 11, 14, 19), (0, 11, 18, 21)] 4 := ⟨mlL_258, iniL, w4_227, w4_226, ⟨by decide +kernel, by decide +kernel, by decide +kernel⟩⟩
theorem tL_261 : CLT RL 261 yL_buildShelf cL_buildShelf 6 (some .int) [(0, 13, 16, 19), (0, 13, 20, 21)] 5 := ⟨mlL_261, iniL, w4_239, w4_238, ⟨by decide +kernel, by decide +kernel, by decide +kernel⟩⟩
theorem tL_264 : CLT RL 264 yL_keysOf cL_keysOf 5 (some .int) [(0, 11, 14, 19)] 4 := ⟨mlL_264, iniL, w5_6, w5_5, ⟨by decide +kernel, by decide +kernel, by decide +kernel⟩⟩
theorem tL_267 : CLT RL 267 yL_lay cL_lay 8 (some .int) [(0, 17, 20, 19), (0, 17, 24, 21)] 7 := ⟨mlL_267, iniL, w5_17, w5_16, ⟨by decide +kernel, by decide +kernel, by decide +kernel⟩⟩
theorem tL_271 : CLT RL 271 yL_shelfBoth cL_shelfBoth 6 (some .int) [(0, 13, 16, 19), (0, 13, 20, 21)] 5 := ⟨mlL_271, iniL, w5_28, w5_27, ⟨by decide +kernel, by decide +kernel, by decide +kernel⟩⟩
theorem tL_274 : CLT RL 274 yL_shelfDrop cL_shelfDrop 5 (some .int) [(0, 11, 14, 19), (0, 11, 18, 21)] 4 := ⟨mlL_274, iniL, w5_35, w5_34, ⟨by decide +kernel, by decide +kernel, by decide +kernel⟩⟩
theorem tL_277 : CLT RL 277 yL_shelfCut cL_shelfCut 8 (some .int) [(0, 17, 20, 19), (0, 17, 24, 21)] 7 := ⟨mlL_277, iniL, w5_46, w5_45, ⟨by decide +kernel, by decide +kernel, by decide +kernel⟩⟩
theorem tL_280 : CLT RL 280 yL_shelfNear cL_shelfNear 6 (some .int) [(0, 13, 16, 19), (0, 13, 20, 21)] 5 := ⟨mlL_280, iniL, w5_53, w5_52, ⟨by decide +kernel, by decide +kernel, by decide +kernel⟩⟩
theorem tL_283 : CLT RL 283 yL_shelfTell cL_shelfTell 5 (some .int) [(0, 11, 14, 19), (0, 11, 18, 21)] 4 := ⟨mlL_283, iniL, w5_60, w5_59, ⟨by decide +kernel, by decide +kernel, by decide +kernel⟩⟩
theorem tL_286 : CLT RL 286 yL_sameShelves cL_sameShelves 6 (some .int) [(0, 20, 23, 19), (0, 20, 27, 21)] 5 := ⟨mlL_286, iniL, w5_67, w5_66, ⟨by decide +kernel, by decide +kernel, by decide +kernel⟩⟩
theorem tL_292 : CLT RL 292 yL_house cL_house 4 (some .int) [(0, 10, 13, 21)] 3 := ⟨mlL_292, iniL, w5_78, w5_77, ⟨by decide +kernel, by decide +kernel, by decide +kernel⟩⟩
