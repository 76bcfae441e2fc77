abbrev CS : Type := Nat × (Nat → Int) × (Nat → RS) × (Int → Nat) × (Int → Nat) × (Int → Nat) × (Int → Int) × (Int → Int) × Option Nat × Int × Int × Int × Int × Int × Int × Int
def zn (σ : CS) : Nat := σ.1
def zod (σ : CS) : Nat → Int := σ.2.1
def zst (σ : CS) : Nat → RS := σ.2.2.1
def zbk (σ : CS) : Int → Nat := σ.2.2.2.1
def zsh (σ : CS) : Int → Nat := σ.2.2.2.2.1
def zvw (σ : CS) : Int → Nat := σ.2.2.2.2.2.1
def zvl (σ : CS) : Int → Int := σ.2.2.2.2.2.2.1
def zvh (σ : CS) : Int → Int := σ.2.2.2.2.2.2.2.1
def zwk (σ : CS) : Option Nat := σ.2.2.2.2.2.2.2.2.1
def zwc (σ : CS) : Int := σ.2.2.2.2.2.2.2.2.2.1
def zwl (σ : CS) : Int := σ.2.2.2.2.2.2.2.2.2.2.1
def zwt (σ : CS) : Int := σ.2.2.2.2.2.2.2.2.2.2.2.1
def z0 (σ : CS) : Int := σ.2.2.2.2.2.2.2.2.2.2.2.2.1
def z1 (σ : CS) : Int := σ.2.2.2.2.2.2.2.2.2.2.2.2.2.1
def z2 (σ : CS) : Int := σ.2.2.2.2.2.2.2.2.2.2.2.2.2.2.1
def z3 (σ : CS) : Int := σ.2.2.2.2.2.2.2.2.2.2.2.2.2.2.2
abbrev CG : Type := Nat × Nat × Nat × Nat × Nat × (Int → Nat) × (Nat → Nat) × (Nat → Nat)
def gbg (G : CG) : Nat := G.1
def gab (G : CG) : Nat := G.2.1
def gas (G : CG) : Nat := G.2.2.1
def gav (G : CG) : Nat := G.2.2.2.1
def gkk (G : CG) : Nat := G.2.2.2.2.1
def gva (G : CG) : Int → Nat := G.2.2.2.2.2.1
def grh (G : CG) : Nat → Nat := G.2.2.2.2.2.2.1
def grw (G : CG) : Nat → Nat := G.2.2.2.2.2.2.2
def sSt (σ : CS) (i : Nat) (S : RS) : CS := (zn σ, zod σ, va_up (zst σ) i S, zbk σ, zsh σ, zvw σ, zvl σ, zvh σ, zwk σ, zwc σ, zwl σ, zwt σ, z0 σ, z1 σ, z2 σ, z3 σ)
def sBk (σ : CS) (b : Int) (i : Nat) : CS := (zn σ, zod σ, zst σ, iu (zbk σ) b i, zsh σ, zvw σ, zvl σ, zvh σ, zwk σ, zwc σ, zwl σ, zwt σ, z0 σ, z1 σ, z2 σ, z3 σ)
def sSh (σ : CS) (b : Int) (i : Nat) : CS := (zn σ, zod σ, zst σ, zbk σ, iu (zsh σ) b i, zvw σ, zvl σ, zvh σ, zwk σ, zwc σ, zwl σ, zwt σ, z0 σ, z1 σ, z2 σ, z3 σ)
def sVw (σ : CS) (v : Int) (i : Nat) (lo hi : Int) : CS := (zn σ, zod σ, zst σ, zbk σ, zsh σ, iu (zvw σ) v i, iu (zvl σ) v lo, iu (zvh σ) v hi, zwk σ, zwc σ, zwl σ, zwt σ, z0 σ, z1 σ, z2 σ, z3 σ)
def sWk (σ : CS) (w : Option Nat) (c l t : Int) : CS := (zn σ, zod σ, zst σ, zbk σ, zsh σ, zvw σ, zvl σ, zvh σ, w, c, l, t, z0 σ, z1 σ, z2 σ, z3 σ)
def sCt (σ : CS) (a b c d : Int) : CS := (zn σ, zod σ, zst σ, zbk σ, zsh σ, zvw σ, zvl σ, zvh σ, zwk σ, zwc σ, zwl σ, zwt σ, a, b, c, d)
def sNw (σ : CS) (o : Int) (S : RS) : CS := (zn σ + 1, va_up (zod σ) (zn σ) o, va_up (zst σ) (zn σ) S, zbk σ, zsh σ, zvw σ, zvl σ, zvh σ, zwk σ, zwc σ, zwl σ, zwt σ, z0 σ, z1 σ, z2 σ, z3 σ)
def fgt (σ : CS) (i : Nat) : CS := (zn σ, zod σ, zst σ, zbk σ, zsh σ, zvw σ, zvl σ, zvh σ, zwk σ, zwc σ, zwl σ, (if zwk σ = some i then 0 else zwt σ), z0 σ, z1 σ, z2 σ, z3 σ)
def wrt (σ : CS) (i : Nat) : CS := (zn σ, zod σ, zst σ, zbk σ, zsh σ, zvw σ, zvl σ, zvh σ, zwk σ, zwc σ, zwl σ, (if zwk σ = some i then 0 else zwt σ), z0 σ + 1, z1 σ, z2 σ, z3 σ)
def inc0 (σ : CS)  : CS := (zn σ, zod σ, zst σ, zbk σ, zsh σ, zvw σ, zvl σ, zvh σ, zwk σ, zwc σ, zwl σ, zwt σ, z0 σ + 1, z1 σ, z2 σ, z3 σ)
def inc1 (σ : CS)  : CS := (zn σ, zod σ, zst σ, zbk σ, zsh σ, zvw σ, zvl σ, zvh σ, zwk σ, zwc σ, zwl σ, zwt σ, z0 σ, z1 σ + 1, z2 σ, z3 σ)
def inc2 (σ : CS)  : CS := (zn σ, zod σ, zst σ, zbk σ, zsh σ, zvw σ, zvl σ, zvh σ, zwk σ, zwc σ, zwl σ, zwt σ, z0 σ, z1 σ, z2 σ + 1, z3 σ)
def inc3 (σ : CS)  : CS := (zn σ, zod σ, zst σ, zbk σ, zsh σ, zvw σ, zvl σ, zvh σ, zwk σ, zwc σ, zwl σ, zwt σ, z0 σ, z1 σ, z2 σ, z3 σ + 1)
def tnx (σ : CS) (j : Nat) : Int := firP (zst σ j).2.2 (zwl σ + 1) 99
def tnS (σ : CS) (j : Nat) : CS := if tnx σ j = -1 then σ else sWk σ (some j) (zwc σ) (tnx σ j) 1
def tnR (σ : CS) (j : Nat) : Int := if tnx σ j = -1 then -1 else pairR (zod σ j) (zst σ j).2.2 (tnx σ j)
def rtS (σ : CS) (j : Nat) : CS := sWk (sSt σ j (goS (zst σ j) (zwl σ))) (some j) (goS (zst σ j) (zwl σ)).2.1 (zwl σ) 0
def gNw (G : CG) (n r q : Nat) : CG := (gbg G, gab G, gas G, gav G, gkk G, gva G, va_up (grh G) n r, va_up (grw G) n q)
abbrev bgE (G : CG) (σ : CS) : va_E := .inr (5, [.ref (gab G), .ref (gas G), .ref (gav G), .ref (gkk G), .int (iI (z0 σ)), .int (iI (z1 σ)), .int (iI (z2 σ)), .int (iI (z3 σ))])
abbrev vwE (r : Nat) (lo hi : Int) : va_E := .inr (3, [.ref r, .int (iI lo), .int (iI hi)])
abbrev wkE (r : Option Nat) (c l t : Int) : va_E := .inr (4, [va_rf r, .int (iI c), .int (iI l), .int (iI t)])
/-- the objects of the class, at the addresses G, hold the state σ -/
def CP (y : Nat → ClassId) (L : List Nat) (F : Nat → va_E) (O : Nat → Prop) (G : CG) (σ : CS) : Prop :=
  (gbg G ∈ L ∧ F (gbg G) = bgE G σ) ∧
  (gab G ∈ L ∧ F (gab G) = arrQ (y 1) 4 (fun i => some (grh G (zbk σ i)))) ∧
  (gas G ∈ L ∧ F (gas G) = arrQ (y 1) 3 (fun i => some (grh G (zsh σ i)))) ∧
  (gav G ∈ L ∧ F (gav G) = arrQ (y 2) 2 (fun i => some (gva G i))) ∧
  (∀ i, 0 ≤ i → i < 2 → gva G i ∈ L ∧ F (gva G i) = vwE (grh G (zvw σ i)) (zvl σ i) (zvh σ i)) ∧
  (gkk G ∈ L ∧ F (gkk G) = wkE ((zwk σ).map (grh G)) (zwc σ) (zwl σ) (zwt σ)) ∧
  (∀ i, i < zn σ → RwS y L F (grh G i) (grw G i) (zod σ i) (zst σ i)) ∧
  (gva G 0 ≠ gva G 1 ∧ ∀ i j, i < zn σ → j < zn σ → (grh G i = grh G j ∨ grw G i = grw G j) → i = j) ∧
  (O (gbg G) ∧ O (gab G) ∧ O (gas G) ∧ O (gav G) ∧ O (gkk G) ∧ (∀ i, 0 ≤ i → i < 2 → O (gva G i)) ∧ ∀ i, i < zn σ → O (grh G i) ∧ O (grw G i))
theorem ne_tag {F : Nat → va_E} {a b i j : Nat} {fs gs : List Value} (h : F a = .inr (i, fs)) (h2 : F b = .inr (j, gs)) (hij : i ≠ j) : a ≠ b := fun e => by
  rw [e, h2] at h
  cases h
  exact hij rfl
theorem ne_oa {F : Nat → va_E} {a b i : Nat} {fs : List Value} {x : ClassId × vp_A} (h : F a = .inr (i, fs)) (h2 : F b = .inl x) : a ≠ b := fun e => by
  rw [e, h2] at h
  cases h
theorem ne_aa {F : Nat → va_E} {a b n k : Nat} {x z : ClassId} {g g2 : Int → Option Nat} (h : F a = arrQ x n g) (h2 : F b = arrQ z k g2) (hij : n ≠ k) : a ≠ b := fun e => by
  rw [e, h2] at h
  exact hij (congrArg (fun t : ClassId × vp_A => t.2.1) (Sum.inl.inj h)).symm
theorem ne_ai {F : Nat → va_E} {a b n k : Nat} {x z : ClassId} {g : Int → Option Nat} {f : Int → Int} (h : F a = arrQ x n g) (h2 : F b = arrI z k f) : a ≠ b := fun e => by
  rw [e, h2] at h
  cases h
theorem gva_ne {y : Nat → ClassId} {L : List Nat} {F : Nat → va_E} {O : Nat → Prop} {G : CG} {σ : CS} (h : CP y L F O G σ) {i j : Int} (hi : 0 ≤ i ∧ i < 2) (hj : 0 ≤ j ∧ j < 2) (n : i ≠ j) : gva G i ≠ gva G j := by
  have q := h.2.2.2.2.2.2.2.1.1
  rcases (show (i = 0 ∧ j = 1) ∨ (i = 1 ∧ j = 0) by omega) with ⟨rfl, rfl⟩ | ⟨rfl, rfl⟩
  · exact q
  · exact fun e => q e.symm
theorem map_iu {g : Nat → Nat} {b : Int → Nat} {k : Int} {i : Nat} : iu (fun j => some (g (b j))) k (some (g i)) = fun j => some (g (iu b k i j)) := by
  funext j
  unfold iu
  split <;> rfl
section CPL
variable {y : Nat → ClassId} {L : List Nat} {F F1 : Nat → va_E} {O : Nat → Prop} {G : CG} {σ : CS}
/-- the counters -/
theorem CP_ct (h : CP y L F O G σ) {a b c d : Int} (hx : F1 (gbg G) = bgE G (sCt σ a b c d)) (fr : ∀ q, q ≠ gbg G → F1 q = F q) : CP y L F1 O G (sCt σ a b c d) := by
  obtain ⟨h1, h2, h3, h4, h5, h6, h7, h8⟩ := h
  refine ⟨⟨h1.1, hx⟩, ⟨h2.1, (fr _ (fun e => ne_oa h1.2 h2.2 e.symm)).trans h2.2⟩, ⟨h3.1, (fr _ (fun e => ne_oa h1.2 h3.2 e.symm)).trans h3.2⟩, ⟨h4.1, (fr _ (fun e => ne_oa h1.2 h4.2 e.symm)).trans h4.2⟩, fun i hi hj => ⟨(h5 i hi hj).1, (fr _ (ne_tag (h5 i hi hj).2 h1.2 (by decide))).trans (h5 i hi hj).2⟩, ⟨h6.1, (fr _ (ne_tag h6.2 h1.2 (by decide))).trans h6.2⟩, fun i hi => ?_, h8⟩
  have r := h7 i hi
  exact ⟨r.1, (fr _ (ne_tag r.2.1 h1.2 (by decide))).trans r.2.1, r.2.2.1, (fr _ (fun e => ne_oa h1.2 r.2.2.2.1 e.symm)).trans r.2.2.2.1, r.2.2.2.2⟩
/-- a book's place -/
theorem CP_bk (h : CP y L F O G σ) {b : Int} {i : Nat} (hx : F1 (gab G) = arrQ (y 1) 4 (iu (fun j => some (grh G (zbk σ j))) b (some (grh G i)))) (fr : ∀ q, q ≠ gab G → F1 q = F q) : CP y L F1 O G (sBk σ b i) := by
  obtain ⟨h1, h2, h3, h4, h5, h6, h7, h8⟩ := h
  rw [map_iu] at hx
  refine ⟨⟨h1.1, (fr _ (ne_oa h1.2 h2.2)).trans h1.2⟩, ⟨h2.1, hx⟩, ⟨h3.1, (fr _ (ne_aa h3.2 h2.2 (by decide))).trans h3.2⟩, ⟨h4.1, (fr _ (ne_aa h4.2 h2.2 (by decide))).trans h4.2⟩, fun i hi hj => ⟨(h5 i hi hj).1, (fr _ (ne_oa (h5 i hi hj).2 h2.2)).trans (h5 i hi hj).2⟩, ⟨h6.1, (fr _ (ne_oa h6.2 h2.2)).trans h6.2⟩, fun i hi => ?_, h8⟩
  have r := h7 i hi
  exact ⟨r.1, (fr _ (ne_oa r.2.1 h2.2)).trans r.2.1, r.2.2.1, (fr _ (fun e => ne_ai h2.2 r.2.2.2.1 e.symm)).trans r.2.2.2.1, r.2.2.2.2⟩
/-- a shelf's place -/
theorem CP_sh (h : CP y L F O G σ) {b : Int} {i : Nat} (hx : F1 (gas G) = arrQ (y 1) 3 (iu (fun j => some (grh G (zsh σ j))) b (some (grh G i)))) (fr : ∀ q, q ≠ gas G → F1 q = F q) : CP y L F1 O G (sSh σ b i) := by
  obtain ⟨h1, h2, h3, h4, h5, h6, h7, h8⟩ := h
  rw [map_iu] at hx
  refine ⟨⟨h1.1, (fr _ (ne_oa h1.2 h3.2)).trans h1.2⟩, ⟨h2.1, (fr _ (ne_aa h2.2 h3.2 (by decide))).trans h2.2⟩, ⟨h3.1, hx⟩, ⟨h4.1, (fr _ (ne_aa h4.2 h3.2 (by decide))).trans h4.2⟩, fun i hi hj => ⟨(h5 i hi hj).1, (fr _ (ne_oa (h5 i hi hj).2 h3.2)).trans (h5 i hi hj).2⟩, ⟨h6.1, (fr _ (ne_oa h6.2 h3.2)).trans h6.2⟩, fun i hi => ?_, h8⟩
  have r := h7 i hi
  exact ⟨r.1, (fr _ (ne_oa r.2.1 h3.2)).trans r.2.1, r.2.2.1, (fr _ (fun e => ne_ai h3.2 r.2.2.2.1 e.symm)).trans r.2.2.2.1, r.2.2.2.2⟩
/-- a view -/
theorem CP_vw (h : CP y L F O G σ) {v : Int} {i : Nat} {lo hi : Int} (hv : 0 ≤ v ∧ v < 2) (hx : F1 (gva G v) = vwE (grh G i) lo hi) (fr : ∀ q, q ≠ gva G v → F1 q = F q) : CP y L F1 O G (sVw σ v i lo hi) := by
  have hh := h
  obtain ⟨h1, h2, h3, h4, h5, h6, h7, h8⟩ := h
  have v5 := h5 v hv.1 hv.2
  refine ⟨⟨h1.1, (fr _ (ne_tag h1.2 v5.2 (by decide))).trans h1.2⟩, ⟨h2.1, (fr _ (fun e => ne_oa v5.2 h2.2 e.symm)).trans h2.2⟩, ⟨h3.1, (fr _ (fun e => ne_oa v5.2 h3.2 e.symm)).trans h3.2⟩, ⟨h4.1, (fr _ (fun e => ne_oa v5.2 h4.2 e.symm)).trans h4.2⟩, fun k hk hj => ⟨(h5 k hk hj).1, ?_⟩, ⟨h6.1, (fr _ (ne_tag h6.2 v5.2 (by decide))).trans h6.2⟩, fun i hi => ?_, h8⟩
  · show F1 (gva G k) = vwE (grh G (iu (zvw σ) v i k)) (iu (zvl σ) v lo k) (iu (zvh σ) v hi k)
    by_cases hkv : k = v
    · subst hkv
      rw [iu_s, iu_s, iu_s]
      exact hx
    · rw [iu_n hkv, iu_n hkv, iu_n hkv]
      exact (fr _ (gva_ne hh ⟨hk, hj⟩ hv hkv)).trans (h5 k hk hj).2
  · have r := h7 i hi
    exact ⟨r.1, (fr _ (ne_tag r.2.1 v5.2 (by decide))).trans r.2.1, r.2.2.1, (fr _ (fun e => ne_oa v5.2 r.2.2.2.1 e.symm)).trans r.2.2.2.1, r.2.2.2.2⟩
/-- the walk -/
theorem CP_wk (h : CP y L F O G σ) {w : Option Nat} {c l t : Int} (hx : F1 (gkk G) = wkE (w.map (grh G)) c l t) (fr : ∀ q, q ≠ gkk G → F1 q = F q) : CP y L F1 O G (sWk σ w c l t) := by
  obtain ⟨h1, h2, h3, h4, h5, h6, h7, h8⟩ := h
  refine ⟨⟨h1.1, (fr _ (ne_tag h1.2 h6.2 (by decide))).trans h1.2⟩, ⟨h2.1, (fr _ (fun e => ne_oa h6.2 h2.2 e.symm)).trans h2.2⟩, ⟨h3.1, (fr _ (fun e => ne_oa h6.2 h3.2 e.symm)).trans h3.2⟩, ⟨h4.1, (fr _ (fun e => ne_oa h6.2 h4.2 e.symm)).trans h4.2⟩, fun i hi hj => ⟨(h5 i hi hj).1, (fr _ (ne_tag (h5 i hi hj).2 h6.2 (by decide))).trans (h5 i hi hj).2⟩, ⟨h6.1, hx⟩, fun i hi => ?_, h8⟩
  have r := h7 i hi
  exact ⟨r.1, (fr _ (ne_tag r.2.1 h6.2 (by decide))).trans r.2.1, r.2.2.1, (fr _ (fun e => ne_oa h6.2 r.2.2.2.1 e.symm)).trans r.2.2.2.1, r.2.2.2.2⟩
/-- a row -/
theorem CP_row (h : CP y L F O G σ) {i : Nat} (hi : i < zn σ) {S : RS} (hR : RwS y L F1 (grh G i) (grw G i) (zod σ i) S) (fr : FrE (grh G i) (grw G i) F F1) : CP y L F1 O G (sSt σ i S) := by
  obtain ⟨h1, h2, h3, h4, h5, h6, h7, h8⟩ := h
  have r0 := h7 i hi
  refine ⟨⟨h1.1, (fr _ (ne_tag h1.2 r0.2.1 (by decide)) (ne_oa h1.2 r0.2.2.2.1)).trans h1.2⟩, ⟨h2.1, (fr _ (fun e => ne_oa r0.2.1 h2.2 e.symm) (ne_ai h2.2 r0.2.2.2.1)).trans h2.2⟩, ⟨h3.1, (fr _ (fun e => ne_oa r0.2.1 h3.2 e.symm) (ne_ai h3.2 r0.2.2.2.1)).trans h3.2⟩, ⟨h4.1, (fr _ (fun e => ne_oa r0.2.1 h4.2 e.symm) (ne_ai h4.2 r0.2.2.2.1)).trans h4.2⟩, fun k hk hj => ⟨(h5 k hk hj).1, (fr _ (ne_tag (h5 k hk hj).2 r0.2.1 (by decide)) (ne_oa (h5 k hk hj).2 r0.2.2.2.1)).trans (h5 k hk hj).2⟩, ⟨h6.1, (fr _ (ne_tag h6.2 r0.2.1 (by decide)) (ne_oa h6.2 r0.2.2.2.1)).trans h6.2⟩, fun k hk => ?_, h8⟩
  show RwS y L F1 (grh G k) (grw G k) (zod σ k) (va_up (zst σ) i S k)
  by_cases hki : k = i
  · subst hki
    rw [va_up_self]
    exact hR
  · rw [va_up_ne _ _ hki]
    exact Rw_fr r0 (h7 k hk) (fun e => hki (h8.1.2 k i hk hi (Or.inl e))) (fun e => hki (h8.1.2 k i hk hi (Or.inr e))) fr
/-- a new row: made, lying nowhere yet -/
theorem CP_new {L1 : List Nat} {r q : Nat} {o : Int} {S : RS} (h : CP y L F O G σ) (hL : L1 = (L ++ [r]) ++ [q]) (hr : r ∉ L) (hq : q ∉ L) (hR : RwS y L1 F1 r q o S) (fr : ∀ a ∈ L, F1 a = F a) (wf : (∀ i, zbk σ i < zn σ) ∧ (∀ i, zsh σ i < zn σ) ∧ (∀ i, zvw σ i < zn σ) ∧ ∀ i, zwk σ = some i → i < zn σ) : CP y L1 F1 (fun a => O a ∨ a ∉ L) (gNw G (zn σ) r q) (sNw σ o S) := by
  obtain ⟨h1, h2, h3, h4, h5, h6, h7, h8, h9⟩ := h
  have sub : ∀ a ∈ L, a ∈ L1 := fun a ha => by rw [hL]; exact List.mem_append_left _ (List.mem_append_left _ ha)
  have e1 : ∀ i, i < zn σ → va_up (grh G) (zn σ) r i = grh G i := fun i hi => va_up_ne _ _ (by omega)
  have e2 : ∀ i, i < zn σ → va_up (grw G) (zn σ) q i = grw G i := fun i hi => va_up_ne _ _ (by omega)
  refine ⟨⟨sub _ h1.1, (fr _ h1.1).trans h1.2⟩, ⟨sub _ h2.1, (fr _ h2.1).trans (h2.2.trans ?_)⟩, ⟨sub _ h3.1, (fr _ h3.1).trans (h3.2.trans ?_)⟩, ⟨sub _ h4.1, (fr _ h4.1).trans h4.2⟩, fun k hk hj => ⟨sub _ (h5 k hk hj).1, (fr _ (h5 k hk hj).1).trans ((h5 k hk hj).2.trans ?_)⟩, ⟨sub _ h6.1, (fr _ h6.1).trans (h6.2.trans ?_)⟩, fun k hk => ?_, ⟨h8.1, fun i j hi hj hij => ?_⟩, ?_⟩
  · show arrQ (y 1) 4 (fun i => some (grh G (zbk σ i))) = arrQ (y 1) 4 (fun i => some (va_up (grh G) (zn σ) r (zbk σ i)))
    congr; funext i; rw [e1 _ (wf.1 i)]
  · show arrQ (y 1) 3 (fun i => some (grh G (zsh σ i))) = arrQ (y 1) 3 (fun i => some (va_up (grh G) (zn σ) r (zsh σ i)))
    congr; funext i; rw [e1 _ (wf.2.1 i)]
  · show vwE (grh G (zvw σ k)) (zvl σ k) (zvh σ k) = vwE (va_up (grh G) (zn σ) r (zvw σ k)) (zvl σ k) (zvh σ k)
    rw [e1 _ (wf.2.2.1 k)]
  · show wkE ((zwk σ).map (grh G)) (zwc σ) (zwl σ) (zwt σ) = wkE ((zwk σ).map (va_up (grh G) (zn σ) r)) (zwc σ) (zwl σ) (zwt σ)
    cases hw : zwk σ with
    | none => rfl
    | some i =>
      show wkE (some (grh G i)) _ _ _ = wkE (some (va_up (grh G) (zn σ) r i)) _ _ _
      rw [e1 _ (wf.2.2.2 i hw)]
  · show RwS y L1 F1 (va_up (grh G) (zn σ) r k) (va_up (grw G) (zn σ) q k) (va_up (zod σ) (zn σ) o k) (va_up (zst σ) (zn σ) S k)
    by_cases hkn : k = zn σ
    · subst hkn
      rw [va_up_self, va_up_self, va_up_self, va_up_self]
      exact hR
    · have hk2 : k < zn σ := by
        have : k < zn σ + 1 := hk
        omega
      rw [va_up_ne _ _ hkn, va_up_ne _ _ hkn, va_up_ne _ _ hkn, va_up_ne _ _ hkn]
      exact Rw_mono (h7 k hk2) sub fr
  · have hi2 : i < zn σ + 1 := hi
    have hj2 : j < zn σ + 1 := hj
    have hij2 : va_up (grh G) (zn σ) r i = va_up (grh G) (zn σ) r j ∨ va_up (grw G) (zn σ) q i = va_up (grw G) (zn σ) q j := hij
    by_cases hin : i = zn σ
    · by_cases hjn : j = zn σ
      · omega
      · rw [hin, va_up_self, va_up_self, va_up_ne _ _ hjn, va_up_ne _ _ hjn] at hij2
        rcases hij2 with e | e
        · exact absurd (e ▸ (h7 j (by omega)).1) hr
        · exact absurd (e ▸ (h7 j (by omega)).2.2.1) hq
    · by_cases hjn : j = zn σ
      · rw [hjn, va_up_self, va_up_self, va_up_ne _ _ hin, va_up_ne _ _ hin] at hij2
        rcases hij2 with e | e
        · exact absurd (e ▸ (h7 i (by omega)).1) hr
        · exact absurd (e ▸ (h7 i (by omega)).2.2.1) hq
      · rw [va_up_ne _ _ hin, va_up_ne _ _ hin, va_up_ne _ _ hjn, va_up_ne _ _ hjn] at hij2
        exact h8.2 i j (by omega) (by omega) hij2
  · refine ⟨Or.inl h9.1, Or.inl h9.2.1, Or.inl h9.2.2.1, Or.inl h9.2.2.2.1, Or.inl h9.2.2.2.2.1, fun i a b => Or.inl (h9.2.2.2.2.2.1 i a b), fun i hi => ?_⟩
    show (O (va_up (grh G) (zn σ) r i) ∨ va_up (grh G) (zn σ) r i ∉ L) ∧ (O (va_up (grw G) (zn σ) q i) ∨ va_up (grw G) (zn σ) q i ∉ L)
    by_cases hin : i = zn σ
    · subst hin
      rw [va_up_self, va_up_self]
      exact ⟨Or.inr hr, Or.inr hq⟩
    · have hi2 : i < zn σ + 1 := hi
      rw [va_up_ne _ _ hin, va_up_ne _ _ hin]
      exact ⟨Or.inl (h9.2.2.2.2.2.2 i (by omega)).1, Or.inl (h9.2.2.2.2.2.2 i (by omega)).2⟩
theorem CP_own {O2 : Nat → Prop} (h : CP y L F O G σ) (hO : ∀ a, O a → O2 a) : CP y L F O2 G σ := by
  obtain ⟨h1, h2, h3, h4, h5, h6, h7, h8, h9⟩ := h
  exact ⟨h1, h2, h3, h4, h5, h6, h7, h8, hO _ h9.1, hO _ h9.2.1, hO _ h9.2.2.1, hO _ h9.2.2.2.1, hO _ h9.2.2.2.2.1, fun i a b => hO _ (h9.2.2.2.2.2.1 i a b), fun i hi => ⟨hO _ (h9.2.2.2.2.2.2 i hi).1, hO _ (h9.2.2.2.2.2.2 i hi).2⟩⟩
theorem CP_r (h : CP y L F O G σ) {i : Nat} (hi : i < zn σ) : RwS y L F (grh G i) (grw G i) (zod σ i) (zst σ i) := h.2.2.2.2.2.2.1 i hi
theorem CP_v (h : CP y L F O G σ) {v : Int} (hv : 0 ≤ v ∧ v < 2) : gva G v ∈ L ∧ F (gva G v) = vwE (grh G (zvw σ v)) (zvl σ v) (zvh σ v) := h.2.2.2.2.1 v hv.1 hv.2
theorem CP_k (h : CP y L F O G σ) : gkk G ∈ L ∧ F (gkk G) = wkE ((zwk σ).map (grh G)) (zwc σ) (zwl σ) (zwt σ) := h.2.2.2.2.2.1
theorem CP_k0 (h : CP y L F O G σ) (hw : zwk σ = none) : gkk G ∈ L ∧ F (gkk G) = wkE none (zwc σ) (zwl σ) (zwt σ) := by
  have q := CP_k h
  rw [hw] at q
  exact q
theorem CP_k1 (h : CP y L F O G σ) {j : Nat} (hw : zwk σ = some j) : gkk G ∈ L ∧ F (gkk G) = wkE (some (grh G j)) (zwc σ) (zwl σ) (zwt σ) := by
  have q := CP_k h
  rw [hw] at q
  exact q
theorem CP_ri (h : CP y L F O G σ) {i j : Nat} (hi : i < zn σ) (hj : j < zn σ) (e : grh G i = grh G j) : i = j := h.2.2.2.2.2.2.2.1.2 i j hi hj (Or.inl e)
theorem CP_wi (h : CP y L F O G σ) {i j : Nat} (hi : i < zn σ) (hj : j < zn σ) (e : grw G i = grw G j) : i = j := h.2.2.2.2.2.2.2.1.2 i j hi hj (Or.inr e)
theorem CP_wk_eq (h : CP y L F O G σ) (hw : ∀ i, zwk σ = some i → i < zn σ) {i : Nat} (hi : i < zn σ) : (zwk σ).map (grh G) = some (grh G i) ↔ zwk σ = some i := by
  cases hk : zwk σ with
  | none => simp
  | some j =>
    simp only [Option.map_some, Option.some.injEq]
    exact ⟨fun e => CP_ri h (hw j hk) hi e, fun e => by rw [e]⟩
/-- outside of what is owned nothing changes -/
def OE (O : Nat → Prop) (F F1 : Nat → va_E) : Prop := ∀ q, ¬ O q → F1 q = F q
theorem OE.tr {O : Nat → Prop} {F F1 F2 : Nat → va_E} (a : OE O F F1) (b : OE O F1 F2) : OE O F F2 := fun q h => (b q h).trans (a q h)
theorem OE1 {O : Nat → Prop} {F : Nat → va_E} {x : Nat} {e : va_E} (hx : O x) : OE O F (va_up F x e) := fun q h => va_up_ne _ _ (fun z : q = x => h (z ▸ hx))
theorem OEf (h : CP y L F O G σ) {i : Nat} (hi : i < zn σ) (fr : FrE (grh G i) (grw G i) F F1) : OE O F F1 := fun q hq => fr q (fun z => hq (z ▸ (h.2.2.2.2.2.2.2.2.2.2.2.2.2.2 i hi).1)) (fun z => hq (z ▸ (h.2.2.2.2.2.2.2.2.2.2.2.2.2.2 i hi).2))
theorem CP_O (h : CP y L F O G σ) : O (gbg G) ∧ O (gab G) ∧ O (gas G) ∧ O (gav G) ∧ O (gkk G) ∧ (∀ i, 0 ≤ i → i < 2 → O (gva G i)) ∧ ∀ i, i < zn σ → O (grh G i) ∧ O (grw G i) := h.2.2.2.2.2.2.2.2
theorem CP_rowN {n r q i : Nat} {b o : Int} {S0 S : RS} {σ1 : CS} (hn : n = zn σ1) (hi : i < n) (h : CP y L F O (gNw G n r q) (sBk (sNw σ1 o S0) b n)) (hR : RwS y L F1 (grh G i) (grw G i) (zod σ1 i) S) (fr : FrE (grh G i) (grw G i) F F1) : CP y L F1 O (gNw G n r q) (sSt (sBk (sNw σ1 o S0) b n) i S) ∧ OE O F F1 := by
  have e1 : grh (gNw G n r q) i = grh G i := va_up_ne _ _ (by omega)
  have e2 : grw (gNw G n r q) i = grw G i := va_up_ne _ _ (by omega)
  have e3 : zod (sBk (sNw σ1 o S0) b n) i = zod σ1 i := va_up_ne _ _ (by omega)
  have hi2 : i < zn (sBk (sNw σ1 o S0) b n) := by
    show i < zn σ1 + 1
    omega
  have fr2 : FrE (grh (gNw G n r q) i) (grw (gNw G n r q) i) F F1 := by rw [e1, e2]; exact fr
  exact ⟨CP_row h hi2 (by rw [e1, e2, e3]; exact hR) fr2, OEf h hi2 fr2⟩
/-- what holds of the state between calls -/
def CW (σ : CS) : Prop := (∀ i, zbk σ i < zn σ) ∧ (∀ i, zsh σ i < zn σ) ∧ (∀ i, zvw σ i < zn σ) ∧ (∀ i, zwk σ = some i → i < zn σ) ∧ (∀ i, 0 ≤ zvl σ i ∧ zvl σ i ≤ 100 ∧ -1 ≤ zvh σ i ∧ zvh σ i ≤ 99) ∧ (-1 ≤ zwl σ ∧ zwl σ ≤ 99) ∧ (0 ≤ zwt σ ∧ zwt σ ≤ 1) ∧ (∀ i j, 0 ≤ i → i < 4 → 0 ≤ j → j < 4 → zbk σ i = zbk σ j → i = j) ∧ (∀ i j, 0 ≤ i → i < 3 → 0 ≤ j → j < 3 → zsh σ i = zsh σ j → i = j) ∧ (∀ i, i < zn σ → (0 ≤ (zst σ i).1 ∧ (zst σ i).1 ≤ 100) ∧ 0 ≤ (zst σ i).2.1 ∧ (zst σ i).2.1 ≤ 100000) ∧ (-1 ≤ zwc σ ∧ zwc σ ≤ 100000)
/-- how a call may leave the pool -/
def Ext (O O1 : Nat → Prop) (L L1 : List Nat) (F F1 : Nat → va_E) : Prop := (∀ q ∈ L, q ∈ L1) ∧ (∀ q ∈ L, ¬ O q → F1 q = F q) ∧ ∀ q, O1 q → O q ∨ q ∉ L
theorem Ext0 {O : Nat → Prop} {L : List Nat} {F F1 : Nat → va_E} (h : ∀ q, ¬ O q → F1 q = F q) : Ext O O L L F F1 := ⟨fun _ h => h, fun q _ hq => h q hq, fun _ h => Or.inl h⟩
def pX (a b : Prop) (E : String) : Prop := (E = xIO ∧ ¬ a) ∨ (E = xIA ∧ a ∧ ¬ b)
/-- the walk's row read back in explicit form -/
theorem CP_eq {σ2 : CS} (h : CP y L F O G σ) (e : σ = σ2) : CP y L F O G σ2 := e ▸ h
end CPL
theorem iu_iu {α : Type} (f : Int → α) (i : Int) (v w : α) : iu (iu f i v) i w = iu f i w := by
  funext j
  unfold iu
  split <;> rfl
theorem sVw2 (σ : CS) (v : Int) (i j : Nat) (a b c d : Int) : sVw (sVw σ v i a b) v j c d = sVw σ v j c d := by
  unfold sVw
  show (zn σ, zod σ, zst σ, zbk σ, zsh σ, iu (iu (zvw σ) v i) v j, iu (iu (zvl σ) v a) v c, iu (iu (zvh σ) v b) v d, _) = _
  rw [iu_iu, iu_iu, iu_iu]
  rfl
def kor (σ : CS) (n : Int) : CS := if n = -1 then inc2 σ else σ
def korR (o n : Int) : Int := if n = -1 then -9 else keyR o n
def bfact (o k : Int) (f : Int → Int) (n : Int) : Int := if n = 0 then k else if n = 1 then o else if n = 2 then hashP o f 0 else if k = 0 then 1 else 0
def sfact (o k : Int) (f : Int → Int) (n : Int) : Int := if n = 0 then k else if n = 1 then o else keyP o f 0
def hfact (σ : CS) (n : Int) : Int := if n = 0 then z0 σ else if n = 1 then z1 σ else if n = 2 then z2 σ else z3 σ
-- what the class's methods do to the state: kS the state, kR the answer
abbrev R0 : RS := (0, 0, emp)
def andI (a b : Int) : Int := (iI a &&& iI b).toInt
theorem andI_b (a b : Int) : -2147483648 ≤ andI a b ∧ andI a b ≤ 2147483647 := ⟨Int32.le_toInt _, by have := Int32.toInt_lt (iI a &&& iI b); unfold andI; omega⟩
section QA
variable {p : Program} {l : Launch} {e : Env} {R : Room} {s : State} {m : MethodId} {args : Array Value} {below : List Frame} {meth : Method} {c : Code} {H : Heap} {locs : List Loc} {cells slots : Nat} {Q : State → Prop} {cc : ByteArray} {pc : Nat} {ls : Array Slot} {rest : List Value}
theorem q_iand (hx : p.tables.exec = Jvm.exec) (hb : c.code = cc) {a b : Int} (hdg : decode cc pc = .ok (.iand, 1)) (k : W p l e R s m args below meth c H locs cells slots Q (F0 m (pc + 1) ls (.int (iI (andI a b)) :: rest))) : W p l e R s m args below meth c H locs cells slots Q (F0 m pc ls (.int (iI b) :: .int (iI a) :: rest)) := lv_iand hx hb hdg (by rw [show iI a &&& iI b = iI (andI a b) from (Int32.ofInt_toInt _).symm]; exact k)
end QA
def bo (w o : Int) : Int := if w < 4 then o else w - 4
theorem bo_b {w o : Int} (h : 0 ≤ w ∧ w ≤ 6) (ho : 0 ≤ o ∧ o ≤ 2) : 0 ≤ bo w o ∧ bo w o ≤ 2 := by
  unfold bo
  split <;> omega
def kS_freshBook (σ : CS) (b o : Int) : CS := sBk (sNw (inc0 σ) o R0) b (zn σ)
def kR_freshBook (σ : CS) (b o : Int) : Int := (zst σ (zbk σ b)).1
def nS_buildBook (σ : CS) (b a w : Int) : RS := addS (bo w (zod σ (zbk σ a))) (zod σ (zbk σ a)) (zst σ (zbk σ a)).2.2 0 99 R0
def kS_buildBook (σ : CS) (b a w : Int) : CS := sBk (sNw (inc0 σ) (bo w (zod σ (zbk σ a))) (nS_buildBook σ b a w)) b (zn σ)
def kR_buildBook (σ : CS) (b a w : Int) : Int := (nS_buildBook σ b a w).1
def nS_splitBook (σ : CS) (b k : Int) : RS := addS (zod σ (zbk σ b)) (zod σ (zbk σ b)) (zst σ (zbk σ b)).2.2 (turn (zod σ (zbk σ b)) k) 99 R0
def kS_splitBook (σ : CS) (b k c : Int) : CS := if b = c then inc2 σ else sSt (sBk (sNw (wrt σ (zbk σ b)) (zod σ (zbk σ b)) (nS_splitBook σ b k)) c (zn σ)) (zbk σ b) (clrS (turn (zod σ (zbk σ b)) k) 99 (zst σ (zbk σ b)))
def kR_splitBook (σ : CS) (b k c : Int) : Int := if b = c then -9 else (zst σ (zbk σ b)).1 - (clrS (turn (zod σ (zbk σ b)) k) 99 (zst σ (zbk σ b))).1
def kS_fill (σ : CS) (b f s n w : Int) : CS := if w = -1 then sSt (wrt σ (zbk σ b)) (zbk σ b) (rstS (zod σ (zbk σ b)) f s n (zst σ (zbk σ b))) else sSt (wrt σ (zbk σ b)) (zbk σ b) (stpS (zod σ (zbk σ b)) f s n w (zst σ (zbk σ b)))
def kR_fill (σ : CS) (b f s n w : Int) : Int := if w = -1 then (zst σ (zbk σ b)).1 - (rstS (zod σ (zbk σ b)) f s n (zst σ (zbk σ b))).1 else (stpS (zod σ (zbk σ b)) f s n w (zst σ (zbk σ b))).1 - (zst σ (zbk σ b)).1
def kS_pour (σ : CS) (b c : Int) : CS := if b = c then inc2 σ else sSt (wrt σ (zbk σ b)) (zbk σ b) (addS (zod σ (zbk σ b)) (zod σ (zbk σ c)) (zst σ (zbk σ c)).2.2 0 99 (zst σ (zbk σ b)))
def kR_pour (σ : CS) (b c : Int) : Int := if b = c then -9 else (addS (zod σ (zbk σ b)) (zod σ (zbk σ c)) (zst σ (zbk σ c)).2.2 0 99 (zst σ (zbk σ b))).1 - (zst σ (zbk σ b)).1
def kS_keep (σ : CS) (b c w : Int) : CS := if b = c then inc2 σ else sSt (wrt σ (zbk σ b)) (zbk σ b) (retS (zod σ (zbk σ b)) (zod σ (zbk σ c)) w (zst σ (zbk σ c)).2.2 (zst σ (zbk σ b)))
def kR_keep (σ : CS) (b c w : Int) : Int := if b = c then -9 else (zst σ (zbk σ b)).1 - (retS (zod σ (zbk σ b)) (zod σ (zbk σ c)) w (zst σ (zbk σ c)).2.2 (zst σ (zbk σ b))).1
def kS_put (σ : CS) (b k w t : Int) : CS := if t = 0 ∨ (t = 1 ∧ wAt (zst σ (zbk σ b)).2.2 (turn (zod σ (zbk σ b)) k) = -1) ∨ (t = 2 ∧ wAt (zst σ (zbk σ b)).2.2 (turn (zod σ (zbk σ b)) k) ≠ -1) then sSt (wrt σ (zbk σ b)) (zbk σ b) (comeS (zst σ (zbk σ b)) (turn (zod σ (zbk σ b)) k) w) else wrt σ (zbk σ b)
def kR_put (σ : CS) (b k w t : Int) : Int := wAt (zst σ (zbk σ b)).2.2 (turn (zod σ (zbk σ b)) k)
def kS_exchange (σ : CS) (b k o w : Int) : CS := if wAt (zst σ (zbk σ b)).2.2 (turn (zod σ (zbk σ b)) k) ≠ o then wrt σ (zbk σ b) else if w = -1 then sSt (wrt σ (zbk σ b)) (zbk σ b) (goS (zst σ (zbk σ b)) (turn (zod σ (zbk σ b)) k)) else sSt (wrt σ (zbk σ b)) (zbk σ b) (comeS (zst σ (zbk σ b)) (turn (zod σ (zbk σ b)) k) w)
def kR_exchange (σ : CS) (b k o w : Int) : Int := if wAt (zst σ (zbk σ b)).2.2 (turn (zod σ (zbk σ b)) k) ≠ o then 0 else 1
def kS_take (σ : CS) (b k : Int) : CS := sSt (wrt σ (zbk σ b)) (zbk σ b) (goS (zst σ (zbk σ b)) (turn (zod σ (zbk σ b)) k))
def kR_take (σ : CS) (b k : Int) : Int := wAt (zst σ (zbk σ b)).2.2 (turn (zod σ (zbk σ b)) k)
def kS_drop (σ : CS) (b t : Int) : CS := sSt (wrt σ (zbk σ b)) (zbk σ b) (drpS 0 99 t (zst σ (zbk σ b)))
def kR_drop (σ : CS) (b t : Int) : Int := drpR (zod σ (zbk σ b)) 0 99 t (zst σ (zbk σ b))
def kS_has (σ : CS) (b w n : Int) : CS := σ
def kR_has (σ : CS) (b w n : Int) : Int := if w ≠ 0 then isT (zst σ (zbk σ b)).2.2 (turn (zod σ (zbk σ b)) n) else hasW (zst σ (zbk σ b)).2.2 n
def kS_near (σ : CS) (b k t w : Int) : CS := σ
def kR_near (σ : CS) (b k t w : Int) : Int := if w ≠ 0 then pairR (zod σ (zbk σ b)) (zst σ (zbk σ b)).2.2 (nearP (zod σ (zbk σ b)) (zst σ (zbk σ b)).2.2 0 99 k t) else keyR (zod σ (zbk σ b)) (nearP (zod σ (zbk σ b)) (zst σ (zbk σ b)).2.2 0 99 k t)
def kS_end (σ : CS) (b w v : Int) : CS := if v ≠ 0 then σ else kor σ (endP (zst σ (zbk σ b)).2.2 0 99 w)
def kR_end (σ : CS) (b w v : Int) : Int := if v ≠ 0 then pairR (zod σ (zbk σ b)) (zst σ (zbk σ b)).2.2 (endP (zst σ (zbk σ b)).2.2 0 99 w) else korR (zod σ (zbk σ b)) (endP (zst σ (zbk σ b)).2.2 0 99 w)
def kS_keyAt (σ : CS) (b n w : Int) : CS := σ
def kR_keyAt (σ : CS) (b n w : Int) : Int := if w ≠ 0 then keyR (zod σ (zbk σ b)) (rbP (zst σ (zbk σ b)).2.2 ((zst σ (zbk σ b)).1 - 1 - n) 0) else keyR (zod σ (zbk σ b)) (rbP (zst σ (zbk σ b)).2.2 n 0)
def kS_tellBook (σ : CS) (b t : Int) : CS := σ
def kR_tellBook (σ : CS) (b t : Int) : Int := bfact (zod σ (zbk σ b)) (zst σ (zbk σ b)).1 (zst σ (zbk σ b)).2.2 t
def kS_sameBooks (σ : CS) (b c : Int) : CS := σ
def kR_sameBooks (σ : CS) (b c : Int) : Int := sameR (zod σ (zbk σ b)) (zod σ (zbk σ c)) (zst σ (zbk σ b)).2.2 (zst σ (zbk σ c)).2.2
def oLo (o kind low ends : Int) : Int := if kind = 0 then 0 else if andI ends 1 ≠ 0 then turn o low else turn o low + 1
def oHi (o kind high ends : Int) : Int := if kind = 1 then 99 else if andI ends 2 ≠ 0 then turn o high else turn o high - 1
def kS_openView (σ : CS) (v b kind low high ends : Int) : CS := if kind = 2 ∧ turn (zod σ (zbk σ b)) high < turn (zod σ (zbk σ b)) low then inc2 σ else sVw σ v (zbk σ b) (oLo (zod σ (zbk σ b)) kind low ends) (oHi (zod σ (zbk σ b)) kind high ends)
def kR_openView (σ : CS) (v b kind low high ends : Int) : Int := if kind = 2 ∧ turn (zod σ (zbk σ b)) high < turn (zod σ (zbk σ b)) low then -9 else cntP (zst σ (zbk σ b)).2.2 (oLo (zod σ (zbk σ b)) kind low ends) (oHi (zod σ (zbk σ b)) kind high ends)
def nLo (σ : CS) (v kind low : Int) : Int := if kind = 0 then zvl σ v else turn (zod σ (zvw σ v)) low
def nHi (σ : CS) (v kind high : Int) : Int := if kind = 1 then zvh σ v else turn (zod σ (zvw σ v)) high
/-- 1, if narrowView refuses -/
def nRef (σ : CS) (v kind low high : Int) : Int := if kind ≠ 0 ∧ ¬ (zvl σ v ≤ turn (zod σ (zvw σ v)) low ∧ turn (zod σ (zvw σ v)) low ≤ zvh σ v) then 1 else if kind ≠ 1 ∧ ¬ (zvl σ v ≤ turn (zod σ (zvw σ v)) high ∧ turn (zod σ (zvw σ v)) high ≤ zvh σ v) then 1 else if kind = 2 ∧ turn (zod σ (zvw σ v)) high < turn (zod σ (zvw σ v)) low then 1 else 0
def kS_narrowView (σ : CS) (v kind low high : Int) : CS := if nRef σ v kind low high = 1 then inc2 σ else sVw σ v (zvw σ v) (nLo σ v kind low) (nHi σ v kind high)
def kR_narrowView (σ : CS) (v kind low high : Int) : Int := if nRef σ v kind low high = 1 then -9 else cntP (zst σ (zvw σ v)).2.2 (nLo σ v kind low) (nHi σ v kind high)
def nS_buildFromView (σ : CS) (v : Int) : RS := addS (zod σ (zvw σ v)) (zod σ (zvw σ v)) (zst σ (zvw σ v)).2.2 (zvl σ v) (zvh σ v) R0
def kS_buildFromView (σ : CS) (b v w : Int) : CS := sBk (sNw (inc0 σ) (zod σ (zvw σ v)) (nS_buildFromView σ v)) b (zn σ)
def kR_buildFromView (σ : CS) (b v w : Int) : Int := (nS_buildFromView σ v).1
def kS_viewPut (σ : CS) (v k w : Int) : CS := if zvl σ v ≤ turn (zod σ (zvw σ v)) k ∧ turn (zod σ (zvw σ v)) k ≤ zvh σ v then sSt (wrt σ (zvw σ v)) (zvw σ v) (comeS (zst σ (zvw σ v)) (turn (zod σ (zvw σ v)) k) w) else inc2 σ
def kR_viewPut (σ : CS) (v k w : Int) : Int := if zvl σ v ≤ turn (zod σ (zvw σ v)) k ∧ turn (zod σ (zvw σ v)) k ≤ zvh σ v then wAt (zst σ (zvw σ v)).2.2 (turn (zod σ (zvw σ v)) k) else -9
def kS_viewTake (σ : CS) (v k : Int) : CS := if zvl σ v ≤ turn (zod σ (zvw σ v)) k ∧ turn (zod σ (zvw σ v)) k ≤ zvh σ v then sSt (wrt σ (zvw σ v)) (zvw σ v) (goS (zst σ (zvw σ v)) (turn (zod σ (zvw σ v)) k)) else wrt σ (zvw σ v)
def kR_viewTake (σ : CS) (v k : Int) : Int := if zvl σ v ≤ turn (zod σ (zvw σ v)) k ∧ turn (zod σ (zvw σ v)) k ≤ zvh σ v then wAt (zst σ (zvw σ v)).2.2 (turn (zod σ (zvw σ v)) k) else -1
def kS_viewDrop (σ : CS) (v t : Int) : CS := sSt (wrt σ (zvw σ v)) (zvw σ v) (drpS (zvl σ v) (zvh σ v) t (zst σ (zvw σ v)))
def kR_viewDrop (σ : CS) (v t : Int) : Int := drpR (zod σ (zvw σ v)) (zvl σ v) (zvh σ v) t (zst σ (zvw σ v))
def kS_viewNear (σ : CS) (v k t : Int) : CS := σ
def kR_viewNear (σ : CS) (v k t : Int) : Int := pairR (zod σ (zvw σ v)) (zst σ (zvw σ v)).2.2 (nearP (zod σ (zvw σ v)) (zst σ (zvw σ v)).2.2 (zvl σ v) (zvh σ v) k t)
def kS_viewTell (σ : CS) (v t : Int) : CS := if t = 0 ∨ t = 3 then σ else kor σ (endP (zst σ (zvw σ v)).2.2 (zvl σ v) (zvh σ v) (if t = 2 then 1 else 0))
def kR_viewTell (σ : CS) (v t : Int) : Int := if t = 0 then cntP (zst σ (zvw σ v)).2.2 (zvl σ v) (zvh σ v) else if t = 3 then worP (zst σ (zvw σ v)).2.2 (zvl σ v) (zvh σ v) else korR (zod σ (zvw σ v)) (endP (zst σ (zvw σ v)).2.2 (zvl σ v) (zvh σ v) (if t = 2 then 1 else 0))
def kS_startWalk (σ : CS) (b : Int) : CS := sWk σ (some (zbk σ b)) (zst σ (zbk σ b)).2.1 (-1) 0
def kR_startWalk (σ : CS) (b : Int) : Int := (zst σ (zbk σ b)).1
def kS_freshShelf (σ : CS) (b o : Int) : CS := sSh (sNw (inc1 σ) o R0) b (zn σ)
def kR_freshShelf (σ : CS) (b o : Int) : Int := (zst σ (zsh σ b)).1
def nS_buildShelf (σ : CS) (a w : Int) : RS := addS (bo w (zod σ (zsh σ a))) (zod σ (zsh σ a)) (zst σ (zsh σ a)).2.2 0 99 R0
def kS_buildShelf (σ : CS) (b a w : Int) : CS := sSh (sNw (inc1 σ) (bo w (zod σ (zsh σ a))) (nS_buildShelf σ a w)) b (zn σ)
def kR_buildShelf (σ : CS) (b a w : Int) : Int := (nS_buildShelf σ a w).1
def kS_keysOf (σ : CS) (b a : Int) : CS := sSh (sNw (inc1 σ) 0 (ckS (zod σ (zbk σ a)) (zst σ (zbk σ a)).2.2)) b (zn σ)
def kR_keysOf (σ : CS) (b a : Int) : Int := (ckS (zod σ (zbk σ a)) (zst σ (zbk σ a)).2.2).1
def kS_lay (σ : CS) (b f s n w : Int) : CS := if w ≠ 0 then sSt (inc1 σ) (zsh σ b) (kstS (zod σ (zsh σ b)) f s n (zst σ (zsh σ b))) else sSt (inc1 σ) (zsh σ b) (rstS (zod σ (zsh σ b)) f s n (zst σ (zsh σ b)))
def kR_lay (σ : CS) (b f s n w : Int) : Int := if w ≠ 0 then (kstS (zod σ (zsh σ b)) f s n (zst σ (zsh σ b))).1 - (zst σ (zsh σ b)).1 else (zst σ (zsh σ b)).1 - (rstS (zod σ (zsh σ b)) f s n (zst σ (zsh σ b))).1
def kS_shelfBoth (σ : CS) (b c t : Int) : CS := if b = c then inc2 σ else if t = 0 then sSt (inc1 σ) (zsh σ b) (addS (zod σ (zsh σ b)) (zod σ (zsh σ c)) (zst σ (zsh σ c)).2.2 0 99 (zst σ (zsh σ b))) else sSt (inc1 σ) (zsh σ b) (retS (zod σ (zsh σ b)) (zod σ (zsh σ c)) (if t = 1 then 1 else 0) (zst σ (zsh σ c)).2.2 (zst σ (zsh σ b)))
def kR_shelfBoth (σ : CS) (b c t : Int) : Int := if b = c then -9 else if t = 0 then (addS (zod σ (zsh σ b)) (zod σ (zsh σ c)) (zst σ (zsh σ c)).2.2 0 99 (zst σ (zsh σ b))).1 - (zst σ (zsh σ b)).1 else (zst σ (zsh σ b)).1 - (retS (zod σ (zsh σ b)) (zod σ (zsh σ c)) (if t = 1 then 1 else 0) (zst σ (zsh σ c)).2.2 (zst σ (zsh σ b))).1
def kS_shelfDrop (σ : CS) (b t : Int) : CS := if t = 2 then sSt (inc1 σ) (zsh σ b) (clrS 0 99 (zst σ (zsh σ b))) else sSt (inc1 σ) (zsh σ b) (goS (zst σ (zsh σ b)) (endP (zst σ (zsh σ b)).2.2 0 99 (if t = 1 then 1 else 0)))
def kR_shelfDrop (σ : CS) (b t : Int) : Int := if t = 2 then (zst σ (zsh σ b)).1 - (clrS 0 99 (zst σ (zsh σ b))).1 else keyR (zod σ (zsh σ b)) (endP (zst σ (zsh σ b)).2.2 0 99 (if t = 1 then 1 else 0))
def nS_shelfCut (σ : CS) (b low high : Int) : RS := addS (zod σ (zsh σ b)) (zod σ (zsh σ b)) (zst σ (zsh σ b)).2.2 (turn (zod σ (zsh σ b)) low) (turn (zod σ (zsh σ b)) high - 1) R0
def kS_shelfCut (σ : CS) (b low high t c : Int) : CS := if turn (zod σ (zsh σ b)) high < turn (zod σ (zsh σ b)) low then inc2 σ else if t = 0 then σ else if t = 1 then sSt (inc1 σ) (zsh σ b) (clrS (turn (zod σ (zsh σ b)) low) (turn (zod σ (zsh σ b)) high - 1) (zst σ (zsh σ b))) else if t = 4 then sSh (sNw (inc1 σ) (zod σ (zsh σ b)) (nS_shelfCut σ b low high)) c (zn σ) else sSt (inc1 σ) (zsh σ b) (goS (zst σ (zsh σ b)) (endP (zst σ (zsh σ b)).2.2 (turn (zod σ (zsh σ b)) low) (turn (zod σ (zsh σ b)) high - 1) (if t = 3 then 1 else 0)))
def kR_shelfCut (σ : CS) (b low high t c : Int) : Int := if turn (zod σ (zsh σ b)) high < turn (zod σ (zsh σ b)) low then -9 else if t = 0 then cntP (zst σ (zsh σ b)).2.2 (turn (zod σ (zsh σ b)) low) (turn (zod σ (zsh σ b)) high - 1) else if t = 1 then (zst σ (zsh σ b)).1 - (clrS (turn (zod σ (zsh σ b)) low) (turn (zod σ (zsh σ b)) high - 1) (zst σ (zsh σ b))).1 else if t = 4 then (nS_shelfCut σ b low high).1 else keyR (zod σ (zsh σ b)) (endP (zst σ (zsh σ b)).2.2 (turn (zod σ (zsh σ b)) low) (turn (zod σ (zsh σ b)) high - 1) (if t = 3 then 1 else 0))
def kS_shelfNear (σ : CS) (b k t : Int) : CS := σ
def kR_shelfNear (σ : CS) (b k t : Int) : Int := keyR (zod σ (zsh σ b)) (nearP (zod σ (zsh σ b)) (zst σ (zsh σ b)).2.2 0 99 k t)
def kS_shelfTell (σ : CS) (b t : Int) : CS := if t ≤ 2 then σ else kor σ (endP (zst σ (zsh σ b)).2.2 0 99 (if t = 4 then 1 else 0))
def kR_shelfTell (σ : CS) (b t : Int) : Int := if t ≤ 2 then sfact (zod σ (zsh σ b)) (zst σ (zsh σ b)).1 (zst σ (zsh σ b)).2.2 t else korR (zod σ (zsh σ b)) (endP (zst σ (zsh σ b)).2.2 0 99 (if t = 4 then 1 else 0))
def kS_sameShelves (σ : CS) (b c t : Int) : CS := σ
def kR_sameShelves (σ : CS) (b c t : Int) : Int := if t = 0 then sameR (zod σ (zsh σ b)) (zod σ (zsh σ c)) (zst σ (zsh σ b)).2.2 (zst σ (zsh σ c)).2.2 else hasK (zod σ (zsh σ b)) (zod σ (zsh σ c)) (zst σ (zsh σ b)).2.2 (zst σ (zsh σ c)).2.2
def kS_house (σ : CS) (t : Int) : CS := σ
def kR_house (σ : CS) (t : Int) : Int := hfact σ t
def kS_knock (σ : CS) : CS := inc3 σ
def kR_knock (σ : CS) : Int := z3 σ + 1
def goI (σ : CS) (j : Nat) : Int := if (zst σ j).2.1 = zwc σ then 1 else 0
theorem goI_b (σ : CS) (j : Nat) : 0 ≤ goI σ j ∧ goI σ j ≤ 1 := by
  unfold goI
  split <;> omega
def kS_walkNext0 (σ : CS) : CS := inc2 σ
def kR_walkNext0 (σ : CS) : Int := -9
def kS_walkNext1 (σ : CS) (j : Nat) : CS := if goI σ j ≠ 0 then tnS σ j else inc2 σ
def kR_walkNext1 (σ : CS) (j : Nat) : Int := if goI σ j ≠ 0 then tnR σ j else -9
def kS_walkSet0 (σ : CS) (w : Int) : CS := inc2 σ
def kR_walkSet0 (σ : CS) (w : Int) : Int := -9
def kS_walkSet1 (σ : CS) (j : Nat) (w : Int) : CS := if zwt σ ≠ 0 then sSt (inc0 σ) j (comeS (zst σ j) (zwl σ) w) else inc2 σ
def kR_walkSet1 (σ : CS) (j : Nat) (w : Int) : Int := if zwt σ ≠ 0 then wAt (zst σ j).2.2 (zwl σ) else -9
def kS_walkTake0 (σ : CS) : CS := inc2 σ
def kR_walkTake0 (σ : CS) : Int := -9
def kS_walkTake1 (σ : CS) (j : Nat) : CS := if zwt σ ≠ 0 then rtS (inc0 σ) j else inc2 σ
def kR_walkTake1 (σ : CS) (j : Nat) : Int := if zwt σ ≠ 0 then pairR (zod σ j) (zst σ j).2.2 (zwl σ) else -9
