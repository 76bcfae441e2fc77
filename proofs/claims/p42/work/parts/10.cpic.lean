abbrev CS : Type := Nat × (Nat → Int) × (Nat → RS) × (Int → Nat) × (Int → Nat) × (Int → Nat) × (Int → Int) × (Int → Int) × Option Nat × Int × Int × Int × Int × Int × Int × Int
def zn (σ : CS) : Nat := σ.1
def zod (σ : CS) : Nat → Int := σ.2.1
def zst (σ : CS) : Nat → RS := σ.2.2.1
def zbk (σ : CS) : Int → Nat := σ.2.2.2.1
def zsh (σ : CS) : Int → Nat := σ.2.2.2.2.1
def zvw (σ : CS) : Int → Nat := σ.2.2.2.2.2.1
def zvl (σ : CS) : Int → Int := σ.2.2.2.2.2.2.1
def zvh (σ : CS) : Int → Int := σ.2.2.2.2.2.2.2.1
def zwk (σ : CS) : Option Nat := σ.2.2.2.2.2.2.2.2.1
def zwc (σ : CS) : Int := σ.2.2.2.2.2.2.2.2.2.1
def zwl (σ : CS) : Int := σ.2.2.2.2.2.2.2.2.2.2.1
def zwt (σ : CS) : Int := σ.2.2.2.2.2.2.2.2.2.2.2.1
def z0 (σ : CS) : Int := σ.2.2.2.2.2.2.2.2.2.2.2.2.1
def z1 (σ : CS) : Int := σ.2.2.2.2.2.2.2.2.2.2.2.2.2.1
def z2 (σ : CS) : Int := σ.2.2.2.2.2.2.2.2.2.2.2.2.2.2.1
def z3 (σ : CS) : Int := σ.2.2.2.2.2.2.2.2.2.2.2.2.2.2.2
abbrev CG : Type := Nat × Nat × Nat × Nat × Nat × (Int → Nat) × (Nat → Nat) × (Nat → Nat)
def gbg (G : CG) : Nat := G.1
def gab (G : CG) : Nat := G.2.1
def gas (G : CG) : Nat := G.2.2.1
def gav (G : CG) : Nat := G.2.2.2.1
def gkk (G : CG) : Nat := G.2.2.2.2.1
def gva (G : CG) : Int → Nat := G.2.2.2.2.2.1
def grh (G : CG) : Nat → Nat := G.2.2.2.2.2.2.1
def grw (G : CG) : Nat → Nat := G.2.2.2.2.2.2.2
def sSt (σ : CS) (i : Nat) (S : RS) : CS := (zn σ, zod σ, va_up (zst σ) i S, zbk σ, zsh σ, zvw σ, zvl σ, zvh σ, zwk σ, zwc σ, zwl σ, zwt σ, z0 σ, z1 σ, z2 σ, z3 σ)
def sBk (σ : CS) (b : Int) (i : Nat) : CS := (zn σ, zod σ, zst σ, iu (zbk σ) b i, zsh σ, zvw σ, zvl σ, zvh σ, zwk σ, zwc σ, zwl σ, zwt σ, z0 σ, z1 σ, z2 σ, z3 σ)
def sSh (σ : CS) (b : Int) (i : Nat) : CS := (zn σ, zod σ, zst σ, zbk σ, iu (zsh σ) b i, zvw σ, zvl σ, zvh σ, zwk σ, zwc σ, zwl σ, zwt σ, z0 σ, z1 σ, z2 σ, z3 σ)
def sVw (σ : CS) (v : Int) (i : Nat) (lo hi : Int) : CS := (zn σ, zod σ, zst σ, zbk σ, zsh σ, iu (zvw σ) v i, iu (zvl σ) v lo, iu (zvh σ) v hi, zwk σ, zwc σ, zwl σ, zwt σ, z0 σ, z1 σ, z2 σ, z3 σ)
def sWk (σ : CS) (w : Option Nat) (c l t : Int) : CS := (zn σ, zod σ, zst σ, zbk σ, zsh σ, zvw σ, zvl σ, zvh σ, w, c, l, t, z0 σ, z1 σ, z2 σ, z3 σ)
def sCt (σ : CS) (a b c d : Int) : CS := (zn σ, zod σ, zst σ, zbk σ, zsh σ, zvw σ, zvl σ, zvh σ, zwk σ, zwc σ, zwl σ, zwt σ, a, b, c, d)
def sNw (σ : CS) (o : Int) (S : RS) : CS := (zn σ + 1, va_up (zod σ) (zn σ) o, va_up (zst σ) (zn σ) S, zbk σ, zsh σ, zvw σ, zvl σ, zvh σ, zwk σ, zwc σ, zwl σ, zwt σ, z0 σ, z1 σ, z2 σ, z3 σ)
def fgt (σ : CS) (i : Nat) : CS := (zn σ, zod σ, zst σ, zbk σ, zsh σ, zvw σ, zvl σ, zvh σ, zwk σ, zwc σ, zwl σ, (if zwk σ = some i then 0 else zwt σ), z0 σ, z1 σ, z2 σ, z3 σ)
def wrt (σ : CS) (i : Nat) : CS := (zn σ, zod σ, zst σ, zbk σ, zsh σ, zvw σ, zvl σ, zvh σ, zwk σ, zwc σ, zwl σ, (if zwk σ = some i then 0 else zwt σ), z0 σ + 1, z1 σ, z2 σ, z3 σ)
def inc0 (σ : CS)  : CS := (zn σ, zod σ, zst σ, zbk σ, zsh σ, zvw σ, zvl σ, zvh σ, zwk σ, zwc σ, zwl σ, zwt σ, z0 σ + 1, z1 σ, z2 σ, z3 σ)
def inc1 (σ : CS)  : CS := (zn σ, zod σ, zst σ, zbk σ, zsh σ, zvw σ, zvl σ, zvh σ, zwk σ, zwc σ, zwl σ, zwt σ, z0 σ, z1 σ + 1, z2 σ, z3 σ)
def inc2 (σ : CS)  : CS := (zn σ, zod σ, zst σ, zbk σ, zsh σ, zvw σ, zvl σ, zvh σ, zwk σ, zwc σ, zwl σ, zwt σ, z0 σ, z1 σ, z2 σ + 1, z3 σ)
def inc3 (σ : CS)  : CS := (zn σ, zod σ, zst σ, zbk σ, zsh σ, zvw σ, zvl σ, zvh σ, zwk σ, zwc σ, zwl σ, zwt σ, z0 σ, z1 σ, z2 σ, z3 σ + 1)
def tnx (σ : CS) (j : Nat) : Int := firP (zst σ j).2.2 (zwl σ + 1) 99
def tnS (σ : CS) (j : Nat) : CS := if tnx σ j = -1 then σ else sWk σ (some j) (zwc σ) (tnx σ j) 1
def tnR (σ : CS) (j : Nat) : Int := if tnx σ j = -1 then -1 else pairR (zod σ j) (zst σ j).2.2 (tnx σ j)
def rtS (σ : CS) (j : Nat) : CS := sWk (sSt σ j (goS (zst σ j) (zwl σ))) (some j) (goS (zst σ j) (zwl σ)).2.1 (zwl σ) 0
def gNw (G : CG) (n r q : Nat) : CG := (gbg G, gab G, gas G, gav G, gkk G, gva G, va_up (grh G) n r, va_up (grw G) n q)
abbrev bgE (G : CG) (σ : CS) : va_E := .inr (5, [.ref (gab G), .ref (gas G), .ref (gav G), .ref (gkk G), .int (iI (z0 σ)), .int (iI (z1 σ)), .int (iI (z2 σ)), .int (iI (z3 σ))])
abbrev vwE (r : Nat) (lo hi : Int) : va_E := .inr (3, [.ref r, .int (iI lo), .int (iI hi)])
abbrev wkE (r : Option Nat) (c l t : Int) : va_E := .inr (4, [va_rf r, .int (iI c), .int (iI l), .int (iI t)])
/-- the objects of the class, at the addresses G, hold the state σ -/
def CP (y : Nat → ClassId) (L : List Nat) (F : Nat → va_E) (O : Nat → Prop) (G : CG) (σ : CS) : Prop :=
  (gbg G ∈ L ∧ F (gbg G) = bgE G σ) ∧
  (gab G ∈ L ∧ F (gab G) = arrQ (y 1) 4 (fun i => some (grh G (zbk σ i)))) ∧
  (gas G ∈ L ∧ F (gas G) = arrQ (y 1) 3 (fun i => some (grh G (zsh σ i)))) ∧
  (gav G ∈ L ∧ F (gav G) = arrQ (y 2) 2 (fun i => some (gva G i))) ∧
  (∀ i, 0 ≤ i → i < 2 → gva G i ∈ L ∧ F (gva G i) = vwE (grh G (zvw σ i)) (zvl σ i) (zvh σ i)) ∧
  (gkk G ∈ L ∧ F (gkk G) = wkE ((zwk σ).map (grh G)) (zwc σ) (zwl σ) (zwt σ)) ∧
  (∀ i, i < zn σ → RwS y L F (grh G i) (grw G i) (zod σ i) (zst σ i)) ∧
  (gva G 0 ≠ gva G 1 ∧ ∀ i j, i < zn σ → j < zn σ → (grh G i = grh G j ∨ grw G i = grw G j) → i = j) ∧
  (O (gbg G) ∧ O (gab G) ∧ O (gas G) ∧ O (gav G) ∧ O (gkk G) ∧ (∀ i, 0 ≤ i → i < 2 → O (gva G i)) ∧ ∀ i, i < zn σ → O (grh G i) ∧ O (grw G i))
theorem ne_tag {F : Nat → va_E} {a b i j : Nat} {fs gs : List Value} (h : F a = .inr (i, fs)) (h2 : F b = .inr (j, gs)) (hij : i ≠ j) : a ≠ b := fun e => by
  rw [e, h2] at h
  cases h
  exact hij rfl
theorem ne_oa {F : Nat → va_E} {a b i : Nat} {fs : List Value} {x : ClassId × vp_A} (h : F a = .inr (i, fs)) (h2 : F b = .inl x) : a ≠ b := fun e => by
  rw [e, h2] at h
  cases h
theorem ne_aa {F : Nat → va_E} {a b n k : Nat} {x z : ClassId} {g g2 : Int → Option Nat} (h : F a = arrQ x n g) (h2 : F b = arrQ z k g2) (hij : n ≠ k) : a ≠ b := fun e => by
  rw [e, h2] at h
  exact hij (congrArg (fun t : ClassId × vp_A => t.2.1) (Sum.inl.inj h)).symm
theorem ne_ai {F : Nat → va_E} {a b n k : Nat} {x z : ClassId} {g : Int → Option Nat} {f : Int → Int} (h : F a = arrQ x n g) (h2 : F b = arrI z k f) : a ≠ b := fun e => by
  rw [e, h2] at h
  cases h
theorem gva_ne {y : Nat → ClassId} {L : List Nat} {F : Nat → va_E} {O : Nat → Prop} {G : CG} {σ : CS} (h : CP y L F O G σ) {i j : Int} (hi : 0 ≤ i ∧ i < 2) (hj : 0 ≤ j ∧ j < 2) (n : i ≠ j) : gva G i ≠ gva G j := by
  have q := h.2.2.2.2.2.2.2.1.1
  rcases (show (i = 0 ∧ j = 1) ∨ (i = 1 ∧ j = 0) by omega) with ⟨rfl, rfl⟩ | ⟨rfl, rfl⟩
  · exact q
  · exact fun e => q e.symm
theorem map_iu {g : Nat → Nat} {b : Int → Nat} {k : Int} {i : Nat} : iu (fun j => some (g (b j))) k (some (g i)) = fun j => some (g (iu b k i j)) := by
  funext j
  unfold iu
  split <;> rfl
section CPL
variable {y : Nat → ClassId} {L : List Nat} {F F1 : Nat → va_E} {O : Nat → Prop} {G : CG} {σ : CS}
/-- the counters -/
theorem CP_ct (h : CP y L F O G σ) {a b c d : Int} (hx : F1 (gbg G) = bgE G (sCt σ a b c d)) (fr : ∀ q, q ≠ gbg G → F1 q = F q) : CP y L F1 O G (sCt σ a b c d) := by
  obtain ⟨h1, h2, h3, h4, h5, h6, h7, h8⟩ := h
  refine ⟨⟨h1.1, hx⟩, ⟨h2.1, (fr _ (fun e => ne_oa h1.2 h2.2 e.symm)).trans h2.2⟩, ⟨h3.1, (fr _ (fun e => ne_oa h1.2 h3.2 e.symm)).trans h3.2⟩, ⟨h4.1, (fr _ (fun e => ne_oa h1.2 h4.2 e.symm)).trans h4.2⟩, fun i hi hj => ⟨(h5 i hi hj).1, (fr _ (ne_tag (h5 i hi hj).2 h1.2 (by decide))).trans (h5 i hi hj).2⟩, ⟨h6.1, (fr _ (ne_tag h6.2 h1.2 (by decide))).trans h6.2⟩, fun i hi => ?_, h8⟩
  have r := h7 i hi
  exact ⟨r.1, (fr _ (ne_tag r.2.1 h1.2 (by decide))).trans r.2.1, r.2.2.1, (fr _ (fun e => ne_oa h1.2 r.2.2.2.1 e.symm)).trans r.2.2.2.1, r.2.2.2.2⟩
/-- a book's place -/
theorem CP_bk (h : CP y L F O G σ) {b : Int} {i : Nat} (hx : F1 (gab G) = arrQ (y 1) 4 (iu (fun j => some (grh G (zbk σ j))) b (some (grh G i)))) (fr : ∀ q, q ≠ gab G → F1 q = F q) : CP y L F1 O G (sBk σ b i) := by
  obtain ⟨h1, h2, h3, h4, h5, h6, h7, h8⟩ := h
  rw [map_iu] at hx
  refine ⟨⟨h1.1, (fr _ (ne_oa h1.2 h2.2)).trans h1.2⟩, ⟨h2.1, hx⟩, ⟨h3.1, (fr _ (ne_aa h3.2 h2.2 (by decide))).trans h3.2⟩, ⟨h4.1, (fr _ (ne_aa h4.2 h2.2 (by decide))).trans h4.2⟩, fun i hi hj => ⟨(h5 i hi hj).1, (fr _ (ne_oa (h5 i hi hj).2 h2.2)).trans (h5 i hi hj).2⟩, ⟨h6.1, (fr _ (ne_oa h6.2 h2.2)).trans h6.2⟩, fun i hi => ?_, h8⟩
  have r := h7 i hi
  exact ⟨r.1, (fr _ (ne_oa r.2.1 h2.2)).trans r.2.1, r.2.2.1, (fr _ (fun e => ne_ai h2.2 r.2.2.2.1 e.symm)).trans r.2.2.2.1, r.2.2.2.2⟩
/-- a shelf's place -/
theorem CP_sh (h : CP y L F O G σ) {b : Int} {i : Nat} (hx : F1 (gas G) = arrQ (y 1) 3 (iu (fun j => some (grh G (zsh σ j))) b (some (grh G i)))) (fr : ∀ q, q ≠ gas G → F1 q = F q) : CP y L F1 O G (sSh σ b i) := by
  obtain ⟨h1, h2, h3, h4, h5, h6, h7, h8⟩ := h
  rw [map_iu] at hx
  refine ⟨⟨h1.1, (fr _ (ne_oa h1.2 h3.2)).trans h1.2⟩, ⟨h2.1, (fr _ (ne_aa h2.2 h3.2 (by decide))).trans h2.2⟩, ⟨h3.1, hx⟩, ⟨h4.1, (fr _ (ne_aa h4.2 h3.2 (by decide))).trans h4.2⟩, fun i hi hj => ⟨(h5 i hi hj).1, (fr _ (ne_oa (h5 i hi hj).2 h3.2)).trans (h5 i hi hj).2⟩, ⟨h6.1, (fr _ (ne_oa h6.2 h3.2)).trans h6.2⟩, fun i hi => ?_, h8⟩
  have r := h7 i hi
  exact ⟨r.1, (fr _ (ne_oa r.2.1 h3.2)).trans r.2.1, r.2.2.1, (fr _ (fun e => ne_ai h3.2 r.2.2.2.1 e.symm)).trans r.2.2.2.1, r.2.2.2.2⟩
/-- a view -/
theorem CP_vw (h : CP y L F O G σ) {v : Int} {i : Nat} {lo hi : Int} (hv : 0 ≤ v ∧ v < 2) (hx : F1 (gva G v) = vwE (grh G i) lo hi) (fr : ∀ q, q ≠ gva G v → F1 q = F q) : CP y L F1 O G (sVw σ v i lo hi) := by
  have hh := h
  obtain ⟨h1, h2, h3, h4, h5, h6, h7, h8⟩ := h
  have v5 := h5 v hv.1 hv.2
  refine ⟨⟨h1.1, (fr _ (ne_tag h1.2 v5.2 (by decide))).trans h1.2⟩, ⟨h2.1, (fr _ (fun e => ne_oa v5.2 h2.2 e.symm)).trans h2.2⟩, ⟨h3.1, (fr _ (fun e => ne_oa v5.2 h3.2 e.symm)).trans h3.2⟩, ⟨h4.1, (fr _ (fun e => ne_oa v5.2 h4.2 e.symm)).trans h4.2⟩, fun k hk hj => ⟨(h5 k hk hj).1, ?_⟩, ⟨h6.1, (fr _ (ne_tag h6.2 v5.2 (by decide))).trans h6.2⟩, fun i hi => ?_, h8⟩
  · show F1 (gva G k) = vwE (grh G (iu (zvw σ) v i k)) (iu (zvl σ) v lo k) (iu (zvh σ) v hi k)
    by_cases hkv : k = v
    · subst hkv
      rw [iu_s, iu_s, iu_s]
      exact hx
    · rw [iu_n hkv, iu_n hkv, iu_n hkv]
      exact (fr _ (gva_ne hh ⟨hk, hj⟩ hv hkv)).trans (h5 k hk hj).2
  · have r := h7 i hi
    exact ⟨r.1, (fr _ (ne_tag r.2.1 v5.2 (by decide))).trans r.2.1, r.2.2.1, (fr _ (fun e => ne_oa v5.2 r.2.2.2.1 e.symm)).trans r.2.2.2.1, r.2.2.2.2⟩
/-- the walk -/
theorem CP_wk (h : CP y L F O G σ) {w : Option Nat} {c l t : Int} (hx : F1 (gkk G) = wkE (w.map (grh G)) c l t) (fr : ∀ q, q ≠ gkk G → F1 q = F q) : CP y L F1 O G (sWk σ w c l t) := by
  obtain ⟨h1, h2, h3, h4, h5, h6, h7, h8⟩ := h
  refine ⟨⟨h1.1, (fr _ (ne_tag h1.2 h6.2 (by decide))).trans h1.2⟩, ⟨h2.1, (fr _ (fun e => ne_oa h6.2 h2.2 e.symm)).trans h2.2⟩, ⟨h3.1, (fr _ (fun e => ne_oa h6.2 h3.2 e.symm)).trans h3.2⟩, ⟨h4.1, (fr _ (fun e => ne_oa h6.2 h4.2 e.symm)).trans h4.2⟩, fun i hi hj => ⟨(h5 i hi hj).1, (fr _ (ne_tag (h5 i hi hj).2 h6.2 (by decide))).trans (h5 i hi hj).2⟩, ⟨h6.1, hx⟩, fun i hi => ?_, h8⟩
  have r := h7 i hi
  exact ⟨r.1, (fr _ (ne_tag r.2.1 h6.2 (by decide))).trans r.2.1, r.2.2.1, (fr _ (fun e => ne_oa h6.2 r.2.2.2.1 e.symm)).trans r.2.2.2.1, r.2.2.2.2⟩
/-- a row -/
theorem CP_row (h : CP y L F O G σ) {i : Nat} (hi : i < zn σ) {S : RS} (hR : RwS y L F1 (grh G i) (grw G i) (zod σ i) S) (fr : FrE (grh G i) (grw G i) F F1) : CP y L F1 O G (sSt σ i S) := by
  obtain ⟨h1, h2, h3, h4, h5, h6, h7, h8⟩ := h
  have r0 := h7 i hi
  refine ⟨⟨h1.1, (fr _ (ne_tag h1.2 r0.2.1 (by decide)) (ne_oa h1.2 r0.2.2.2.1)).trans h1.2⟩, ⟨h2.1, (fr _ (fun e => ne_oa r0.2.1 h2.2 e.symm) (ne_ai h2.2 r0.2.2.2.1)).trans h2.2⟩, ⟨h3.1, (fr _ (fun e => ne_oa r0.2.1 h3.2 e.symm) (ne_ai h3.2 r0.2.2.2.1)).trans h3.2⟩, ⟨h4.1, (fr _ (fun e => ne_oa r0.2.1 h4.2 e.symm) (ne_ai h4.2 r0.2.2.2.1)).trans h4.2⟩, fun k hk hj => ⟨(h5 k hk hj).1, (fr _ (ne_tag (h5 k hk hj).2 r0.2.1 (by decide)) (ne_oa (h5 k hk hj).2 r0.2.2.2.1)).trans (h5 k hk hj).2⟩, ⟨h6.1, (fr _ (ne_tag h6.2 r0.2.1 (by decide)) (ne_oa h6.2 r0.2.2.2.1)).trans h6.2⟩, fun k hk => ?_, h8⟩
  show RwS y L F1 (grh G k) (grw G k) (zod σ k) (va_up (zst σ) i S k)
  by_cases hki : k = i
  · subst hki
    rw [va_up_self]
    exact hR
  · rw [va_up_ne _ _ hki]
    exact Rw_fr r0 (h7 k hk) (fun e => hki (h8.1.2 k i hk hi (Or.inl e))) (fun e => hki (h8.1.2 k i hk hi (Or.inr e))) fr
/-- a new row: made, lying nowhere yet -/
theorem CP_new {L1 : List Nat} {r q : Nat} {o : Int} {S : RS} (h : CP y L F O G σ) (hL : L1 = (L ++ [r]) ++ [q]) (hr : r ∉ L) (hq : q ∉ L) (hR : RwS y L1 F1 r q o S) (fr : ∀ a ∈ L, F1 a = F a) (wf : (∀ i, zbk σ i < zn σ) ∧ (∀ i, zsh σ i < zn σ) ∧ (∀ i, zvw σ i < zn σ) ∧ ∀ i, zwk σ = some i → i < zn σ) : CP y L1 F1 (fun a => O a ∨ a ∉ L) (gNw G (zn σ) r q) (sNw σ o S) := by
  obtain ⟨h1, h2, h3, h4, h5, h6, h7, h8, h9⟩ := h
  have sub : ∀ a ∈ L, a ∈ L1 := fun a ha => by rw [hL]; exact List.mem_append_left _ (List.mem_append_left _ ha)
  have e1 : ∀ i, i < zn σ → va_up (grh G) (zn σ) r i = grh G i := fun i hi => va_up_ne _ _ (by omega)
  have e2 : ∀ i, i < zn σ → va_up (grw G) (zn σ) q i = grw G i := fun i hi => va_up_ne _ _ (by omega)
  refine ⟨⟨sub _ h1.1, (fr _ h1.1).trans h1.2⟩, ⟨sub _ h2.1, (fr _ h2.1).trans (h2.2.trans ?_)⟩, ⟨sub _ h3.1, (fr _ h3.1).trans (h3.2.trans ?_)⟩, ⟨sub _ h4.1, (fr _ h4.1).trans h4.2⟩, fun k hk hj => ⟨sub _ (h5 k hk hj).1, (fr _ (h5 k hk hj).1).trans ((h5 k hk hj).2.trans ?_)⟩, ⟨sub _ h6.1, (fr _ h6.1).trans (h6.2.trans ?_)⟩, fun k hk => ?_, ⟨h8.1, fun i j hi hj hij => ?_⟩, ?_⟩
  · show arrQ (y 1) 4 (fun i => some (grh G (zbk σ i))) = arrQ (y 1) 4 (fun i => some (va_up (grh G) (zn σ) r (zbk σ i)))
    congr; funext i; rw [e1 _ (wf.1 i)]
  · show arrQ (y 1) 3 (fun i => some (grh G (zsh σ i))) = arrQ (y 1) 3 (fun i => some (va_up (grh G) (zn σ) r (zsh σ i)))
    congr; funext i; rw [e1 _ (wf.2.1 i)]
  · show vwE (grh G (zvw σ k)) (zvl σ k) (zvh σ k) = vwE (va_up (grh G) (zn σ) r (zvw σ k)) (zvl σ k) (zvh σ k)
    rw [e1 _ (wf.2.2.1 k)]
  · show wkE ((zwk σ).map (grh G)) (zwc σ) (zwl σ) (zwt σ) = wkE ((zwk σ).map (va_up (grh G) (zn σ) r)) (zwc σ) (zwl σ) (zwt σ)
    cases hw : zwk σ with
    | none => rfl
    | some i =>
      show wkE (some (grh G i)) _ _ _ = wkE (some (va_up (grh G) (zn σ) r i)) _ _ _
      rw [e1 _ (wf.2.2.2 i hw)]
  · show RwS y L1 F1 (va_up (grh G) (zn σ) r k) (va_up (grw G) (zn σ) q k) (va_up (zod σ) (zn σ) o k) (va_up (zst σ) (zn σ) S k)
    by_cases hkn : k = zn σ
    · subst hkn
      rw [va_up_self, va_up_self, va_up_self, va_up_self]
      exact hR
    · have hk2 : k < zn σ := by
        have : k < zn σ + 1 := hk
        omega
      rw [va_up_ne _ _ hkn, va_up_ne _ _ hkn, va_up_ne _ _ hkn, va_up_ne _ _ hkn]
      exact Rw_mono (h7 k hk2) sub fr
  · have hi2 : i < zn σ + 1 := hi
    have hj2 : j < zn σ + 1 := hj
    have hij2 : va_up (grh G) (zn σ) r i = va_up (grh G) (zn σ) r j ∨ va_up (grw G) (zn σ) q i = va_up (grw G) (zn σ) q j := hij
    by_cases hin : i = zn σ
    · by_cases hjn : j = zn σ
      · omega
      · rw [hin, va_up_self, va_up_self, va_up_ne _ _ hjn, va_up_ne _ _ hjn] at hij2
        rcases hij2 with e | e
        · exact absurd (e ▸ (h7 j (by omega)).1) hr
        · exact absurd (e ▸ (h7 j (by omega)).2.2.1) hq
    · by_cases hjn : j = zn σ
      · rw [hjn, va_up_self, va_up_self, va_up_ne _ _ hin, va_up_ne _ _ hin] at hij2
        rcases hij2 with e | e
        · exact absurd (e ▸ (h7 i (by omega)).1) hr
        · exact absurd (e ▸ (h7 i (by omega)).2.2.1) hq
      · rw [va_up_ne _ _ hin, va_up_ne _ _ hin, va_up_ne _ _ hjn, va_up_ne _ _ hjn] at hij2
        exact h8.2 i j (by omega) (by omega) hij2
  · refine ⟨Or.inl h9.1, Or.inl h9.2.1, Or.inl h9.2.2.1, Or.inl h9.2.2.2.1, Or.inl h9.2.2.2.2.1, fun i a b => Or.inl (h9.2.2.2.2.2.1 i a b), fun i hi => ?_⟩
    show (O (va_up (grh G) (zn σ) r i) ∨ va_up (grh G) (zn σ) r i ∉ L) ∧ (O (va_up (grw G) (zn σ) q i) ∨ va_up (grw G) (zn σ) q i ∉ L)
    by_cases hin : i = zn σ
    · subst hin
      rw [va_up_self, va_up_self]
      exact ⟨Or.inr hr, Or.inr hq⟩
    · have hi2 : i < zn σ + 1 := hi
      rw [va_up_ne _ _ hin, va_up_ne _ _ hin]
      exact ⟨Or.inl (h9.2.2.2.2.2.2 i (by omega)).1, Or.inl (h9.2.2.2.2.2.2 i (by omega)).2⟩
theorem CP_own {O2 : Nat → Prop} (h : CP y L F O G σ) (hO : ∀ a, O a → O2 a) : CP y L F O2 G σ := by
  obtain ⟨h1, h2, h3, h4, h5, h6, h7, h8, h9⟩ := h
  exact ⟨h1, h2, h3, h4, h5, h6, h7, h8, hO _ h9.1, hO _ h9.2.1, hO _ h9.2.2.1, hO _ h9.2.2.2.1, hO _ h9.2.2.2.2.1, fun i a b => hO _ (h9.2.2.2.2.2.1 i a b), fun i hi => ⟨hO _ (h9.2.2.2.2.2.2 i hi).1, hO _ (h9.2.2.2.2.2.2 i hi).2⟩⟩
theorem CP_r (h : CP y L F O G σ) {i : Nat} (hi : i < zn σ) : RwS y L F (grh G i) (grw G i) (zod σ i) (zst σ i) := h.2.2.2.2.2.2.1 i hi
theorem CP_v (h : CP y L F O G σ) {v : Int} (hv : 0 ≤ v ∧ v < 2) : gva G v ∈ L ∧ F (gva G v) = vwE (grh G (zvw σ v)) (zvl σ v) (zvh σ v) := h.2.2.2.2.1 v hv.1 hv.2
theorem CP_k (h : CP y L F O G σ) : gkk G ∈ L ∧ F (gkk G) = wkE ((zwk σ).map (grh G)) (zwc σ) (zwl σ) (zwt σ) := h.2.2.2.2.2.1
theorem CP_k0 (h : CP y L F O G σ) (hw : zwk σ = none) : gkk G ∈ L ∧ F (gkk G) = wkE none (zwc σ) (zwl σ) (zwt σ) := by
  have q := CP_k h
  rw [hw] at q
  exact q
theorem CP_k1 (h : CP y L F O G σ) {j : Nat} (hw : zwk σ = some j) : gkk G ∈ L ∧ F (gkk G) = wkE (some (grh G j)) (zwc σ) (zwl σ) (zwt σ) := by
  have q := CP_k h
  rw [hw] at q
  exact q
theorem CP_ri (h : CP y L F O G σ) {i j : Nat} (hi : i < zn σ) (hj : j < zn σ) (e : grh G i = grh G j) : i = j := h.2.2.2.2.2.2.2.1.2 i j hi hj (Or.inl e)
theorem CP_wi (h : CP y L F O G σ) {i j : Nat} (hi : i < zn σ) (hj : j < zn σ) (e : grw G i = grw G j) : i = j := h.2.2.2.2.2.2.2.1.2 i j hi hj (Or.inr e)
theorem CP_wk_eq (h : CP y L F O G σ) (hw : ∀ i, zwk σ = some i → i < zn σ) {i : Nat} (hi : i < zn σ) : (zwk σ).map (grh G) = some (grh G i) ↔ zwk σ = some i := by
  cases hk : zwk σ with
  | none => simp
  | some j =>
    simp only [Option.map_some, Option.some.injEq]
    exact ⟨fun e => CP_ri h (hw j hk) hi e, fun e => by rw [e]⟩
/-- what holds of the state between calls -/
def CW (σ : CS) : Prop := (∀ i, zbk σ i < zn σ) ∧ (∀ i, zsh σ i < zn σ) ∧ (∀ i, zvw σ i < zn σ) ∧ (∀ i, zwk σ = some i → i < zn σ) ∧ (∀ i, 0 ≤ zvl σ i ∧ zvl σ i ≤ 100 ∧ -1 ≤ zvh σ i ∧ zvh σ i ≤ 99) ∧ (-1 ≤ zwl σ ∧ zwl σ ≤ 99) ∧ (0 ≤ zwt σ ∧ zwt σ ≤ 1) ∧ (∀ i j, 0 ≤ i → i < 4 → 0 ≤ j → j < 4 → zbk σ i = zbk σ j → i = j) ∧ (∀ i j, 0 ≤ i → i < 3 → 0 ≤ j → j < 3 → zsh σ i = zsh σ j → i = j) ∧ (∀ i, i < zn σ → (0 ≤ (zst σ i).1 ∧ (zst σ i).1 ≤ 100) ∧ 0 ≤ (zst σ i).2.1 ∧ (zst σ i).2.1 ≤ 100000) ∧ (-1 ≤ zwc σ ∧ zwc σ ≤ 100000)
/-- how a call may leave the pool -/
def Ext (O O1 : Nat → Prop) (L L1 : List Nat) (F F1 : Nat → va_E) : Prop := (∀ q ∈ L, q ∈ L1) ∧ (∀ q ∈ L, ¬ O q → F1 q = F q) ∧ ∀ q, O1 q → O q ∨ q ∉ L
theorem Ext0 {O : Nat → Prop} {L : List Nat} {F F1 : Nat → va_E} (h : ∀ q, ¬ O q → F1 q = F q) : Ext O O L L F F1 := ⟨fun _ h => h, fun q _ hq => h q hq, fun _ h => Or.inl h⟩
def pX (a b : Prop) (E : String) : Prop := (E = xIO ∧ ¬ a) ∨ (E = xIA ∧ a ∧ ¬ b)
/-- outside of what is owned nothing changes -/
def OE (O : Nat → Prop) (F F1 : Nat → va_E) : Prop := ∀ q, ¬ O q → F1 q = F q
theorem OE.tr {O : Nat → Prop} {F F1 F2 : Nat → va_E} (a : OE O F F1) (b : OE O F1 F2) : OE O F F2 := fun q h => (b q h).trans (a q h)
theorem OE1 {O : Nat → Prop} {F : Nat → va_E} {x : Nat} {e : va_E} (hx : O x) : OE O F (va_up F x e) := fun q h => va_up_ne _ _ (fun z : q = x => h (z ▸ hx))
theorem OEf (h : CP y L F O G σ) {i : Nat} (hi : i < zn σ) (fr : FrE (grh G i) (grw G i) F F1) : OE O F F1 := fun q hq => fr q (fun z => hq (z ▸ (h.2.2.2.2.2.2.2.2.2.2.2.2.2.2 i hi).1)) (fun z => hq (z ▸ (h.2.2.2.2.2.2.2.2.2.2.2.2.2.2 i hi).2))
theorem CP_O (h : CP y L F O G σ) : O (gbg G) ∧ O (gab G) ∧ O (gas G) ∧ O (gav G) ∧ O (gkk G) ∧ (∀ i, 0 ≤ i → i < 2 → O (gva G i)) ∧ ∀ i, i < zn σ → O (grh G i) ∧ O (grw G i) := h.2.2.2.2.2.2.2.2
/-- the walk's row read back in explicit form -/
theorem CP_eq {σ2 : CS} (h : CP y L F O G σ) (e : σ = σ2) : CP y L F O G σ2 := e ▸ h
end CPL
def kor (σ : CS) (n : Int) : CS := if n = -1 then inc2 σ else σ
def bfact (o k : Int) (f : Int → Int) (n : Int) : Int := if n = 0 then k else if n = 1 then o else if n = 2 then hashP o f 0 else if k = 0 then 1 else 0
def sfact (o k : Int) (f : Int → Int) (n : Int) : Int := if n = 0 then k else if n = 1 then o else keyP o f 0
def hfact (σ : CS) (n : Int) : Int := if n = 0 then z0 σ else if n = 1 then z1 σ else if n = 2 then z2 σ else z3 σ
