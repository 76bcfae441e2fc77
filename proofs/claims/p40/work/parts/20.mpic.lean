abbrev MS : Type := Nat × (Nat → Int) × (Nat → Int → Int) × (Int → Nat) × (Int → Nat) × (Int → Nat) × (Int → Int) × (Int → Int) × Option Nat × Int × Int × Int × (Int → Int) × Int
def vn (μ : MS) : Nat := μ.1
def vod (μ : MS) : Nat → Int := μ.2.1
def vst (μ : MS) : Nat → Int → Int := μ.2.2.1
def vbk (μ : MS) : Int → Nat := μ.2.2.2.1
def vsh (μ : MS) : Int → Nat := μ.2.2.2.2.1
def vvw (μ : MS) : Int → Nat := μ.2.2.2.2.2.1
def vvl (μ : MS) : Int → Int := μ.2.2.2.2.2.2.1
def vvh (μ : MS) : Int → Int := μ.2.2.2.2.2.2.2.1
def vwk (μ : MS) : Option Nat := μ.2.2.2.2.2.2.2.2.1
def vbr (μ : MS) : Int := μ.2.2.2.2.2.2.2.2.2.1
def vtd (μ : MS) : Int := μ.2.2.2.2.2.2.2.2.2.2.1
def vbh (μ : MS) : Int := μ.2.2.2.2.2.2.2.2.2.2.2.1
def vct (μ : MS) : Int → Int := μ.2.2.2.2.2.2.2.2.2.2.2.2.1
def vth (μ : MS) : Int := μ.2.2.2.2.2.2.2.2.2.2.2.2.2
abbrev MG : Type := Nat × Nat × Nat × Nat × Nat × Nat × Nat × (Nat → Nat) × (Nat → Nat)
def ubg (G : MG) : Nat := G.1
def uab (G : MG) : Nat := G.2.1
def uas (G : MG) : Nat := G.2.2.1
def uav (G : MG) : Nat := G.2.2.2.1
def uaf (G : MG) : Nat := G.2.2.2.2.1
def uat (G : MG) : Nat := G.2.2.2.2.2.1
def uac (G : MG) : Nat := G.2.2.2.2.2.2.1
def urh (G : MG) : Nat → Nat := G.2.2.2.2.2.2.2.1
def urw (G : MG) : Nat → Nat := G.2.2.2.2.2.2.2.2
def tOb (μ : MS) (w : Option Nat) (b t h k : Int) : MS := (vn μ, vod μ, vst μ, vbk μ, vsh μ, vvw μ, vvl μ, vvh μ, w, b, t, h, vct μ, k)
def tBk (μ : MS) (b : Int) (i : Nat) : MS := (vn μ, vod μ, vst μ, iu (vbk μ) b i, vsh μ, vvw μ, vvl μ, vvh μ, vwk μ, vbr μ, vtd μ, vbh μ, vct μ, vth μ)
def tSh (μ : MS) (b : Int) (i : Nat) : MS := (vn μ, vod μ, vst μ, vbk μ, iu (vsh μ) b i, vvw μ, vvl μ, vvh μ, vwk μ, vbr μ, vtd μ, vbh μ, vct μ, vth μ)
def tVw (μ : MS) (b : Int) (i : Nat) : MS := (vn μ, vod μ, vst μ, vbk μ, vsh μ, iu (vvw μ) b i, vvl μ, vvh μ, vwk μ, vbr μ, vtd μ, vbh μ, vct μ, vth μ)
def tVl (μ : MS) (b x : Int) : MS := (vn μ, vod μ, vst μ, vbk μ, vsh μ, vvw μ, iu (vvl μ) b x, vvh μ, vwk μ, vbr μ, vtd μ, vbh μ, vct μ, vth μ)
def tVh (μ : MS) (b x : Int) : MS := (vn μ, vod μ, vst μ, vbk μ, vsh μ, vvw μ, vvl μ, iu (vvh μ) b x, vwk μ, vbr μ, vtd μ, vbh μ, vct μ, vth μ)
def tCt (μ : MS) (b x : Int) : MS := (vn μ, vod μ, vst μ, vbk μ, vsh μ, vvw μ, vvl μ, vvh μ, vwk μ, vbr μ, vtd μ, vbh μ, iu (vct μ) b x, vth μ)
def tRw (μ : MS) (i : Nat) (g : Int → Int) : MS := (vn μ, vod μ, va_up (vst μ) i g, vbk μ, vsh μ, vvw μ, vvl μ, vvh μ, vwk μ, vbr μ, vtd μ, vbh μ, vct μ, vth μ)
def tNw (μ : MS) (o : Int) (g : Int → Int) : MS := (vn μ + 1, va_up (vod μ) (vn μ) o, va_up (vst μ) (vn μ) g, vbk μ, vsh μ, vvw μ, vvl μ, vvh μ, vwk μ, vbr μ, vtd μ, vbh μ, vct μ, vth μ)
def uNw (G : MG) (n r q : Nat) : MG := (ubg G, uab G, uas G, uav G, uaf G, uat G, uac G, va_up (urh G) n r, va_up (urw G) n q)
abbrev mE (G : MG) (μ : MS) : va_E := .inr (8, [.ref (uab G), .ref (uas G), .ref (uav G), .ref (uaf G), .ref (uat G), va_rf ((vwk μ).map (urh G)), .int (iI (vbr μ)), .int (iI (vtd μ)), .int (iI (vbh μ)), .ref (uac G), .int (iI (vth μ))])
/-- the objects of the reference, at the addresses G, hold the state μ -/
def MP (y : Nat → ClassId) (L : List Nat) (F : Nat → va_E) (O : Nat → Prop) (G : MG) (μ : MS) : Prop :=
  (ubg G ∈ L ∧ F (ubg G) = mE G μ) ∧
  (uab G ∈ L ∧ F (uab G) = arrQ (y 3) 4 (fun i => some (urh G (vbk μ i)))) ∧
  (uas G ∈ L ∧ F (uas G) = arrQ (y 3) 3 (fun i => some (urh G (vsh μ i)))) ∧
  (uav G ∈ L ∧ F (uav G) = arrQ (y 3) 2 (fun i => some (urh G (vvw μ i)))) ∧
  (uaf G ∈ L ∧ F (uaf G) = arrI (y 0) 2 (vvl μ)) ∧
  (uat G ∈ L ∧ F (uat G) = arrI (y 0) 2 (vvh μ)) ∧
  (uac G ∈ L ∧ F (uac G) = arrI (y 0) 4 (vct μ)) ∧
  (∀ i, i < vn μ → MB y L F (urh G i) (urw G i) (vod μ i) (vst μ i)) ∧
  (uaf G ≠ uat G ∧ ∀ i j, i < vn μ → j < vn μ → (urh G i = urh G j ∨ urw G i = urw G j) → i = j) ∧
  (O (ubg G) ∧ O (uab G) ∧ O (uas G) ∧ O (uav G) ∧ O (uaf G) ∧ O (uat G) ∧ O (uac G) ∧ ∀ i, i < vn μ → O (urh G i) ∧ O (urw G i))
theorem ne_ii {F : Nat → va_E} {a b n k : Nat} {x z : ClassId} {g g2 : Int → Int} (h : F a = arrI x n g) (h2 : F b = arrI z k g2) (hij : n ≠ k) : a ≠ b := fun e => by
  rw [e, h2] at h
  exact hij (congrArg (fun t : ClassId × vp_A => t.2.1) (Sum.inl.inj h)).symm
section MPL
variable {y : Nat → ClassId} {L : List Nat} {F F1 : Nat → va_E} {O : Nat → Prop} {G : MG} {μ : MS}
theorem MP_ob (h : MP y L F O G μ) {w : Option Nat} {b t k th : Int} (hx : F1 (ubg G) = mE G (tOb μ w b t k th)) (fr : ∀ q, q ≠ ubg G → F1 q = F q) : MP y L F1 O G (tOb μ w b t k th) := by
  obtain ⟨h1, h2, h3, h4, h5, h6, h7, h8, h9, hO⟩ := h
  refine ⟨⟨h1.1, hx⟩, ⟨h2.1, (fr _ (fun e => ne_oa h1.2 h2.2 e.symm)).trans h2.2⟩, ⟨h3.1, (fr _ (fun e => ne_oa h1.2 h3.2 e.symm)).trans h3.2⟩, ⟨h4.1, (fr _ (fun e => ne_oa h1.2 h4.2 e.symm)).trans h4.2⟩, ⟨h5.1, (fr _ (fun e => ne_oa h1.2 h5.2 e.symm)).trans h5.2⟩, ⟨h6.1, (fr _ (fun e => ne_oa h1.2 h6.2 e.symm)).trans h6.2⟩, ⟨h7.1, (fr _ (fun e => ne_oa h1.2 h7.2 e.symm)).trans h7.2⟩, fun i hi => ?_, h9, hO⟩
  have r := h8 i hi
  exact ⟨r.1, (fr _ (ne_tag r.2.1 h1.2 (by decide))).trans r.2.1, r.2.2.1, (fr _ (fun e => ne_oa h1.2 r.2.2.2.1 e.symm)).trans r.2.2.2.1, r.2.2.2.2⟩
theorem MP_ob2 {w0 : Option Nat} {b0 t0 k0 th0 : Int} (h : MP y L F O G (tOb μ w0 b0 t0 k0 th0)) {w : Option Nat} {b t k th : Int} (hx : F1 (ubg G) = mE G (tOb μ w b t k th)) (fr : ∀ q, q ≠ ubg G → F1 q = F q) : MP y L F1 O G (tOb μ w b t k th) := by
  have e : tOb (tOb μ w0 b0 t0 k0 th0) w b t k th = tOb μ w b t k th := rfl
  rw [← e] at hx ⊢
  exact MP_ob h hx fr
theorem MP_bk (h : MP y L F O G μ) {b : Int} {i : Nat} (hx : F1 (uab G) = arrQ (y 3) 4 (iu (fun j => some (urh G (vbk μ j))) b (some (urh G i)))) (fr : ∀ q, q ≠ uab G → F1 q = F q) : MP y L F1 O G (tBk μ b i) := by
  obtain ⟨h1, h2, h3, h4, h5, h6, h7, h8, h9, hO⟩ := h
  rw [map_iu] at hx
  refine ⟨⟨h1.1, (fr _ (ne_oa h1.2 h2.2)).trans h1.2⟩, ⟨h2.1, hx⟩, ⟨h3.1, (fr _ (ne_aa h3.2 h2.2 (by decide))).trans h3.2⟩, ⟨h4.1, (fr _ (ne_aa h4.2 h2.2 (by decide))).trans h4.2⟩, ⟨h5.1, (fr _ (fun e => ne_ai h2.2 h5.2 e.symm)).trans h5.2⟩, ⟨h6.1, (fr _ (fun e => ne_ai h2.2 h6.2 e.symm)).trans h6.2⟩, ⟨h7.1, (fr _ (fun e => ne_ai h2.2 h7.2 e.symm)).trans h7.2⟩, fun i hi => ?_, h9, hO⟩
  have r := h8 i hi
  exact ⟨r.1, (fr _ (ne_oa r.2.1 h2.2)).trans r.2.1, r.2.2.1, (fr _ (fun e => ne_ai h2.2 r.2.2.2.1 e.symm)).trans r.2.2.2.1, r.2.2.2.2⟩
theorem MP_sh (h : MP y L F O G μ) {b : Int} {i : Nat} (hx : F1 (uas G) = arrQ (y 3) 3 (iu (fun j => some (urh G (vsh μ j))) b (some (urh G i)))) (fr : ∀ q, q ≠ uas G → F1 q = F q) : MP y L F1 O G (tSh μ b i) := by
  obtain ⟨h1, h2, h3, h4, h5, h6, h7, h8, h9, hO⟩ := h
  rw [map_iu] at hx
  refine ⟨⟨h1.1, (fr _ (ne_oa h1.2 h3.2)).trans h1.2⟩, ⟨h2.1, (fr _ (ne_aa h2.2 h3.2 (by decide))).trans h2.2⟩, ⟨h3.1, hx⟩, ⟨h4.1, (fr _ (ne_aa h4.2 h3.2 (by decide))).trans h4.2⟩, ⟨h5.1, (fr _ (fun e => ne_ai h3.2 h5.2 e.symm)).trans h5.2⟩, ⟨h6.1, (fr _ (fun e => ne_ai h3.2 h6.2 e.symm)).trans h6.2⟩, ⟨h7.1, (fr _ (fun e => ne_ai h3.2 h7.2 e.symm)).trans h7.2⟩, fun i hi => ?_, h9, hO⟩
  have r := h8 i hi
  exact ⟨r.1, (fr _ (ne_oa r.2.1 h3.2)).trans r.2.1, r.2.2.1, (fr _ (fun e => ne_ai h3.2 r.2.2.2.1 e.symm)).trans r.2.2.2.1, r.2.2.2.2⟩
theorem MP_vw (h : MP y L F O G μ) {b : Int} {i : Nat} (hx : F1 (uav G) = arrQ (y 3) 2 (iu (fun j => some (urh G (vvw μ j))) b (some (urh G i)))) (fr : ∀ q, q ≠ uav G → F1 q = F q) : MP y L F1 O G (tVw μ b i) := by
  obtain ⟨h1, h2, h3, h4, h5, h6, h7, h8, h9, hO⟩ := h
  rw [map_iu] at hx
  refine ⟨⟨h1.1, (fr _ (ne_oa h1.2 h4.2)).trans h1.2⟩, ⟨h2.1, (fr _ (ne_aa h2.2 h4.2 (by decide))).trans h2.2⟩, ⟨h3.1, (fr _ (ne_aa h3.2 h4.2 (by decide))).trans h3.2⟩, ⟨h4.1, hx⟩, ⟨h5.1, (fr _ (fun e => ne_ai h4.2 h5.2 e.symm)).trans h5.2⟩, ⟨h6.1, (fr _ (fun e => ne_ai h4.2 h6.2 e.symm)).trans h6.2⟩, ⟨h7.1, (fr _ (fun e => ne_ai h4.2 h7.2 e.symm)).trans h7.2⟩, fun i hi => ?_, h9, hO⟩
  have r := h8 i hi
  exact ⟨r.1, (fr _ (ne_oa r.2.1 h4.2)).trans r.2.1, r.2.2.1, (fr _ (fun e => ne_ai h4.2 r.2.2.2.1 e.symm)).trans r.2.2.2.1, r.2.2.2.2⟩
theorem MP_vl (h : MP y L F O G μ) {b x : Int} (hx : F1 (uaf G) = arrI (y 0) 2 (iu (vvl μ) b x)) (fr : ∀ q, q ≠ uaf G → F1 q = F q) : MP y L F1 O G (tVl μ b x) := by
  obtain ⟨h1, h2, h3, h4, h5, h6, h7, h8, h9, hO⟩ := h
  refine ⟨⟨h1.1, (fr _ (ne_oa h1.2 h5.2)).trans h1.2⟩, ⟨h2.1, (fr _ (ne_ai h2.2 h5.2)).trans h2.2⟩, ⟨h3.1, (fr _ (ne_ai h3.2 h5.2)).trans h3.2⟩, ⟨h4.1, (fr _ (ne_ai h4.2 h5.2)).trans h4.2⟩, ⟨h5.1, hx⟩, ⟨h6.1, (fr _ (fun e => h9.1 e.symm)).trans h6.2⟩, ⟨h7.1, (fr _ (ne_ii h7.2 h5.2 (by decide))).trans h7.2⟩, fun i hi => ?_, h9, hO⟩
  have r := h8 i hi
  exact ⟨r.1, (fr _ (ne_oa r.2.1 h5.2)).trans r.2.1, r.2.2.1, (fr _ (ne_ii r.2.2.2.1 h5.2 (by decide))).trans r.2.2.2.1, r.2.2.2.2⟩
theorem MP_vh (h : MP y L F O G μ) {b x : Int} (hx : F1 (uat G) = arrI (y 0) 2 (iu (vvh μ) b x)) (fr : ∀ q, q ≠ uat G → F1 q = F q) : MP y L F1 O G (tVh μ b x) := by
  obtain ⟨h1, h2, h3, h4, h5, h6, h7, h8, h9, hO⟩ := h
  refine ⟨⟨h1.1, (fr _ (ne_oa h1.2 h6.2)).trans h1.2⟩, ⟨h2.1, (fr _ (ne_ai h2.2 h6.2)).trans h2.2⟩, ⟨h3.1, (fr _ (ne_ai h3.2 h6.2)).trans h3.2⟩, ⟨h4.1, (fr _ (ne_ai h4.2 h6.2)).trans h4.2⟩, ⟨h5.1, (fr _ (h9.1)).trans h5.2⟩, ⟨h6.1, hx⟩, ⟨h7.1, (fr _ (ne_ii h7.2 h6.2 (by decide))).trans h7.2⟩, fun i hi => ?_, h9, hO⟩
  have r := h8 i hi
  exact ⟨r.1, (fr _ (ne_oa r.2.1 h6.2)).trans r.2.1, r.2.2.1, (fr _ (ne_ii r.2.2.2.1 h6.2 (by decide))).trans r.2.2.2.1, r.2.2.2.2⟩
theorem MP_ct (h : MP y L F O G μ) {b x : Int} (hx : F1 (uac G) = arrI (y 0) 4 (iu (vct μ) b x)) (fr : ∀ q, q ≠ uac G → F1 q = F q) : MP y L F1 O G (tCt μ b x) := by
  obtain ⟨h1, h2, h3, h4, h5, h6, h7, h8, h9, hO⟩ := h
  refine ⟨⟨h1.1, (fr _ (ne_oa h1.2 h7.2)).trans h1.2⟩, ⟨h2.1, (fr _ (ne_ai h2.2 h7.2)).trans h2.2⟩, ⟨h3.1, (fr _ (ne_ai h3.2 h7.2)).trans h3.2⟩, ⟨h4.1, (fr _ (ne_ai h4.2 h7.2)).trans h4.2⟩, ⟨h5.1, (fr _ (ne_ii h5.2 h7.2 (by decide))).trans h5.2⟩, ⟨h6.1, (fr _ (ne_ii h6.2 h7.2 (by decide))).trans h6.2⟩, ⟨h7.1, hx⟩, fun i hi => ?_, h9, hO⟩
  have r := h8 i hi
  exact ⟨r.1, (fr _ (ne_oa r.2.1 h7.2)).trans r.2.1, r.2.2.1, (fr _ (ne_ii r.2.2.2.1 h7.2 (by decide))).trans r.2.2.2.1, r.2.2.2.2⟩
theorem MP_row (h : MP y L F O G μ) {i : Nat} (hi : i < vn μ) {g : Int → Int} (hx : F1 (urw G i) = arrI (y 0) 100 (mwd (vod μ i) g)) (hg : ∀ r, -1 ≤ g r ∧ g r ≤ 99) (fr : ∀ q, q ≠ urw G i → F1 q = F q) : MP y L F1 O G (tRw μ i g) := by
  obtain ⟨h1, h2, h3, h4, h5, h6, h7, h8, h9, hO⟩ := h
  have r0 := h8 i hi
  refine ⟨⟨h1.1, (fr _ (ne_oa h1.2 r0.2.2.2.1)).trans h1.2⟩, ⟨h2.1, (fr _ (ne_ai h2.2 r0.2.2.2.1)).trans h2.2⟩, ⟨h3.1, (fr _ (ne_ai h3.2 r0.2.2.2.1)).trans h3.2⟩, ⟨h4.1, (fr _ (ne_ai h4.2 r0.2.2.2.1)).trans h4.2⟩, ⟨h5.1, (fr _ (ne_ii h5.2 r0.2.2.2.1 (by decide))).trans h5.2⟩, ⟨h6.1, (fr _ (ne_ii h6.2 r0.2.2.2.1 (by decide))).trans h6.2⟩, ⟨h7.1, (fr _ (ne_ii h7.2 r0.2.2.2.1 (by decide))).trans h7.2⟩, fun k hk => ?_, h9, hO⟩
  have r := h8 k hk
  show MB y L F1 (urh G k) (urw G k) (vod μ k) (va_up (vst μ) i g k)
  by_cases hki : k = i
  · subst hki
    rw [va_up_self]
    exact ⟨r.1, (fr _ (ne_oa r.2.1 r0.2.2.2.1)).trans r.2.1, r.2.2.1, hx, r.2.2.2.2.1, hg⟩
  · rw [va_up_ne _ _ hki]
    exact ⟨r.1, (fr _ (ne_oa r.2.1 r0.2.2.2.1)).trans r.2.1, r.2.2.1, (fr _ (fun e => hki (h9.2 k i hk hi (Or.inr e)))).trans r.2.2.2.1, r.2.2.2.2⟩
theorem MP_mono {L1 : List Nat} (h : MP y L F O G μ) (hL : ∀ a ∈ L, a ∈ L1) (hf : ∀ a ∈ L, F1 a = F a) : MP y L1 F1 O G μ := by
  obtain ⟨h1, h2, h3, h4, h5, h6, h7, h8, h9, hO⟩ := h
  exact ⟨⟨hL _ h1.1, (hf _ h1.1).trans h1.2⟩, ⟨hL _ h2.1, (hf _ h2.1).trans h2.2⟩, ⟨hL _ h3.1, (hf _ h3.1).trans h3.2⟩, ⟨hL _ h4.1, (hf _ h4.1).trans h4.2⟩, ⟨hL _ h5.1, (hf _ h5.1).trans h5.2⟩, ⟨hL _ h6.1, (hf _ h6.1).trans h6.2⟩, ⟨hL _ h7.1, (hf _ h7.1).trans h7.2⟩, fun i hi => MB_mono (h8 i hi) hL hf, h9, hO⟩
theorem MP_new {L1 : List Nat} {r q : Nat} {o : Int} {g : Int → Int} (h : MP y L F O G μ) (hL : L1 = (L ++ [r]) ++ [q]) (hr : r ∉ L) (hq : q ∉ L) (hR : MB y L1 F1 r q o g) (fr : ∀ a ∈ L, F1 a = F a) (wf : (∀ i, vbk μ i < vn μ) ∧ (∀ i, vsh μ i < vn μ) ∧ (∀ i, vvw μ i < vn μ) ∧ ∀ i, vwk μ = some i → i < vn μ) : MP y L1 F1 (fun a => O a ∨ a ∉ L) (uNw G (vn μ) r q) (tNw μ o g) := by
  have sub : ∀ a ∈ L, a ∈ L1 := fun a ha => by rw [hL]; exact List.mem_append_left _ (List.mem_append_left _ ha)
  obtain ⟨h1, h2, h3, h4, h5, h6, h7, h8, h9, hO⟩ := MP_mono h sub fr
  obtain ⟨g1, g2, g3, g4, g5, g6, g7, g8, g9, gO⟩ := h
  have up : ∀ b : Int → Nat, (∀ i, b i < vn μ) → (fun i => some (va_up (urh G) (vn μ) r (b i))) = fun i => some (urh G (b i)) := fun b hb => by
    funext i
    rw [va_up_ne _ _ (by have := hb i; omega)]
  refine ⟨⟨h1.1, ?_⟩, ⟨h2.1, ?_⟩, ⟨h3.1, ?_⟩, ⟨h4.1, ?_⟩, h5, h6, h7, fun i hi => ?_, ⟨h9.1, fun i j hi hj e => ?_⟩, Or.inl hO.1, Or.inl hO.2.1, Or.inl hO.2.2.1, Or.inl hO.2.2.2.1, Or.inl hO.2.2.2.2.1, Or.inl hO.2.2.2.2.2.1, Or.inl hO.2.2.2.2.2.2.1, fun i hi => ?_⟩
  · rw [show F1 (ubg (uNw G (vn μ) r q)) = mE G μ from h1.2]
    have e : (vwk μ).map (va_up (urh G) (vn μ) r) = (vwk μ).map (urh G) := by
      cases hw : vwk μ with
      | none => rfl
      | some i => exact congrArg some (va_up_ne _ _ (by have := wf.2.2.2 i hw; omega))
    show mE G μ = .inr (8, [.ref (uab G), .ref (uas G), .ref (uav G), .ref (uaf G), .ref (uat G), va_rf ((vwk μ).map (va_up (urh G) (vn μ) r)), .int (iI (vbr μ)), .int (iI (vtd μ)), .int (iI (vbh μ)), .ref (uac G), .int (iI (vth μ))])
    rw [e]
  · exact h2.2.trans (congrArg (arrQ (y 3) 4) (up _ wf.1).symm)
  · exact h3.2.trans (congrArg (arrQ (y 3) 3) (up _ wf.2.1).symm)
  · exact h4.2.trans (congrArg (arrQ (y 3) 2) (up _ wf.2.2.1).symm)
  · show MB y L1 F1 (va_up (urh G) (vn μ) r i) (va_up (urw G) (vn μ) q i) (va_up (vod μ) (vn μ) o i) (va_up (vst μ) (vn μ) g i)
    by_cases hin : i = vn μ
    · subst hin
      rw [va_up_self, va_up_self, va_up_self, va_up_self]
      exact hR
    · have hi2 : i < vn μ + 1 := hi
      rw [va_up_ne _ _ hin, va_up_ne _ _ hin, va_up_ne _ _ hin, va_up_ne _ _ hin]
      exact h8 i (by omega)
  · have hi2 : i < vn μ + 1 := hi
    have hj2 : j < vn μ + 1 := hj
    have e2 : va_up (urh G) (vn μ) r i = va_up (urh G) (vn μ) r j ∨ va_up (urw G) (vn μ) q i = va_up (urw G) (vn μ) q j := e
    by_cases hin : i = vn μ
    · by_cases hjn : j = vn μ
      · omega
      · have b := g8 j (by omega)
        rw [hin, va_up_self, va_up_self, va_up_ne _ _ hjn, va_up_ne _ _ hjn] at e2
        exact e2.elim (fun z => absurd (z ▸ b.1) hr) (fun z => absurd (z ▸ b.2.2.1) hq)
    · by_cases hjn : j = vn μ
      · have b := g8 i (by omega)
        rw [hjn, va_up_self, va_up_self, va_up_ne _ _ hin, va_up_ne _ _ hin] at e2
        exact e2.elim (fun z => absurd (z ▸ b.1) hr) (fun z => absurd (z ▸ b.2.2.1) hq)
      · rw [va_up_ne _ _ hin, va_up_ne _ _ hin, va_up_ne _ _ hjn, va_up_ne _ _ hjn] at e2
        exact h9.2 i j (by omega) (by omega) e2
  · show (va_up (urh G) (vn μ) r i |> fun a => O a ∨ a ∉ L) ∧ (va_up (urw G) (vn μ) q i |> fun a => O a ∨ a ∉ L)
    by_cases hin : i = vn μ
    · subst hin
      rw [va_up_self, va_up_self]
      exact ⟨Or.inr hr, Or.inr hq⟩
    · have hi2 : i < vn μ + 1 := hi
      rw [va_up_ne _ _ hin, va_up_ne _ _ hin]
      exact ⟨Or.inl (hO.2.2.2.2.2.2.2 i (by omega)).1, Or.inl (hO.2.2.2.2.2.2.2 i (by omega)).2⟩
theorem MP_r (h : MP y L F O G μ) {i : Nat} (hi : i < vn μ) : MB y L F (urh G i) (urw G i) (vod μ i) (vst μ i) := h.2.2.2.2.2.2.2.1 i hi
theorem MP_ri (h : MP y L F O G μ) {i j : Nat} (hi : i < vn μ) (hj : j < vn μ) (e : urh G i = urh G j) : i = j := h.2.2.2.2.2.2.2.2.1.2 i j hi hj (Or.inl e)
theorem MP_wi (h : MP y L F O G μ) {i j : Nat} (hi : i < vn μ) (hj : j < vn μ) (e : urw G i = urw G j) : i = j := h.2.2.2.2.2.2.2.2.1.2 i j hi hj (Or.inr e)
theorem MP_eq {μ2 : MS} (h : MP y L F O G μ) (e : μ = μ2) : MP y L F O G μ2 := e ▸ h
theorem MP_own {O2 : Nat → Prop} (h : MP y L F O G μ) (hO2 : ∀ a, O a → O2 a) : MP y L F O2 G μ := by
  obtain ⟨h1, h2, h3, h4, h5, h6, h7, h8, h9, hO⟩ := h
  exact ⟨h1, h2, h3, h4, h5, h6, h7, h8, h9, hO2 _ hO.1, hO2 _ hO.2.1, hO2 _ hO.2.2.1, hO2 _ hO.2.2.2.1, hO2 _ hO.2.2.2.2.1, hO2 _ hO.2.2.2.2.2.1, hO2 _ hO.2.2.2.2.2.2.1, fun i hi => ⟨hO2 _ (hO.2.2.2.2.2.2.2 i hi).1, hO2 _ (hO.2.2.2.2.2.2.2 i hi).2⟩⟩
theorem MP_wk_eq (h : MP y L F O G μ) (hw : ∀ i, vwk μ = some i → i < vn μ) {i : Nat} (hi : i < vn μ) : some (urh G i) = (vwk μ).map (urh G) ↔ vwk μ = some i := by
  cases hwk : vwk μ with
  | none => exact ⟨fun e => (by cases e), fun e => (by cases e)⟩
  | some j => exact ⟨fun e => congrArg some (MP_ri h hi (hw j hwk) (Option.some.inj e)).symm, fun e => (by cases e; rfl)⟩
end MPL
