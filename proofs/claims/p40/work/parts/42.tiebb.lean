set_option maxHeartbeats 40000 in
theorem T_keyAt {B : Int} {σ : CS} {t : Int} {xb xn xw : Int} (hc : CI B σ) (hf : FI σ) : TE (cS_keyAt σ xb xn xw) (jS_keyAt (mof σ t) xb xn xw) ((0 ≤ xb ∧ xb ≤ 3)) ((0 ≤ xn ∧ xn ≤ 99)) 2 (jR_keyAt (mof σ t) xb xn xw) (kR_keyAt σ xb xn xw) := by
  have hr := hc.2.2.2.2.2.2.2.2.2.2.1
  have hb : ∀ i, RI B (zst σ (zbk σ i)) := fun i => hr _ (hc.2.1 i)
  have hs : ∀ i, RI B (zst σ (zsh σ i)) := fun i => hr _ (hc.2.2.1 i)
  have hv : ∀ i, RI B (zst σ (zvw σ i)) := fun i => hr _ (hc.2.2.2.1 i)
  have kb : ∀ i, zwk σ = some (zbk σ i) → zwc σ ≤ (zst σ (zbk σ i)).2.1 := fun i e => (hf.2.2.2.2.2.2 _ e).1
  have kv : ∀ i, zwk σ = some (zvw σ i) → zwc σ ≤ (zst σ (zvw σ i)).2.1 := fun i e => (hf.2.2.2.2.2.2 _ e).1
  have ks : ∀ i, zwk σ = some (zsh σ i) → zwc σ ≤ (zst σ (zsh σ i)).2.1 := fun i e => (hf.2.2.2.2.2.2 _ e).1
  have nb := hf.2.2.2.1
  have nv := hf.2.2.2.2.1
  have fb := hf.1
  have fs := hf.2.2.1
  by_cases hA : (0 ≤ xb ∧ xb ≤ 3)
  · skip
    by_cases hB : (0 ≤ xn ∧ xn ≤ 99)
    · skip
      rw [show cS_keyAt σ xb xn xw = kS_keyAt σ xb xn xw from if_pos ⟨hA, hB⟩]
      refine ⟨?_, 0, ?_, Or.inl ⟨hA, hB, rfl, ?_⟩⟩
      · unfold kS_keyAt
        exact hf
      · unfold jS_keyAt kS_keyAt
        rw [if_pos hA, if_pos hB]
        rfl
      · unfold jR_keyAt kR_keyAt
        rw [if_pos ⟨hA, hB⟩]
        by_cases w : xw ≠ 0
        · rw [if_pos w, (hb xb).1]
          exact congrArg (keyR (zod σ (zbk σ xb))) (ka_1 w hB.1)
        · rw [if_neg w, show xw = 0 by omega]
          exact congrArg (keyR (zod σ (zbk σ xb))) ka_0
    · rw [show cS_keyAt σ xb xn xw = σ from if_neg (fun z => hB z.2)]
      refine ⟨hf, 2, ?_, Or.inr (Or.inr ⟨hA, hB, rfl⟩)⟩
      unfold jS_keyAt
      rw [if_pos hA, if_neg hB]
      rfl
  · rw [show cS_keyAt σ xb xn xw = σ from if_neg (fun z => hA z.1)]
    refine ⟨hf, 1, ?_, Or.inr (Or.inl ⟨hA, rfl⟩)⟩
    unfold jS_keyAt
    rw [if_neg hA]
    rfl
set_option maxHeartbeats 40000 in
theorem T_tellBook {B : Int} {σ : CS} {t : Int} {xb xt : Int} (hc : CI B σ) (hf : FI σ) : TE (cS_tellBook σ xb xt) (jS_tellBook (mof σ t) xb xt) ((0 ≤ xb ∧ xb ≤ 3)) ((0 ≤ xt ∧ xt ≤ 3)) 2 (jR_tellBook (mof σ t) xb xt) (kR_tellBook σ xb xt) := by
  have hr := hc.2.2.2.2.2.2.2.2.2.2.1
  have hb : ∀ i, RI B (zst σ (zbk σ i)) := fun i => hr _ (hc.2.1 i)
  have hs : ∀ i, RI B (zst σ (zsh σ i)) := fun i => hr _ (hc.2.2.1 i)
  have hv : ∀ i, RI B (zst σ (zvw σ i)) := fun i => hr _ (hc.2.2.2.1 i)
  have kb : ∀ i, zwk σ = some (zbk σ i) → zwc σ ≤ (zst σ (zbk σ i)).2.1 := fun i e => (hf.2.2.2.2.2.2 _ e).1
  have kv : ∀ i, zwk σ = some (zvw σ i) → zwc σ ≤ (zst σ (zvw σ i)).2.1 := fun i e => (hf.2.2.2.2.2.2 _ e).1
  have ks : ∀ i, zwk σ = some (zsh σ i) → zwc σ ≤ (zst σ (zsh σ i)).2.1 := fun i e => (hf.2.2.2.2.2.2 _ e).1
  have nb := hf.2.2.2.1
  have nv := hf.2.2.2.2.1
  have fb := hf.1
  have fs := hf.2.2.1
  by_cases hA : (0 ≤ xb ∧ xb ≤ 3)
  · skip
    by_cases hB : (0 ≤ xt ∧ xt ≤ 3)
    · skip
      rw [show cS_tellBook σ xb xt = kS_tellBook σ xb xt from if_pos ⟨hA, hB⟩]
      refine ⟨?_, 0, ?_, Or.inl ⟨hA, hB, rfl, ?_⟩⟩
      · unfold kS_tellBook
        exact hf
      · unfold jS_tellBook kS_tellBook
        rw [if_pos hA, if_pos hB]
        rfl
      · unfold jR_tellBook kR_tellBook
        rw [if_pos ⟨hA, hB⟩]
        show (if xt = 0 then cntP (zst σ (zbk σ xb)).2.2 0 99 else if xt = 1 then zod σ (zbk σ xb) else if xt = 2 then hashM (zod σ (zbk σ xb)) (zst σ (zbk σ xb)).2.2 else if cntP (zst σ (zbk σ xb)).2.2 0 99 = 0 then 1 else 0) = _
        unfold bfact
        rw [← (hb xb).1, hash_e]
    · rw [show cS_tellBook σ xb xt = σ from if_neg (fun z => hB z.2)]
      refine ⟨hf, 2, ?_, Or.inr (Or.inr ⟨hA, hB, rfl⟩)⟩
      unfold jS_tellBook
      rw [if_pos hA, if_neg hB]
      rfl
  · rw [show cS_tellBook σ xb xt = σ from if_neg (fun z => hA z.1)]
    refine ⟨hf, 1, ?_, Or.inr (Or.inl ⟨hA, rfl⟩)⟩
    unfold jS_tellBook
    rw [if_neg hA]
    rfl
set_option maxHeartbeats 40000 in
theorem T_sameBooks {B : Int} {σ : CS} {t : Int} {xb xc : Int} (hc : CI B σ) (hf : FI σ) : TE (cS_sameBooks σ xb xc) (jS_sameBooks (mof σ t) xb xc) ((0 ≤ xb ∧ xb ≤ 3) ∧ (0 ≤ xc ∧ xc ≤ 3)) (True) 1 (jR_sameBooks (mof σ t) xb xc) (kR_sameBooks σ xb xc) := by
  have hr := hc.2.2.2.2.2.2.2.2.2.2.1
  have hb : ∀ i, RI B (zst σ (zbk σ i)) := fun i => hr _ (hc.2.1 i)
  have hs : ∀ i, RI B (zst σ (zsh σ i)) := fun i => hr _ (hc.2.2.1 i)
  have hv : ∀ i, RI B (zst σ (zvw σ i)) := fun i => hr _ (hc.2.2.2.1 i)
  have kb : ∀ i, zwk σ = some (zbk σ i) → zwc σ ≤ (zst σ (zbk σ i)).2.1 := fun i e => (hf.2.2.2.2.2.2 _ e).1
  have kv : ∀ i, zwk σ = some (zvw σ i) → zwc σ ≤ (zst σ (zvw σ i)).2.1 := fun i e => (hf.2.2.2.2.2.2 _ e).1
  have ks : ∀ i, zwk σ = some (zsh σ i) → zwc σ ≤ (zst σ (zsh σ i)).2.1 := fun i e => (hf.2.2.2.2.2.2 _ e).1
  have nb := hf.2.2.2.1
  have nv := hf.2.2.2.2.1
  have fb := hf.1
  have fs := hf.2.2.1
  by_cases hA : (0 ≤ xb ∧ xb ≤ 3) ∧ (0 ≤ xc ∧ xc ≤ 3)
  · skip
    have hB : True := trivial
    rw [show cS_sameBooks σ xb xc = kS_sameBooks σ xb xc from if_pos ⟨hA, hB⟩]
    refine ⟨?_, 0, ?_, Or.inl ⟨hA, hB, rfl, ?_⟩⟩
    · unfold kS_sameBooks
      exact hf
    · unfold jS_sameBooks kS_sameBooks
      rw [if_pos hA]
      rfl
    · unfold jR_sameBooks kR_sameBooks
      rw [if_pos hA]
      exact sameM_e
  · rw [show cS_sameBooks σ xb xc = σ from if_neg (fun z => hA z.1)]
    refine ⟨hf, 1, ?_, Or.inr (Or.inl ⟨hA, rfl⟩)⟩
    unfold jS_sameBooks
    rw [if_neg hA]
    rfl
set_option maxHeartbeats 40000 in
theorem T_openView {B : Int} {σ : CS} {t : Int} {xv xb xkind xlow xhigh xends : Int} (hc : CI B σ) (hf : FI σ) : TE (cS_openView σ xv xb xkind xlow xhigh xends) (jS_openView (mof σ t) xv xb xkind xlow xhigh xends) ((0 ≤ xv ∧ xv ≤ 1) ∧ (0 ≤ xb ∧ xb ≤ 3)) ((0 ≤ xkind ∧ xkind ≤ 2) ∧ (0 ≤ xlow ∧ xlow ≤ 99) ∧ (0 ≤ xhigh ∧ xhigh ≤ 99) ∧ (0 ≤ xends ∧ xends ≤ 3)) 2 (jR_openView (mof σ t) xv xb xkind xlow xhigh xends) (kR_openView σ xv xb xkind xlow xhigh xends) := by
  have hr := hc.2.2.2.2.2.2.2.2.2.2.1
  have hb : ∀ i, RI B (zst σ (zbk σ i)) := fun i => hr _ (hc.2.1 i)
  have hs : ∀ i, RI B (zst σ (zsh σ i)) := fun i => hr _ (hc.2.2.1 i)
  have hv : ∀ i, RI B (zst σ (zvw σ i)) := fun i => hr _ (hc.2.2.2.1 i)
  have kb : ∀ i, zwk σ = some (zbk σ i) → zwc σ ≤ (zst σ (zbk σ i)).2.1 := fun i e => (hf.2.2.2.2.2.2 _ e).1
  have kv : ∀ i, zwk σ = some (zvw σ i) → zwc σ ≤ (zst σ (zvw σ i)).2.1 := fun i e => (hf.2.2.2.2.2.2 _ e).1
  have ks : ∀ i, zwk σ = some (zsh σ i) → zwc σ ≤ (zst σ (zsh σ i)).2.1 := fun i e => (hf.2.2.2.2.2.2 _ e).1
  have nb := hf.2.2.2.1
  have nv := hf.2.2.2.2.1
  have fb := hf.1
  have fs := hf.2.2.1
  by_cases hA : (0 ≤ xv ∧ xv ≤ 1) ∧ (0 ≤ xb ∧ xb ≤ 3)
  · skip
    by_cases hB : (0 ≤ xkind ∧ xkind ≤ 2) ∧ (0 ≤ xlow ∧ xlow ≤ 99) ∧ (0 ≤ xhigh ∧ xhigh ≤ 99) ∧ (0 ≤ xends ∧ xends ≤ 3)
    · skip
      rw [show cS_openView σ xv xb xkind xlow xhigh xends = kS_openView σ xv xb xkind xlow xhigh xends from if_pos ⟨hA, hB⟩]
      refine ⟨?_, 0, ?_, Or.inl ⟨hA, hB, rfl, ?_⟩⟩
      · unfold kS_openView
        split
        · exact hf
        · exact FI_vw hf (nb xb)
      · unfold jS_openView kS_openView
        rw [if_pos hA, if_pos hB]
        show (if xkind = 2 ∧ turn (zod σ (zbk σ xb)) xhigh < turn (zod σ (zbk σ xb)) xlow then tDi (tTh (mof σ t) 0) 2 else tVh (tVl (tVw (tTh (mof σ t) 0) xv (zbk σ xb)) xv (moLo (zod σ (zbk σ xb)) xkind xlow xends)) xv (moHi (zod σ (zbk σ xb)) xkind xhigh xends)) = _
        by_cases q : xkind = 2 ∧ turn (zod σ (zbk σ xb)) xhigh < turn (zod σ (zbk σ xb)) xlow
        · rw [if_pos q, if_pos q, m_th, m_i2]
        · rw [if_neg q, if_neg q, m_th, m_vw, oLo_e hB.2.2.2, oHi_e hB.2.2.2]
      · unfold jR_openView kR_openView
        rw [if_pos ⟨hA, hB⟩]
        show (if xkind = 2 ∧ turn (zod σ (zbk σ xb)) xhigh < turn (zod σ (zbk σ xb)) xlow then -9 else cntP (zst σ (zbk σ xb)).2.2 (moLo (zod σ (zbk σ xb)) xkind xlow xends) (moHi (zod σ (zbk σ xb)) xkind xhigh xends)) = _
        rw [oLo_e hB.2.2.2, oHi_e hB.2.2.2]
    · rw [show cS_openView σ xv xb xkind xlow xhigh xends = σ from if_neg (fun z => hB z.2)]
      refine ⟨hf, 2, ?_, Or.inr (Or.inr ⟨hA, hB, rfl⟩)⟩
      unfold jS_openView
      rw [if_pos hA, if_neg hB]
      rfl
  · rw [show cS_openView σ xv xb xkind xlow xhigh xends = σ from if_neg (fun z => hA z.1)]
    refine ⟨hf, 1, ?_, Or.inr (Or.inl ⟨hA, rfl⟩)⟩
    unfold jS_openView
    rw [if_neg hA]
    rfl
set_option maxHeartbeats 40000 in
theorem T_narrowView {B : Int} {σ : CS} {t : Int} {xv xkind xlow xhigh : Int} (hc : CI B σ) (hf : FI σ) : TE (cS_narrowView σ xv xkind xlow xhigh) (jS_narrowView (mof σ t) xv xkind xlow xhigh) ((0 ≤ xv ∧ xv ≤ 1)) ((0 ≤ xkind ∧ xkind ≤ 2) ∧ (0 ≤ xlow ∧ xlow ≤ 99) ∧ (0 ≤ xhigh ∧ xhigh ≤ 99)) 2 (jR_narrowView (mof σ t) xv xkind xlow xhigh) (kR_narrowView σ xv xkind xlow xhigh) := by
  have hr := hc.2.2.2.2.2.2.2.2.2.2.1
  have hb : ∀ i, RI B (zst σ (zbk σ i)) := fun i => hr _ (hc.2.1 i)
  have hs : ∀ i, RI B (zst σ (zsh σ i)) := fun i => hr _ (hc.2.2.1 i)
  have hv : ∀ i, RI B (zst σ (zvw σ i)) := fun i => hr _ (hc.2.2.2.1 i)
  have kb : ∀ i, zwk σ = some (zbk σ i) → zwc σ ≤ (zst σ (zbk σ i)).2.1 := fun i e => (hf.2.2.2.2.2.2 _ e).1
  have kv : ∀ i, zwk σ = some (zvw σ i) → zwc σ ≤ (zst σ (zvw σ i)).2.1 := fun i e => (hf.2.2.2.2.2.2 _ e).1
  have ks : ∀ i, zwk σ = some (zsh σ i) → zwc σ ≤ (zst σ (zsh σ i)).2.1 := fun i e => (hf.2.2.2.2.2.2 _ e).1
  have nb := hf.2.2.2.1
  have nv := hf.2.2.2.2.1
  have fb := hf.1
  have fs := hf.2.2.1
  by_cases hA : (0 ≤ xv ∧ xv ≤ 1)
  · skip
    by_cases hB : (0 ≤ xkind ∧ xkind ≤ 2) ∧ (0 ≤ xlow ∧ xlow ≤ 99) ∧ (0 ≤ xhigh ∧ xhigh ≤ 99)
    · skip
      rw [show cS_narrowView σ xv xkind xlow xhigh = kS_narrowView σ xv xkind xlow xhigh from if_pos ⟨hA, hB⟩]
      refine ⟨?_, 0, ?_, Or.inl ⟨hA, hB, rfl, ?_⟩⟩
      · unfold kS_narrowView
        split
        · exact hf
        · exact FI_vw hf (nv xv)
      · unfold jS_narrowView kS_narrowView
        rw [if_pos hA, if_pos hB]
        show (if mnRef (mof σ t) xv xkind xlow xhigh = 1 then tDi (tTh (mof σ t) 0) 2 else if xkind = 0 then tVh (tTh (mof σ t) 0) xv (mnHi (mof σ t) xv xkind xhigh) else if xkind = 1 then tVl (tTh (mof σ t) 0) xv (mnLo (mof σ t) xv xkind xlow) else tVh (tVl (tTh (mof σ t) 0) xv (mnLo (mof σ t) xv xkind xlow)) xv (mnHi (mof σ t) xv xkind xhigh)) = _
        rw [show mnRef (mof σ t) xv xkind xlow xhigh = nRef σ xv xkind xlow xhigh from rfl]
        by_cases q : nRef σ xv xkind xlow xhigh = 1
        · rw [if_pos q, if_pos q, m_th, m_i2]
        · rw [if_neg q, if_neg q]
          by_cases k0 : xkind = 0
          · rw [if_pos k0, m_th, m_vh, show nLo σ xv xkind xlow = zvl σ xv from if_pos k0]
            rfl
          · rw [if_neg k0]
            by_cases k1 : xkind = 1
            · rw [if_pos k1, m_th, m_vl, show nHi σ xv xkind xhigh = zvh σ xv from if_pos k1]
              rfl
            · rw [if_neg k1, m_th, m_vlh]
              rfl
      · unfold jR_narrowView kR_narrowView
        rw [if_pos ⟨hA, hB⟩]
        rfl
    · rw [show cS_narrowView σ xv xkind xlow xhigh = σ from if_neg (fun z => hB z.2)]
      refine ⟨hf, 2, ?_, Or.inr (Or.inr ⟨hA, hB, rfl⟩)⟩
      unfold jS_narrowView
      rw [if_pos hA, if_neg hB]
      rfl
  · rw [show cS_narrowView σ xv xkind xlow xhigh = σ from if_neg (fun z => hA z.1)]
    refine ⟨hf, 1, ?_, Or.inr (Or.inl ⟨hA, rfl⟩)⟩
    unfold jS_narrowView
    rw [if_neg hA]
    rfl
set_option maxHeartbeats 40000 in
theorem T_buildFromView {B : Int} {σ : CS} {t : Int} {xb xv xw : Int} (hc : CI B σ) (hf : FI σ) : TE (cS_buildFromView σ xb xv xw) (jS_buildFromView (mof σ t) xb xv xw) ((0 ≤ xb ∧ xb ≤ 3) ∧ (0 ≤ xv ∧ xv ≤ 1)) ((0 ≤ xw ∧ xw ≤ 1)) 2 (jR_buildFromView (mof σ t) xb xv xw) (kR_buildFromView σ xb xv xw) := by
  have hr := hc.2.2.2.2.2.2.2.2.2.2.1
  have hb : ∀ i, RI B (zst σ (zbk σ i)) := fun i => hr _ (hc.2.1 i)
  have hs : ∀ i, RI B (zst σ (zsh σ i)) := fun i => hr _ (hc.2.2.1 i)
  have hv : ∀ i, RI B (zst σ (zvw σ i)) := fun i => hr _ (hc.2.2.2.1 i)
  have kb : ∀ i, zwk σ = some (zbk σ i) → zwc σ ≤ (zst σ (zbk σ i)).2.1 := fun i e => (hf.2.2.2.2.2.2 _ e).1
  have kv : ∀ i, zwk σ = some (zvw σ i) → zwc σ ≤ (zst σ (zvw σ i)).2.1 := fun i e => (hf.2.2.2.2.2.2 _ e).1
  have ks : ∀ i, zwk σ = some (zsh σ i) → zwc σ ≤ (zst σ (zsh σ i)).2.1 := fun i e => (hf.2.2.2.2.2.2 _ e).1
  have nb := hf.2.2.2.1
  have nv := hf.2.2.2.2.1
  have fb := hf.1
  have fs := hf.2.2.1
  by_cases hA : (0 ≤ xb ∧ xb ≤ 3) ∧ (0 ≤ xv ∧ xv ≤ 1)
  · skip
    by_cases hB : (0 ≤ xw ∧ xw ≤ 1)
    · skip
      have t3 := hc.2.2.2.2.2.1 xv
      rw [show cS_buildFromView σ xb xv xw = kS_buildFromView σ xb xv xw from if_pos ⟨hA, hB⟩]
      refine ⟨?_, 0, ?_, Or.inl ⟨hA, hB, rfl, ?_⟩⟩
      · unfold kS_buildFromView nS_buildFromView
        exact FI_nb (σ := inc0 σ) hf hc (hf.2.1 _) (FB_add (fb _) (FB_R0 (by omega)))
      · unfold jS_buildFromView kS_buildFromView
        rw [if_pos hA, if_pos hB]
        show (tDi (tBk (tNw (tTh (mof σ t) 0) (zod σ (zvw σ xv)) (mlk (zod σ (zvw σ xv)) (zod σ (zvw σ xv)) ((zst σ (zvw σ xv)).2.2) (zvl σ xv) (zvh σ xv) emp)) xb (zn σ)) 0) = _
        rw [m_th, m_nw (S := nS_buildFromView σ xv) (by unfold nS_buildFromView; exact mlk_add t3.1 t3.2.2.2) hc.2.2.2.2.1, m_bk, m_i0, w3]
      · unfold jR_buildFromView kR_buildFromView
        rw [if_pos ⟨hA, hB⟩]
        show cntP (mlk (zod σ (zvw σ xv)) (zod σ (zvw σ xv)) (zst σ (zvw σ xv)).2.2 (zvl σ xv) (zvh σ xv) emp) 0 99 = (nS_buildFromView σ xv).1
        unfold nS_buildFromView
        rw [mlk_add t3.1 t3.2.2.2]
        exact (RI_add (by omega) RI_R0).1.symm
    · rw [show cS_buildFromView σ xb xv xw = σ from if_neg (fun z => hB z.2)]
      refine ⟨hf, 2, ?_, Or.inr (Or.inr ⟨hA, hB, rfl⟩)⟩
      unfold jS_buildFromView
      rw [if_pos hA, if_neg hB]
      rfl
  · rw [show cS_buildFromView σ xb xv xw = σ from if_neg (fun z => hA z.1)]
    refine ⟨hf, 1, ?_, Or.inr (Or.inl ⟨hA, rfl⟩)⟩
    unfold jS_buildFromView
    rw [if_neg hA]
    rfl
set_option maxHeartbeats 40000 in
theorem T_viewPut {B : Int} {σ : CS} {t : Int} {xv xk xw : Int} (hc : CI B σ) (hf : FI σ) : TE (cS_viewPut σ xv xk xw) (jS_viewPut (mof σ t) xv xk xw) ((0 ≤ xv ∧ xv ≤ 1)) ((0 ≤ xk ∧ xk ≤ 99) ∧ (0 ≤ xw ∧ xw ≤ 99)) 2 (jR_viewPut (mof σ t) xv xk xw) (kR_viewPut σ xv xk xw) := by
  have hr := hc.2.2.2.2.2.2.2.2.2.2.1
  have hb : ∀ i, RI B (zst σ (zbk σ i)) := fun i => hr _ (hc.2.1 i)
  have hs : ∀ i, RI B (zst σ (zsh σ i)) := fun i => hr _ (hc.2.2.1 i)
  have hv : ∀ i, RI B (zst σ (zvw σ i)) := fun i => hr _ (hc.2.2.2.1 i)
  have kb : ∀ i, zwk σ = some (zbk σ i) → zwc σ ≤ (zst σ (zbk σ i)).2.1 := fun i e => (hf.2.2.2.2.2.2 _ e).1
  have kv : ∀ i, zwk σ = some (zvw σ i) → zwc σ ≤ (zst σ (zvw σ i)).2.1 := fun i e => (hf.2.2.2.2.2.2 _ e).1
  have ks : ∀ i, zwk σ = some (zsh σ i) → zwc σ ≤ (zst σ (zsh σ i)).2.1 := fun i e => (hf.2.2.2.2.2.2 _ e).1
  have nb := hf.2.2.2.1
  have nv := hf.2.2.2.2.1
  have fb := hf.1
  have fs := hf.2.2.1
  by_cases hA : (0 ≤ xv ∧ xv ≤ 1)
  · skip
    by_cases hB : (0 ≤ xk ∧ xk ≤ 99) ∧ (0 ≤ xw ∧ xw ≤ 99)
    · skip
      have tb := turn_b (o := zod σ (zvw σ xv)) (n := xk) hB.1
      rw [show cS_viewPut σ xv xk xw = kS_viewPut σ xv xk xw from if_pos ⟨hA, hB⟩]
      refine ⟨?_, 0, ?_, Or.inl ⟨hA, hB, rfl, ?_⟩⟩
      · unfold kS_viewPut
        split
        · exact FI_bw hf (nv xv) (FB_come (fb _) (by omega)) (DC_le (DC_come (DC_rf _)))
        · exact hf
      · unfold jS_viewPut kS_viewPut
        rw [if_pos hA, if_pos hB]
        show (if (zvl σ xv ≤ turn (zod σ (zvw σ xv)) xk ∧ turn (zod σ (zvw σ xv)) xk ≤ zvh σ xv) then cgS (tTh (mof σ t) 0) (zvw σ xv) (turn (zod σ (zvw σ xv)) xk) 1 xw else tDi (tTh (mof σ t) 0) 2) = _
        by_cases q : zvl σ xv ≤ turn (zod σ (zvw σ xv)) xk ∧ turn (zod σ (zvw σ xv)) xk ≤ zvh σ xv
        · rw [if_pos q, if_pos q]
          exact m_cg1 (by decide) tb (by omega) (hv xv) (kv xv)
        · rw [if_neg q, if_neg q, m_th, m_i2]
      · unfold jR_viewPut kR_viewPut
        rw [if_pos ⟨hA, hB⟩]
        rw [wAt_in tb]
        rfl
    · rw [show cS_viewPut σ xv xk xw = σ from if_neg (fun z => hB z.2)]
      refine ⟨hf, 2, ?_, Or.inr (Or.inr ⟨hA, hB, rfl⟩)⟩
      unfold jS_viewPut
      rw [if_pos hA, if_neg hB]
      rfl
  · rw [show cS_viewPut σ xv xk xw = σ from if_neg (fun z => hA z.1)]
    refine ⟨hf, 1, ?_, Or.inr (Or.inl ⟨hA, rfl⟩)⟩
    unfold jS_viewPut
    rw [if_neg hA]
    rfl
set_option maxHeartbeats 40000 in
theorem T_viewTake {B : Int} {σ : CS} {t : Int} {xv xk : Int} (hc : CI B σ) (hf : FI σ) : TE (cS_viewTake σ xv xk) (jS_viewTake (mof σ t) xv xk) ((0 ≤ xv ∧ xv ≤ 1)) ((0 ≤ xk ∧ xk ≤ 99)) 2 (jR_viewTake (mof σ t) xv xk) (kR_viewTake σ xv xk) := by
  have hr := hc.2.2.2.2.2.2.2.2.2.2.1
  have hb : ∀ i, RI B (zst σ (zbk σ i)) := fun i => hr _ (hc.2.1 i)
  have hs : ∀ i, RI B (zst σ (zsh σ i)) := fun i => hr _ (hc.2.2.1 i)
  have hv : ∀ i, RI B (zst σ (zvw σ i)) := fun i => hr _ (hc.2.2.2.1 i)
  have kb : ∀ i, zwk σ = some (zbk σ i) → zwc σ ≤ (zst σ (zbk σ i)).2.1 := fun i e => (hf.2.2.2.2.2.2 _ e).1
  have kv : ∀ i, zwk σ = some (zvw σ i) → zwc σ ≤ (zst σ (zvw σ i)).2.1 := fun i e => (hf.2.2.2.2.2.2 _ e).1
  have ks : ∀ i, zwk σ = some (zsh σ i) → zwc σ ≤ (zst σ (zsh σ i)).2.1 := fun i e => (hf.2.2.2.2.2.2 _ e).1
  have nb := hf.2.2.2.1
  have nv := hf.2.2.2.2.1
  have fb := hf.1
  have fs := hf.2.2.1
  by_cases hA : (0 ≤ xv ∧ xv ≤ 1)
  · skip
    by_cases hB : (0 ≤ xk ∧ xk ≤ 99)
    · skip
      have tb := turn_b (o := zod σ (zvw σ xv)) (n := xk) hB
      rw [show cS_viewTake σ xv xk = kS_viewTake σ xv xk from if_pos ⟨hA, hB⟩]
      refine ⟨?_, 0, ?_, Or.inl ⟨hA, hB, rfl, ?_⟩⟩
      · unfold kS_viewTake
        split
        · exact FI_bw hf (nv xv) (FB_go (fb _) (by omega)) (DG_le (DG_go (DG_rf _)))
        · exact FI_wrt hf
      · unfold jS_viewTake kS_viewTake
        rw [if_pos hA, if_pos hB]
        show (cgS (tTh (mof σ t) 0) (zvw σ xv) (turn (zod σ (zvw σ xv)) xk) (inR (turn (zod σ (zvw σ xv)) xk) (zvl σ xv) (zvh σ xv)) (-1)) = _
        by_cases q : zvl σ xv ≤ turn (zod σ (zvw σ xv)) xk ∧ turn (zod σ (zvw σ xv)) xk ≤ zvh σ xv
        · rw [if_pos q]
          exact m_cg2 (by unfold inR; rw [if_pos q]; decide) tb (hv xv) (kv xv)
        · rw [if_neg q]
          exact m_cg0 (by unfold inR; rw [if_neg q])
      · unfold jR_viewTake kR_viewTake
        rw [if_pos ⟨hA, hB⟩]
        rw [wAt_in tb]
        show (if inR (turn (zod σ (zvw σ xv)) xk) (zvl σ xv) (zvh σ xv) ≠ 0 then (zst σ (zvw σ xv)).2.2 (turn (zod σ (zvw σ xv)) xk) else -1) = _
        unfold inR
        by_cases q : zvl σ xv ≤ turn (zod σ (zvw σ xv)) xk ∧ turn (zod σ (zvw σ xv)) xk ≤ zvh σ xv
        · rw [if_pos q, if_pos q, if_pos (by decide)]
        · rw [if_neg q, if_neg q, if_neg (by decide)]
    · rw [show cS_viewTake σ xv xk = σ from if_neg (fun z => hB z.2)]
      refine ⟨hf, 2, ?_, Or.inr (Or.inr ⟨hA, hB, rfl⟩)⟩
      unfold jS_viewTake
      rw [if_pos hA, if_neg hB]
      rfl
  · rw [show cS_viewTake σ xv xk = σ from if_neg (fun z => hA z.1)]
    refine ⟨hf, 1, ?_, Or.inr (Or.inl ⟨hA, rfl⟩)⟩
    unfold jS_viewTake
    rw [if_neg hA]
    rfl
set_option maxHeartbeats 40000 in
theorem T_viewDrop {B : Int} {σ : CS} {t : Int} {xv xt : Int} (hc : CI B σ) (hf : FI σ) : TE (cS_viewDrop σ xv xt) (jS_viewDrop (mof σ t) xv xt) ((0 ≤ xv ∧ xv ≤ 1)) ((0 ≤ xt ∧ xt ≤ 2)) 2 (jR_viewDrop (mof σ t) xv xt) (kR_viewDrop σ xv xt) := by
  have hr := hc.2.2.2.2.2.2.2.2.2.2.1
  have hb : ∀ i, RI B (zst σ (zbk σ i)) := fun i => hr _ (hc.2.1 i)
  have hs : ∀ i, RI B (zst σ (zsh σ i)) := fun i => hr _ (hc.2.2.1 i)
  have hv : ∀ i, RI B (zst σ (zvw σ i)) := fun i => hr _ (hc.2.2.2.1 i)
  have kb : ∀ i, zwk σ = some (zbk σ i) → zwc σ ≤ (zst σ (zbk σ i)).2.1 := fun i e => (hf.2.2.2.2.2.2 _ e).1
  have kv : ∀ i, zwk σ = some (zvw σ i) → zwc σ ≤ (zst σ (zvw σ i)).2.1 := fun i e => (hf.2.2.2.2.2.2 _ e).1
  have ks : ∀ i, zwk σ = some (zsh σ i) → zwc σ ≤ (zst σ (zsh σ i)).2.1 := fun i e => (hf.2.2.2.2.2.2 _ e).1
  have nb := hf.2.2.2.1
  have nv := hf.2.2.2.2.1
  have fb := hf.1
  have fs := hf.2.2.1
  by_cases hA : (0 ≤ xv ∧ xv ≤ 1)
  · skip
    by_cases hB : (0 ≤ xt ∧ xt ≤ 2)
    · skip
      have t3 := hc.2.2.2.2.2.1 xv
      rw [show cS_viewDrop σ xv xt = kS_viewDrop σ xv xt from if_pos ⟨hA, hB⟩]
      refine ⟨?_, 0, ?_, Or.inl ⟨hA, hB, rfl, ?_⟩⟩
      · unfold kS_viewDrop
        exact FI_bw hf (nv xv) (FB_drp (by omega) (fb _)) (DG_le DG_drp)
      · unfold jS_viewDrop kS_viewDrop
        rw [if_pos hA, if_pos hB]
        show (tDi (dpS (tTh (mof σ t) 0) (zvw σ xv) xt (zvl σ xv) (zvh σ xv)) 0) = _
        rw [m_th, m_dp (B := B) hB t3.1 t3.2.2.2 (hv xv) (kv xv), m_i0, w1]
      · unfold jR_viewDrop kR_viewDrop
        rw [if_pos ⟨hA, hB⟩]
        rw [m_th]
        exact m_dpR (B := B) hB t3.1 t3.2.2.2 (hv xv)
    · rw [show cS_viewDrop σ xv xt = σ from if_neg (fun z => hB z.2)]
      refine ⟨hf, 2, ?_, Or.inr (Or.inr ⟨hA, hB, rfl⟩)⟩
      unfold jS_viewDrop
      rw [if_pos hA, if_neg hB]
      rfl
  · rw [show cS_viewDrop σ xv xt = σ from if_neg (fun z => hA z.1)]
    refine ⟨hf, 1, ?_, Or.inr (Or.inl ⟨hA, rfl⟩)⟩
    unfold jS_viewDrop
    rw [if_neg hA]
    rfl
set_option maxHeartbeats 40000 in
theorem T_viewNear {B : Int} {σ : CS} {t : Int} {xv xk xt : Int} (hc : CI B σ) (hf : FI σ) : TE (cS_viewNear σ xv xk xt) (jS_viewNear (mof σ t) xv xk xt) ((0 ≤ xv ∧ xv ≤ 1)) ((0 ≤ xk ∧ xk ≤ 99) ∧ (0 ≤ xt ∧ xt ≤ 4)) 2 (jR_viewNear (mof σ t) xv xk xt) (kR_viewNear σ xv xk xt) := by
  have hr := hc.2.2.2.2.2.2.2.2.2.2.1
  have hb : ∀ i, RI B (zst σ (zbk σ i)) := fun i => hr _ (hc.2.1 i)
  have hs : ∀ i, RI B (zst σ (zsh σ i)) := fun i => hr _ (hc.2.2.1 i)
  have hv : ∀ i, RI B (zst σ (zvw σ i)) := fun i => hr _ (hc.2.2.2.1 i)
  have kb : ∀ i, zwk σ = some (zbk σ i) → zwc σ ≤ (zst σ (zbk σ i)).2.1 := fun i e => (hf.2.2.2.2.2.2 _ e).1
  have kv : ∀ i, zwk σ = some (zvw σ i) → zwc σ ≤ (zst σ (zvw σ i)).2.1 := fun i e => (hf.2.2.2.2.2.2 _ e).1
  have ks : ∀ i, zwk σ = some (zsh σ i) → zwc σ ≤ (zst σ (zsh σ i)).2.1 := fun i e => (hf.2.2.2.2.2.2 _ e).1
  have nb := hf.2.2.2.1
  have nv := hf.2.2.2.2.1
  have fb := hf.1
  have fs := hf.2.2.1
  by_cases hA : (0 ≤ xv ∧ xv ≤ 1)
  · skip
    by_cases hB : (0 ≤ xk ∧ xk ≤ 99) ∧ (0 ≤ xt ∧ xt ≤ 4)
    · skip
      rw [show cS_viewNear σ xv xk xt = kS_viewNear σ xv xk xt from if_pos ⟨hA, hB⟩]
      refine ⟨?_, 0, ?_, Or.inl ⟨hA, hB, rfl, ?_⟩⟩
      · unfold kS_viewNear
        exact hf
      · unfold jS_viewNear kS_viewNear
        rw [if_pos hA, if_pos hB]
        rfl
      · unfold jR_viewNear kR_viewNear
        rw [if_pos ⟨hA, hB⟩]
        exact (tldR_e (nearP_i _ _ _ _ _ _)).trans (if_pos (by decide))
    · rw [show cS_viewNear σ xv xk xt = σ from if_neg (fun z => hB z.2)]
      refine ⟨hf, 2, ?_, Or.inr (Or.inr ⟨hA, hB, rfl⟩)⟩
      unfold jS_viewNear
      rw [if_pos hA, if_neg hB]
      rfl
  · rw [show cS_viewNear σ xv xk xt = σ from if_neg (fun z => hA z.1)]
    refine ⟨hf, 1, ?_, Or.inr (Or.inl ⟨hA, rfl⟩)⟩
    unfold jS_viewNear
    rw [if_neg hA]
    rfl
set_option maxHeartbeats 40000 in
theorem T_viewTell {B : Int} {σ : CS} {t : Int} {xv xt : Int} (hc : CI B σ) (hf : FI σ) : TE (cS_viewTell σ xv xt) (jS_viewTell (mof σ t) xv xt) ((0 ≤ xv ∧ xv ≤ 1)) ((0 ≤ xt ∧ xt ≤ 3)) 2 (jR_viewTell (mof σ t) xv xt) (kR_viewTell σ xv xt) := by
  have hr := hc.2.2.2.2.2.2.2.2.2.2.1
  have hb : ∀ i, RI B (zst σ (zbk σ i)) := fun i => hr _ (hc.2.1 i)
  have hs : ∀ i, RI B (zst σ (zsh σ i)) := fun i => hr _ (hc.2.2.1 i)
  have hv : ∀ i, RI B (zst σ (zvw σ i)) := fun i => hr _ (hc.2.2.2.1 i)
  have kb : ∀ i, zwk σ = some (zbk σ i) → zwc σ ≤ (zst σ (zbk σ i)).2.1 := fun i e => (hf.2.2.2.2.2.2 _ e).1
  have kv : ∀ i, zwk σ = some (zvw σ i) → zwc σ ≤ (zst σ (zvw σ i)).2.1 := fun i e => (hf.2.2.2.2.2.2 _ e).1
  have ks : ∀ i, zwk σ = some (zsh σ i) → zwc σ ≤ (zst σ (zsh σ i)).2.1 := fun i e => (hf.2.2.2.2.2.2 _ e).1
  have nb := hf.2.2.2.1
  have nv := hf.2.2.2.2.1
  have fb := hf.1
  have fs := hf.2.2.1
  by_cases hA : (0 ≤ xv ∧ xv ≤ 1)
  · skip
    by_cases hB : (0 ≤ xt ∧ xt ≤ 3)
    · skip
      have t3 := hc.2.2.2.2.2.1 xv
      rw [show cS_viewTell σ xv xt = kS_viewTell σ xv xt from if_pos ⟨hA, hB⟩]
      refine ⟨?_, 0, ?_, Or.inl ⟨hA, hB, rfl, ?_⟩⟩
      · unfold kS_viewTell
        split
        · exact hf
        · exact FI_kor hf
      · unfold jS_viewTell kS_viewTell
        rw [if_pos hA, if_pos hB]
        show (if (xt = 1 ∨ xt = 2) ∧ endP ((zst σ (zvw σ xv)).2.2) (zvl σ xv) (zvh σ xv) (if xt = 1 then 0 else 1) = -1 then tDi (tTh (mof σ t) 0) 2 else (tTh (mof σ t) 0)) = _
        by_cases q : xt = 0 ∨ xt = 3
        · rw [if_pos q, if_neg (fun z => by omega)]
          rfl
        · rw [if_neg q]
          have e : (if xt = 1 then 0 else 1 : Int) = if xt = 2 then 1 else 0 := by split <;> split <;> omega
          rw [e]
          unfold kor
          by_cases z : endP (zst σ (zvw σ xv)).2.2 (zvl σ xv) (zvh σ xv) (if xt = 2 then 1 else 0) = -1
          · rw [if_pos ⟨by omega, z⟩, if_pos z, m_th, m_i2]
          · rw [if_neg (fun w => z w.2), if_neg z]
            rfl
      · unfold jR_viewTell kR_viewTell
        rw [if_pos ⟨hA, hB⟩]
        show (if xt = 0 then cntP (zst σ (zvw σ xv)).2.2 (zvl σ xv) (zvh σ xv) else if xt = 3 then sumP (wmU (zst σ (zvw σ xv)).2.2) (zvl σ xv) (zvh σ xv) else if endP (zst σ (zvw σ xv)).2.2 (zvl σ xv) (zvh σ xv) (if xt = 1 then 0 else 1) = -1 then -9 else keyR (zod σ (zvw σ xv)) (endP (zst σ (zvw σ xv)).2.2 (zvl σ xv) (zvh σ xv) (if xt = 1 then 0 else 1))) = _
        rw [wor_e (fun r => (fb _ r).1) t3.1 t3.2.2.2]
        by_cases q : xt = 0
        · rw [if_pos q, if_pos q]
        · rw [if_neg q, if_neg q]
          by_cases q3 : xt = 3
          · rw [if_pos q3, if_pos q3]
          · rw [if_neg q3, if_neg q3]
            have e : (if xt = 1 then 0 else 1 : Int) = if xt = 2 then 1 else 0 := by split <;> split <;> omega
            rw [e]
            rfl
    · rw [show cS_viewTell σ xv xt = σ from if_neg (fun z => hB z.2)]
      refine ⟨hf, 2, ?_, Or.inr (Or.inr ⟨hA, hB, rfl⟩)⟩
      unfold jS_viewTell
      rw [if_pos hA, if_neg hB]
      rfl
  · rw [show cS_viewTell σ xv xt = σ from if_neg (fun z => hA z.1)]
    refine ⟨hf, 1, ?_, Or.inr (Or.inl ⟨hA, rfl⟩)⟩
    unfold jS_viewTell
    rw [if_neg hA]
    rfl
set_option maxHeartbeats 40000 in
theorem T_startWalk {B : Int} {σ : CS} {t : Int} {xb : Int} (hc : CI B σ) (hf : FI σ) : TE (cS_startWalk σ xb) (jS_startWalk (mof σ t) xb) ((0 ≤ xb ∧ xb ≤ 3)) (True) 1 (jR_startWalk (mof σ t) xb) (kR_startWalk σ xb) := by
  have hr := hc.2.2.2.2.2.2.2.2.2.2.1
  have hb : ∀ i, RI B (zst σ (zbk σ i)) := fun i => hr _ (hc.2.1 i)
  have hs : ∀ i, RI B (zst σ (zsh σ i)) := fun i => hr _ (hc.2.2.1 i)
  have hv : ∀ i, RI B (zst σ (zvw σ i)) := fun i => hr _ (hc.2.2.2.1 i)
  have kb : ∀ i, zwk σ = some (zbk σ i) → zwc σ ≤ (zst σ (zbk σ i)).2.1 := fun i e => (hf.2.2.2.2.2.2 _ e).1
  have kv : ∀ i, zwk σ = some (zvw σ i) → zwc σ ≤ (zst σ (zvw σ i)).2.1 := fun i e => (hf.2.2.2.2.2.2 _ e).1
  have ks : ∀ i, zwk σ = some (zsh σ i) → zwc σ ≤ (zst σ (zsh σ i)).2.1 := fun i e => (hf.2.2.2.2.2.2 _ e).1
  have nb := hf.2.2.2.1
  have nv := hf.2.2.2.2.1
  have fb := hf.1
  have fs := hf.2.2.1
  by_cases hA : (0 ≤ xb ∧ xb ≤ 3)
  · skip
    have hB : True := trivial
    rw [show cS_startWalk σ xb = kS_startWalk σ xb from if_pos ⟨hA, hB⟩]
    refine ⟨?_, 0, ?_, Or.inl ⟨hA, hB, rfl, ?_⟩⟩
    · unfold kS_startWalk
      exact FI_wk hf (nb xb) (Int.le_refl _) (fun z => absurd rfl z)
    · unfold jS_startWalk kS_startWalk
      rw [if_pos hA]
      refine m_of (σ := σ) rfl rfl (fun i => rfl) rfl rfl rfl rfl rfl rfl ?_ ?_ rfl (fun i => rfl) rfl
      · show 0 = if (zst σ (zbk σ xb)).2.1 = (zst σ (zbk σ xb)).2.1 then (0 : Int) else 1
        rw [if_pos rfl]
      · show -1 = if (0 : Int) = 0 then -1 else keyR (zod σ (zbk σ xb)) (-1)
        rw [if_pos rfl]
    · unfold jR_startWalk kR_startWalk
      rw [if_pos hA]
      exact (hb xb).1.symm
  · rw [show cS_startWalk σ xb = σ from if_neg (fun z => hA z.1)]
    refine ⟨hf, 1, ?_, Or.inr (Or.inl ⟨hA, rfl⟩)⟩
    unfold jS_startWalk
    rw [if_neg hA]
    rfl
set_option maxHeartbeats 40000 in
theorem T_freshShelf {B : Int} {σ : CS} {t : Int} {xb xo : Int} (hc : CI B σ) (hf : FI σ) : TE (cS_freshShelf σ xb xo) (jS_freshShelf (mof σ t) xb xo) ((0 ≤ xb ∧ xb ≤ 2)) ((0 ≤ xo ∧ xo ≤ 2)) 2 (jR_freshShelf (mof σ t) xb xo) (kR_freshShelf σ xb xo) := by
  have hr := hc.2.2.2.2.2.2.2.2.2.2.1
  have hb : ∀ i, RI B (zst σ (zbk σ i)) := fun i => hr _ (hc.2.1 i)
  have hs : ∀ i, RI B (zst σ (zsh σ i)) := fun i => hr _ (hc.2.2.1 i)
  have hv : ∀ i, RI B (zst σ (zvw σ i)) := fun i => hr _ (hc.2.2.2.1 i)
  have kb : ∀ i, zwk σ = some (zbk σ i) → zwc σ ≤ (zst σ (zbk σ i)).2.1 := fun i e => (hf.2.2.2.2.2.2 _ e).1
  have kv : ∀ i, zwk σ = some (zvw σ i) → zwc σ ≤ (zst σ (zvw σ i)).2.1 := fun i e => (hf.2.2.2.2.2.2 _ e).1
  have ks : ∀ i, zwk σ = some (zsh σ i) → zwc σ ≤ (zst σ (zsh σ i)).2.1 := fun i e => (hf.2.2.2.2.2.2 _ e).1
  have nb := hf.2.2.2.1
  have nv := hf.2.2.2.2.1
  have fb := hf.1
  have fs := hf.2.2.1
  by_cases hA : (0 ≤ xb ∧ xb ≤ 2)
  · skip
    by_cases hB : (0 ≤ xo ∧ xo ≤ 2)
    · skip
      rw [show cS_freshShelf σ xb xo = kS_freshShelf σ xb xo from if_pos ⟨hA, hB⟩]
      refine ⟨?_, 0, ?_, Or.inl ⟨hA, hB, rfl, ?_⟩⟩
      · unfold kS_freshShelf
        exact FI_ns (σ := inc1 σ) hf hc hB (FB_R0 (by omega))
      · unfold jS_freshShelf kS_freshShelf
        rw [if_pos hA, if_pos hB]
        show (tDi (tSh (tNw (tTh (mof σ t) 0) xo emp) xb (zn σ)) 1) = _
        rw [m_th, m_nw (S := R0) rfl hc.2.2.2.2.1, m_sh, m_i1, w4]
      · unfold jR_freshShelf kR_freshShelf
        rw [if_pos ⟨hA, hB⟩]
        exact (hs xb).1.symm
    · rw [show cS_freshShelf σ xb xo = σ from if_neg (fun z => hB z.2)]
      refine ⟨hf, 2, ?_, Or.inr (Or.inr ⟨hA, hB, rfl⟩)⟩
      unfold jS_freshShelf
      rw [if_pos hA, if_neg hB]
      rfl
  · rw [show cS_freshShelf σ xb xo = σ from if_neg (fun z => hA z.1)]
    refine ⟨hf, 1, ?_, Or.inr (Or.inl ⟨hA, rfl⟩)⟩
    unfold jS_freshShelf
    rw [if_neg hA]
    rfl
