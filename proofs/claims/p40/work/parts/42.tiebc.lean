set_option maxHeartbeats 40000 in
theorem T_buildShelf {B : Int} {σ : CS} {t : Int} {xb xa xw : Int} (hc : CI B σ) (hf : FI σ) : TE (cS_buildShelf σ xb xa xw) (jS_buildShelf (mof σ t) xb xa xw) ((0 ≤ xb ∧ xb ≤ 2) ∧ (0 ≤ xa ∧ xa ≤ 2)) ((0 ≤ xw ∧ xw ≤ 6)) 2 (jR_buildShelf (mof σ t) xb xa xw) (kR_buildShelf σ xb xa xw) := by
  have hr := hc.2.2.2.2.2.2.2.2.2.2.1
  have hb : ∀ i, RI B (zst σ (zbk σ i)) := fun i => hr _ (hc.2.1 i)
  have hs : ∀ i, RI B (zst σ (zsh σ i)) := fun i => hr _ (hc.2.2.1 i)
  have hv : ∀ i, RI B (zst σ (zvw σ i)) := fun i => hr _ (hc.2.2.2.1 i)
  have kb : ∀ i, zwk σ = some (zbk σ i) → zwc σ ≤ (zst σ (zbk σ i)).2.1 := fun i e => (hf.2.2.2.2.2.2 _ e).1
  have kv : ∀ i, zwk σ = some (zvw σ i) → zwc σ ≤ (zst σ (zvw σ i)).2.1 := fun i e => (hf.2.2.2.2.2.2 _ e).1
  have ks : ∀ i, zwk σ = some (zsh σ i) → zwc σ ≤ (zst σ (zsh σ i)).2.1 := fun i e => (hf.2.2.2.2.2.2 _ e).1
  have nb := hf.2.2.2.1
  have nv := hf.2.2.2.2.1
  have fb := hf.1
  have fs := hf.2.2.1
  by_cases hA : (0 ≤ xb ∧ xb ≤ 2) ∧ (0 ≤ xa ∧ xa ≤ 2)
  · skip
    by_cases hB : (0 ≤ xw ∧ xw ≤ 6)
    · skip
      rw [show cS_buildShelf σ xb xa xw = kS_buildShelf σ xb xa xw from if_pos ⟨hA, hB⟩]
      refine ⟨?_, 0, ?_, Or.inl ⟨hA, hB, rfl, ?_⟩⟩
      · unfold kS_buildShelf nS_buildShelf
        exact FI_ns (σ := inc1 σ) hf hc (bo_b hB (hf.2.1 _)) (FB_add (fs xa) (FB_R0 (by omega)))
      · unfold jS_buildShelf kS_buildShelf
        rw [if_pos hA, if_pos hB]
        show (tDi (tSh (tNw (tTh (mof σ t) 0) (bo xw (zod σ (zsh σ xa))) (mlk (bo xw (zod σ (zsh σ xa))) (zod σ (zsh σ xa)) ((zst σ (zsh σ xa)).2.2) 0 99 emp)) xb (zn σ)) 1) = _
        rw [m_th, m_nw (S := nS_buildShelf σ xa xw) (by unfold nS_buildShelf; exact mlk_add (by omega) (by omega)) hc.2.2.2.2.1, m_sh, m_i1, w4]
      · unfold jR_buildShelf kR_buildShelf
        rw [if_pos ⟨hA, hB⟩]
        show cntP (mlk (bo xw (zod σ (zsh σ xa))) (zod σ (zsh σ xa)) (zst σ (zsh σ xa)).2.2 0 99 emp) 0 99 = (nS_buildShelf σ xa xw).1
        unfold nS_buildShelf
        rw [mlk_add (by omega) (by omega)]
        exact (RI_add (by omega) RI_R0).1.symm
    · rw [show cS_buildShelf σ xb xa xw = σ from if_neg (fun z => hB z.2)]
      refine ⟨hf, 2, ?_, Or.inr (Or.inr ⟨hA, hB, rfl⟩)⟩
      unfold jS_buildShelf
      rw [if_pos hA, if_neg hB]
      rfl
  · rw [show cS_buildShelf σ xb xa xw = σ from if_neg (fun z => hA z.1)]
    refine ⟨hf, 1, ?_, Or.inr (Or.inl ⟨hA, rfl⟩)⟩
    unfold jS_buildShelf
    rw [if_neg hA]
    rfl
set_option maxHeartbeats 40000 in
theorem T_keysOf {B : Int} {σ : CS} {t : Int} {xb xa : Int} (hc : CI B σ) (hf : FI σ) : TE (cS_keysOf σ xb xa) (jS_keysOf (mof σ t) xb xa) ((0 ≤ xb ∧ xb ≤ 2) ∧ (0 ≤ xa ∧ xa ≤ 3)) (True) 1 (jR_keysOf (mof σ t) xb xa) (kR_keysOf σ xb xa) := by
  have hr := hc.2.2.2.2.2.2.2.2.2.2.1
  have hb : ∀ i, RI B (zst σ (zbk σ i)) := fun i => hr _ (hc.2.1 i)
  have hs : ∀ i, RI B (zst σ (zsh σ i)) := fun i => hr _ (hc.2.2.1 i)
  have hv : ∀ i, RI B (zst σ (zvw σ i)) := fun i => hr _ (hc.2.2.2.1 i)
  have kb : ∀ i, zwk σ = some (zbk σ i) → zwc σ ≤ (zst σ (zbk σ i)).2.1 := fun i e => (hf.2.2.2.2.2.2 _ e).1
  have kv : ∀ i, zwk σ = some (zvw σ i) → zwc σ ≤ (zst σ (zvw σ i)).2.1 := fun i e => (hf.2.2.2.2.2.2 _ e).1
  have ks : ∀ i, zwk σ = some (zsh σ i) → zwc σ ≤ (zst σ (zsh σ i)).2.1 := fun i e => (hf.2.2.2.2.2.2 _ e).1
  have nb := hf.2.2.2.1
  have nv := hf.2.2.2.2.1
  have fb := hf.1
  have fs := hf.2.2.1
  by_cases hA : (0 ≤ xb ∧ xb ≤ 2) ∧ (0 ≤ xa ∧ xa ≤ 3)
  · skip
    have hB : True := trivial
    rw [show cS_keysOf σ xb xa = kS_keysOf σ xb xa from if_pos ⟨hA, hB⟩]
    refine ⟨?_, 0, ?_, Or.inl ⟨hA, hB, rfl, ?_⟩⟩
    · unfold kS_keysOf
      exact FI_ns (σ := inc1 σ) hf hc ⟨(by omega), (by omega)⟩ FB_ck
    · unfold jS_keysOf kS_keysOf
      rw [if_pos hA]
      show (tDi (tX (tSh (tNw (tTh (mof σ t) 0) 0 emp) xb (zn σ)) (zn σ) ((itrP (koU (zod σ (zbk σ xa)) ((zst σ (zbk σ xa)).2.2) (zwk σ) (zn σ)) 0 99 (emp, mbr σ, 0)))) 1) = _
      have hn : zwk σ ≠ some (zn σ) := fun e => absurd (hc.2.2.2.2.1 _ e) (Nat.lt_irrefl _)
      rw [m_th, m_nw (S := R0) rfl hc.2.2.2.2.1, m_sh, m_tXn (σ := sSh (sNw σ 0 R0) xb (zn σ)) (S := ckS (zod σ (zbk σ xa)) (zst σ (zbk σ xa)).2.2) koX_ck ((koX_b hn).trans (show mbr σ = mbr (sNw σ 0 R0) from (mbr_nw hc.2.2.2.2.1).symm)) hn, sSt_nw, m_i1, w4]
    · unfold jR_keysOf kR_keysOf
      rw [if_pos hA]
      exact (congrArg (fun g => cntP g 0 99) koX_ck).trans RI_ck.1.symm
  · rw [show cS_keysOf σ xb xa = σ from if_neg (fun z => hA z.1)]
    refine ⟨hf, 1, ?_, Or.inr (Or.inl ⟨hA, rfl⟩)⟩
    unfold jS_keysOf
    rw [if_neg hA]
    rfl
set_option maxHeartbeats 40000 in
theorem T_lay {B : Int} {σ : CS} {t : Int} {xb xf xs xn xw : Int} (hc : CI B σ) (hf : FI σ) : TE (cS_lay σ xb xf xs xn xw) (jS_lay (mof σ t) xb xf xs xn xw) ((0 ≤ xb ∧ xb ≤ 2)) ((0 ≤ xf ∧ xf ≤ 99) ∧ (0 ≤ xs ∧ xs ≤ 99) ∧ (0 ≤ xn ∧ xn ≤ 100)) 2 (jR_lay (mof σ t) xb xf xs xn xw) (kR_lay σ xb xf xs xn xw) := by
  have hr := hc.2.2.2.2.2.2.2.2.2.2.1
  have hb : ∀ i, RI B (zst σ (zbk σ i)) := fun i => hr _ (hc.2.1 i)
  have hs : ∀ i, RI B (zst σ (zsh σ i)) := fun i => hr _ (hc.2.2.1 i)
  have hv : ∀ i, RI B (zst σ (zvw σ i)) := fun i => hr _ (hc.2.2.2.1 i)
  have kb : ∀ i, zwk σ = some (zbk σ i) → zwc σ ≤ (zst σ (zbk σ i)).2.1 := fun i e => (hf.2.2.2.2.2.2 _ e).1
  have kv : ∀ i, zwk σ = some (zvw σ i) → zwc σ ≤ (zst σ (zvw σ i)).2.1 := fun i e => (hf.2.2.2.2.2.2 _ e).1
  have ks : ∀ i, zwk σ = some (zsh σ i) → zwc σ ≤ (zst σ (zsh σ i)).2.1 := fun i e => (hf.2.2.2.2.2.2 _ e).1
  have nb := hf.2.2.2.1
  have nv := hf.2.2.2.2.1
  have fb := hf.1
  have fs := hf.2.2.1
  by_cases hA : (0 ≤ xb ∧ xb ≤ 2)
  · skip
    by_cases hB : (0 ≤ xf ∧ xf ≤ 99) ∧ (0 ≤ xs ∧ xs ≤ 99) ∧ (0 ≤ xn ∧ xn ≤ 100)
    · skip
      rw [show cS_lay σ xb xf xs xn xw = kS_lay σ xb xf xs xn xw from if_pos ⟨hA, hB⟩]
      refine ⟨?_, 0, ?_, Or.inl ⟨hA, hB, rfl, ?_⟩⟩
      · unfold kS_lay
        split
        · exact FI_sw hf (FB_kst (by omega) (fs xb))
        · exact FI_sw hf (FB_rst (by omega) (fs xb))
      · unfold jS_lay kS_lay
        rw [if_pos hA, if_pos hB]
        show (tDi (tX (tTh (mof σ t) 0) (zsh σ xb) ((itrP (laU (zwk σ) (zsh σ xb) (zod σ (zsh σ xb)) xf xs xw) 0 (xn - 1) ((zst σ (zsh σ xb)).2.2, mbr σ, 0)))) 1) = _
        by_cases w : xw = 0
        · subst w
          rw [if_neg (fun z => z rfl)]
          exact m_tXs (TR_g (B := B) (B' := B + 100) (hs xb) (RI_rst (by omega) (hs xb)) DG_rst (XG_la) laX_rst).1 (ks xb)
        · rw [if_pos w]
          exact m_tXs (TR_c (B := B) (B' := B + 100) (hs xb) (RI_kst (by omega) (hs xb)) DC_kst (XC_la w) (laX_kst w)).1 (ks xb)
      · unfold jR_lay kR_lay
        rw [if_pos ⟨hA, hB⟩]
        by_cases w : xw = 0
        · subst w
          rw [if_neg (fun z => z rfl)]
          exact (TR_g (B := B) (B' := B + 100) (hs xb) (RI_rst (by omega) (hs xb)) DG_rst (XG_la (k := zwk σ) (i := zsh σ xb) (x := ((zst σ (zsh σ xb)).2.2, mbr σ, 0))) laX_rst).2
        · rw [if_pos w]
          exact (TR_c (B := B) (B' := B + 100) (hs xb) (RI_kst (by omega) (hs xb)) DC_kst (XC_la (k := zwk σ) (i := zsh σ xb) (x := ((zst σ (zsh σ xb)).2.2, mbr σ, 0)) w) (laX_kst w)).2
    · rw [show cS_lay σ xb xf xs xn xw = σ from if_neg (fun z => hB z.2)]
      refine ⟨hf, 2, ?_, Or.inr (Or.inr ⟨hA, hB, rfl⟩)⟩
      unfold jS_lay
      rw [if_pos hA, if_neg hB]
      rfl
  · rw [show cS_lay σ xb xf xs xn xw = σ from if_neg (fun z => hA z.1)]
    refine ⟨hf, 1, ?_, Or.inr (Or.inl ⟨hA, rfl⟩)⟩
    unfold jS_lay
    rw [if_neg hA]
    rfl
set_option maxHeartbeats 40000 in
theorem T_shelfBoth {B : Int} {σ : CS} {t : Int} {xb xc xt : Int} (hc : CI B σ) (hf : FI σ) : TE (cS_shelfBoth σ xb xc xt) (jS_shelfBoth (mof σ t) xb xc xt) ((0 ≤ xb ∧ xb ≤ 2) ∧ (0 ≤ xc ∧ xc ≤ 2)) ((0 ≤ xt ∧ xt ≤ 2)) 2 (jR_shelfBoth (mof σ t) xb xc xt) (kR_shelfBoth σ xb xc xt) := by
  have hr := hc.2.2.2.2.2.2.2.2.2.2.1
  have hb : ∀ i, RI B (zst σ (zbk σ i)) := fun i => hr _ (hc.2.1 i)
  have hs : ∀ i, RI B (zst σ (zsh σ i)) := fun i => hr _ (hc.2.2.1 i)
  have hv : ∀ i, RI B (zst σ (zvw σ i)) := fun i => hr _ (hc.2.2.2.1 i)
  have kb : ∀ i, zwk σ = some (zbk σ i) → zwc σ ≤ (zst σ (zbk σ i)).2.1 := fun i e => (hf.2.2.2.2.2.2 _ e).1
  have kv : ∀ i, zwk σ = some (zvw σ i) → zwc σ ≤ (zst σ (zvw σ i)).2.1 := fun i e => (hf.2.2.2.2.2.2 _ e).1
  have ks : ∀ i, zwk σ = some (zsh σ i) → zwc σ ≤ (zst σ (zsh σ i)).2.1 := fun i e => (hf.2.2.2.2.2.2 _ e).1
  have nb := hf.2.2.2.1
  have nv := hf.2.2.2.2.1
  have fb := hf.1
  have fs := hf.2.2.1
  by_cases hA : (0 ≤ xb ∧ xb ≤ 2) ∧ (0 ≤ xc ∧ xc ≤ 2)
  · skip
    by_cases hB : (0 ≤ xt ∧ xt ≤ 2)
    · skip
      rw [show cS_shelfBoth σ xb xc xt = kS_shelfBoth σ xb xc xt from if_pos ⟨hA, hB⟩]
      refine ⟨?_, 0, ?_, Or.inl ⟨hA, hB, rfl, ?_⟩⟩
      · unfold kS_shelfBoth
        split
        · exact hf
        · split
          · exact FI_sw hf (FB_add (fs xc) (fs xb))
          · exact FI_sw hf (FB_ret (by omega) (fs xb))
      · unfold jS_shelfBoth kS_shelfBoth
        rw [if_pos hA, if_pos hB]
        show (if xb = xc then tDi (tTh (mof σ t) 0) 2 else tDi (tX (tTh (mof σ t) 0) (zsh σ xb) ((itrP (sbU (zwk σ) (zsh σ xb) (zod σ (zsh σ xb)) (zod σ (zsh σ xc)) ((zst σ (zsh σ xc)).2.2) xt) 0 99 ((zst σ (zsh σ xb)).2.2, mbr σ, 0)))) 1) = _
        by_cases e : xb = xc
        · rw [if_pos e, if_pos e, m_th, m_i2]
        · rw [if_neg e, if_neg e]
          by_cases w : xt = 0
          · subst w
            rw [if_pos rfl]
            exact m_tXs (TR_c (B := B) (B' := B + 100) (hs xb) (RI_add (by omega) (hs xb)) DC_add (XC_sb) (sbX_0 (fun r => (fs xc r).2) (fun r => (fs xc r).1))).1 (ks xb)
          · rw [if_neg w]
            exact m_tXs (TR_g (B := B) (B' := B + 100) (hs xb) (RI_ret (hs xb)) DG_ret (XG_sb w) (sbX_1 w)).1 (ks xb)
      · unfold jR_shelfBoth kR_shelfBoth
        rw [if_pos ⟨hA, hB⟩]
        by_cases e : xb = xc
        · rw [if_pos e, if_pos e]
        · rw [if_neg e, if_neg e]
          by_cases w : xt = 0
          · subst w
            rw [if_pos rfl]
            exact (TR_c (B := B) (B' := B + 100) (hs xb) (RI_add (by omega) (hs xb)) DC_add (XC_sb (k := zwk σ) (i := zsh σ xb) (x := ((zst σ (zsh σ xb)).2.2, mbr σ, 0))) (sbX_0 (fun r => (fs xc r).2) (fun r => (fs xc r).1))).2
          · rw [if_neg w]
            exact (TR_g (B := B) (B' := B + 100) (hs xb) (RI_ret (hs xb)) DG_ret (XG_sb (k := zwk σ) (i := zsh σ xb) (x := ((zst σ (zsh σ xb)).2.2, mbr σ, 0)) w) (sbX_1 w)).2
    · rw [show cS_shelfBoth σ xb xc xt = σ from if_neg (fun z => hB z.2)]
      refine ⟨hf, 2, ?_, Or.inr (Or.inr ⟨hA, hB, rfl⟩)⟩
      unfold jS_shelfBoth
      rw [if_pos hA, if_neg hB]
      rfl
  · rw [show cS_shelfBoth σ xb xc xt = σ from if_neg (fun z => hA z.1)]
    refine ⟨hf, 1, ?_, Or.inr (Or.inl ⟨hA, rfl⟩)⟩
    unfold jS_shelfBoth
    rw [if_neg hA]
    rfl
set_option maxHeartbeats 40000 in
theorem T_shelfDrop {B : Int} {σ : CS} {t : Int} {xb xt : Int} (hc : CI B σ) (hf : FI σ) : TE (cS_shelfDrop σ xb xt) (jS_shelfDrop (mof σ t) xb xt) ((0 ≤ xb ∧ xb ≤ 2)) ((0 ≤ xt ∧ xt ≤ 2)) 2 (jR_shelfDrop (mof σ t) xb xt) (kR_shelfDrop σ xb xt) := by
  have hr := hc.2.2.2.2.2.2.2.2.2.2.1
  have hb : ∀ i, RI B (zst σ (zbk σ i)) := fun i => hr _ (hc.2.1 i)
  have hs : ∀ i, RI B (zst σ (zsh σ i)) := fun i => hr _ (hc.2.2.1 i)
  have hv : ∀ i, RI B (zst σ (zvw σ i)) := fun i => hr _ (hc.2.2.2.1 i)
  have kb : ∀ i, zwk σ = some (zbk σ i) → zwc σ ≤ (zst σ (zbk σ i)).2.1 := fun i e => (hf.2.2.2.2.2.2 _ e).1
  have kv : ∀ i, zwk σ = some (zvw σ i) → zwc σ ≤ (zst σ (zvw σ i)).2.1 := fun i e => (hf.2.2.2.2.2.2 _ e).1
  have ks : ∀ i, zwk σ = some (zsh σ i) → zwc σ ≤ (zst σ (zsh σ i)).2.1 := fun i e => (hf.2.2.2.2.2.2 _ e).1
  have nb := hf.2.2.2.1
  have nv := hf.2.2.2.2.1
  have fb := hf.1
  have fs := hf.2.2.1
  by_cases hA : (0 ≤ xb ∧ xb ≤ 2)
  · skip
    by_cases hB : (0 ≤ xt ∧ xt ≤ 2)
    · skip
      rw [show cS_shelfDrop σ xb xt = kS_shelfDrop σ xb xt from if_pos ⟨hA, hB⟩]
      refine ⟨?_, 0, ?_, Or.inl ⟨hA, hB, rfl, ?_⟩⟩
      · unfold kS_shelfDrop
        split
        · exact FI_sw hf (FB_clr (by omega) (fs xb))
        · exact FI_sw hf (FB_go (fs xb) (by omega))
      · unfold jS_shelfDrop kS_shelfDrop
        rw [if_pos hA, if_pos hB]
        show (tDi (dpS (tTh (mof σ t) 0) (zsh σ xb) xt 0 99) 1) = _
        rw [m_th, m_dp (B := B) hB (by omega) (by omega) (hs xb) (ks xb), fgt_ne (fun e => hf.2.2.2.2.2.1 _ xb e rfl), m_i1, w5]
        unfold drpS
        by_cases q : xt = 2
        · rw [if_pos q, if_pos q]
        · rw [if_neg q, if_neg q]
      · unfold jR_shelfDrop kR_shelfDrop
        rw [if_pos ⟨hA, hB⟩]
        rw [m_th]
        show (if xt = 2 then dpR (mof σ 0) (zsh σ xb) xt 0 99 else k100 (dpR (mof σ 0) (zsh σ xb) xt 0 99)) = _
        rw [m_dpR (B := B) hB (by omega) (by omega) (hs xb)]
        unfold drpR
        by_cases q : xt = 2
        · rw [if_pos q, if_pos q, if_pos q]
        · rw [if_neg q, if_neg q, if_neg q]
          exact k100_e (fs xb) (endP_i _ _ _ _)
    · rw [show cS_shelfDrop σ xb xt = σ from if_neg (fun z => hB z.2)]
      refine ⟨hf, 2, ?_, Or.inr (Or.inr ⟨hA, hB, rfl⟩)⟩
      unfold jS_shelfDrop
      rw [if_pos hA, if_neg hB]
      rfl
  · rw [show cS_shelfDrop σ xb xt = σ from if_neg (fun z => hA z.1)]
    refine ⟨hf, 1, ?_, Or.inr (Or.inl ⟨hA, rfl⟩)⟩
    unfold jS_shelfDrop
    rw [if_neg hA]
    rfl
set_option maxHeartbeats 40000 in
theorem T_shelfCut {B : Int} {σ : CS} {t : Int} {xb xlow xhigh xt xc : Int} (hc : CI B σ) (hf : FI σ) : TE (cS_shelfCut σ xb xlow xhigh xt xc) (jS_shelfCut (mof σ t) xb xlow xhigh xt xc) ((0 ≤ xb ∧ xb ≤ 2) ∧ (0 ≤ xc ∧ xc ≤ 2)) ((0 ≤ xlow ∧ xlow ≤ 99) ∧ (0 ≤ xhigh ∧ xhigh ≤ 99) ∧ (0 ≤ xt ∧ xt ≤ 4)) 2 (jR_shelfCut (mof σ t) xb xlow xhigh xt xc) (kR_shelfCut σ xb xlow xhigh xt xc) := by
  have hr := hc.2.2.2.2.2.2.2.2.2.2.1
  have hb : ∀ i, RI B (zst σ (zbk σ i)) := fun i => hr _ (hc.2.1 i)
  have hs : ∀ i, RI B (zst σ (zsh σ i)) := fun i => hr _ (hc.2.2.1 i)
  have hv : ∀ i, RI B (zst σ (zvw σ i)) := fun i => hr _ (hc.2.2.2.1 i)
  have kb : ∀ i, zwk σ = some (zbk σ i) → zwc σ ≤ (zst σ (zbk σ i)).2.1 := fun i e => (hf.2.2.2.2.2.2 _ e).1
  have kv : ∀ i, zwk σ = some (zvw σ i) → zwc σ ≤ (zst σ (zvw σ i)).2.1 := fun i e => (hf.2.2.2.2.2.2 _ e).1
  have ks : ∀ i, zwk σ = some (zsh σ i) → zwc σ ≤ (zst σ (zsh σ i)).2.1 := fun i e => (hf.2.2.2.2.2.2 _ e).1
  have nb := hf.2.2.2.1
  have nv := hf.2.2.2.2.1
  have fb := hf.1
  have fs := hf.2.2.1
  by_cases hA : (0 ≤ xb ∧ xb ≤ 2) ∧ (0 ≤ xc ∧ xc ≤ 2)
  · skip
    by_cases hB : (0 ≤ xlow ∧ xlow ≤ 99) ∧ (0 ≤ xhigh ∧ xhigh ≤ 99) ∧ (0 ≤ xt ∧ xt ≤ 4)
    · skip
      have tl := turn_b (o := zod σ (zsh σ xb)) (n := xlow) hB.1
      have th := turn_b (o := zod σ (zsh σ xb)) (n := xhigh) hB.2.1
      rw [show cS_shelfCut σ xb xlow xhigh xt xc = kS_shelfCut σ xb xlow xhigh xt xc from if_pos ⟨hA, hB⟩]
      refine ⟨?_, 0, ?_, Or.inl ⟨hA, hB, rfl, ?_⟩⟩
      · unfold kS_shelfCut nS_shelfCut
        split
        · exact hf
        · split
          · exact hf
          · split
            · exact FI_sw hf (FB_clr (by omega) (fs xb))
            · split
              · exact FI_ns (σ := inc1 σ) hf hc (hf.2.1 _) (FB_add (fs xb) (FB_R0 (by omega)))
              · exact FI_sw hf (FB_go (fs xb) (by omega))
      · unfold jS_shelfCut kS_shelfCut
        rw [if_pos hA, if_pos hB]
        show (if turn (zod σ (zsh σ xb)) xhigh < turn (zod σ (zsh σ xb)) xlow then tDi (tTh (mof σ t) 0) 2 else if xt = 0 then tTh (mof σ t) 0 else if xt = 4 then tDi (tSh (tNw (tTh (mof σ t) 0) (zod σ (zsh σ xb)) (mlk (zod σ (zsh σ xb)) (zod σ (zsh σ xb)) ((zst σ (zsh σ xb)).2.2) (turn (zod σ (zsh σ xb)) xlow) (turn (zod σ (zsh σ xb)) xhigh - 1) emp)) xc (zn σ)) 1 else tDi (dpS (tTh (mof σ t) 0) (zsh σ xb) (if xt = 1 then 2 else xt - 2) (turn (zod σ (zsh σ xb)) xlow) (turn (zod σ (zsh σ xb)) xhigh - 1)) 1) = _
        by_cases q : turn (zod σ (zsh σ xb)) xhigh < turn (zod σ (zsh σ xb)) xlow
        · rw [if_pos q, if_pos q, m_th, m_i2]
        · rw [if_neg q, if_neg q]
          by_cases q0 : xt = 0
          · rw [if_pos q0, if_pos q0]
            rfl
          · rw [if_neg q0, if_neg q0]
            by_cases q4 : xt = 4
            · rw [if_pos q4, if_neg (by omega), if_pos q4, m_th, m_nw (S := nS_shelfCut σ xb xlow xhigh) (by unfold nS_shelfCut; exact mlk_add tl.1 (by omega)) hc.2.2.2.2.1, m_sh, m_i1, w4]
            · rw [if_neg q4, m_th, m_dp (B := B) (by split <;> omega) tl.1 (by omega) (hs xb) (ks xb), fgt_ne (fun e => hf.2.2.2.2.2.1 _ xb e rfl), m_i1, w5]
              unfold drpS
              by_cases q1 : xt = 1
              · rw [if_pos q1, if_pos q1, if_pos rfl]
              · rw [if_neg q1, if_neg q1, if_neg q4, if_neg (by omega)]
                have e : (if xt - 2 = 1 then 1 else 0 : Int) = if xt = 3 then 1 else 0 := by split <;> split <;> omega
                rw [e]
      · unfold jR_shelfCut kR_shelfCut
        rw [if_pos ⟨hA, hB⟩]
        show (if turn (zod σ (zsh σ xb)) xhigh < turn (zod σ (zsh σ xb)) xlow then -9 else if xt = 0 ∨ xt = 1 ∨ xt = 4 then cntP (zst σ (zsh σ xb)).2.2 (turn (zod σ (zsh σ xb)) xlow) (turn (zod σ (zsh σ xb)) xhigh - 1) else k100 (dpR (mof σ 0) (zsh σ xb) (xt - 2) (turn (zod σ (zsh σ xb)) xlow) (turn (zod σ (zsh σ xb)) xhigh - 1))) = _
        by_cases q : turn (zod σ (zsh σ xb)) xhigh < turn (zod σ (zsh σ xb)) xlow
        · rw [if_pos q, if_pos q]
        · rw [if_neg q, if_neg q]
          by_cases q0 : xt = 0
          · rw [if_pos (Or.inl q0), if_pos q0]
          · rw [if_neg q0]
            by_cases q1 : xt = 1
            · rw [if_pos (Or.inr (Or.inl q1)), if_pos q1]
              have r1 := (hs xb).1
              have r2 := (RI_clr (lo := turn (zod σ (zsh σ xb)) xlow) (hi := turn (zod σ (zsh σ xb)) xhigh - 1) (by omega) (hs xb)).1
              have r3 := cnt_clr (f := (zst σ (zsh σ xb)).2.2) (lo := turn (zod σ (zsh σ xb)) xlow) (hi := turn (zod σ (zsh σ xb)) xhigh - 1) tl.1 (by omega) (g := (clrS (turn (zod σ (zsh σ xb)) xlow) (turn (zod σ (zsh σ xb)) xhigh - 1) (zst σ (zsh σ xb))).2.2) (fun t9 => clrS_f (S := zst σ (zsh σ xb)) tl.1 (by omega) t9)
              omega
            · rw [if_neg q1]
              by_cases q4 : xt = 4
              · rw [if_pos (Or.inr (Or.inr q4)), if_pos q4]
                unfold nS_shelfCut
                exact (cnt_add (o := zod σ (zsh σ xb)) (lo := turn (zod σ (zsh σ xb)) xlow) (hi := turn (zod σ (zsh σ xb)) xhigh - 1) (f := (zst σ (zsh σ xb)).2.2) tl.1 (by omega)).symm.trans (RI_add (B := 0) (by omega) RI_R0).1.symm
              · rw [if_neg (by omega), if_neg q4, m_dpR (B := B) (by omega) tl.1 (by omega) (hs xb)]
                unfold drpR
                rw [if_neg (by omega)]
                have e : (if xt - 2 = 1 then 1 else 0 : Int) = if xt = 3 then 1 else 0 := by split <;> split <;> omega
                rw [e]
                exact k100_e (fs xb) (endP_i _ _ _ _)
    · rw [show cS_shelfCut σ xb xlow xhigh xt xc = σ from if_neg (fun z => hB z.2)]
      refine ⟨hf, 2, ?_, Or.inr (Or.inr ⟨hA, hB, rfl⟩)⟩
      unfold jS_shelfCut
      rw [if_pos hA, if_neg hB]
      rfl
  · rw [show cS_shelfCut σ xb xlow xhigh xt xc = σ from if_neg (fun z => hA z.1)]
    refine ⟨hf, 1, ?_, Or.inr (Or.inl ⟨hA, rfl⟩)⟩
    unfold jS_shelfCut
    rw [if_neg hA]
    rfl
set_option maxHeartbeats 40000 in
theorem T_shelfNear {B : Int} {σ : CS} {t : Int} {xb xk xt : Int} (hc : CI B σ) (hf : FI σ) : TE (cS_shelfNear σ xb xk xt) (jS_shelfNear (mof σ t) xb xk xt) ((0 ≤ xb ∧ xb ≤ 2)) ((0 ≤ xk ∧ xk ≤ 99) ∧ (0 ≤ xt ∧ xt ≤ 4)) 2 (jR_shelfNear (mof σ t) xb xk xt) (kR_shelfNear σ xb xk xt) := by
  have hr := hc.2.2.2.2.2.2.2.2.2.2.1
  have hb : ∀ i, RI B (zst σ (zbk σ i)) := fun i => hr _ (hc.2.1 i)
  have hs : ∀ i, RI B (zst σ (zsh σ i)) := fun i => hr _ (hc.2.2.1 i)
  have hv : ∀ i, RI B (zst σ (zvw σ i)) := fun i => hr _ (hc.2.2.2.1 i)
  have kb : ∀ i, zwk σ = some (zbk σ i) → zwc σ ≤ (zst σ (zbk σ i)).2.1 := fun i e => (hf.2.2.2.2.2.2 _ e).1
  have kv : ∀ i, zwk σ = some (zvw σ i) → zwc σ ≤ (zst σ (zvw σ i)).2.1 := fun i e => (hf.2.2.2.2.2.2 _ e).1
  have ks : ∀ i, zwk σ = some (zsh σ i) → zwc σ ≤ (zst σ (zsh σ i)).2.1 := fun i e => (hf.2.2.2.2.2.2 _ e).1
  have nb := hf.2.2.2.1
  have nv := hf.2.2.2.2.1
  have fb := hf.1
  have fs := hf.2.2.1
  by_cases hA : (0 ≤ xb ∧ xb ≤ 2)
  · skip
    by_cases hB : (0 ≤ xk ∧ xk ≤ 99) ∧ (0 ≤ xt ∧ xt ≤ 4)
    · skip
      rw [show cS_shelfNear σ xb xk xt = kS_shelfNear σ xb xk xt from if_pos ⟨hA, hB⟩]
      refine ⟨?_, 0, ?_, Or.inl ⟨hA, hB, rfl, ?_⟩⟩
      · unfold kS_shelfNear
        exact hf
      · unfold jS_shelfNear kS_shelfNear
        rw [if_pos hA, if_pos hB]
        rfl
      · unfold jR_shelfNear kR_shelfNear
        rw [if_pos ⟨hA, hB⟩]
        rfl
    · rw [show cS_shelfNear σ xb xk xt = σ from if_neg (fun z => hB z.2)]
      refine ⟨hf, 2, ?_, Or.inr (Or.inr ⟨hA, hB, rfl⟩)⟩
      unfold jS_shelfNear
      rw [if_pos hA, if_neg hB]
      rfl
  · rw [show cS_shelfNear σ xb xk xt = σ from if_neg (fun z => hA z.1)]
    refine ⟨hf, 1, ?_, Or.inr (Or.inl ⟨hA, rfl⟩)⟩
    unfold jS_shelfNear
    rw [if_neg hA]
    rfl
set_option maxHeartbeats 40000 in
theorem T_shelfTell {B : Int} {σ : CS} {t : Int} {xb xt : Int} (hc : CI B σ) (hf : FI σ) : TE (cS_shelfTell σ xb xt) (jS_shelfTell (mof σ t) xb xt) ((0 ≤ xb ∧ xb ≤ 2)) ((0 ≤ xt ∧ xt ≤ 4)) 2 (jR_shelfTell (mof σ t) xb xt) (kR_shelfTell σ xb xt) := by
  have hr := hc.2.2.2.2.2.2.2.2.2.2.1
  have hb : ∀ i, RI B (zst σ (zbk σ i)) := fun i => hr _ (hc.2.1 i)
  have hs : ∀ i, RI B (zst σ (zsh σ i)) := fun i => hr _ (hc.2.2.1 i)
  have hv : ∀ i, RI B (zst σ (zvw σ i)) := fun i => hr _ (hc.2.2.2.1 i)
  have kb : ∀ i, zwk σ = some (zbk σ i) → zwc σ ≤ (zst σ (zbk σ i)).2.1 := fun i e => (hf.2.2.2.2.2.2 _ e).1
  have kv : ∀ i, zwk σ = some (zvw σ i) → zwc σ ≤ (zst σ (zvw σ i)).2.1 := fun i e => (hf.2.2.2.2.2.2 _ e).1
  have ks : ∀ i, zwk σ = some (zsh σ i) → zwc σ ≤ (zst σ (zsh σ i)).2.1 := fun i e => (hf.2.2.2.2.2.2 _ e).1
  have nb := hf.2.2.2.1
  have nv := hf.2.2.2.2.1
  have fb := hf.1
  have fs := hf.2.2.1
  by_cases hA : (0 ≤ xb ∧ xb ≤ 2)
  · skip
    by_cases hB : (0 ≤ xt ∧ xt ≤ 4)
    · skip
      rw [show cS_shelfTell σ xb xt = kS_shelfTell σ xb xt from if_pos ⟨hA, hB⟩]
      refine ⟨?_, 0, ?_, Or.inl ⟨hA, hB, rfl, ?_⟩⟩
      · unfold kS_shelfTell
        split
        · exact hf
        · exact FI_kor hf
      · unfold jS_shelfTell kS_shelfTell
        rw [if_pos hA, if_pos hB]
        show (if 3 ≤ xt ∧ endP ((zst σ (zsh σ xb)).2.2) 0 99 (if xt = 3 then 0 else 1) = -1 then tDi (tTh (mof σ t) 0) 2 else (tTh (mof σ t) 0)) = _
        by_cases q : xt ≤ 2
        · rw [if_pos q, if_neg (fun z => by omega)]
          rfl
        · rw [if_neg q]
          have e : (if xt = 3 then 0 else 1 : Int) = if xt = 4 then 1 else 0 := by split <;> split <;> omega
          rw [e]
          unfold kor
          by_cases z : endP (zst σ (zsh σ xb)).2.2 0 99 (if xt = 4 then 1 else 0) = -1
          · rw [if_pos ⟨by omega, z⟩, if_pos z, m_th, m_i2]
          · rw [if_neg (fun w => z w.2), if_neg z]
            rfl
      · unfold jR_shelfTell kR_shelfTell
        rw [if_pos ⟨hA, hB⟩]
        show (if xt = 0 then cntP (zst σ (zsh σ xb)).2.2 0 99 else if xt = 1 then zod σ (zsh σ xb) else if xt = 2 then sumM (zod σ (zsh σ xb)) (zst σ (zsh σ xb)).2.2 else if endP (zst σ (zsh σ xb)).2.2 0 99 (if xt = 3 then 0 else 1) = -1 then -9 else keyR (zod σ (zsh σ xb)) (endP (zst σ (zsh σ xb)).2.2 0 99 (if xt = 3 then 0 else 1))) = _
        rw [← (hs xb).1, sumM_e]
        by_cases q : xt ≤ 2
        · rw [if_pos q]
          unfold sfact
          rcases (show xt = 0 ∨ xt = 1 ∨ xt = 2 by omega) with rfl | rfl | rfl <;> rfl
        · rw [if_neg q, if_neg (by omega), if_neg (by omega), if_neg (by omega)]
          have e : (if xt = 3 then 0 else 1 : Int) = if xt = 4 then 1 else 0 := by split <;> split <;> omega
          rw [e]
          rfl
    · rw [show cS_shelfTell σ xb xt = σ from if_neg (fun z => hB z.2)]
      refine ⟨hf, 2, ?_, Or.inr (Or.inr ⟨hA, hB, rfl⟩)⟩
      unfold jS_shelfTell
      rw [if_pos hA, if_neg hB]
      rfl
  · rw [show cS_shelfTell σ xb xt = σ from if_neg (fun z => hA z.1)]
    refine ⟨hf, 1, ?_, Or.inr (Or.inl ⟨hA, rfl⟩)⟩
    unfold jS_shelfTell
    rw [if_neg hA]
    rfl
set_option maxHeartbeats 40000 in
theorem T_sameShelves {B : Int} {σ : CS} {t : Int} {xb xc xt : Int} (hc : CI B σ) (hf : FI σ) : TE (cS_sameShelves σ xb xc xt) (jS_sameShelves (mof σ t) xb xc xt) ((0 ≤ xb ∧ xb ≤ 2) ∧ (0 ≤ xc ∧ xc ≤ 2)) ((0 ≤ xt ∧ xt ≤ 1)) 2 (jR_sameShelves (mof σ t) xb xc xt) (kR_sameShelves σ xb xc xt) := by
  have hr := hc.2.2.2.2.2.2.2.2.2.2.1
  have hb : ∀ i, RI B (zst σ (zbk σ i)) := fun i => hr _ (hc.2.1 i)
  have hs : ∀ i, RI B (zst σ (zsh σ i)) := fun i => hr _ (hc.2.2.1 i)
  have hv : ∀ i, RI B (zst σ (zvw σ i)) := fun i => hr _ (hc.2.2.2.1 i)
  have kb : ∀ i, zwk σ = some (zbk σ i) → zwc σ ≤ (zst σ (zbk σ i)).2.1 := fun i e => (hf.2.2.2.2.2.2 _ e).1
  have kv : ∀ i, zwk σ = some (zvw σ i) → zwc σ ≤ (zst σ (zvw σ i)).2.1 := fun i e => (hf.2.2.2.2.2.2 _ e).1
  have ks : ∀ i, zwk σ = some (zsh σ i) → zwc σ ≤ (zst σ (zsh σ i)).2.1 := fun i e => (hf.2.2.2.2.2.2 _ e).1
  have nb := hf.2.2.2.1
  have nv := hf.2.2.2.2.1
  have fb := hf.1
  have fs := hf.2.2.1
  by_cases hA : (0 ≤ xb ∧ xb ≤ 2) ∧ (0 ≤ xc ∧ xc ≤ 2)
  · skip
    by_cases hB : (0 ≤ xt ∧ xt ≤ 1)
    · skip
      rw [show cS_sameShelves σ xb xc xt = kS_sameShelves σ xb xc xt from if_pos ⟨hA, hB⟩]
      refine ⟨?_, 0, ?_, Or.inl ⟨hA, hB, rfl, ?_⟩⟩
      · unfold kS_sameShelves
        exact hf
      · unfold jS_sameShelves kS_sameShelves
        rw [if_pos hA, if_pos hB]
        rfl
      · unfold jR_sameShelves kR_sameShelves
        rw [if_pos ⟨hA, hB⟩]
        by_cases q : xt = 0
        · subst q
          rw [if_pos rfl]
          exact ss0_e (fs xb) (fs xc)
        · rw [if_neg q, show xt = 1 by omega]
          exact ss1_e
    · rw [show cS_sameShelves σ xb xc xt = σ from if_neg (fun z => hB z.2)]
      refine ⟨hf, 2, ?_, Or.inr (Or.inr ⟨hA, hB, rfl⟩)⟩
      unfold jS_sameShelves
      rw [if_pos hA, if_neg hB]
      rfl
  · rw [show cS_sameShelves σ xb xc xt = σ from if_neg (fun z => hA z.1)]
    refine ⟨hf, 1, ?_, Or.inr (Or.inl ⟨hA, rfl⟩)⟩
    unfold jS_sameShelves
    rw [if_neg hA]
    rfl
set_option maxHeartbeats 40000 in
theorem T_house {B : Int} {σ : CS} {t : Int} {xt : Int} (hc : CI B σ) (hf : FI σ) : TE (cS_house σ xt) (jS_house (mof σ t) xt) (True) ((0 ≤ xt ∧ xt ≤ 3)) 1 (jR_house (mof σ t) xt) (kR_house σ xt) := by
  have hr := hc.2.2.2.2.2.2.2.2.2.2.1
  have hb : ∀ i, RI B (zst σ (zbk σ i)) := fun i => hr _ (hc.2.1 i)
  have hs : ∀ i, RI B (zst σ (zsh σ i)) := fun i => hr _ (hc.2.2.1 i)
  have hv : ∀ i, RI B (zst σ (zvw σ i)) := fun i => hr _ (hc.2.2.2.1 i)
  have kb : ∀ i, zwk σ = some (zbk σ i) → zwc σ ≤ (zst σ (zbk σ i)).2.1 := fun i e => (hf.2.2.2.2.2.2 _ e).1
  have kv : ∀ i, zwk σ = some (zvw σ i) → zwc σ ≤ (zst σ (zvw σ i)).2.1 := fun i e => (hf.2.2.2.2.2.2 _ e).1
  have ks : ∀ i, zwk σ = some (zsh σ i) → zwc σ ≤ (zst σ (zsh σ i)).2.1 := fun i e => (hf.2.2.2.2.2.2 _ e).1
  have nb := hf.2.2.2.1
  have nv := hf.2.2.2.2.1
  have fb := hf.1
  have fs := hf.2.2.1
  have hA : True := trivial
  by_cases hB : (0 ≤ xt ∧ xt ≤ 3)
  · skip
    rw [show cS_house σ xt = kS_house σ xt from if_pos ⟨hA, hB⟩]
    refine ⟨?_, 0, ?_, Or.inl ⟨hA, hB, rfl, ?_⟩⟩
    · unfold kS_house
      exact hf
    · unfold jS_house kS_house
      rw [if_pos hB]
      rfl
    · unfold jR_house kR_house
      rw [if_pos hB]
      show mct σ xt = hfact σ xt
      rcases (show xt = 0 ∨ xt = 1 ∨ xt = 2 ∨ xt = 3 by omega) with rfl | rfl | rfl | rfl <;> rfl
  · rw [show cS_house σ xt = σ from if_neg (fun z => hB z.2)]
    refine ⟨hf, 1, ?_, Or.inr (Or.inr ⟨hA, hB, rfl⟩)⟩
    unfold jS_house
    rw [if_neg hB]
    rfl
set_option maxHeartbeats 40000 in
theorem T_bookText {B : Int} {σ : CS} {t : Int} {xb : Int} (hc : CI B σ) (hf : FI σ) : TE (cS_bookText σ xb) (jS_bookText (mof σ t) xb) ((0 ≤ xb ∧ xb ≤ 3)) (True) 1 (0) (0) := by
  have hr := hc.2.2.2.2.2.2.2.2.2.2.1
  have hb : ∀ i, RI B (zst σ (zbk σ i)) := fun i => hr _ (hc.2.1 i)
  have hs : ∀ i, RI B (zst σ (zsh σ i)) := fun i => hr _ (hc.2.2.1 i)
  have hv : ∀ i, RI B (zst σ (zvw σ i)) := fun i => hr _ (hc.2.2.2.1 i)
  have kb : ∀ i, zwk σ = some (zbk σ i) → zwc σ ≤ (zst σ (zbk σ i)).2.1 := fun i e => (hf.2.2.2.2.2.2 _ e).1
  have kv : ∀ i, zwk σ = some (zvw σ i) → zwc σ ≤ (zst σ (zvw σ i)).2.1 := fun i e => (hf.2.2.2.2.2.2 _ e).1
  have ks : ∀ i, zwk σ = some (zsh σ i) → zwc σ ≤ (zst σ (zsh σ i)).2.1 := fun i e => (hf.2.2.2.2.2.2 _ e).1
  have nb := hf.2.2.2.1
  have nv := hf.2.2.2.2.1
  have fb := hf.1
  have fs := hf.2.2.1
  by_cases hA : (0 ≤ xb ∧ xb ≤ 3)
  · skip
    have hB : True := trivial
    rw [show cS_bookText σ xb = kS_bookText σ xb from if_pos ⟨hA, hB⟩]
    refine ⟨?_, 0, ?_, Or.inl ⟨hA, hB, rfl, ?_⟩⟩
    · unfold kS_bookText
      exact hf
    · unfold jS_bookText kS_bookText
      rw [if_pos hA]
      rfl
    · rfl
  · rw [show cS_bookText σ xb = σ from if_neg (fun z => hA z.1)]
    refine ⟨hf, 1, ?_, Or.inr (Or.inl ⟨hA, rfl⟩)⟩
    unfold jS_bookText
    rw [if_neg hA]
    rfl
