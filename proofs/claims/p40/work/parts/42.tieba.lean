set_option maxHeartbeats 40000 in
theorem T_freshBook {B : Int} {σ : CS} {t : Int} {xb xo : Int} (hc : CI B σ) (hf : FI σ) : TE (cS_freshBook σ xb xo) (jS_freshBook (mof σ t) xb xo) ((0 ≤ xb ∧ xb ≤ 3)) ((0 ≤ xo ∧ xo ≤ 2)) 2 (jR_freshBook (mof σ t) xb xo) (kR_freshBook σ xb xo) := by
  have hr := hc.2.2.2.2.2.2.2.2.2.2.1
  have hb : ∀ i, RI B (zst σ (zbk σ i)) := fun i => hr _ (hc.2.1 i)
  have hs : ∀ i, RI B (zst σ (zsh σ i)) := fun i => hr _ (hc.2.2.1 i)
  have hv : ∀ i, RI B (zst σ (zvw σ i)) := fun i => hr _ (hc.2.2.2.1 i)
  have kb : ∀ i, zwk σ = some (zbk σ i) → zwc σ ≤ (zst σ (zbk σ i)).2.1 := fun i e => (hf.2.2.2.2.2.2 _ e).1
  have kv : ∀ i, zwk σ = some (zvw σ i) → zwc σ ≤ (zst σ (zvw σ i)).2.1 := fun i e => (hf.2.2.2.2.2.2 _ e).1
  have ks : ∀ i, zwk σ = some (zsh σ i) → zwc σ ≤ (zst σ (zsh σ i)).2.1 := fun i e => (hf.2.2.2.2.2.2 _ e).1
  have nb := hf.2.2.2.1
  have nv := hf.2.2.2.2.1
  have fb := hf.1
  have fs := hf.2.2.1
  by_cases hA : (0 ≤ xb ∧ xb ≤ 3)
  · skip
    by_cases hB : (0 ≤ xo ∧ xo ≤ 2)
    · skip
      rw [show cS_freshBook σ xb xo = kS_freshBook σ xb xo from if_pos ⟨hA, hB⟩]
      refine ⟨?_, 0, ?_, Or.inl ⟨hA, hB, rfl, ?_⟩⟩
      · unfold kS_freshBook
        exact FI_nb (σ := inc0 σ) hf hc hB (FB_R0 (by omega))
      · unfold jS_freshBook kS_freshBook
        rw [if_pos hA, if_pos hB]
        show (tDi (tBk (tNw (tTh (mof σ t) 0) xo emp) xb (zn σ)) 0) = _
        rw [m_th, m_nw (S := R0) rfl hc.2.2.2.2.1, m_bk, m_i0, w3]
      · unfold jR_freshBook kR_freshBook
        rw [if_pos ⟨hA, hB⟩]
        exact (hb xb).1.symm
    · rw [show cS_freshBook σ xb xo = σ from if_neg (fun z => hB z.2)]
      refine ⟨hf, 2, ?_, Or.inr (Or.inr ⟨hA, hB, rfl⟩)⟩
      unfold jS_freshBook
      rw [if_pos hA, if_neg hB]
      rfl
  · rw [show cS_freshBook σ xb xo = σ from if_neg (fun z => hA z.1)]
    refine ⟨hf, 1, ?_, Or.inr (Or.inl ⟨hA, rfl⟩)⟩
    unfold jS_freshBook
    rw [if_neg hA]
    rfl
set_option maxHeartbeats 40000 in
theorem T_buildBook {B : Int} {σ : CS} {t : Int} {xb xa xw : Int} (hc : CI B σ) (hf : FI σ) : TE (cS_buildBook σ xb xa xw) (jS_buildBook (mof σ t) xb xa xw) ((0 ≤ xb ∧ xb ≤ 3) ∧ (0 ≤ xa ∧ xa ≤ 3)) ((0 ≤ xw ∧ xw ≤ 6)) 2 (jR_buildBook (mof σ t) xb xa xw) (kR_buildBook σ xb xa xw) := by
  have hr := hc.2.2.2.2.2.2.2.2.2.2.1
  have hb : ∀ i, RI B (zst σ (zbk σ i)) := fun i => hr _ (hc.2.1 i)
  have hs : ∀ i, RI B (zst σ (zsh σ i)) := fun i => hr _ (hc.2.2.1 i)
  have hv : ∀ i, RI B (zst σ (zvw σ i)) := fun i => hr _ (hc.2.2.2.1 i)
  have kb : ∀ i, zwk σ = some (zbk σ i) → zwc σ ≤ (zst σ (zbk σ i)).2.1 := fun i e => (hf.2.2.2.2.2.2 _ e).1
  have kv : ∀ i, zwk σ = some (zvw σ i) → zwc σ ≤ (zst σ (zvw σ i)).2.1 := fun i e => (hf.2.2.2.2.2.2 _ e).1
  have ks : ∀ i, zwk σ = some (zsh σ i) → zwc σ ≤ (zst σ (zsh σ i)).2.1 := fun i e => (hf.2.2.2.2.2.2 _ e).1
  have nb := hf.2.2.2.1
  have nv := hf.2.2.2.2.1
  have fb := hf.1
  have fs := hf.2.2.1
  by_cases hA : (0 ≤ xb ∧ xb ≤ 3) ∧ (0 ≤ xa ∧ xa ≤ 3)
  · skip
    by_cases hB : (0 ≤ xw ∧ xw ≤ 6)
    · skip
      rw [show cS_buildBook σ xb xa xw = kS_buildBook σ xb xa xw from if_pos ⟨hA, hB⟩]
      refine ⟨?_, 0, ?_, Or.inl ⟨hA, hB, rfl, ?_⟩⟩
      · unfold kS_buildBook nS_buildBook
        exact FI_nb (σ := inc0 σ) hf hc (bo_b hB (hf.2.1 _)) (FB_add (fb _) (FB_R0 (by omega)))
      · unfold jS_buildBook kS_buildBook
        rw [if_pos hA, if_pos hB]
        show (tDi (tBk (tNw (tTh (mof σ t) 0) (bo xw (zod σ (zbk σ xa))) (mlk (bo xw (zod σ (zbk σ xa))) (zod σ (zbk σ xa)) ((zst σ (zbk σ xa)).2.2) 0 99 emp)) xb (zn σ)) 0) = _
        rw [m_th, m_nw (S := nS_buildBook σ xb xa xw) (by unfold nS_buildBook; exact mlk_add (by omega) (by omega)) hc.2.2.2.2.1, m_bk, m_i0, w3]
      · unfold jR_buildBook kR_buildBook
        rw [if_pos ⟨hA, hB⟩]
        show cntP (mlk (bo xw (zod σ (zbk σ xa))) (zod σ (zbk σ xa)) (zst σ (zbk σ xa)).2.2 0 99 emp) 0 99 = (nS_buildBook σ xb xa xw).1
        unfold nS_buildBook
        rw [mlk_add (by omega) (by omega)]
        exact (RI_add (by omega) RI_R0).1.symm
    · rw [show cS_buildBook σ xb xa xw = σ from if_neg (fun z => hB z.2)]
      refine ⟨hf, 2, ?_, Or.inr (Or.inr ⟨hA, hB, rfl⟩)⟩
      unfold jS_buildBook
      rw [if_pos hA, if_neg hB]
      rfl
  · rw [show cS_buildBook σ xb xa xw = σ from if_neg (fun z => hA z.1)]
    refine ⟨hf, 1, ?_, Or.inr (Or.inl ⟨hA, rfl⟩)⟩
    unfold jS_buildBook
    rw [if_neg hA]
    rfl
set_option maxHeartbeats 40000 in
theorem T_splitBook {B : Int} {σ : CS} {t : Int} {xb xk xc : Int} (hc : CI B σ) (hf : FI σ) : TE (cS_splitBook σ xb xk xc) (jS_splitBook (mof σ t) xb xk xc) ((0 ≤ xb ∧ xb ≤ 3) ∧ (0 ≤ xc ∧ xc ≤ 3)) ((0 ≤ xk ∧ xk ≤ 99)) 2 (jR_splitBook (mof σ t) xb xk xc) (kR_splitBook σ xb xk xc) := by
  have hr := hc.2.2.2.2.2.2.2.2.2.2.1
  have hb : ∀ i, RI B (zst σ (zbk σ i)) := fun i => hr _ (hc.2.1 i)
  have hs : ∀ i, RI B (zst σ (zsh σ i)) := fun i => hr _ (hc.2.2.1 i)
  have hv : ∀ i, RI B (zst σ (zvw σ i)) := fun i => hr _ (hc.2.2.2.1 i)
  have kb : ∀ i, zwk σ = some (zbk σ i) → zwc σ ≤ (zst σ (zbk σ i)).2.1 := fun i e => (hf.2.2.2.2.2.2 _ e).1
  have kv : ∀ i, zwk σ = some (zvw σ i) → zwc σ ≤ (zst σ (zvw σ i)).2.1 := fun i e => (hf.2.2.2.2.2.2 _ e).1
  have ks : ∀ i, zwk σ = some (zsh σ i) → zwc σ ≤ (zst σ (zsh σ i)).2.1 := fun i e => (hf.2.2.2.2.2.2 _ e).1
  have nb := hf.2.2.2.1
  have nv := hf.2.2.2.2.1
  have fb := hf.1
  have fs := hf.2.2.1
  by_cases hA : (0 ≤ xb ∧ xb ≤ 3) ∧ (0 ≤ xc ∧ xc ≤ 3)
  · skip
    by_cases hB : (0 ≤ xk ∧ xk ≤ 99)
    · skip
      have tb := turn_b (o := zod σ (zbk σ xb)) (n := xk) hB
      rw [show cS_splitBook σ xb xk xc = kS_splitBook σ xb xk xc from if_pos ⟨hA, hB⟩]
      refine ⟨?_, 0, ?_, Or.inl ⟨hA, hB, rfl, ?_⟩⟩
      · unfold kS_splitBook nS_splitBook
        split
        · exact hf
        · have g := FI_nb (σ := wrt σ (zbk σ xb)) (b := xc) (FI_wrt hf) (CI_wrt hc) (hf.2.1 (zbk σ xb)) (FB_add (o := zod σ (zbk σ xb)) (o2 := zod σ (zbk σ xb)) (lo := turn (zod σ (zbk σ xb)) xk) (hi := 99) (fb (zbk σ xb)) (FB_R0 (by omega)))
          exact FI_sSt g (FB_clr (by omega) (fb _)) (Or.inl (nb xb)) (fun e => ⟨Int.le_trans (kb xb e) (DG_le DG_clr), fun z => absurd (show zwt (wrt σ (zbk σ xb)) = 0 from if_pos e) z⟩)
      · unfold jS_splitBook kS_splitBook
        rw [if_pos hA, if_pos hB]
        show (if xb = xc then tDi (tTh (mof σ t) 0) 2 else tDi (tX (tWr (tBk (tNw (tTh (mof σ t) 0) (zod σ (zbk σ xb)) ((mlk (zod σ (zbk σ xb)) (zod σ (zbk σ xb)) ((zst σ (zbk σ xb)).2.2) (turn (zod σ (zbk σ xb)) xk) 99 emp))) xc (zn σ)) (zbk σ xb)) (zbk σ xb) ((itrP (clU (zwk σ) (zbk σ xb) (zod σ (zbk σ xb))) (turn (zod σ (zbk σ xb)) xk) 99 ((zst σ (zbk σ xb)).2.2, mbr σ, 0)))) 0) = _
        by_cases e : xb = xc
        · rw [if_pos e, if_pos e, m_th, m_i2]
        · rw [if_neg e, if_neg e]
          exact m_spl (S2 := nS_splitBook σ xb xk) (by unfold nS_splitBook; exact mlk_add tb.1 (by omega)) (hc.2.1 xb) hc.2.2.2.2.1 (TR_g (B := B) (B' := B + 100) (hb xb) (RI_clr (by omega) (hb xb)) DG_clr (XG_cl (k := zwk σ) (i := zbk σ xb) (o := zod σ (zbk σ xb)) (x := ((zst σ (zbk σ xb)).2.2, mbr σ, 0)) tb.1 (by omega)) (clX_clr tb.1 (by omega))).1 (kb xb)
      · unfold jR_splitBook kR_splitBook
        rw [if_pos ⟨hA, hB⟩]
        by_cases e : xb = xc
        · rw [if_pos e, if_pos e]
        · rw [if_neg e, if_neg e]
          exact (TR_g (B := B) (B' := B + 100) (hb xb) (RI_clr (by omega) (hb xb)) DG_clr (XG_cl (k := zwk σ) (i := zbk σ xb) (o := zod σ (zbk σ xb)) (x := ((zst σ (zbk σ xb)).2.2, mbr σ, 0)) tb.1 (by omega)) (clX_clr tb.1 (by omega))).2
    · rw [show cS_splitBook σ xb xk xc = σ from if_neg (fun z => hB z.2)]
      refine ⟨hf, 2, ?_, Or.inr (Or.inr ⟨hA, hB, rfl⟩)⟩
      unfold jS_splitBook
      rw [if_pos hA, if_neg hB]
      rfl
  · rw [show cS_splitBook σ xb xk xc = σ from if_neg (fun z => hA z.1)]
    refine ⟨hf, 1, ?_, Or.inr (Or.inl ⟨hA, rfl⟩)⟩
    unfold jS_splitBook
    rw [if_neg hA]
    rfl
set_option maxHeartbeats 40000 in
theorem T_fill {B : Int} {σ : CS} {t : Int} {xb xf xs xn xw : Int} (hc : CI B σ) (hf : FI σ) : TE (cS_fill σ xb xf xs xn xw) (jS_fill (mof σ t) xb xf xs xn xw) ((0 ≤ xb ∧ xb ≤ 3)) ((0 ≤ xf ∧ xf ≤ 99) ∧ (0 ≤ xs ∧ xs ≤ 99) ∧ (0 ≤ xn ∧ xn ≤ 100) ∧ (-1 ≤ xw ∧ xw ≤ 99)) 2 (jR_fill (mof σ t) xb xf xs xn xw) (kR_fill σ xb xf xs xn xw) := by
  have hr := hc.2.2.2.2.2.2.2.2.2.2.1
  have hb : ∀ i, RI B (zst σ (zbk σ i)) := fun i => hr _ (hc.2.1 i)
  have hs : ∀ i, RI B (zst σ (zsh σ i)) := fun i => hr _ (hc.2.2.1 i)
  have hv : ∀ i, RI B (zst σ (zvw σ i)) := fun i => hr _ (hc.2.2.2.1 i)
  have kb : ∀ i, zwk σ = some (zbk σ i) → zwc σ ≤ (zst σ (zbk σ i)).2.1 := fun i e => (hf.2.2.2.2.2.2 _ e).1
  have kv : ∀ i, zwk σ = some (zvw σ i) → zwc σ ≤ (zst σ (zvw σ i)).2.1 := fun i e => (hf.2.2.2.2.2.2 _ e).1
  have ks : ∀ i, zwk σ = some (zsh σ i) → zwc σ ≤ (zst σ (zsh σ i)).2.1 := fun i e => (hf.2.2.2.2.2.2 _ e).1
  have nb := hf.2.2.2.1
  have nv := hf.2.2.2.2.1
  have fb := hf.1
  have fs := hf.2.2.1
  by_cases hA : (0 ≤ xb ∧ xb ≤ 3)
  · skip
    by_cases hB : (0 ≤ xf ∧ xf ≤ 99) ∧ (0 ≤ xs ∧ xs ≤ 99) ∧ (0 ≤ xn ∧ xn ≤ 100) ∧ (-1 ≤ xw ∧ xw ≤ 99)
    · skip
      rw [show cS_fill σ xb xf xs xn xw = kS_fill σ xb xf xs xn xw from if_pos ⟨hA, hB⟩]
      refine ⟨?_, 0, ?_, Or.inl ⟨hA, hB, rfl, ?_⟩⟩
      · unfold kS_fill
        split
        · exact FI_bw hf (nb xb) (FB_rst (by omega) (fb _)) (DG_le DG_rst)
        · exact FI_bw hf (nb xb) (FB_stp (fb _)) (DC_le DC_stp)
      · unfold jS_fill kS_fill
        rw [if_pos hA, if_pos hB]
        show (tDi (tX (tWr (tTh (mof σ t) 0) (zbk σ xb)) (zbk σ xb) ((itrP (fiU (zwk σ) (zbk σ xb) (zod σ (zbk σ xb)) xf xs xw) 0 (xn - 1) ((zst σ (zbk σ xb)).2.2, mbr σ, 0)))) 0) = _
        by_cases w : xw = -1
        · subst w
          rw [if_pos rfl]
          exact m_tXw (TR_g (B := B) (B' := B + 100) (hb xb) (RI_rst (by omega) (hb xb)) DG_rst XG_fi fiX_rst).1 (kb xb)
        · rw [if_neg w]
          exact m_tXw (TR_c (B := B) (B' := B + 100) (hb xb) (RI_stp (by omega) (hb xb)) DC_stp (XC_fi w) (fiX_stp w)).1 (kb xb)
      · unfold jR_fill kR_fill
        rw [if_pos ⟨hA, hB⟩]
        by_cases w : xw = -1
        · subst w
          rw [if_pos rfl]
          exact (TR_g (B := B) (B' := B + 100) (hb xb) (RI_rst (by omega) (hb xb)) DG_rst (XG_fi (k := zwk σ) (i := zbk σ xb) (x := ((zst σ (zbk σ xb)).2.2, mbr σ, 0))) fiX_rst).2
        · rw [if_neg w]
          exact (TR_c (B := B) (B' := B + 100) (hb xb) (RI_stp (by omega) (hb xb)) DC_stp (XC_fi (k := zwk σ) (i := zbk σ xb) (x := ((zst σ (zbk σ xb)).2.2, mbr σ, 0)) w) (fiX_stp w)).2
    · rw [show cS_fill σ xb xf xs xn xw = σ from if_neg (fun z => hB z.2)]
      refine ⟨hf, 2, ?_, Or.inr (Or.inr ⟨hA, hB, rfl⟩)⟩
      unfold jS_fill
      rw [if_pos hA, if_neg hB]
      rfl
  · rw [show cS_fill σ xb xf xs xn xw = σ from if_neg (fun z => hA z.1)]
    refine ⟨hf, 1, ?_, Or.inr (Or.inl ⟨hA, rfl⟩)⟩
    unfold jS_fill
    rw [if_neg hA]
    rfl
set_option maxHeartbeats 40000 in
theorem T_pour {B : Int} {σ : CS} {t : Int} {xb xc : Int} (hc : CI B σ) (hf : FI σ) : TE (cS_pour σ xb xc) (jS_pour (mof σ t) xb xc) ((0 ≤ xb ∧ xb ≤ 3) ∧ (0 ≤ xc ∧ xc ≤ 3)) (True) 1 (jR_pour (mof σ t) xb xc) (kR_pour σ xb xc) := by
  have hr := hc.2.2.2.2.2.2.2.2.2.2.1
  have hb : ∀ i, RI B (zst σ (zbk σ i)) := fun i => hr _ (hc.2.1 i)
  have hs : ∀ i, RI B (zst σ (zsh σ i)) := fun i => hr _ (hc.2.2.1 i)
  have hv : ∀ i, RI B (zst σ (zvw σ i)) := fun i => hr _ (hc.2.2.2.1 i)
  have kb : ∀ i, zwk σ = some (zbk σ i) → zwc σ ≤ (zst σ (zbk σ i)).2.1 := fun i e => (hf.2.2.2.2.2.2 _ e).1
  have kv : ∀ i, zwk σ = some (zvw σ i) → zwc σ ≤ (zst σ (zvw σ i)).2.1 := fun i e => (hf.2.2.2.2.2.2 _ e).1
  have ks : ∀ i, zwk σ = some (zsh σ i) → zwc σ ≤ (zst σ (zsh σ i)).2.1 := fun i e => (hf.2.2.2.2.2.2 _ e).1
  have nb := hf.2.2.2.1
  have nv := hf.2.2.2.2.1
  have fb := hf.1
  have fs := hf.2.2.1
  by_cases hA : (0 ≤ xb ∧ xb ≤ 3) ∧ (0 ≤ xc ∧ xc ≤ 3)
  · skip
    have hB : True := trivial
    rw [show cS_pour σ xb xc = kS_pour σ xb xc from if_pos ⟨hA, hB⟩]
    refine ⟨?_, 0, ?_, Or.inl ⟨hA, hB, rfl, ?_⟩⟩
    · unfold kS_pour
      split
      · exact hf
      · exact FI_bw hf (nb xb) (FB_add (fb _) (fb _)) (DC_le DC_add)
    · unfold jS_pour kS_pour
      rw [if_pos hA]
      show (if xb = xc then tDi (tTh (mof σ t) 0) 2 else tDi (tX (tWr (tTh (mof σ t) 0) (zbk σ xb)) (zbk σ xb) ((itrP (paU (zwk σ) (zbk σ xb) (zod σ (zbk σ xb)) (zod σ (zbk σ xc)) ((zst σ (zbk σ xc)).2.2)) 0 99 ((zst σ (zbk σ xb)).2.2, mbr σ, 0)))) 0) = _
      by_cases e : xb = xc
      · rw [if_pos e, if_pos e, m_th, m_i2]
      · rw [if_neg e, if_neg e]
        exact m_tXw (TR_c (B := B) (B' := B + 100) (hb xb) (RI_add (by omega) (hb xb)) DC_add (XC_pa) paX_add).1 (kb xb)
    · unfold jR_pour kR_pour
      rw [if_pos hA]
      by_cases e : xb = xc
      · rw [if_pos e, if_pos e]
      · rw [if_neg e, if_neg e]
        exact (TR_c (B := B) (B' := B + 100) (hb xb) (RI_add (by omega) (hb xb)) DC_add (XC_pa (k := zwk σ) (i := zbk σ xb) (x := ((zst σ (zbk σ xb)).2.2, mbr σ, 0))) paX_add).2
  · rw [show cS_pour σ xb xc = σ from if_neg (fun z => hA z.1)]
    refine ⟨hf, 1, ?_, Or.inr (Or.inl ⟨hA, rfl⟩)⟩
    unfold jS_pour
    rw [if_neg hA]
    rfl
set_option maxHeartbeats 40000 in
theorem T_keep {B : Int} {σ : CS} {t : Int} {xb xc xw : Int} (hc : CI B σ) (hf : FI σ) : TE (cS_keep σ xb xc xw) (jS_keep (mof σ t) xb xc xw) ((0 ≤ xb ∧ xb ≤ 3) ∧ (0 ≤ xc ∧ xc ≤ 3)) (True) 1 (jR_keep (mof σ t) xb xc xw) (kR_keep σ xb xc xw) := by
  have hr := hc.2.2.2.2.2.2.2.2.2.2.1
  have hb : ∀ i, RI B (zst σ (zbk σ i)) := fun i => hr _ (hc.2.1 i)
  have hs : ∀ i, RI B (zst σ (zsh σ i)) := fun i => hr _ (hc.2.2.1 i)
  have hv : ∀ i, RI B (zst σ (zvw σ i)) := fun i => hr _ (hc.2.2.2.1 i)
  have kb : ∀ i, zwk σ = some (zbk σ i) → zwc σ ≤ (zst σ (zbk σ i)).2.1 := fun i e => (hf.2.2.2.2.2.2 _ e).1
  have kv : ∀ i, zwk σ = some (zvw σ i) → zwc σ ≤ (zst σ (zvw σ i)).2.1 := fun i e => (hf.2.2.2.2.2.2 _ e).1
  have ks : ∀ i, zwk σ = some (zsh σ i) → zwc σ ≤ (zst σ (zsh σ i)).2.1 := fun i e => (hf.2.2.2.2.2.2 _ e).1
  have nb := hf.2.2.2.1
  have nv := hf.2.2.2.2.1
  have fb := hf.1
  have fs := hf.2.2.1
  by_cases hA : (0 ≤ xb ∧ xb ≤ 3) ∧ (0 ≤ xc ∧ xc ≤ 3)
  · skip
    have hB : True := trivial
    rw [show cS_keep σ xb xc xw = kS_keep σ xb xc xw from if_pos ⟨hA, hB⟩]
    refine ⟨?_, 0, ?_, Or.inl ⟨hA, hB, rfl, ?_⟩⟩
    · unfold kS_keep
      split
      · exact hf
      · exact FI_bw hf (nb xb) (FB_ret (by omega) (fb _)) (DG_le DG_ret)
    · unfold jS_keep kS_keep
      rw [if_pos hA]
      show (if xb = xc then tDi (tTh (mof σ t) 0) 2 else tDi (tX (tWr (tTh (mof σ t) 0) (zbk σ xb)) (zbk σ xb) ((itrP (keU (zwk σ) (zbk σ xb) (zod σ (zbk σ xb)) (zod σ (zbk σ xc)) ((zst σ (zbk σ xc)).2.2) xw) 0 99 ((zst σ (zbk σ xb)).2.2, mbr σ, 0)))) 0) = _
      by_cases e : xb = xc
      · rw [if_pos e, if_pos e, m_th, m_i2]
      · rw [if_neg e, if_neg e]
        exact m_tXw (TR_g (B := B) (B' := B + 100) (hb xb) (RI_ret (hb xb)) DG_ret (XG_ke) keX_ret).1 (kb xb)
    · unfold jR_keep kR_keep
      rw [if_pos hA]
      by_cases e : xb = xc
      · rw [if_pos e, if_pos e]
      · rw [if_neg e, if_neg e]
        exact (TR_g (B := B) (B' := B + 100) (hb xb) (RI_ret (hb xb)) DG_ret (XG_ke (k := zwk σ) (i := zbk σ xb) (x := ((zst σ (zbk σ xb)).2.2, mbr σ, 0))) keX_ret).2
  · rw [show cS_keep σ xb xc xw = σ from if_neg (fun z => hA z.1)]
    refine ⟨hf, 1, ?_, Or.inr (Or.inl ⟨hA, rfl⟩)⟩
    unfold jS_keep
    rw [if_neg hA]
    rfl
set_option maxHeartbeats 40000 in
theorem T_put {B : Int} {σ : CS} {t : Int} {xb xk xw xt : Int} (hc : CI B σ) (hf : FI σ) : TE (cS_put σ xb xk xw xt) (jS_put (mof σ t) xb xk xw xt) ((0 ≤ xb ∧ xb ≤ 3)) ((0 ≤ xk ∧ xk ≤ 99) ∧ (0 ≤ xw ∧ xw ≤ 99) ∧ (0 ≤ xt ∧ xt ≤ 2)) 2 (jR_put (mof σ t) xb xk xw xt) (kR_put σ xb xk xw xt) := by
  have hr := hc.2.2.2.2.2.2.2.2.2.2.1
  have hb : ∀ i, RI B (zst σ (zbk σ i)) := fun i => hr _ (hc.2.1 i)
  have hs : ∀ i, RI B (zst σ (zsh σ i)) := fun i => hr _ (hc.2.2.1 i)
  have hv : ∀ i, RI B (zst σ (zvw σ i)) := fun i => hr _ (hc.2.2.2.1 i)
  have kb : ∀ i, zwk σ = some (zbk σ i) → zwc σ ≤ (zst σ (zbk σ i)).2.1 := fun i e => (hf.2.2.2.2.2.2 _ e).1
  have kv : ∀ i, zwk σ = some (zvw σ i) → zwc σ ≤ (zst σ (zvw σ i)).2.1 := fun i e => (hf.2.2.2.2.2.2 _ e).1
  have ks : ∀ i, zwk σ = some (zsh σ i) → zwc σ ≤ (zst σ (zsh σ i)).2.1 := fun i e => (hf.2.2.2.2.2.2 _ e).1
  have nb := hf.2.2.2.1
  have nv := hf.2.2.2.2.1
  have fb := hf.1
  have fs := hf.2.2.1
  by_cases hA : (0 ≤ xb ∧ xb ≤ 3)
  · skip
    by_cases hB : (0 ≤ xk ∧ xk ≤ 99) ∧ (0 ≤ xw ∧ xw ≤ 99) ∧ (0 ≤ xt ∧ xt ≤ 2)
    · skip
      have tb := turn_b (o := zod σ (zbk σ xb)) (n := xk) hB.1
      rw [show cS_put σ xb xk xw xt = kS_put σ xb xk xw xt from if_pos ⟨hA, hB⟩]
      refine ⟨?_, 0, ?_, Or.inl ⟨hA, hB, rfl, ?_⟩⟩
      · unfold kS_put
        split
        · exact FI_bw hf (nb xb) (FB_come (fb _) (by omega)) (DC_le (DC_come (DC_rf _)))
        · exact FI_wrt hf
      · unfold jS_put kS_put
        rw [if_pos hA, if_pos hB]
        show (cgS (tTh (mof σ t) 0) (zbk σ xb) (turn (zod σ (zbk σ xb)) xk) (if xt = 0 ∨ (xt = 2 ∧ isT ((zst σ (zbk σ xb)).2.2) (turn (zod σ (zbk σ xb)) xk) ≠ 0) ∨ (xt = 1 ∧ isT ((zst σ (zbk σ xb)).2.2) (turn (zod σ (zbk σ xb)) xk) = 0) then 1 else 0) xw) = _
        have e0 := isT_0 (f := (zst σ (zbk σ xb)).2.2) tb
        have e1 := wAt_in (f := (zst σ (zbk σ xb)).2.2) tb
        rw [e1]
        by_cases q : xt = 0 ∨ (xt = 1 ∧ (zst σ (zbk σ xb)).2.2 (turn (zod σ (zbk σ xb)) xk) = -1) ∨ (xt = 2 ∧ (zst σ (zbk σ xb)).2.2 (turn (zod σ (zbk σ xb)) xk) ≠ -1)
        · rw [if_pos q]
          exact m_cg1 (by rw [if_pos (by omega)]; decide) tb (by omega) (hb xb) (kb xb)
        · rw [if_neg q]
          exact m_cg0 (if_neg (by omega))
      · unfold jR_put kR_put
        rw [if_pos ⟨hA, hB⟩]
        exact (wAt_in tb).symm
    · rw [show cS_put σ xb xk xw xt = σ from if_neg (fun z => hB z.2)]
      refine ⟨hf, 2, ?_, Or.inr (Or.inr ⟨hA, hB, rfl⟩)⟩
      unfold jS_put
      rw [if_pos hA, if_neg hB]
      rfl
  · rw [show cS_put σ xb xk xw xt = σ from if_neg (fun z => hA z.1)]
    refine ⟨hf, 1, ?_, Or.inr (Or.inl ⟨hA, rfl⟩)⟩
    unfold jS_put
    rw [if_neg hA]
    rfl
set_option maxHeartbeats 40000 in
theorem T_exchange {B : Int} {σ : CS} {t : Int} {xb xk xo xw : Int} (hc : CI B σ) (hf : FI σ) : TE (cS_exchange σ xb xk xo xw) (jS_exchange (mof σ t) xb xk xo xw) ((0 ≤ xb ∧ xb ≤ 3)) ((0 ≤ xk ∧ xk ≤ 99) ∧ (0 ≤ xo ∧ xo ≤ 99) ∧ (-1 ≤ xw ∧ xw ≤ 99)) 2 (jR_exchange (mof σ t) xb xk xo xw) (kR_exchange σ xb xk xo xw) := by
  have hr := hc.2.2.2.2.2.2.2.2.2.2.1
  have hb : ∀ i, RI B (zst σ (zbk σ i)) := fun i => hr _ (hc.2.1 i)
  have hs : ∀ i, RI B (zst σ (zsh σ i)) := fun i => hr _ (hc.2.2.1 i)
  have hv : ∀ i, RI B (zst σ (zvw σ i)) := fun i => hr _ (hc.2.2.2.1 i)
  have kb : ∀ i, zwk σ = some (zbk σ i) → zwc σ ≤ (zst σ (zbk σ i)).2.1 := fun i e => (hf.2.2.2.2.2.2 _ e).1
  have kv : ∀ i, zwk σ = some (zvw σ i) → zwc σ ≤ (zst σ (zvw σ i)).2.1 := fun i e => (hf.2.2.2.2.2.2 _ e).1
  have ks : ∀ i, zwk σ = some (zsh σ i) → zwc σ ≤ (zst σ (zsh σ i)).2.1 := fun i e => (hf.2.2.2.2.2.2 _ e).1
  have nb := hf.2.2.2.1
  have nv := hf.2.2.2.2.1
  have fb := hf.1
  have fs := hf.2.2.1
  by_cases hA : (0 ≤ xb ∧ xb ≤ 3)
  · skip
    by_cases hB : (0 ≤ xk ∧ xk ≤ 99) ∧ (0 ≤ xo ∧ xo ≤ 99) ∧ (-1 ≤ xw ∧ xw ≤ 99)
    · skip
      have tb := turn_b (o := zod σ (zbk σ xb)) (n := xk) hB.1
      rw [show cS_exchange σ xb xk xo xw = kS_exchange σ xb xk xo xw from if_pos ⟨hA, hB⟩]
      refine ⟨?_, 0, ?_, Or.inl ⟨hA, hB, rfl, ?_⟩⟩
      · unfold kS_exchange
        split
        · exact FI_wrt hf
        · split
          · exact FI_bw hf (nb xb) (FB_go (fb _) (by omega)) (DG_le (DG_go (DG_rf _)))
          · exact FI_bw hf (nb xb) (FB_come (fb _) (by omega)) (DC_le (DC_come (DC_rf _)))
      · unfold jS_exchange kS_exchange
        rw [if_pos hA, if_pos hB]
        show (cgS (tTh (mof σ t) 0) (zbk σ xb) (turn ((zod σ (zbk σ xb))) xk) (if ((zst σ (zbk σ xb)).2.2) (turn ((zod σ (zbk σ xb))) xk) = xo then 1 else 0) xw) = _
        rw [wAt_in tb]
        by_cases q : (zst σ (zbk σ xb)).2.2 (turn (zod σ (zbk σ xb)) xk) ≠ xo
        · rw [if_pos q]
          exact m_cg0 (if_neg q)
        · rw [if_neg q]
          by_cases w : xw = -1
          · subst w
            rw [if_pos rfl]
            exact m_cg2 (by rw [if_pos (by omega)]; decide) tb (hb xb) (kb xb)
          · rw [if_neg w]
            exact m_cg1 (by rw [if_pos (by omega)]; decide) tb w (hb xb) (kb xb)
      · unfold jR_exchange kR_exchange
        rw [if_pos ⟨hA, hB⟩]
        rw [wAt_in tb]
        show (if (zst σ (zbk σ xb)).2.2 (turn (zod σ (zbk σ xb)) xk) = xo then (1 : Int) else 0) = _
        by_cases q : (zst σ (zbk σ xb)).2.2 (turn (zod σ (zbk σ xb)) xk) = xo
        · rw [if_pos q, if_neg (fun z => z q)]
        · rw [if_neg q, if_pos q]
    · rw [show cS_exchange σ xb xk xo xw = σ from if_neg (fun z => hB z.2)]
      refine ⟨hf, 2, ?_, Or.inr (Or.inr ⟨hA, hB, rfl⟩)⟩
      unfold jS_exchange
      rw [if_pos hA, if_neg hB]
      rfl
  · rw [show cS_exchange σ xb xk xo xw = σ from if_neg (fun z => hA z.1)]
    refine ⟨hf, 1, ?_, Or.inr (Or.inl ⟨hA, rfl⟩)⟩
    unfold jS_exchange
    rw [if_neg hA]
    rfl
set_option maxHeartbeats 40000 in
theorem T_take {B : Int} {σ : CS} {t : Int} {xb xk : Int} (hc : CI B σ) (hf : FI σ) : TE (cS_take σ xb xk) (jS_take (mof σ t) xb xk) ((0 ≤ xb ∧ xb ≤ 3)) ((0 ≤ xk ∧ xk ≤ 99)) 2 (jR_take (mof σ t) xb xk) (kR_take σ xb xk) := by
  have hr := hc.2.2.2.2.2.2.2.2.2.2.1
  have hb : ∀ i, RI B (zst σ (zbk σ i)) := fun i => hr _ (hc.2.1 i)
  have hs : ∀ i, RI B (zst σ (zsh σ i)) := fun i => hr _ (hc.2.2.1 i)
  have hv : ∀ i, RI B (zst σ (zvw σ i)) := fun i => hr _ (hc.2.2.2.1 i)
  have kb : ∀ i, zwk σ = some (zbk σ i) → zwc σ ≤ (zst σ (zbk σ i)).2.1 := fun i e => (hf.2.2.2.2.2.2 _ e).1
  have kv : ∀ i, zwk σ = some (zvw σ i) → zwc σ ≤ (zst σ (zvw σ i)).2.1 := fun i e => (hf.2.2.2.2.2.2 _ e).1
  have ks : ∀ i, zwk σ = some (zsh σ i) → zwc σ ≤ (zst σ (zsh σ i)).2.1 := fun i e => (hf.2.2.2.2.2.2 _ e).1
  have nb := hf.2.2.2.1
  have nv := hf.2.2.2.2.1
  have fb := hf.1
  have fs := hf.2.2.1
  by_cases hA : (0 ≤ xb ∧ xb ≤ 3)
  · skip
    by_cases hB : (0 ≤ xk ∧ xk ≤ 99)
    · skip
      have tb := turn_b (o := zod σ (zbk σ xb)) (n := xk) hB
      rw [show cS_take σ xb xk = kS_take σ xb xk from if_pos ⟨hA, hB⟩]
      refine ⟨?_, 0, ?_, Or.inl ⟨hA, hB, rfl, ?_⟩⟩
      · unfold kS_take
        exact FI_bw hf (nb xb) (FB_go (fb _) (by omega)) (DG_le (DG_go (DG_rf _)))
      · unfold jS_take kS_take
        rw [if_pos hA, if_pos hB]
        show (cgS (tTh (mof σ t) 0) (zbk σ xb) (turn ((zod σ (zbk σ xb))) xk) 1 (-1)) = _
        exact m_cg2 (by decide) tb (hb xb) (kb xb)
      · unfold jR_take kR_take
        rw [if_pos ⟨hA, hB⟩]
        exact (wAt_in tb).symm
    · rw [show cS_take σ xb xk = σ from if_neg (fun z => hB z.2)]
      refine ⟨hf, 2, ?_, Or.inr (Or.inr ⟨hA, hB, rfl⟩)⟩
      unfold jS_take
      rw [if_pos hA, if_neg hB]
      rfl
  · rw [show cS_take σ xb xk = σ from if_neg (fun z => hA z.1)]
    refine ⟨hf, 1, ?_, Or.inr (Or.inl ⟨hA, rfl⟩)⟩
    unfold jS_take
    rw [if_neg hA]
    rfl
set_option maxHeartbeats 40000 in
theorem T_drop {B : Int} {σ : CS} {t : Int} {xb xt : Int} (hc : CI B σ) (hf : FI σ) : TE (cS_drop σ xb xt) (jS_drop (mof σ t) xb xt) ((0 ≤ xb ∧ xb ≤ 3)) ((0 ≤ xt ∧ xt ≤ 2)) 2 (jR_drop (mof σ t) xb xt) (kR_drop σ xb xt) := by
  have hr := hc.2.2.2.2.2.2.2.2.2.2.1
  have hb : ∀ i, RI B (zst σ (zbk σ i)) := fun i => hr _ (hc.2.1 i)
  have hs : ∀ i, RI B (zst σ (zsh σ i)) := fun i => hr _ (hc.2.2.1 i)
  have hv : ∀ i, RI B (zst σ (zvw σ i)) := fun i => hr _ (hc.2.2.2.1 i)
  have kb : ∀ i, zwk σ = some (zbk σ i) → zwc σ ≤ (zst σ (zbk σ i)).2.1 := fun i e => (hf.2.2.2.2.2.2 _ e).1
  have kv : ∀ i, zwk σ = some (zvw σ i) → zwc σ ≤ (zst σ (zvw σ i)).2.1 := fun i e => (hf.2.2.2.2.2.2 _ e).1
  have ks : ∀ i, zwk σ = some (zsh σ i) → zwc σ ≤ (zst σ (zsh σ i)).2.1 := fun i e => (hf.2.2.2.2.2.2 _ e).1
  have nb := hf.2.2.2.1
  have nv := hf.2.2.2.2.1
  have fb := hf.1
  have fs := hf.2.2.1
  by_cases hA : (0 ≤ xb ∧ xb ≤ 3)
  · skip
    by_cases hB : (0 ≤ xt ∧ xt ≤ 2)
    · skip
      rw [show cS_drop σ xb xt = kS_drop σ xb xt from if_pos ⟨hA, hB⟩]
      refine ⟨?_, 0, ?_, Or.inl ⟨hA, hB, rfl, ?_⟩⟩
      · unfold kS_drop
        exact FI_bw hf (nb xb) (FB_drp (by omega) (fb _)) (DG_le DG_drp)
      · unfold jS_drop kS_drop
        rw [if_pos hA, if_pos hB]
        show (tDi (dpS (tTh (mof σ t) 0) (zbk σ xb) xt 0 99) 0) = _
        rw [m_th, m_dp (B := B) hB (by omega) (by omega) (hb xb) (kb xb), m_i0, w1]
      · unfold jR_drop kR_drop
        rw [if_pos ⟨hA, hB⟩]
        rw [m_th]
        exact m_dpR (B := B) hB (by omega) (by omega) (hb xb)
    · rw [show cS_drop σ xb xt = σ from if_neg (fun z => hB z.2)]
      refine ⟨hf, 2, ?_, Or.inr (Or.inr ⟨hA, hB, rfl⟩)⟩
      unfold jS_drop
      rw [if_pos hA, if_neg hB]
      rfl
  · rw [show cS_drop σ xb xt = σ from if_neg (fun z => hA z.1)]
    refine ⟨hf, 1, ?_, Or.inr (Or.inl ⟨hA, rfl⟩)⟩
    unfold jS_drop
    rw [if_neg hA]
    rfl
set_option maxHeartbeats 40000 in
theorem T_has {B : Int} {σ : CS} {t : Int} {xb xw xn : Int} (hc : CI B σ) (hf : FI σ) : TE (cS_has σ xb xw xn) (jS_has (mof σ t) xb xw xn) ((0 ≤ xb ∧ xb ≤ 3)) ((0 ≤ xn ∧ xn ≤ 99)) 2 (jR_has (mof σ t) xb xw xn) (kR_has σ xb xw xn) := by
  have hr := hc.2.2.2.2.2.2.2.2.2.2.1
  have hb : ∀ i, RI B (zst σ (zbk σ i)) := fun i => hr _ (hc.2.1 i)
  have hs : ∀ i, RI B (zst σ (zsh σ i)) := fun i => hr _ (hc.2.2.1 i)
  have hv : ∀ i, RI B (zst σ (zvw σ i)) := fun i => hr _ (hc.2.2.2.1 i)
  have kb : ∀ i, zwk σ = some (zbk σ i) → zwc σ ≤ (zst σ (zbk σ i)).2.1 := fun i e => (hf.2.2.2.2.2.2 _ e).1
  have kv : ∀ i, zwk σ = some (zvw σ i) → zwc σ ≤ (zst σ (zvw σ i)).2.1 := fun i e => (hf.2.2.2.2.2.2 _ e).1
  have ks : ∀ i, zwk σ = some (zsh σ i) → zwc σ ≤ (zst σ (zsh σ i)).2.1 := fun i e => (hf.2.2.2.2.2.2 _ e).1
  have nb := hf.2.2.2.1
  have nv := hf.2.2.2.2.1
  have fb := hf.1
  have fs := hf.2.2.1
  by_cases hA : (0 ≤ xb ∧ xb ≤ 3)
  · skip
    by_cases hB : (0 ≤ xn ∧ xn ≤ 99)
    · skip
      rw [show cS_has σ xb xw xn = kS_has σ xb xw xn from if_pos ⟨hA, hB⟩]
      refine ⟨?_, 0, ?_, Or.inl ⟨hA, hB, rfl, ?_⟩⟩
      · unfold kS_has
        exact hf
      · unfold jS_has kS_has
        rw [if_pos hA, if_pos hB]
        rfl
      · unfold jR_has kR_has
        rw [if_pos ⟨hA, hB⟩]
        by_cases w : xw ≠ 0
        · rw [if_pos w, if_pos w]
          rfl
        · rw [if_neg w, if_neg w]
          exact hasW_e
    · rw [show cS_has σ xb xw xn = σ from if_neg (fun z => hB z.2)]
      refine ⟨hf, 2, ?_, Or.inr (Or.inr ⟨hA, hB, rfl⟩)⟩
      unfold jS_has
      rw [if_pos hA, if_neg hB]
      rfl
  · rw [show cS_has σ xb xw xn = σ from if_neg (fun z => hA z.1)]
    refine ⟨hf, 1, ?_, Or.inr (Or.inl ⟨hA, rfl⟩)⟩
    unfold jS_has
    rw [if_neg hA]
    rfl
set_option maxHeartbeats 40000 in
theorem T_near {B : Int} {σ : CS} {t : Int} {xb xk xt xw : Int} (hc : CI B σ) (hf : FI σ) : TE (cS_near σ xb xk xt xw) (jS_near (mof σ t) xb xk xt xw) ((0 ≤ xb ∧ xb ≤ 3)) ((0 ≤ xk ∧ xk ≤ 99) ∧ (0 ≤ xt ∧ xt ≤ 4)) 2 (jR_near (mof σ t) xb xk xt xw) (kR_near σ xb xk xt xw) := by
  have hr := hc.2.2.2.2.2.2.2.2.2.2.1
  have hb : ∀ i, RI B (zst σ (zbk σ i)) := fun i => hr _ (hc.2.1 i)
  have hs : ∀ i, RI B (zst σ (zsh σ i)) := fun i => hr _ (hc.2.2.1 i)
  have hv : ∀ i, RI B (zst σ (zvw σ i)) := fun i => hr _ (hc.2.2.2.1 i)
  have kb : ∀ i, zwk σ = some (zbk σ i) → zwc σ ≤ (zst σ (zbk σ i)).2.1 := fun i e => (hf.2.2.2.2.2.2 _ e).1
  have kv : ∀ i, zwk σ = some (zvw σ i) → zwc σ ≤ (zst σ (zvw σ i)).2.1 := fun i e => (hf.2.2.2.2.2.2 _ e).1
  have ks : ∀ i, zwk σ = some (zsh σ i) → zwc σ ≤ (zst σ (zsh σ i)).2.1 := fun i e => (hf.2.2.2.2.2.2 _ e).1
  have nb := hf.2.2.2.1
  have nv := hf.2.2.2.2.1
  have fb := hf.1
  have fs := hf.2.2.1
  by_cases hA : (0 ≤ xb ∧ xb ≤ 3)
  · skip
    by_cases hB : (0 ≤ xk ∧ xk ≤ 99) ∧ (0 ≤ xt ∧ xt ≤ 4)
    · skip
      rw [show cS_near σ xb xk xt xw = kS_near σ xb xk xt xw from if_pos ⟨hA, hB⟩]
      refine ⟨?_, 0, ?_, Or.inl ⟨hA, hB, rfl, ?_⟩⟩
      · unfold kS_near
        exact hf
      · unfold jS_near kS_near
        rw [if_pos hA, if_pos hB]
        rfl
      · unfold jR_near kR_near
        rw [if_pos ⟨hA, hB⟩]
        exact tldR_e (nearP_i _ _ _ _ _ _)
    · rw [show cS_near σ xb xk xt xw = σ from if_neg (fun z => hB z.2)]
      refine ⟨hf, 2, ?_, Or.inr (Or.inr ⟨hA, hB, rfl⟩)⟩
      unfold jS_near
      rw [if_pos hA, if_neg hB]
      rfl
  · rw [show cS_near σ xb xk xt xw = σ from if_neg (fun z => hA z.1)]
    refine ⟨hf, 1, ?_, Or.inr (Or.inl ⟨hA, rfl⟩)⟩
    unfold jS_near
    rw [if_neg hA]
    rfl
set_option maxHeartbeats 40000 in
theorem T_end {B : Int} {σ : CS} {t : Int} {xb xw xv : Int} (hc : CI B σ) (hf : FI σ) : TE (cS_end σ xb xw xv) (jS_end (mof σ t) xb xw xv) ((0 ≤ xb ∧ xb ≤ 3)) (True) 1 (jR_end (mof σ t) xb xw xv) (kR_end σ xb xw xv) := by
  have hr := hc.2.2.2.2.2.2.2.2.2.2.1
  have hb : ∀ i, RI B (zst σ (zbk σ i)) := fun i => hr _ (hc.2.1 i)
  have hs : ∀ i, RI B (zst σ (zsh σ i)) := fun i => hr _ (hc.2.2.1 i)
  have hv : ∀ i, RI B (zst σ (zvw σ i)) := fun i => hr _ (hc.2.2.2.1 i)
  have kb : ∀ i, zwk σ = some (zbk σ i) → zwc σ ≤ (zst σ (zbk σ i)).2.1 := fun i e => (hf.2.2.2.2.2.2 _ e).1
  have kv : ∀ i, zwk σ = some (zvw σ i) → zwc σ ≤ (zst σ (zvw σ i)).2.1 := fun i e => (hf.2.2.2.2.2.2 _ e).1
  have ks : ∀ i, zwk σ = some (zsh σ i) → zwc σ ≤ (zst σ (zsh σ i)).2.1 := fun i e => (hf.2.2.2.2.2.2 _ e).1
  have nb := hf.2.2.2.1
  have nv := hf.2.2.2.2.1
  have fb := hf.1
  have fs := hf.2.2.1
  by_cases hA : (0 ≤ xb ∧ xb ≤ 3)
  · skip
    have hB : True := trivial
    rw [show cS_end σ xb xw xv = kS_end σ xb xw xv from if_pos ⟨hA, hB⟩]
    refine ⟨?_, 0, ?_, Or.inl ⟨hA, hB, rfl, ?_⟩⟩
    · unfold kS_end
      split
      · exact hf
      · exact FI_kor hf
    · unfold jS_end kS_end
      rw [if_pos hA]
      show (if endP (((zst σ (zbk σ xb)).2.2)) 0 99 xw = -1 ∧ xv = 0 then tDi (tTh (mof σ t) 0) 2 else tTh (mof σ t) 0) = _
      by_cases v : xv = 0
      · rw [if_neg (show ¬ xv ≠ 0 from fun z => z v)]
        unfold kor
        by_cases e : endP (zst σ (zbk σ xb)).2.2 0 99 xw = -1
        · rw [if_pos (show endP (zst σ (zbk σ xb)).2.2 0 99 xw = -1 ∧ xv = 0 from ⟨e, v⟩), if_pos e, m_th, m_i2]
        · rw [if_neg (show ¬ (endP (zst σ (zbk σ xb)).2.2 0 99 xw = -1 ∧ xv = 0) from fun z => e z.1), if_neg e]
          rfl
      · rw [if_pos v, if_neg (fun z => v z.2)]
        rfl
    · unfold jR_end kR_end
      rw [if_pos hA]
      show (if endP (zst σ (zbk σ xb)).2.2 0 99 xw = -1 ∧ xv = 0 then -9 else tldR (zod σ (zbk σ xb)) (zst σ (zbk σ xb)).2.2 (keyR (zod σ (zbk σ xb)) (endP (zst σ (zbk σ xb)).2.2 0 99 xw)) xv) = _
      rw [tldR_e (endP_i _ _ _ _)]
      by_cases v : xv = 0
      · rw [if_neg (show ¬ xv ≠ 0 from fun z => z v), if_neg (show ¬ xv ≠ 0 from fun z => z v)]
        unfold korR
        by_cases e : endP (zst σ (zbk σ xb)).2.2 0 99 xw = -1
        · rw [if_pos ⟨e, v⟩, if_pos e]
        · rw [if_neg (fun z => e z.1), if_neg e]
      · rw [if_neg (fun z => v z.2), if_pos v, if_pos v]
  · rw [show cS_end σ xb xw xv = σ from if_neg (fun z => hA z.1)]
    refine ⟨hf, 1, ?_, Or.inr (Or.inl ⟨hA, rfl⟩)⟩
    unfold jS_end
    rw [if_neg hA]
    rfl
