theorem FB_go {m n : Int} {S : RS} (h : FB m S) (hm : 0 ≤ m) : FB m (goS S n) := by
  intro r
  unfold goS
  split
  · exact h r
  · show -1 ≤ iu S.2.2 n (-1) r ∧ iu S.2.2 n (-1) r ≤ m
    unfold iu
    split
    · omega
    · exact h r
theorem FB_it {m : Int} {u : Int → RS → RS} {lo hi : Int} {S0 : RS} (hu : ∀ r S, FB m S → FB m (u r S)) (h : FB m S0) : FB m (itrP u lo hi S0) := itrP_inv (a := lo) (b := hi) (fun r x _ _ h => hu r x h) _ lo hi S0 rfl (Int.le_refl _) (Int.le_refl _) h
theorem FB_R0 {m : Int} (hm : 0 ≤ m) : FB m R0 := fun r => by
  show -1 ≤ emp r ∧ emp r ≤ m
  unfold emp
  split <;> omega
theorem FB_add {m o o2 lo hi : Int} {f2 : Int → Int} {S : RS} (hf : ∀ r, -1 ≤ f2 r ∧ f2 r ≤ m) (h : FB m S) : FB m (addS o o2 f2 lo hi S) := FB_it (fun r S h => by
  unfold addU
  split
  · rename_i q
    have w := isT_w q
    exact FB_come h (by rw [w.2.2.2]; exact hf r)
  · exact h) h
theorem FB_stp {o a b n w : Int} {S : RS} (h : FB 99 S) : FB 99 (stpS o a b n w S) := FB_it (fun r S h => FB_come h (by omega)) h
theorem FB_kst {m o a b n : Int} {S : RS} (hm : 0 ≤ m) (h : FB m S) : FB m (kstS o a b n S) := FB_it (fun r S h => FB_come h (by omega)) h
theorem FB_rst {m o a b n : Int} {S : RS} (hm : 0 ≤ m) (h : FB m S) : FB m (rstS o a b n S) := FB_it (fun r S h => FB_go h hm) h
theorem FB_ret {m o o2 b : Int} {f2 : Int → Int} {S : RS} (hm : 0 ≤ m) (h : FB m S) : FB m (retS o o2 b f2 S) := FB_it (fun r S h => by
  unfold retU
  split
  · exact FB_go h hm
  · exact h) h
theorem FB_clr {m lo hi : Int} {S : RS} (hm : 0 ≤ m) (h : FB m S) : FB m (clrS lo hi S) := FB_it (fun r S h => FB_go h hm) h
theorem FB_drp {m lo hi z : Int} {S : RS} (hm : 0 ≤ m) (h : FB m S) : FB m (drpS lo hi z S) := by
  unfold drpS
  split
  · exact FB_clr hm h
  · exact FB_go h hm
theorem FB_ck {o : Int} {f : Int → Int} : FB 0 (ckS o f) := FB_it (fun r S h => by
  unfold ckU
  split
  · exact FB_come h (by omega)
  · exact h) (FB_R0 (Int.le_refl _))
theorem DC_le {S0 S : RS} (h : DC S0 S) : S0.2.1 ≤ S.2.1 := by
  have := h.1
  have := h.2
  omega
theorem DG_le {S0 S : RS} (h : DG S0 S) : S0.2.1 ≤ S.2.1 := by
  have := h.1
  have := h.2
  omega
theorem DG_drp {lo hi z : Int} {S : RS} : DG S (drpS lo hi z S) := by
  unfold drpS
  split
  · exact DG_clr
  · exact DG_go (DG_rf _)
def FI (σ : CS) : Prop := (∀ i, FB 99 (zst σ i)) ∧ (∀ i, 0 ≤ zod σ i ∧ zod σ i ≤ 2) ∧ (∀ b, FB 0 (zst σ (zsh σ b))) ∧ (∀ b c, zbk σ b ≠ zsh σ c) ∧ (∀ v c, zvw σ v ≠ zsh σ c) ∧ (∀ j c, zwk σ = some j → j ≠ zsh σ c) ∧ (∀ j, zwk σ = some j → zwc σ ≤ (zst σ j).2.1 ∧ (zwt σ ≠ 0 → (zst σ j).2.1 = zwc σ ∧ isT (zst σ j).2.2 (zwl σ) ≠ 0))
section FIS
variable {σ : CS}
theorem FI_sSt {i : Nat} {S : RS} (h : FI σ) (hS : FB 99 S) (hs : (∀ c, i ≠ zsh σ c) ∨ FB 0 S) (hk : zwk σ = some i → zwc σ ≤ S.2.1 ∧ (zwt σ ≠ 0 → S.2.1 = zwc σ ∧ isT S.2.2 (zwl σ) ≠ 0)) : FI (sSt σ i S) := by
  obtain ⟨h1, h2, h3, h4, h5, h6, h7⟩ := h
  refine ⟨fun k => ?_, h2, fun b => ?_, h4, h5, h6, fun j hj => ?_⟩
  · show FB 99 (va_up (zst σ) i S k)
    by_cases e : k = i
    · rw [e, va_up_self]; exact hS
    · rw [va_up_ne _ _ e]; exact h1 k
  · show FB 0 (va_up (zst σ) i S (zsh σ b))
    by_cases e : zsh σ b = i
    · rw [e, va_up_self]
      exact hs.elim (fun z => absurd e.symm (z b)) (fun z => z)
    · rw [va_up_ne _ _ e]; exact h3 b
  · show zwc σ ≤ (va_up (zst σ) i S j).2.1 ∧ (zwt σ ≠ 0 → (va_up (zst σ) i S j).2.1 = zwc σ ∧ isT (va_up (zst σ) i S j).2.2 (zwl σ) ≠ 0)
    by_cases e : j = i
    · rw [e, va_up_self]; exact hk (by rw [← e]; exact hj)
    · rw [va_up_ne _ _ e]; exact h7 j hj
end FIS
