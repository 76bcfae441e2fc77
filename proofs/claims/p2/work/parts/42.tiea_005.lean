section FIS
variable {σ : CS}
theorem FI_wrt {i : Nat} (h : FI σ) : FI (wrt σ i) := by
  obtain ⟨h1, h2, h3, h4, h5, h6, h7⟩ := h
  refine ⟨h1, h2, h3, h4, h5, h6, fun j hj => ⟨(h7 j hj).1, fun z => (h7 j hj).2 (fun e => z ?_)⟩⟩
  show (if zwk σ = some i then 0 else zwt σ) = 0
  split
  · rfl
  · exact e
/-- a book is written -/
theorem FI_bw {i : Nat} {S : RS} (h : FI σ) (hi : ∀ c, i ≠ zsh σ c) (hS : FB 99 S) (hm : (zst σ i).2.1 ≤ S.2.1) : FI (sSt (wrt σ i) i S) :=
  FI_sSt (σ := wrt σ i) (FI_wrt h) hS (Or.inl hi) (fun e => ⟨by
    have := (h.2.2.2.2.2.2 i e).1
    show zwc σ ≤ S.2.1
    omega, fun z => absurd (show zwt (wrt σ i) = 0 from if_pos e) z⟩)
/-- a shelf is written -/
theorem FI_sw {b : Int} {S : RS} (h : FI σ) (hS : FB 0 S) : FI (sSt (inc1 σ) (zsh σ b) S) :=
  FI_sSt (σ := inc1 σ) h (hS.up (by omega)) (Or.inr hS) (fun e => absurd rfl (h.2.2.2.2.2.1 (zsh σ b) b e))
theorem FI_nw {o B : Int} {S : RS} (h : FI σ) (hc : CI B σ) (ho : 0 ≤ o ∧ o ≤ 2) (hS : FB 99 S) : FI (sNw σ o S) := by
  obtain ⟨h1, h2, h3, h4, h5, h6, h7⟩ := h
  refine ⟨fun k => ?_, fun k => ?_, fun b => ?_, h4, h5, h6, fun j hj => ?_⟩
  · show FB 99 (va_up (zst σ) (zn σ) S k)
    by_cases e : k = zn σ
    · rw [e, va_up_self]; exact hS
    · rw [va_up_ne _ _ e]; exact h1 k
  · show 0 ≤ va_up (zod σ) (zn σ) o k ∧ va_up (zod σ) (zn σ) o k ≤ 2
    by_cases e : k = zn σ
    · rw [e, va_up_self]; exact ho
    · rw [va_up_ne _ _ e]; exact h2 k
  · show FB 0 (va_up (zst σ) (zn σ) S (zsh σ b))
    rw [va_up_ne _ _ (Nat.ne_of_lt (hc.2.2.1 b))]
    exact h3 b
  · show zwc σ ≤ (va_up (zst σ) (zn σ) S j).2.1 ∧ (zwt σ ≠ 0 → (va_up (zst σ) (zn σ) S j).2.1 = zwc σ ∧ isT (va_up (zst σ) (zn σ) S j).2.2 (zwl σ) ≠ 0)
    rw [va_up_ne _ _ (Nat.ne_of_lt (hc.2.2.2.2.1 j hj))]
    exact h7 j hj
theorem FI_nb {o b B : Int} {S : RS} (h : FI σ) (hc : CI B σ) (ho : 0 ≤ o ∧ o ≤ 2) (hS : FB 99 S) : FI (sBk (sNw σ o S) b (zn σ)) := by
  obtain ⟨h1, h2, h3, h4, h5, h6, h7⟩ := FI_nw h hc ho hS
  refine ⟨h1, h2, h3, fun i c => ?_, h5, h6, h7⟩
  show iu (zbk σ) b (zn σ) i ≠ zsh σ c
  unfold iu
  split
  · exact (Nat.ne_of_lt (hc.2.2.1 c)).symm
  · exact h4 i c
theorem FI_ns {o b B : Int} {S : RS} (h : FI σ) (hc : CI B σ) (ho : 0 ≤ o ∧ o ≤ 2) (hS : FB 0 S) : FI (sSh (sNw σ o S) b (zn σ)) := by
  obtain ⟨h1, h2, h3, h4, h5, h6, h7⟩ := FI_nw h hc ho (hS.up (by omega))
  have e0 : zst (sNw σ o S) (zn σ) = S := va_up_self _ _ _
  refine ⟨h1, h2, fun i => ?_, fun i c => ?_, fun i c => ?_, fun j c hj => ?_, h7⟩
  · show FB 0 (zst (sNw σ o S) (iu (zsh σ) b (zn σ) i))
    unfold iu
    split
    · rw [e0]; exact hS
    · exact h3 i
  · show zbk σ i ≠ iu (zsh σ) b (zn σ) c
    unfold iu
    split
    · exact Nat.ne_of_lt (hc.2.1 i)
    · exact h4 i c
  · show zvw σ i ≠ iu (zsh σ) b (zn σ) c
    unfold iu
    split
    · exact Nat.ne_of_lt (hc.2.2.2.1 i)
    · exact h5 i c
  · show j ≠ iu (zsh σ) b (zn σ) c
    unfold iu
    split
    · exact Nat.ne_of_lt (hc.2.2.2.2.1 j hj)
    · exact h6 j c hj
end FIS
