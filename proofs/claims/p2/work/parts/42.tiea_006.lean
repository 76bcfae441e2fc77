section FIS
variable {σ : CS}
theorem FI_vw {v lo hi : Int} {i : Nat} (h : FI σ) (hi9 : ∀ c, i ≠ zsh σ c) : FI (sVw σ v i lo hi) := by
  obtain ⟨h1, h2, h3, h4, h5, h6, h7⟩ := h
  refine ⟨h1, h2, h3, h4, fun k c => ?_, h6, h7⟩
  show iu (zvw σ) v i k ≠ zsh σ c
  unfold iu
  split
  · exact hi9 c
  · exact h5 k c
theorem FI_wk {j : Nat} {c l z : Int} (h : FI σ) (hs : ∀ c, j ≠ zsh σ c) (hc : c ≤ (zst σ j).2.1) (ht : z ≠ 0 → (zst σ j).2.1 = c ∧ isT (zst σ j).2.2 l ≠ 0) : FI (sWk σ (some j) c l z) := by
  obtain ⟨h1, h2, h3, h4, h5, h6, h7⟩ := h
  refine ⟨h1, h2, h3, h4, h5, fun k q e => ?_, fun k e => ?_⟩
  · cases e; exact hs q
  · cases e; exact ⟨hc, ht⟩
theorem FI_rt {j : Nat} {S : RS} {l : Int} (h : FI σ) (hw : zwk σ = some j) (hS : FB 99 S) : FI (sWk (sSt (inc0 σ) j S) (some j) S.2.1 l 0) := by
  obtain ⟨h1, h2, h3, h4, h5, h6, h7⟩ := h
  have hs := fun c => h6 j c hw
  refine ⟨fun k => ?_, h2, fun b => ?_, h4, h5, fun k c e => ?_, fun k e => ?_⟩
  · show FB 99 (va_up (zst σ) j S k)
    by_cases e : k = j
    · rw [e, va_up_self]; exact hS
    · rw [va_up_ne _ _ e]; exact h1 k
  · show FB 0 (va_up (zst σ) j S (zsh σ b))
    rw [va_up_ne _ _ (fun e => hs b e.symm)]
    exact h3 b
  · cases e; exact hs c
  · cases e
    refine ⟨?_, fun z => absurd rfl z⟩
    show S.2.1 ≤ (va_up (zst σ) j S j).2.1
    rw [va_up_self]
    exact Int.le_refl _
theorem rt_eq {j : Nat} : rtS (inc0 σ) j = sWk (sSt (inc0 σ) j (goS (zst σ j) (zwl σ))) (some j) (goS (zst σ j) (zwl σ)).2.1 (zwl σ) 0 := rfl
theorem FI_kor {n : Int} (h : FI σ) : FI (kor σ n) := by
  unfold kor
  split
  · exact h
  · exact h
theorem FI_init : FI kS_init := by
  refine ⟨fun i => FB_R0 (by omega), fun i => ?_, fun b => FB_R0 (by omega), fun b c => ?_, fun b c => ?_, fun j c e => (nomatch e), fun j e => (nomatch e)⟩
  · show (0 : Int) ≤ 0 ∧ (0 : Int) ≤ 2
    omega
  · show (if b = 1 then 1 else if b = 2 then 2 else if b = 3 then 3 else 0) ≠ (if c = 1 then 5 else if c = 2 then 6 else 4)
    (repeat' split) <;> omega
  · show (if b = 1 then 1 else 0) ≠ (if c = 1 then 5 else if c = 2 then 6 else 4)
    (repeat' split) <;> omega
end FIS
theorem m_init : jS_init = mof kS_init 0 := by
  refine m_of (σ := kS_init) rfl rfl (fun i => rfl) rfl rfl rfl rfl rfl rfl rfl rfl rfl (fun i => ?_) rfl
  show 0 = if i = 0 then 0 else if i = 1 then 0 else if i = 2 then 0 else if i = 3 then (0 : Int) else 0
  (repeat' split) <;> rfl
