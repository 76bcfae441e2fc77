-- digest answers alike
theorem mxP_cg {u u2 f : Int → Int} (h : ∀ r, 0 ≤ r → r ≤ 99 → isT f r ≠ 0 → u r = u2 r) : ∀ (n : Nat) (r : Int) (s : Int64), (100 - r).toNat = n → 0 ≤ r → mxP u f r s = mxP u2 f r s := by
  intro n
  induction n with
  | zero =>
    intro r s hn h0
    rw [mxP_e (by omega), mxP_e (by omega)]
  | succ n ih =>
    intro r s hn h0
    rw [mxP_u (u := u) (by omega), mxP_u (u := u2) (by omega)]
    by_cases q : isT f r ≠ 0
    · rw [if_pos q, if_pos q, h r h0 (by omega) q, ih (r + 1) _ (by omega) (by omega)]
    · rw [if_neg q, if_neg q, ih (r + 1) _ (by omega) (by omega)]
section DIG
variable {σ : CS} {t B : Int}
theorem dg_bk {b : Int} (s : Int64) (h : RI B (zst σ (zbk σ b))) : dmBk (mof σ t) b s = dgBk σ (zbk σ b) s := by
  unfold dmBk dgBk dgB
  rw [m_vbk, m_vod, m_vst, hash_e, ← h.1]
  refine (mxP_cg (fun r a c q => ?_) _ 0 _ rfl (by omega)).trans rfl
  unfold mpU
  rw [turn_t ⟨a, c⟩, pairR_i ⟨⟨a, c⟩, q⟩]
theorem dg_sh {b : Int} (s : Int64) (h : RI B (zst σ (zsh σ b))) : dmSh (mof σ t) b s = dgSh σ (zsh σ b) s := by
  unfold dmSh dgSh dgS
  rw [m_vsh, m_vod, m_vst, sumM_e, ← h.1]
  refine (mxP_cg (fun r a c q => ?_) _ 0 _ rfl (by omega)).trans rfl
  exact (kyI a).symm
theorem dg_vw {v : Int} (s : Int64) (hf : FB 99 (zst σ (zvw σ v))) (h1 : 0 ≤ zvl σ v) (h2 : zvh σ v ≤ 99) : dmVw (mof σ t) v s = dgV σ v s := by
  unfold dmVw dgV
  rw [m_vvw, m_vod, m_vst, m_vvl, m_vvh, wor_e (fun r => (hf r).1) h1 h2]
  rfl
theorem itr4 {α : Type} (u : Int → α → α) (x : α) : itrP u 0 3 x = u 3 (u 2 (u 1 (u 0 x))) := rfl
theorem itr3 {α : Type} (u : Int → α → α) (x : α) : itrP u 0 2 x = u 2 (u 1 (u 0 x)) := rfl
theorem itr2 {α : Type} (u : Int → α → α) (x : α) : itrP u 0 1 x = u 1 (u 0 x) := rfl
theorem dg_all {g : Int64} {a b : Int} (hc : CI B σ) (hf : FI σ) (hg : (iI a).toInt64 = g) (hb : b = mtd σ) : dmA (mof σ t) g = mxd (dgA σ a b) (kR_isSound σ) := by
  have hr := hc.2.2.2.2.2.2.2.2.2.2.1
  have kb : ∀ i s, dmBk (mof σ t) i s = dgBk σ (zbk σ i) s := fun i s => dg_bk s (hr _ (hc.2.1 i))
  have ks : ∀ i s, dmSh (mof σ t) i s = dgSh σ (zsh σ i) s := fun i s => dg_sh s (hr _ (hc.2.2.1 i))
  have kv : ∀ i s, dmVw (mof σ t) i s = dgV σ i s := fun i s => dg_vw s (hf.1 _) (hc.2.2.2.2.2.1 i).1 (hc.2.2.2.2.2.1 i).2.2.2
  unfold dmA dm3 dgA
  rw [sound_1 hc, itr4, itr3, itr2, itr4, kb, kb, kb, kb, kv, kv, ks, ks, ks, m_vtd, ← hb, ← hg]
  rfl
theorem T_dig0 {B : Int} (hc : CI B σ) (hf : FI σ) (hw : zwk σ = none) : jR_digest0 (mof σ t) = kR_digest0 σ := dg_all hc hf (by decide) (mtd_n hw).symm
theorem T_dig1 {B : Int} {j : Nat} (hc : CI B σ) (hf : FI σ) (hw : zwk σ = some j) : jR_digest1 (mof σ t) j = kR_digest1 σ j := by
  unfold jR_digest1 kR_digest1
  refine dg_all hc hf ?_ (mtd_s hw).symm
  unfold goW goI
  rw [m_vbr, mbr_s hw]
  by_cases e : (zst σ j).2.1 = zwc σ
  · rw [if_pos e, if_pos e, if_pos rfl]
    decide
  · rw [if_neg e, if_neg e, if_neg (by decide)]
    decide
end DIG
