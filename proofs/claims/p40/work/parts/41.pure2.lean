theorem CI_freshBook {B : Int} {σ : CS} {xb xo : Int} (h : CI B σ) : CI (B + 100) (cS_freshBook σ xb xo) := by
  have h0 := h.1
  have h9 : CI (B + 100) σ := h.up (by omega)
  have hr := h.2.2.2.2.2.2.2.2.2.2.1
  have hb : ∀ i, RI B (zst σ (zbk σ i)) := fun i => hr _ (h.2.1 i)
  have hs : ∀ i, RI B (zst σ (zsh σ i)) := fun i => hr _ (h.2.2.1 i)
  have hv : ∀ i, RI B (zst σ (zvw σ i)) := fun i => hr _ (h.2.2.2.1 i)
  unfold cS_freshBook
  split
  · rename_i q
    unfold kS_freshBook
    exact CI_nb (σ := inc0 σ) h9 (RI_R0.up (by omega))
  · exact h9
theorem z3_freshBook {σ : CS} {xb xo : Int} : z3 (cS_freshBook σ xb xo) = z3 σ := by
  unfold cS_freshBook
  split
  · unfold kS_freshBook
    (repeat' split) <;> rfl
  · rfl
theorem CI_buildBook {B : Int} {σ : CS} {xb xa xw : Int} (h : CI B σ) : CI (B + 100) (cS_buildBook σ xb xa xw) := by
  have h0 := h.1
  have h9 : CI (B + 100) σ := h.up (by omega)
  have hr := h.2.2.2.2.2.2.2.2.2.2.1
  have hb : ∀ i, RI B (zst σ (zbk σ i)) := fun i => hr _ (h.2.1 i)
  have hs : ∀ i, RI B (zst σ (zsh σ i)) := fun i => hr _ (h.2.2.1 i)
  have hv : ∀ i, RI B (zst σ (zvw σ i)) := fun i => hr _ (h.2.2.2.1 i)
  unfold cS_buildBook
  split
  · rename_i q
    unfold kS_buildBook nS_buildBook
    exact CI_nb (σ := inc0 σ) h9 ((RI_add (by omega) RI_R0).up (by omega))
  · exact h9
theorem z3_buildBook {σ : CS} {xb xa xw : Int} : z3 (cS_buildBook σ xb xa xw) = z3 σ := by
  unfold cS_buildBook
  split
  · unfold kS_buildBook
    (repeat' split) <;> rfl
  · rfl
theorem CI_splitBook {B : Int} {σ : CS} {xb xk xc : Int} (h : CI B σ) : CI (B + 100) (cS_splitBook σ xb xk xc) := by
  have h0 := h.1
  have h9 : CI (B + 100) σ := h.up (by omega)
  have hr := h.2.2.2.2.2.2.2.2.2.2.1
  have hb : ∀ i, RI B (zst σ (zbk σ i)) := fun i => hr _ (h.2.1 i)
  have hs : ∀ i, RI B (zst σ (zsh σ i)) := fun i => hr _ (h.2.2.1 i)
  have hv : ∀ i, RI B (zst σ (zvw σ i)) := fun i => hr _ (h.2.2.2.1 i)
  unfold cS_splitBook
  split
  · rename_i q
    unfold kS_splitBook nS_splitBook
    split
    · exact h9
    · have tb := turn_b (o := zod σ (zbk σ xb)) (n := xk) (by omega)
      exact CI_sSt (CI_nb (σ := wrt σ (zbk σ xb)) (CI_wrt h9) ((RI_add (by omega) RI_R0).up (by omega))) (RI_clr (by omega) (hb xb))
  · exact h9
theorem z3_splitBook {σ : CS} {xb xk xc : Int} : z3 (cS_splitBook σ xb xk xc) = z3 σ := by
  unfold cS_splitBook
  split
  · unfold kS_splitBook
    (repeat' split) <;> rfl
  · rfl
theorem CI_fill {B : Int} {σ : CS} {xb xf xs xn xw : Int} (h : CI B σ) : CI (B + 100) (cS_fill σ xb xf xs xn xw) := by
  have h0 := h.1
  have h9 : CI (B + 100) σ := h.up (by omega)
  have hr := h.2.2.2.2.2.2.2.2.2.2.1
  have hb : ∀ i, RI B (zst σ (zbk σ i)) := fun i => hr _ (h.2.1 i)
  have hs : ∀ i, RI B (zst σ (zsh σ i)) := fun i => hr _ (h.2.2.1 i)
  have hv : ∀ i, RI B (zst σ (zvw σ i)) := fun i => hr _ (h.2.2.2.1 i)
  unfold cS_fill
  split
  · rename_i q
    unfold kS_fill
    split
    · exact CI_sSt (CI_wrt h9) (RI_rst (by omega) (hb xb))
    · exact CI_sSt (CI_wrt h9) (RI_stp (by omega) (hb xb))
  · exact h9
theorem z3_fill {σ : CS} {xb xf xs xn xw : Int} : z3 (cS_fill σ xb xf xs xn xw) = z3 σ := by
  unfold cS_fill
  split
  · unfold kS_fill
    (repeat' split) <;> rfl
  · rfl
theorem CI_pour {B : Int} {σ : CS} {xb xc : Int} (h : CI B σ) : CI (B + 100) (cS_pour σ xb xc) := by
  have h0 := h.1
  have h9 : CI (B + 100) σ := h.up (by omega)
  have hr := h.2.2.2.2.2.2.2.2.2.2.1
  have hb : ∀ i, RI B (zst σ (zbk σ i)) := fun i => hr _ (h.2.1 i)
  have hs : ∀ i, RI B (zst σ (zsh σ i)) := fun i => hr _ (h.2.2.1 i)
  have hv : ∀ i, RI B (zst σ (zvw σ i)) := fun i => hr _ (h.2.2.2.1 i)
  unfold cS_pour
  split
  · rename_i q
    unfold kS_pour
    split
    · exact h9
    · exact CI_sSt (CI_wrt h9) (RI_add (by omega) (hb xb))
  · exact h9
theorem z3_pour {σ : CS} {xb xc : Int} : z3 (cS_pour σ xb xc) = z3 σ := by
  unfold cS_pour
  split
  · unfold kS_pour
    (repeat' split) <;> rfl
  · rfl
theorem CI_keep {B : Int} {σ : CS} {xb xc xw : Int} (h : CI B σ) : CI (B + 100) (cS_keep σ xb xc xw) := by
  have h0 := h.1
  have h9 : CI (B + 100) σ := h.up (by omega)
  have hr := h.2.2.2.2.2.2.2.2.2.2.1
  have hb : ∀ i, RI B (zst σ (zbk σ i)) := fun i => hr _ (h.2.1 i)
  have hs : ∀ i, RI B (zst σ (zsh σ i)) := fun i => hr _ (h.2.2.1 i)
  have hv : ∀ i, RI B (zst σ (zvw σ i)) := fun i => hr _ (h.2.2.2.1 i)
  unfold cS_keep
  split
  · rename_i q
    unfold kS_keep
    split
    · exact h9
    · exact CI_sSt (CI_wrt h9) (RI_ret (hb xb))
  · exact h9
theorem z3_keep {σ : CS} {xb xc xw : Int} : z3 (cS_keep σ xb xc xw) = z3 σ := by
  unfold cS_keep
  split
  · unfold kS_keep
    (repeat' split) <;> rfl
  · rfl
theorem CI_put {B : Int} {σ : CS} {xb xk xw xt : Int} (h : CI B σ) : CI (B + 100) (cS_put σ xb xk xw xt) := by
  have h0 := h.1
  have h9 : CI (B + 100) σ := h.up (by omega)
  have hr := h.2.2.2.2.2.2.2.2.2.2.1
  have hb : ∀ i, RI B (zst σ (zbk σ i)) := fun i => hr _ (h.2.1 i)
  have hs : ∀ i, RI B (zst σ (zsh σ i)) := fun i => hr _ (h.2.2.1 i)
  have hv : ∀ i, RI B (zst σ (zvw σ i)) := fun i => hr _ (h.2.2.2.1 i)
  unfold cS_put
  split
  · rename_i q
    unfold kS_put
    split
    · exact CI_sSt (CI_wrt h9) ((RI_come (hb xb) (by omega)).up (by omega))
    · exact CI_wrt h9
  · exact h9
theorem z3_put {σ : CS} {xb xk xw xt : Int} : z3 (cS_put σ xb xk xw xt) = z3 σ := by
  unfold cS_put
  split
  · unfold kS_put
    (repeat' split) <;> rfl
  · rfl
theorem CI_exchange {B : Int} {σ : CS} {xb xk xo xw : Int} (h : CI B σ) : CI (B + 100) (cS_exchange σ xb xk xo xw) := by
  have h0 := h.1
  have h9 : CI (B + 100) σ := h.up (by omega)
  have hr := h.2.2.2.2.2.2.2.2.2.2.1
  have hb : ∀ i, RI B (zst σ (zbk σ i)) := fun i => hr _ (h.2.1 i)
  have hs : ∀ i, RI B (zst σ (zsh σ i)) := fun i => hr _ (h.2.2.1 i)
  have hv : ∀ i, RI B (zst σ (zvw σ i)) := fun i => hr _ (h.2.2.2.1 i)
  unfold cS_exchange
  split
  · rename_i q
    unfold kS_exchange
    split
    · exact CI_wrt h9
    · split
      · exact CI_sSt (CI_wrt h9) ((RI_go (hb xb)).up (by omega))
      · exact CI_sSt (CI_wrt h9) ((RI_come (hb xb) (by omega)).up (by omega))
  · exact h9
theorem z3_exchange {σ : CS} {xb xk xo xw : Int} : z3 (cS_exchange σ xb xk xo xw) = z3 σ := by
  unfold cS_exchange
  split
  · unfold kS_exchange
    (repeat' split) <;> rfl
  · rfl
theorem CI_take {B : Int} {σ : CS} {xb xk : Int} (h : CI B σ) : CI (B + 100) (cS_take σ xb xk) := by
  have h0 := h.1
  have h9 : CI (B + 100) σ := h.up (by omega)
  have hr := h.2.2.2.2.2.2.2.2.2.2.1
  have hb : ∀ i, RI B (zst σ (zbk σ i)) := fun i => hr _ (h.2.1 i)
  have hs : ∀ i, RI B (zst σ (zsh σ i)) := fun i => hr _ (h.2.2.1 i)
  have hv : ∀ i, RI B (zst σ (zvw σ i)) := fun i => hr _ (h.2.2.2.1 i)
  unfold cS_take
  split
  · rename_i q
    unfold kS_take
    exact CI_sSt (CI_wrt h9) ((RI_go (hb xb)).up (by omega))
  · exact h9
theorem z3_take {σ : CS} {xb xk : Int} : z3 (cS_take σ xb xk) = z3 σ := by
  unfold cS_take
  split
  · unfold kS_take
    (repeat' split) <;> rfl
  · rfl
theorem CI_drop {B : Int} {σ : CS} {xb xt : Int} (h : CI B σ) : CI (B + 100) (cS_drop σ xb xt) := by
  have h0 := h.1
  have h9 : CI (B + 100) σ := h.up (by omega)
  have hr := h.2.2.2.2.2.2.2.2.2.2.1
  have hb : ∀ i, RI B (zst σ (zbk σ i)) := fun i => hr _ (h.2.1 i)
  have hs : ∀ i, RI B (zst σ (zsh σ i)) := fun i => hr _ (h.2.2.1 i)
  have hv : ∀ i, RI B (zst σ (zvw σ i)) := fun i => hr _ (h.2.2.2.1 i)
  unfold cS_drop
  split
  · rename_i q
    unfold kS_drop
    exact CI_sSt (CI_wrt h9) (RI_drp (by omega) (hb xb))
  · exact h9
theorem z3_drop {σ : CS} {xb xt : Int} : z3 (cS_drop σ xb xt) = z3 σ := by
  unfold cS_drop
  split
  · unfold kS_drop
    (repeat' split) <;> rfl
  · rfl
theorem CI_has {B : Int} {σ : CS} {xb xw xn : Int} (h : CI B σ) : CI (B + 100) (cS_has σ xb xw xn) := by
  have h0 := h.1
  have h9 : CI (B + 100) σ := h.up (by omega)
  have hr := h.2.2.2.2.2.2.2.2.2.2.1
  have hb : ∀ i, RI B (zst σ (zbk σ i)) := fun i => hr _ (h.2.1 i)
  have hs : ∀ i, RI B (zst σ (zsh σ i)) := fun i => hr _ (h.2.2.1 i)
  have hv : ∀ i, RI B (zst σ (zvw σ i)) := fun i => hr _ (h.2.2.2.1 i)
  unfold cS_has kS_has
  split <;> exact h9
theorem z3_has {σ : CS} {xb xw xn : Int} : z3 (cS_has σ xb xw xn) = z3 σ := by
  unfold cS_has
  split
  · unfold kS_has
    (repeat' split) <;> rfl
  · rfl
theorem CI_near {B : Int} {σ : CS} {xb xk xt xw : Int} (h : CI B σ) : CI (B + 100) (cS_near σ xb xk xt xw) := by
  have h0 := h.1
  have h9 : CI (B + 100) σ := h.up (by omega)
  have hr := h.2.2.2.2.2.2.2.2.2.2.1
  have hb : ∀ i, RI B (zst σ (zbk σ i)) := fun i => hr _ (h.2.1 i)
  have hs : ∀ i, RI B (zst σ (zsh σ i)) := fun i => hr _ (h.2.2.1 i)
  have hv : ∀ i, RI B (zst σ (zvw σ i)) := fun i => hr _ (h.2.2.2.1 i)
  unfold cS_near kS_near
  split <;> exact h9
theorem z3_near {σ : CS} {xb xk xt xw : Int} : z3 (cS_near σ xb xk xt xw) = z3 σ := by
  unfold cS_near
  split
  · unfold kS_near
    (repeat' split) <;> rfl
  · rfl
theorem CI_end {B : Int} {σ : CS} {xb xw xv : Int} (h : CI B σ) : CI (B + 100) (cS_end σ xb xw xv) := by
  have h0 := h.1
  have h9 : CI (B + 100) σ := h.up (by omega)
  have hr := h.2.2.2.2.2.2.2.2.2.2.1
  have hb : ∀ i, RI B (zst σ (zbk σ i)) := fun i => hr _ (h.2.1 i)
  have hs : ∀ i, RI B (zst σ (zsh σ i)) := fun i => hr _ (h.2.2.1 i)
  have hv : ∀ i, RI B (zst σ (zvw σ i)) := fun i => hr _ (h.2.2.2.1 i)
  unfold cS_end
  split
  · rename_i q
    unfold kS_end
    split
    · exact h9
    · exact CI_kor h9
  · exact h9
theorem z3_end {σ : CS} {xb xw xv : Int} : z3 (cS_end σ xb xw xv) = z3 σ := by
  unfold cS_end
  split
  · unfold kS_end kor
    (repeat' split) <;> rfl
  · rfl
theorem CI_keyAt {B : Int} {σ : CS} {xb xn xw : Int} (h : CI B σ) : CI (B + 100) (cS_keyAt σ xb xn xw) := by
  have h0 := h.1
  have h9 : CI (B + 100) σ := h.up (by omega)
  have hr := h.2.2.2.2.2.2.2.2.2.2.1
  have hb : ∀ i, RI B (zst σ (zbk σ i)) := fun i => hr _ (h.2.1 i)
  have hs : ∀ i, RI B (zst σ (zsh σ i)) := fun i => hr _ (h.2.2.1 i)
  have hv : ∀ i, RI B (zst σ (zvw σ i)) := fun i => hr _ (h.2.2.2.1 i)
  unfold cS_keyAt kS_keyAt
  split <;> exact h9
theorem z3_keyAt {σ : CS} {xb xn xw : Int} : z3 (cS_keyAt σ xb xn xw) = z3 σ := by
  unfold cS_keyAt
  split
  · unfold kS_keyAt
    (repeat' split) <;> rfl
  · rfl
theorem CI_tellBook {B : Int} {σ : CS} {xb xt : Int} (h : CI B σ) : CI (B + 100) (cS_tellBook σ xb xt) := by
  have h0 := h.1
  have h9 : CI (B + 100) σ := h.up (by omega)
  have hr := h.2.2.2.2.2.2.2.2.2.2.1
  have hb : ∀ i, RI B (zst σ (zbk σ i)) := fun i => hr _ (h.2.1 i)
  have hs : ∀ i, RI B (zst σ (zsh σ i)) := fun i => hr _ (h.2.2.1 i)
  have hv : ∀ i, RI B (zst σ (zvw σ i)) := fun i => hr _ (h.2.2.2.1 i)
  unfold cS_tellBook kS_tellBook
  split <;> exact h9
theorem z3_tellBook {σ : CS} {xb xt : Int} : z3 (cS_tellBook σ xb xt) = z3 σ := by
  unfold cS_tellBook
  split
  · unfold kS_tellBook
    (repeat' split) <;> rfl
  · rfl
theorem CI_sameBooks {B : Int} {σ : CS} {xb xc : Int} (h : CI B σ) : CI (B + 100) (cS_sameBooks σ xb xc) := by
  have h0 := h.1
  have h9 : CI (B + 100) σ := h.up (by omega)
  have hr := h.2.2.2.2.2.2.2.2.2.2.1
  have hb : ∀ i, RI B (zst σ (zbk σ i)) := fun i => hr _ (h.2.1 i)
  have hs : ∀ i, RI B (zst σ (zsh σ i)) := fun i => hr _ (h.2.2.1 i)
  have hv : ∀ i, RI B (zst σ (zvw σ i)) := fun i => hr _ (h.2.2.2.1 i)
  unfold cS_sameBooks kS_sameBooks
  split <;> exact h9
theorem z3_sameBooks {σ : CS} {xb xc : Int} : z3 (cS_sameBooks σ xb xc) = z3 σ := by
  unfold cS_sameBooks
  split
  · unfold kS_sameBooks
    (repeat' split) <;> rfl
  · rfl
theorem CI_openView {B : Int} {σ : CS} {xv xb xkind xlow xhigh xends : Int} (h : CI B σ) : CI (B + 100) (cS_openView σ xv xb xkind xlow xhigh xends) := by
  have h0 := h.1
  have h9 : CI (B + 100) σ := h.up (by omega)
  have hr := h.2.2.2.2.2.2.2.2.2.2.1
  have hb : ∀ i, RI B (zst σ (zbk σ i)) := fun i => hr _ (h.2.1 i)
  have hs : ∀ i, RI B (zst σ (zsh σ i)) := fun i => hr _ (h.2.2.1 i)
  have hv : ∀ i, RI B (zst σ (zvw σ i)) := fun i => hr _ (h.2.2.2.1 i)
  unfold cS_openView
  split
  · rename_i q
    unfold kS_openView
    have t1 := turn_b (o := zod σ (zbk σ xb)) (n := xlow) (by omega)
    have t2 := turn_b (o := zod σ (zbk σ xb)) (n := xhigh) (by omega)
    split
    · exact h9
    · exact CI_vw h9 (h.2.1 _) (by unfold oLo; (repeat' split) <;> omega) (by unfold oHi; (repeat' split) <;> omega)
  · exact h9
theorem z3_openView {σ : CS} {xv xb xkind xlow xhigh xends : Int} : z3 (cS_openView σ xv xb xkind xlow xhigh xends) = z3 σ := by
  unfold cS_openView
  split
  · unfold kS_openView
    (repeat' split) <;> rfl
  · rfl
theorem CI_narrowView {B : Int} {σ : CS} {xv xkind xlow xhigh : Int} (h : CI B σ) : CI (B + 100) (cS_narrowView σ xv xkind xlow xhigh) := by
  have h0 := h.1
  have h9 : CI (B + 100) σ := h.up (by omega)
  have hr := h.2.2.2.2.2.2.2.2.2.2.1
  have hb : ∀ i, RI B (zst σ (zbk σ i)) := fun i => hr _ (h.2.1 i)
  have hs : ∀ i, RI B (zst σ (zsh σ i)) := fun i => hr _ (h.2.2.1 i)
  have hv : ∀ i, RI B (zst σ (zvw σ i)) := fun i => hr _ (h.2.2.2.1 i)
  unfold cS_narrowView
  split
  · rename_i q
    unfold kS_narrowView
    have t1 := turn_b (o := zod σ (zvw σ xv)) (n := xlow) (by omega)
    have t2 := turn_b (o := zod σ (zvw σ xv)) (n := xhigh) (by omega)
    have t3 := h.2.2.2.2.2.1 xv
    split
    · exact h9
    · exact CI_vw h9 (h.2.2.2.1 _) (by unfold nLo; (repeat' split) <;> omega) (by unfold nHi; (repeat' split) <;> omega)
  · exact h9
theorem z3_narrowView {σ : CS} {xv xkind xlow xhigh : Int} : z3 (cS_narrowView σ xv xkind xlow xhigh) = z3 σ := by
  unfold cS_narrowView
  split
  · unfold kS_narrowView
    (repeat' split) <;> rfl
  · rfl
theorem CI_buildFromView {B : Int} {σ : CS} {xb xv xw : Int} (h : CI B σ) : CI (B + 100) (cS_buildFromView σ xb xv xw) := by
  have h0 := h.1
  have h9 : CI (B + 100) σ := h.up (by omega)
  have hr := h.2.2.2.2.2.2.2.2.2.2.1
  have hb : ∀ i, RI B (zst σ (zbk σ i)) := fun i => hr _ (h.2.1 i)
  have hs : ∀ i, RI B (zst σ (zsh σ i)) := fun i => hr _ (h.2.2.1 i)
  have hv : ∀ i, RI B (zst σ (zvw σ i)) := fun i => hr _ (h.2.2.2.1 i)
  unfold cS_buildFromView
  split
  · rename_i q
    unfold kS_buildFromView nS_buildFromView
    have t3 := h.2.2.2.2.2.1 xv
    exact CI_nb (σ := inc0 σ) h9 ((RI_add (by omega) RI_R0).up (by omega))
  · exact h9
theorem z3_buildFromView {σ : CS} {xb xv xw : Int} : z3 (cS_buildFromView σ xb xv xw) = z3 σ := by
  unfold cS_buildFromView
  split
  · unfold kS_buildFromView
    (repeat' split) <;> rfl
  · rfl
theorem CI_viewPut {B : Int} {σ : CS} {xv xk xw : Int} (h : CI B σ) : CI (B + 100) (cS_viewPut σ xv xk xw) := by
  have h0 := h.1
  have h9 : CI (B + 100) σ := h.up (by omega)
  have hr := h.2.2.2.2.2.2.2.2.2.2.1
  have hb : ∀ i, RI B (zst σ (zbk σ i)) := fun i => hr _ (h.2.1 i)
  have hs : ∀ i, RI B (zst σ (zsh σ i)) := fun i => hr _ (h.2.2.1 i)
  have hv : ∀ i, RI B (zst σ (zvw σ i)) := fun i => hr _ (h.2.2.2.1 i)
  unfold cS_viewPut
  split
  · rename_i q
    unfold kS_viewPut
    split
    · exact CI_sSt (CI_wrt h9) ((RI_come (hv xv) (by omega)).up (by omega))
    · exact h9
  · exact h9
theorem z3_viewPut {σ : CS} {xv xk xw : Int} : z3 (cS_viewPut σ xv xk xw) = z3 σ := by
  unfold cS_viewPut
  split
  · unfold kS_viewPut
    (repeat' split) <;> rfl
  · rfl
theorem CI_viewTake {B : Int} {σ : CS} {xv xk : Int} (h : CI B σ) : CI (B + 100) (cS_viewTake σ xv xk) := by
  have h0 := h.1
  have h9 : CI (B + 100) σ := h.up (by omega)
  have hr := h.2.2.2.2.2.2.2.2.2.2.1
  have hb : ∀ i, RI B (zst σ (zbk σ i)) := fun i => hr _ (h.2.1 i)
  have hs : ∀ i, RI B (zst σ (zsh σ i)) := fun i => hr _ (h.2.2.1 i)
  have hv : ∀ i, RI B (zst σ (zvw σ i)) := fun i => hr _ (h.2.2.2.1 i)
  unfold cS_viewTake
  split
  · rename_i q
    unfold kS_viewTake
    split
    · exact CI_sSt (CI_wrt h9) ((RI_go (hv xv)).up (by omega))
    · exact CI_wrt h9
  · exact h9
theorem z3_viewTake {σ : CS} {xv xk : Int} : z3 (cS_viewTake σ xv xk) = z3 σ := by
  unfold cS_viewTake
  split
  · unfold kS_viewTake
    (repeat' split) <;> rfl
  · rfl
theorem CI_viewDrop {B : Int} {σ : CS} {xv xt : Int} (h : CI B σ) : CI (B + 100) (cS_viewDrop σ xv xt) := by
  have h0 := h.1
  have h9 : CI (B + 100) σ := h.up (by omega)
  have hr := h.2.2.2.2.2.2.2.2.2.2.1
  have hb : ∀ i, RI B (zst σ (zbk σ i)) := fun i => hr _ (h.2.1 i)
  have hs : ∀ i, RI B (zst σ (zsh σ i)) := fun i => hr _ (h.2.2.1 i)
  have hv : ∀ i, RI B (zst σ (zvw σ i)) := fun i => hr _ (h.2.2.2.1 i)
  unfold cS_viewDrop
  split
  · rename_i q
    unfold kS_viewDrop
    have t3 := h.2.2.2.2.2.1 xv
    exact CI_sSt (CI_wrt h9) (RI_drp (by omega) (hv xv))
  · exact h9
theorem z3_viewDrop {σ : CS} {xv xt : Int} : z3 (cS_viewDrop σ xv xt) = z3 σ := by
  unfold cS_viewDrop
  split
  · unfold kS_viewDrop
    (repeat' split) <;> rfl
  · rfl
theorem CI_viewNear {B : Int} {σ : CS} {xv xk xt : Int} (h : CI B σ) : CI (B + 100) (cS_viewNear σ xv xk xt) := by
  have h0 := h.1
  have h9 : CI (B + 100) σ := h.up (by omega)
  have hr := h.2.2.2.2.2.2.2.2.2.2.1
  have hb : ∀ i, RI B (zst σ (zbk σ i)) := fun i => hr _ (h.2.1 i)
  have hs : ∀ i, RI B (zst σ (zsh σ i)) := fun i => hr _ (h.2.2.1 i)
  have hv : ∀ i, RI B (zst σ (zvw σ i)) := fun i => hr _ (h.2.2.2.1 i)
  unfold cS_viewNear kS_viewNear
  split <;> exact h9
theorem z3_viewNear {σ : CS} {xv xk xt : Int} : z3 (cS_viewNear σ xv xk xt) = z3 σ := by
  unfold cS_viewNear
  split
  · unfold kS_viewNear
    (repeat' split) <;> rfl
  · rfl
theorem CI_viewTell {B : Int} {σ : CS} {xv xt : Int} (h : CI B σ) : CI (B + 100) (cS_viewTell σ xv xt) := by
  have h0 := h.1
  have h9 : CI (B + 100) σ := h.up (by omega)
  have hr := h.2.2.2.2.2.2.2.2.2.2.1
  have hb : ∀ i, RI B (zst σ (zbk σ i)) := fun i => hr _ (h.2.1 i)
  have hs : ∀ i, RI B (zst σ (zsh σ i)) := fun i => hr _ (h.2.2.1 i)
  have hv : ∀ i, RI B (zst σ (zvw σ i)) := fun i => hr _ (h.2.2.2.1 i)
  unfold cS_viewTell
  split
  · rename_i q
    unfold kS_viewTell
    split
    · exact h9
    · exact CI_kor h9
  · exact h9
theorem z3_viewTell {σ : CS} {xv xt : Int} : z3 (cS_viewTell σ xv xt) = z3 σ := by
  unfold cS_viewTell
  split
  · unfold kS_viewTell kor
    (repeat' split) <;> rfl
  · rfl
theorem CI_startWalk {B : Int} {σ : CS} {xb : Int} (h : CI B σ) : CI (B + 100) (cS_startWalk σ xb) := by
  have h0 := h.1
  have h9 : CI (B + 100) σ := h.up (by omega)
  have hr := h.2.2.2.2.2.2.2.2.2.2.1
  have hb : ∀ i, RI B (zst σ (zbk σ i)) := fun i => hr _ (h.2.1 i)
  have hs : ∀ i, RI B (zst σ (zsh σ i)) := fun i => hr _ (h.2.2.1 i)
  have hv : ∀ i, RI B (zst σ (zvw σ i)) := fun i => hr _ (h.2.2.2.1 i)
  unfold cS_startWalk
  split
  · rename_i q
    unfold kS_startWalk
    have c9 := hb xb
    exact CI_wk h9 (fun i e => by cases e; exact h.2.1 xb) ⟨by have := c9.2.1; omega, by have := c9.2.2; omega⟩ (by omega) (by omega)
  · exact h9
theorem z3_startWalk {σ : CS} {xb : Int} : z3 (cS_startWalk σ xb) = z3 σ := by
  unfold cS_startWalk
  split
  · unfold kS_startWalk
    (repeat' split) <;> rfl
  · rfl
theorem CI_freshShelf {B : Int} {σ : CS} {xb xo : Int} (h : CI B σ) : CI (B + 100) (cS_freshShelf σ xb xo) := by
  have h0 := h.1
  have h9 : CI (B + 100) σ := h.up (by omega)
  have hr := h.2.2.2.2.2.2.2.2.2.2.1
  have hb : ∀ i, RI B (zst σ (zbk σ i)) := fun i => hr _ (h.2.1 i)
  have hs : ∀ i, RI B (zst σ (zsh σ i)) := fun i => hr _ (h.2.2.1 i)
  have hv : ∀ i, RI B (zst σ (zvw σ i)) := fun i => hr _ (h.2.2.2.1 i)
  unfold cS_freshShelf
  split
  · rename_i q
    unfold kS_freshShelf
    exact CI_ns (σ := inc1 σ) h9 (RI_R0.up (by omega))
  · exact h9
theorem z3_freshShelf {σ : CS} {xb xo : Int} : z3 (cS_freshShelf σ xb xo) = z3 σ := by
  unfold cS_freshShelf
  split
  · unfold kS_freshShelf
    (repeat' split) <;> rfl
  · rfl
theorem CI_buildShelf {B : Int} {σ : CS} {xb xa xw : Int} (h : CI B σ) : CI (B + 100) (cS_buildShelf σ xb xa xw) := by
  have h0 := h.1
  have h9 : CI (B + 100) σ := h.up (by omega)
  have hr := h.2.2.2.2.2.2.2.2.2.2.1
  have hb : ∀ i, RI B (zst σ (zbk σ i)) := fun i => hr _ (h.2.1 i)
  have hs : ∀ i, RI B (zst σ (zsh σ i)) := fun i => hr _ (h.2.2.1 i)
  have hv : ∀ i, RI B (zst σ (zvw σ i)) := fun i => hr _ (h.2.2.2.1 i)
  unfold cS_buildShelf
  split
  · rename_i q
    unfold kS_buildShelf nS_buildShelf
    exact CI_ns (σ := inc1 σ) h9 ((RI_add (by omega) RI_R0).up (by omega))
  · exact h9
theorem z3_buildShelf {σ : CS} {xb xa xw : Int} : z3 (cS_buildShelf σ xb xa xw) = z3 σ := by
  unfold cS_buildShelf
  split
  · unfold kS_buildShelf
    (repeat' split) <;> rfl
  · rfl
theorem CI_keysOf {B : Int} {σ : CS} {xb xa : Int} (h : CI B σ) : CI (B + 100) (cS_keysOf σ xb xa) := by
  have h0 := h.1
  have h9 : CI (B + 100) σ := h.up (by omega)
  have hr := h.2.2.2.2.2.2.2.2.2.2.1
  have hb : ∀ i, RI B (zst σ (zbk σ i)) := fun i => hr _ (h.2.1 i)
  have hs : ∀ i, RI B (zst σ (zsh σ i)) := fun i => hr _ (h.2.2.1 i)
  have hv : ∀ i, RI B (zst σ (zvw σ i)) := fun i => hr _ (h.2.2.2.1 i)
  unfold cS_keysOf
  split
  · rename_i q
    unfold kS_keysOf
    exact CI_ns (σ := inc1 σ) h9 (RI_ck.up (by omega))
  · exact h9
theorem z3_keysOf {σ : CS} {xb xa : Int} : z3 (cS_keysOf σ xb xa) = z3 σ := by
  unfold cS_keysOf
  split
  · unfold kS_keysOf
    (repeat' split) <;> rfl
  · rfl
theorem CI_lay {B : Int} {σ : CS} {xb xf xs xn xw : Int} (h : CI B σ) : CI (B + 100) (cS_lay σ xb xf xs xn xw) := by
  have h0 := h.1
  have h9 : CI (B + 100) σ := h.up (by omega)
  have hr := h.2.2.2.2.2.2.2.2.2.2.1
  have hb : ∀ i, RI B (zst σ (zbk σ i)) := fun i => hr _ (h.2.1 i)
  have hs : ∀ i, RI B (zst σ (zsh σ i)) := fun i => hr _ (h.2.2.1 i)
  have hv : ∀ i, RI B (zst σ (zvw σ i)) := fun i => hr _ (h.2.2.2.1 i)
  unfold cS_lay
  split
  · rename_i q
    unfold kS_lay
    split
    · exact CI_sSt (σ := inc1 σ) h9 (RI_kst (by omega) (hs xb))
    · exact CI_sSt (σ := inc1 σ) h9 (RI_rst (by omega) (hs xb))
  · exact h9
theorem z3_lay {σ : CS} {xb xf xs xn xw : Int} : z3 (cS_lay σ xb xf xs xn xw) = z3 σ := by
  unfold cS_lay
  split
  · unfold kS_lay
    (repeat' split) <;> rfl
  · rfl
theorem CI_shelfBoth {B : Int} {σ : CS} {xb xc xt : Int} (h : CI B σ) : CI (B + 100) (cS_shelfBoth σ xb xc xt) := by
  have h0 := h.1
  have h9 : CI (B + 100) σ := h.up (by omega)
  have hr := h.2.2.2.2.2.2.2.2.2.2.1
  have hb : ∀ i, RI B (zst σ (zbk σ i)) := fun i => hr _ (h.2.1 i)
  have hs : ∀ i, RI B (zst σ (zsh σ i)) := fun i => hr _ (h.2.2.1 i)
  have hv : ∀ i, RI B (zst σ (zvw σ i)) := fun i => hr _ (h.2.2.2.1 i)
  unfold cS_shelfBoth
  split
  · rename_i q
    unfold kS_shelfBoth
    split
    · exact h9
    · split
      · exact CI_sSt (σ := inc1 σ) h9 (RI_add (by omega) (hs xb))
      · exact CI_sSt (σ := inc1 σ) h9 (RI_ret (hs xb))
  · exact h9
theorem z3_shelfBoth {σ : CS} {xb xc xt : Int} : z3 (cS_shelfBoth σ xb xc xt) = z3 σ := by
  unfold cS_shelfBoth
  split
  · unfold kS_shelfBoth
    (repeat' split) <;> rfl
  · rfl
theorem CI_shelfDrop {B : Int} {σ : CS} {xb xt : Int} (h : CI B σ) : CI (B + 100) (cS_shelfDrop σ xb xt) := by
  have h0 := h.1
  have h9 : CI (B + 100) σ := h.up (by omega)
  have hr := h.2.2.2.2.2.2.2.2.2.2.1
  have hb : ∀ i, RI B (zst σ (zbk σ i)) := fun i => hr _ (h.2.1 i)
  have hs : ∀ i, RI B (zst σ (zsh σ i)) := fun i => hr _ (h.2.2.1 i)
  have hv : ∀ i, RI B (zst σ (zvw σ i)) := fun i => hr _ (h.2.2.2.1 i)
  unfold cS_shelfDrop
  split
  · rename_i q
    unfold kS_shelfDrop
    split
    · exact CI_sSt (σ := inc1 σ) h9 (RI_clr (by omega) (hs xb))
    · exact CI_sSt (σ := inc1 σ) h9 ((RI_go (hs xb)).up (by omega))
  · exact h9
theorem z3_shelfDrop {σ : CS} {xb xt : Int} : z3 (cS_shelfDrop σ xb xt) = z3 σ := by
  unfold cS_shelfDrop
  split
  · unfold kS_shelfDrop
    (repeat' split) <;> rfl
  · rfl
theorem CI_shelfCut {B : Int} {σ : CS} {xb xlow xhigh xt xc : Int} (h : CI B σ) : CI (B + 100) (cS_shelfCut σ xb xlow xhigh xt xc) := by
  have h0 := h.1
  have h9 : CI (B + 100) σ := h.up (by omega)
  have hr := h.2.2.2.2.2.2.2.2.2.2.1
  have hb : ∀ i, RI B (zst σ (zbk σ i)) := fun i => hr _ (h.2.1 i)
  have hs : ∀ i, RI B (zst σ (zsh σ i)) := fun i => hr _ (h.2.2.1 i)
  have hv : ∀ i, RI B (zst σ (zvw σ i)) := fun i => hr _ (h.2.2.2.1 i)
  unfold cS_shelfCut
  split
  · rename_i q
    unfold kS_shelfCut nS_shelfCut
    have t1 := turn_b (o := zod σ (zsh σ xb)) (n := xlow) (by omega)
    have t2 := turn_b (o := zod σ (zsh σ xb)) (n := xhigh) (by omega)
    split
    · exact h9
    · split
      · exact h9
      · split
        · exact CI_sSt (σ := inc1 σ) h9 (RI_clr (by omega) (hs xb))
        · split
          · exact CI_ns (σ := inc1 σ) h9 ((RI_add (by omega) RI_R0).up (by omega))
          · exact CI_sSt (σ := inc1 σ) h9 ((RI_go (hs xb)).up (by omega))
  · exact h9
theorem z3_shelfCut {σ : CS} {xb xlow xhigh xt xc : Int} : z3 (cS_shelfCut σ xb xlow xhigh xt xc) = z3 σ := by
  unfold cS_shelfCut
  split
  · unfold kS_shelfCut
    (repeat' split) <;> rfl
  · rfl
theorem CI_shelfNear {B : Int} {σ : CS} {xb xk xt : Int} (h : CI B σ) : CI (B + 100) (cS_shelfNear σ xb xk xt) := by
  have h0 := h.1
  have h9 : CI (B + 100) σ := h.up (by omega)
  have hr := h.2.2.2.2.2.2.2.2.2.2.1
  have hb : ∀ i, RI B (zst σ (zbk σ i)) := fun i => hr _ (h.2.1 i)
  have hs : ∀ i, RI B (zst σ (zsh σ i)) := fun i => hr _ (h.2.2.1 i)
  have hv : ∀ i, RI B (zst σ (zvw σ i)) := fun i => hr _ (h.2.2.2.1 i)
  unfold cS_shelfNear kS_shelfNear
  split <;> exact h9
theorem z3_shelfNear {σ : CS} {xb xk xt : Int} : z3 (cS_shelfNear σ xb xk xt) = z3 σ := by
  unfold cS_shelfNear
  split
  · unfold kS_shelfNear
    (repeat' split) <;> rfl
  · rfl
theorem CI_shelfTell {B : Int} {σ : CS} {xb xt : Int} (h : CI B σ) : CI (B + 100) (cS_shelfTell σ xb xt) := by
  have h0 := h.1
  have h9 : CI (B + 100) σ := h.up (by omega)
  have hr := h.2.2.2.2.2.2.2.2.2.2.1
  have hb : ∀ i, RI B (zst σ (zbk σ i)) := fun i => hr _ (h.2.1 i)
  have hs : ∀ i, RI B (zst σ (zsh σ i)) := fun i => hr _ (h.2.2.1 i)
  have hv : ∀ i, RI B (zst σ (zvw σ i)) := fun i => hr _ (h.2.2.2.1 i)
  unfold cS_shelfTell
  split
  · rename_i q
    unfold kS_shelfTell
    split
    · exact h9
    · exact CI_kor h9
  · exact h9
theorem z3_shelfTell {σ : CS} {xb xt : Int} : z3 (cS_shelfTell σ xb xt) = z3 σ := by
  unfold cS_shelfTell
  split
  · unfold kS_shelfTell kor
    (repeat' split) <;> rfl
  · rfl
theorem CI_sameShelves {B : Int} {σ : CS} {xb xc xt : Int} (h : CI B σ) : CI (B + 100) (cS_sameShelves σ xb xc xt) := by
  have h0 := h.1
  have h9 : CI (B + 100) σ := h.up (by omega)
  have hr := h.2.2.2.2.2.2.2.2.2.2.1
  have hb : ∀ i, RI B (zst σ (zbk σ i)) := fun i => hr _ (h.2.1 i)
  have hs : ∀ i, RI B (zst σ (zsh σ i)) := fun i => hr _ (h.2.2.1 i)
  have hv : ∀ i, RI B (zst σ (zvw σ i)) := fun i => hr _ (h.2.2.2.1 i)
  unfold cS_sameShelves kS_sameShelves
  split <;> exact h9
theorem z3_sameShelves {σ : CS} {xb xc xt : Int} : z3 (cS_sameShelves σ xb xc xt) = z3 σ := by
  unfold cS_sameShelves
  split
  · unfold kS_sameShelves
    (repeat' split) <;> rfl
  · rfl
theorem CI_house {B : Int} {σ : CS} {xt : Int} (h : CI B σ) : CI (B + 100) (cS_house σ xt) := by
  have h0 := h.1
  have h9 : CI (B + 100) σ := h.up (by omega)
  have hr := h.2.2.2.2.2.2.2.2.2.2.1
  have hb : ∀ i, RI B (zst σ (zbk σ i)) := fun i => hr _ (h.2.1 i)
  have hs : ∀ i, RI B (zst σ (zsh σ i)) := fun i => hr _ (h.2.2.1 i)
  have hv : ∀ i, RI B (zst σ (zvw σ i)) := fun i => hr _ (h.2.2.2.1 i)
  unfold cS_house kS_house
  split <;> exact h9
theorem z3_house {σ : CS} {xt : Int} : z3 (cS_house σ xt) = z3 σ := by
  unfold cS_house
  split
  · unfold kS_house
    (repeat' split) <;> rfl
  · rfl
theorem CI_walkSet {B : Int} {σ : CS} {xw : Int} (h : CI B σ) : CI (B + 100) (cS_walkSet σ xw) := by
  have h0 := h.1
  have h9 : CI (B + 100) σ := h.up (by omega)
  have hr := h.2.2.2.2.2.2.2.2.2.2.1
  have hb : ∀ i, RI B (zst σ (zbk σ i)) := fun i => hr _ (h.2.1 i)
  have hs : ∀ i, RI B (zst σ (zsh σ i)) := fun i => hr _ (h.2.2.1 i)
  have hv : ∀ i, RI B (zst σ (zvw σ i)) := fun i => hr _ (h.2.2.2.1 i)
  unfold cS_walkSet
  split
  · rename_i q
    cases hw : zwk σ with
    | none => exact CI_i2 h9
    | some j =>
      show CI (B + 100) (kS_walkSet1 σ j xw)
      unfold kS_walkSet1
      have hj := h.2.2.2.2.1 j hw
      split
      · exact CI_sSt (σ := inc0 σ) h9 ((RI_come (hr j hj) (by omega)).up (by omega))
      · exact h9
  · exact h9
theorem z3_walkSet {σ : CS} {xw : Int} : z3 (cS_walkSet σ xw) = z3 σ := by
  unfold cS_walkSet
  split
  · split
    · rfl
    · unfold kS_walkSet1
      split <;> rfl
  · rfl
theorem CI_bookText {B : Int} {σ : CS} {xb : Int} (h : CI B σ) : CI (B + 100) (cS_bookText σ xb) := by
  have h0 := h.1
  have h9 : CI (B + 100) σ := h.up (by omega)
  have hr := h.2.2.2.2.2.2.2.2.2.2.1
  have hb : ∀ i, RI B (zst σ (zbk σ i)) := fun i => hr _ (h.2.1 i)
  have hs : ∀ i, RI B (zst σ (zsh σ i)) := fun i => hr _ (h.2.2.1 i)
  have hv : ∀ i, RI B (zst σ (zvw σ i)) := fun i => hr _ (h.2.2.2.1 i)
  unfold cS_bookText kS_bookText
  split <;> exact h9
theorem z3_bookText {σ : CS} {xb : Int} : z3 (cS_bookText σ xb) = z3 σ := by
  unfold cS_bookText
  split
  · unfold kS_bookText
    (repeat' split) <;> rfl
  · rfl
theorem CI_walkNext {B : Int} {σ : CS} (h : CI B σ) : CI (B + 100) (cS_walkNext σ) := by
  have h0 := h.1
  have h9 : CI (B + 100) σ := h.up (by omega)
  have hr := h.2.2.2.2.2.2.2.2.2.2.1
  have hb : ∀ i, RI B (zst σ (zbk σ i)) := fun i => hr _ (h.2.1 i)
  have hs : ∀ i, RI B (zst σ (zsh σ i)) := fun i => hr _ (h.2.2.1 i)
  have hv : ∀ i, RI B (zst σ (zvw σ i)) := fun i => hr _ (h.2.2.2.1 i)
  unfold cS_walkNext
  cases hw : zwk σ with
  | none => exact CI_i2 h9
  | some j =>
    show CI (B + 100) (kS_walkNext1 σ j)
    unfold kS_walkNext1 tnS
    have t1 := firP_r (zst σ j).2.2 (zwl σ + 1) 99
    have t2 : tnx σ j = firP (zst σ j).2.2 (zwl σ + 1) 99 := rfl
    split
    · split
      · exact h9
      · exact CI_wk h9 (fun i e => by cases e; exact h.2.2.2.2.1 j hw) h9.2.2.2.2.2.2.2.2.2.2.2 (by omega) (by omega)
    · exact h9
theorem z3_walkNext {σ : CS} : z3 (cS_walkNext σ) = z3 σ := by
  unfold cS_walkNext
  split
  · rfl
  · unfold kS_walkNext1 tnS
    (repeat' split) <;> rfl
theorem CI_walkTake {B : Int} {σ : CS} (h : CI B σ) : CI (B + 100) (cS_walkTake σ) := by
  have h0 := h.1
  have h9 : CI (B + 100) σ := h.up (by omega)
  have hr := h.2.2.2.2.2.2.2.2.2.2.1
  have hb : ∀ i, RI B (zst σ (zbk σ i)) := fun i => hr _ (h.2.1 i)
  have hs : ∀ i, RI B (zst σ (zsh σ i)) := fun i => hr _ (h.2.2.1 i)
  have hv : ∀ i, RI B (zst σ (zvw σ i)) := fun i => hr _ (h.2.2.2.1 i)
  unfold cS_walkTake
  cases hw : zwk σ with
  | none => exact CI_i2 h9
  | some j =>
    show CI (B + 100) (kS_walkTake1 σ j)
    unfold kS_walkTake1 rtS
    have hj := h.2.2.2.2.1 j hw
    have g := RI_go (n := zwl σ) (hr j hj)
    split
    · exact CI_wk (σ := sSt (inc0 σ) j (goS (zst σ j) (zwl σ))) (CI_sSt (σ := inc0 σ) h9 (g.up (by omega))) (fun i e => by cases e; exact hj) ⟨by have := g.2.1; show -1 ≤ (goS (zst σ j) (zwl σ)).2.1; omega, by have := g.2.2; show (goS (zst σ j) (zwl σ)).2.1 ≤ B + 100; omega⟩ h.2.2.2.2.2.2.1 (by omega)
    · exact h9
theorem z3_walkTake {σ : CS} : z3 (cS_walkTake σ) = z3 σ := by
  unfold cS_walkTake
  split
  · rfl
  · unfold kS_walkTake1 rtS
    (repeat' split) <;> rfl
theorem CI_knock {B : Int} {σ : CS} (h : CI B σ) : CI (B + 100) (cS_knock σ) := by
  have h0 := h.1
  have h9 : CI (B + 100) σ := h.up (by omega)
  have hr := h.2.2.2.2.2.2.2.2.2.2.1
  have hb : ∀ i, RI B (zst σ (zbk σ i)) := fun i => hr _ (h.2.1 i)
  have hs : ∀ i, RI B (zst σ (zsh σ i)) := fun i => hr _ (h.2.2.1 i)
  have hv : ∀ i, RI B (zst σ (zvw σ i)) := fun i => hr _ (h.2.2.2.1 i)
  exact CI_i3 h9
theorem z3_knock {σ : CS} : z3 (cS_knock σ) = z3 σ + 1 := rfl
theorem CI_isSound {B : Int} {σ : CS} (h : CI B σ) : CI (B + 100) (cS_isSound σ) := by
  have h0 := h.1
  have h9 : CI (B + 100) σ := h.up (by omega)
  have hr := h.2.2.2.2.2.2.2.2.2.2.1
  have hb : ∀ i, RI B (zst σ (zbk σ i)) := fun i => hr _ (h.2.1 i)
  have hs : ∀ i, RI B (zst σ (zsh σ i)) := fun i => hr _ (h.2.2.1 i)
  have hv : ∀ i, RI B (zst σ (zvw σ i)) := fun i => hr _ (h.2.2.2.1 i)
  exact h9
theorem z3_isSound {σ : CS} : z3 (cS_isSound σ) = z3 σ := by
  rfl
theorem CI_digest {B : Int} {σ : CS} (h : CI B σ) : CI (B + 100) (cS_digest σ) := by
  have h0 := h.1
  have h9 : CI (B + 100) σ := h.up (by omega)
  have hr := h.2.2.2.2.2.2.2.2.2.2.1
  have hb : ∀ i, RI B (zst σ (zbk σ i)) := fun i => hr _ (h.2.1 i)
  have hs : ∀ i, RI B (zst σ (zsh σ i)) := fun i => hr _ (h.2.2.1 i)
  have hv : ∀ i, RI B (zst σ (zvw σ i)) := fun i => hr _ (h.2.2.2.1 i)
  exact h9
theorem z3_digest {σ : CS} : z3 (cS_digest σ) = z3 σ := by
  rfl
theorem CI_init : CI 0 kS_init := by
  refine ⟨by omega, fun i => ?_, fun i => ?_, fun i => ?_, fun i e => (nomatch e), fun i => ?_, by decide, by decide, fun i j a1 a2 a3 a4 e => ?_, fun i j a1 a2 a3 a4 e => ?_, fun i hi => RI_R0, by decide⟩
  · show (if i = 1 then 1 else if i = 2 then 2 else if i = 3 then 3 else 0) < 7
    (repeat' split) <;> omega
  · show (if i = 1 then 5 else if i = 2 then 6 else 4) < 7
    (repeat' split) <;> omega
  · show (if i = 1 then 1 else 0) < 7
    split <;> omega
  · show (0 : Int) ≤ 0 ∧ (0 : Int) ≤ 100 ∧ (-1 : Int) ≤ 99 ∧ (99 : Int) ≤ 99
    omega
  · have e2 : (if i = 1 then 1 else if i = 2 then 2 else if i = 3 then 3 else 0 : Nat) = (if j = 1 then 1 else if j = 2 then 2 else if j = 3 then 3 else 0 : Nat) := e
    (repeat' split at e2) <;> omega
  · have e2 : (if i = 1 then 5 else if i = 2 then 6 else 4 : Nat) = (if j = 1 then 5 else if j = 2 then 6 else 4 : Nat) := e
    (repeat' split at e2) <;> omega
