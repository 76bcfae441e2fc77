-- the calls of the walk, and those without a wrapper
def TW (σ1 : CS) (μ1 : MS) : Prop := FI σ1 ∧ ∃ t1, μ1 = mof σ1 t1
theorem T_knock {B : Int} {σ : CS} {t : Int} (hc : CI B σ) (hf : FI σ) : TW (cS_knock σ) (jS_knock (mof σ t)) := ⟨hf, 0, by
  unfold jS_knock
  rw [m_th, m_i3]
  rfl⟩
theorem T_isSound {B : Int} {σ : CS} {t : Int} (hc : CI B σ) (hf : FI σ) : TW (cS_isSound σ) (jS_isSound (mof σ t)) := ⟨hf, 0, rfl⟩
theorem T_digest {B : Int} {σ : CS} {t : Int} (hc : CI B σ) (hf : FI σ) : TW (cS_digest σ) (cJ_digest (mof σ t)) := ⟨hf, 0, by
  unfold cJ_digest
  rw [m_vwk]
  cases hw : zwk σ with
  | none => exact m_on hw
  | some j => exact m_ob hw⟩
theorem mbr_g {σ : CS} {j : Nat} (hw : zwk σ = some j) : mbr σ = 0 ↔ goI σ j ≠ 0 := by
  rw [mbr_s hw]
  unfold goI
  by_cases e : (zst σ j).2.1 = zwc σ
  · rw [if_pos e, if_pos e]
    exact ⟨fun _ => by decide, fun _ => rfl⟩
  · rw [if_neg e, if_neg e]
    exact ⟨fun z => absurd z (by decide), fun z => absurd rfl z⟩
set_option maxHeartbeats 200000 in
theorem T_walkNext {B : Int} {σ : CS} {t : Int} (hc : CI B σ) (hf : FI σ) : TW (cS_walkNext σ) (cJ_walkNext (mof σ t)) ∧ (zwk σ = none → jR_walkNext0 (mof σ t) = kR_walkNext0 σ) ∧ ∀ j, zwk σ = some j → jR_walkNext1 (mof σ t) j = kR_walkNext1 σ j := by
  refine ⟨?_, fun _ => rfl, fun j hw => ?_⟩
  · unfold cS_walkNext cJ_walkNext
    rw [m_vwk]
    cases hw : zwk σ with
    | none => exact ⟨hf, 0, by
        show tDi (tOb (mof σ t) none (vbr (mof σ t)) (vtd (mof σ t)) (vbh (mof σ t)) 0) 2 = _
        rw [m_on hw, m_i2]
        rfl⟩
    | some j =>
      show TW (kS_walkNext1 σ j) (jS_walkNext1 (mof σ t) j)
      unfold kS_walkNext1 jS_walkNext1 tnS tnx
      rw [m_vbr, m_vbh, mbh_s hw, m_vst, m_vod]
      by_cases q : goI σ j ≠ 0
      · rw [if_pos q, if_pos ((mbr_g hw).2 q)]
        rcases firP_i (zst σ j).2.2 (zwl σ + 1) 99 with e | e
        · rw [if_pos e, if_pos e, ← mbh_s hw]
          exact ⟨hf, 0, m_ob hw⟩
        · have tb := turn_b (o := zod σ j) e.1
          rw [if_neg (by omega), if_neg (by omega), kyI e.1.1, turn_t e.1]
          have g := (mbr_g hw).2 q
          have g2 : (zst σ j).2.1 = zwc σ := by
            rw [mbr_s hw] at g
            by_cases z : (zst σ j).2.1 = zwc σ
            · exact z
            · rw [if_neg z] at g
              exact absurd g (by decide)
          refine ⟨FI_wk hf (fun c => hf.2.2.2.2.2.1 j c hw) (by omega) (fun _ => ⟨g2, e.2⟩), 0, ?_⟩
          refine m_of (σ := sWk σ (some j) (zwc σ) (firP (zst σ j).2.2 (zwl σ + 1) 99) 1) rfl rfl (fun i => rfl) rfl rfl rfl rfl rfl rfl ?_ ?_ rfl (fun i => rfl) rfl
          · show mbr σ = if (zst σ j).2.1 = zwc σ then 0 else 1
            exact mbr_s hw
          · show turn (zod σ j) (firP (zst σ j).2.2 (zwl σ + 1) 99) = if (1 : Int) = 0 then -1 else keyR (zod σ j) (firP (zst σ j).2.2 (zwl σ + 1) 99)
            rw [if_neg (by decide), kyI e.1.1]
      · rw [if_neg q, if_neg (fun z => q ((mbr_g hw).1 z)), ← mbh_s hw]
        exact ⟨hf, 0, by
          show tDi (tOb (mof σ t) (some j) (vbr (mof σ t)) (vtd (mof σ t)) (vbh (mof σ t)) 0) 2 = _
          rw [m_ob hw, m_i2]⟩
  · unfold jR_walkNext1 kR_walkNext1 tnR tnx
    rw [m_vbr, m_vbh, mbh_s hw, m_vst, m_vod]
    by_cases q : goI σ j ≠ 0
    · rw [if_pos q, if_pos ((mbr_g hw).2 q)]
      rcases firP_i (zst σ j).2.2 (zwl σ + 1) 99 with e | e
      · rw [if_pos e, if_pos e]
      · rw [if_neg (by omega), if_neg (by omega), kyI e.1.1, turn_t e.1, pairR_i e]
    · rw [if_neg q, if_neg (fun z => q ((mbr_g hw).1 z))]
theorem mtd_0 {σ : CS} {j : Nat} (hw : zwk σ = some j) (hz : ¬ zwt σ ≠ 0) : mtd σ = -1 := by
  rw [mtd_s hw, if_pos (by omega)]
set_option maxHeartbeats 200000 in
theorem T_walkSet {B : Int} {σ : CS} {t xw : Int} (hc : CI B σ) (hf : FI σ) : (FI (cS_walkSet σ xw) ∧ ∃ t1, cJ_walkSet (mof σ t) xw = mof (cS_walkSet σ xw) t1 ∧ (((0 ≤ xw ∧ xw ≤ 99) ∧ t1 = 0) ∨ (¬ (0 ≤ xw ∧ xw ≤ 99) ∧ t1 = 1))) ∧ (zwk σ = none → (0 ≤ xw ∧ xw ≤ 99) → jR_walkSet0 (mof σ t) xw = kR_walkSet0 σ xw) ∧ ∀ j, zwk σ = some j → (0 ≤ xw ∧ xw ≤ 99) → jR_walkSet1 (mof σ t) j xw = kR_walkSet1 σ j xw := by
  refine ⟨?_, fun _ h => if_pos h, fun j hw h => ?_⟩
  · unfold cS_walkSet cJ_walkSet
    rw [m_vwk]
    by_cases hB : 0 ≤ xw ∧ xw ≤ 99
    · rw [if_pos ⟨trivial, hB⟩]
      cases hw : zwk σ with
      | none =>
        refine ⟨hf, 0, ?_, Or.inl ⟨hB, rfl⟩⟩
        show jS_walkSet0 (mof σ t) xw = _
        unfold jS_walkSet0
        rw [if_pos hB, m_on hw, m_i2]
        rfl
      | some j =>
        show FI (kS_walkSet1 σ j xw) ∧ ∃ t1, jS_walkSet1 (mof σ t) j xw = mof (kS_walkSet1 σ j xw) t1 ∧ _
        unfold kS_walkSet1 jS_walkSet1
        rw [if_pos hB]
        by_cases hz : zwt σ ≠ 0
        · have d := mtd_at hf hw hz
          have g := (hf.2.2.2.2.2.2 j hw).2 hz
          have n1 := isT_in g.2
          have ec := comeS_old (S := zst σ j) (n := zwl σ) (v := xw) ⟨n1.1, n1.2.1⟩ n1.2.2
          rw [if_pos hz, if_neg (show ¬ vtd (mof σ t) = -1 from d.2.2.1), m_ob hw]
          refine ⟨FI_sSt (σ := inc0 σ) hf (FB_come (hf.1 j) (by omega)) (Or.inl (fun c => hf.2.2.2.2.2.1 j c hw)) (fun _ => ?_), 0, ?_, Or.inl ⟨hB, rfl⟩⟩
          · rw [ec]
            refine ⟨(hf.2.2.2.2.2.2 j hw).1, fun _ => ⟨g.1, ?_⟩⟩
            show isT (iu (zst σ j).2.2 (zwl σ) xw) (zwl σ) ≠ 0
            unfold isT
            rw [iu_s, if_pos ⟨n1.1, n1.2.1, by omega⟩]
            decide
          · have e1 : tRw (mof σ 0) j (iu (vst (mof σ t) j) (turn (vod (mof σ t) j) (vtd (mof σ t))) xw) = mof (sSt σ j (comeS (zst σ j) (zwl σ) xw)) 0 := by
              rw [m_vst, m_vod, m_vtd, d.2.2.2]
              refine m_of (σ := σ) rfl rfl (fun k => ?_) rfl rfl rfl rfl rfl rfl ?_ rfl rfl (fun i => rfl) rfl
              · rw [← comeS_f d.1]
                exact up_f k
              · show mbr σ = mbr (sSt σ j (comeS (zst σ j) (zwl σ) xw))
                rw [mbr_s hw, mbr_s (σ := sSt σ j (comeS (zst σ j) (zwl σ) xw)) hw]
                have e2 : zst (sSt σ j (comeS (zst σ j) (zwl σ) xw)) j = comeS (zst σ j) (zwl σ) xw := va_up_self _ _ _
                rw [e2, ec]
                rfl
            rw [e1, m_i0, w7]
        · rw [if_neg hz, if_pos (show vtd (mof σ t) = -1 from mtd_0 hw hz), m_ob hw, m_i2]
          exact ⟨hf, 0, rfl, Or.inl ⟨hB, rfl⟩⟩
    · rw [if_neg (fun z => hB z.2)]
      refine ⟨hf, 1, ?_, Or.inr ⟨hB, rfl⟩⟩
      cases hw : zwk σ with
      | none =>
        show jS_walkSet0 (mof σ t) xw = _
        unfold jS_walkSet0
        rw [if_neg hB, m_on hw]
      | some j =>
        show jS_walkSet1 (mof σ t) j xw = _
        unfold jS_walkSet1
        rw [if_neg hB, m_ob hw]
  · unfold jR_walkSet1 kR_walkSet1
    rw [if_pos h]
    by_cases hz : zwt σ ≠ 0
    · have d := mtd_at hf hw hz
      rw [if_pos hz, if_neg (show ¬ vtd (mof σ t) = -1 from d.2.2.1), m_vst, m_vod, m_vtd, d.2.2.2, wAt_in d.1]
    · rw [if_neg hz, if_pos (show vtd (mof σ t) = -1 from mtd_0 hw hz)]
set_option maxHeartbeats 200000 in
theorem T_walkTake {B : Int} {σ : CS} {t : Int} (hc : CI B σ) (hf : FI σ) : TW (cS_walkTake σ) (cJ_walkTake (mof σ t)) ∧ (zwk σ = none → jR_walkTake0 (mof σ t) = kR_walkTake0 σ) ∧ ∀ j, zwk σ = some j → jR_walkTake1 (mof σ t) j = kR_walkTake1 σ j := by
  refine ⟨?_, fun _ => rfl, fun j hw => ?_⟩
  · unfold cS_walkTake cJ_walkTake
    rw [m_vwk]
    cases hw : zwk σ with
    | none => exact ⟨hf, 0, by
        show tDi (tOb (mof σ t) none (vbr (mof σ t)) (vtd (mof σ t)) (vbh (mof σ t)) 0) 2 = _
        rw [m_on hw, m_i2]
        rfl⟩
    | some j =>
      show TW (kS_walkTake1 σ j) (jS_walkTake1 (mof σ t) j)
      unfold kS_walkTake1 jS_walkTake1
      rw [rt_eq]
      by_cases hz : zwt σ ≠ 0
      · have d := mtd_at hf hw hz
        have g := (hf.2.2.2.2.2.2 j hw).2 hz
        rw [if_pos hz, if_neg (show ¬ vtd (mof σ t) = -1 from d.2.2.1), m_ob hw]
        refine ⟨FI_rt hf hw (FB_go (hf.1 j) (by omega)), 0, ?_⟩
        have e1 : tOb (tRw (mof σ 0) j (iu (vst (mof σ t) j) (turn (vod (mof σ t) j) (vtd (mof σ t))) (-1))) (some j) (vbr (mof σ t)) (-1) (vbh (mof σ t)) 0 = mof (sWk (sSt σ j (goS (zst σ j) (zwl σ))) (some j) (goS (zst σ j) (zwl σ)).2.1 (zwl σ) 0) 0 := by
          rw [m_vst, m_vod, m_vtd, d.2.2.2, m_vbr, m_vbh, mbh_s hw, mbr_s hw, if_pos g.1]
          refine m_of (σ := σ) rfl rfl (fun k => ?_) rfl rfl rfl rfl rfl rfl ?_ ?_ rfl (fun i => rfl) rfl
          · rw [← goS_f d.1]
            exact up_f k
          · show 0 = if (va_up (zst σ) j (goS (zst σ j) (zwl σ)) j).2.1 = (goS (zst σ j) (zwl σ)).2.1 then 0 else (1 : Int)
            rw [va_up_self, if_pos rfl]
          · show -1 = if (0 : Int) = 0 then -1 else keyR (zod σ j) (zwl σ)
            rw [if_pos rfl]
        rw [e1, m_i0, w8]
      · rw [if_neg hz, if_pos (show vtd (mof σ t) = -1 from mtd_0 hw hz), m_ob hw, m_i2]
        exact ⟨hf, 0, rfl⟩
  · unfold jR_walkTake1 kR_walkTake1
    by_cases hz : zwt σ ≠ 0
    · have d := mtd_at hf hw hz
      have g := (hf.2.2.2.2.2.2 j hw).2 hz
      rw [if_pos hz, if_neg (show ¬ vtd (mof σ t) = -1 from d.2.2.1), m_vst, m_vod, m_vtd, d.2.2.2, pairR_i ⟨d.1, g.2⟩, d.2.1]
    · rw [if_neg hz, if_pos (show vtd (mof σ t) = -1 from mtd_0 hw hz)]
