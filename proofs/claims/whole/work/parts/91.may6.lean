/-! ===== may answers alike ===== -/
theorem jq_may {I : iq_I} (hI : jInv I) (x : Int32) (X : iq_X) : ∃ r I1 X1 b I2, zO_may x I X = some (r, I1, X1) ∧ zM_may x I1 = some (b, I2) ∧ jag I I1 ∧ jag I I2 ∧ jXo X X1 ∧ jAns r b (I2 76 0) := by
  obtain ⟨m, g, hm, hU, hN, hB, ⟨hg, hG, hR, -, -⟩, -⟩ := hI
  by_cases hx : ∃ s, s < gY g ∧ x = jn s
  · obtain ⟨y, hy, rfl⟩ := hx
    have ho : ∀ s, gSt m g y (gB g y) none = some s → s < mS m := fun s h => gSt_lt hm hg hy (hg.2.1 y hy) h
    refine jmkI (jb (mW m) (pMay m g y (gSt m g y (gB g y) none))) ?_ fun I1 a1 => ?_
    · obtain ⟨⟨w1, w2⟩, k1, k2, k3⟩ := jc_may hm hU hg hG ho hy
      simp only at k2 k3
      subst k2
      refine ⟨w2, ?_, k3⟩
      simp only [zO_may, zH_whatMayCome_69_16, jc_needSaying1 hg hG hy, jc_stateOf hm hU hg hG hy, k1, ir_let, iq_sm, ir_sm, jzE, j10, Option.bind_some, ↓reduceIte, not_true_eq_false, not_false_eq_true]
    · have az := jag_tr a1 (jz_ag I1)
      have hN1 := jRN_ag hN az
      have hB1 := jRB_ag hB az
      have hR1 := jRR_ag hR az
      obtain ⟨⟨w1, w2⟩, k1, k2, k3, k4⟩ := jm_may hm hN1 hg hR1 ho hy
      simp only at k2 k3 k4
      subst k2
      refine ⟨w2, ?_, jag_tr (jz_ag I1) k3, k4.trans rfl⟩
      simp only [zM_may, jm_isSaying1 hg (jRB_ag hB a1) hy, jm_stateNow hm hN1 hg hB1 hR1 hy, k1, ir_let, iq_sm, ir_sm, jzE, j10, Option.bind_some, ↓reduceIte, not_true_eq_false, not_false_eq_true]
  · refine jmkE ?_ ?_
    · simp only [zO_may, jc_needSaying0 hg hG hx, ir_let, iq_sm, ir_sm, jzE, j10, Option.bind_some, ↓reduceIte, not_true_eq_false, not_false_eq_true]
    · simp only [zM_may, jm_isSaying0 hg hB hx, ir_let, iq_sm, ir_sm, jzE, j10, Option.bind_some, ↓reduceIte, not_true_eq_false, not_false_eq_true]
