/-! ===== image, restore, feed ===== -/
theorem jq_image {I : iq_I} (hI : jInv I) : ∃ I1 I2, zO_image I = some I1 ∧ zM_image I1 = some I2 ∧ jInv I2 := by
  obtain ⟨m, g, hm, hU, hN, hB, hM, hi, ht, hf, hr⟩ := jInv_iff.mp hI
  obtain ⟨J, e1, k1, c0, c1, c2, cb, cl, ca0, ca1, ca2, ca3, ca4, cw, cs1, cs2⟩ := jc_cp_27_16 I
  obtain ⟨K1, f1, g1, g2⟩ := jcp_98_111 (iq_upI (iq_upI (iq_upI (jz (iq_upI J 1 13 1)) 76 68 1) 76 69 (I 76 54)) 76 70 (I 76 63))
  obtain ⟨K2, f2, g3, g4⟩ := jcp_100_112 K1
  obtain ⟨K3, f3, g5, g6⟩ := jcp_108_113 K2
  have j76 : ∀ j, ¬ j = 0 → jz (iq_upI J 1 13 1) 76 j = I 76 j := fun j hj => by
    unfold jz
    rw [up_ni hj, up_nk (by decide), k1 _ _ (by omega)]
  refine ⟨iq_upI J 1 13 1, K3, ?_, ?_, ?_⟩
  · unfold zO_image
    rw [e1, Option.bind_some, ir_let]
  · unfold zM_image
    rw [jzE, ir_let, ir_let, up_ni (by decide), j76 _ (by decide), ir_let, up_ni (by decide), up_ni (by decide), j76 _ (by decide), ir_let, f1, Option.bind_some, f2, Option.bind_some, f3, Option.bind_some]
  · have D : ∀ k j, ¬ k = 111 → ¬ k = 112 → ¬ k = 113 → ¬ k = 76 → ¬ (k = 1 ∧ j = 13) → K3 k j = J k j := fun k j h1 h2 h3 h4 h5 => by
      rw [g5 k j h3, g3 k j h2, g1 k j h1, up_nk h4, up_nk h4, up_nk h4]
      unfold jz
      rw [up_nk h4]
      by_cases e : k = 1
      · subst e; rw [up_ni (by omega)]
      · rw [up_nk e]
    have D76 : ∀ j, ¬ j = 0 → ¬ j = 68 → ¬ j = 69 → ¬ j = 70 → K3 76 j = I 76 j := fun j h1 h2 h3 h4 => by
      rw [g5 _ _ (by decide), g3 _ _ (by decide), g1 _ _ (by decide), up_ni h4, up_ni h3, up_ni h2, j76 j h1]
    have E : ∀ k j, ¬ ut k j ∈ [0, 5] → K3 k j = I k j := fun k j hk => by
      have hJ : k < 27 ∨ 37 < k := by
        apply Classical.byContradiction
        intro hc
        have q : k = 27 ∨ k = 28 ∨ k = 29 ∨ k = 30 ∨ k = 31 ∨ k = 32 ∨ k = 33 ∨ k = 34 ∨ k = 35 ∨ k = 36 ∨ k = 37 := by omega
        rcases q with rfl | rfl | rfl | rfl | rfl | rfl | rfl | rfl | rfl | rfl | rfl <;> exact hk (show 5 ∈ [0, 5] by decide)
      by_cases e : k = 76
      · subst e
        exact D76 j (fun e => by subst e; exact hk (show 0 ∈ [0, 5] by decide)) (fun e => by subst e; exact hk (show 5 ∈ [0, 5] by decide)) (fun e => by subst e; exact hk (show 5 ∈ [0, 5] by decide)) (fun e => by subst e; exact hk (show 5 ∈ [0, 5] by decide))
      · rw [D k j (fun e => by subst e; exact hk (show 5 ∈ [0, 5] by decide)) (fun e => by subst e; exact hk (show 5 ∈ [0, 5] by decide)) (fun e => by subst e; exact hk (show 5 ∈ [0, 5] by decide)) e (fun e => by obtain ⟨e1, e2⟩ := e; subst e1; subst e2; exact hk (show 5 ∈ [0, 5] by decide)), k1 k j hJ]
    have aa : jad [0, 5] I K3 := E
    have s13 : K3 1 13 = 1 := by
      rw [g5 _ _ (by decide), g3 _ _ (by decide), g1 _ _ (by decide), up_nk (by decide), up_nk (by decide), up_nk (by decide)]; rfl
    have s68 : K3 76 68 = 1 := by
      rw [g5 _ _ (by decide), g3 _ _ (by decide), g1 _ _ (by decide)]; rfl
    refine jInv_iff.mpr ⟨m, g, hm, jRU_ad hU aa (by decide), jRN_ad hN aa (by decide), jRB_ad hB aa (by decide), jMn_ad hM aa (by decide), ⟨by rw [s13, s68], Or.inr ⟨s13, g, rfl, fun _ _ => rfl, ?_⟩⟩, jTp_ad ht aa (by decide), jFl_ad hf aa (by decide), jRf_ad hr aa (by decide)⟩
    have T : ∀ k j, 27 ≤ k → k ≤ 37 → K3 k j = J k j := fun k j h1 h2 => D k j (by omega) (by omega) (by omega) (by omega) (by omega)
    refine jAl_mv hM (by rw [T _ _ (by decide) (by decide), c0]) (by rw [T _ _ (by decide) (by decide), c1]) (by rw [T _ _ (by decide) (by decide), c2]) (fun j h => by rw [T _ _ (by decide) (by decide), cb j h]) (fun j h => by rw [T _ _ (by decide) (by decide), cl j h]) (by rw [T _ _ (by decide) (by decide), ca0]) (fun j h => by rw [T _ _ (by decide) (by decide), ca1 j h]) (fun j h => by rw [T _ _ (by decide) (by decide), ca2 j h]) (fun j h => by rw [T _ _ (by decide) (by decide), ca3 j h]) (fun j h => by rw [T _ _ (by decide) (by decide), ca4 j h]) (fun j h => by rw [T _ _ (by decide) (by decide), cw j h]) (fun j h => by rw [T _ _ (by decide) (by decide), cs1 j h]) (fun j h => by rw [T _ _ (by decide) (by decide), cs2 j h]) (fun j h => ?_) ?_ (fun j h => ?_) (fun j h => ?_) ?_
    · rw [g5 _ _ (by decide), g3 _ _ (by decide), g2 j h, up_nk (by decide), up_nk (by decide), up_nk (by decide)]
      show J 98 j = _
      rw [k1 _ _ (by omega)]
    · rw [g5 _ _ (by decide), g3 _ _ (by decide), g1 _ _ (by decide), up_ni (by decide), up_eq]
    · rw [g5 _ _ (by decide), g4 j h, g1 _ _ (by decide), up_nk (by decide), up_nk (by decide), up_nk (by decide)]
      show J 100 j = _
      rw [k1 _ _ (by omega)]
    · rw [g6 j h, g3 _ _ (by decide), g1 _ _ (by decide), up_nk (by decide), up_nk (by decide), up_nk (by decide)]
      show J 108 j = _
      rw [k1 _ _ (by omega)]
    · rw [g5 _ _ (by decide), g3 _ _ (by decide), g1 _ _ (by decide), up_eq]
theorem jq_restore {I : iq_I} (hI : jInv I) : ∃ v I1 I2, zO_restore I = some (v, I1) ∧ zM_restore I1 = some (v, I2) ∧ jInv I2 := by
  obtain ⟨m, g, hm, hU, hN, hB, hM, ⟨i1, i2⟩, ht, hf, hr⟩ := jInv_iff.mp hI
  rcases i2 with i2 | ⟨i2, g', hY, hBB, hA⟩
  · refine ⟨0, I, jz I, ?_, ?_, jInv_ag hI (jz_ag I)⟩
    · unfold zO_restore
      rw [i2, if_neg (fun h => h rfl)]
    · unfold zM_restore
      rw [jzE, ir_let, show jz I 76 68 = 0 by (show I 76 68 = 0; rw [← i1, i2]), if_neg (fun h => h rfl)]
  · obtain ⟨J, e1, k1, c0, c1, c2, cb, cl, ca0, ca1, ca2, ca3, ca4, cw, cs1, cs2⟩ := jc_cp_16_27 I
    obtain ⟨K1, f1, g1, g2⟩ := jcp_111_98 (iq_upI (iq_upI (jz J) 76 54 (I 76 69)) 76 63 (I 76 70))
    obtain ⟨K2, f2, g3, g4⟩ := jcp_112_100 K1
    obtain ⟨K3, f3, g5, g6⟩ := jcp_113_108 K2
    have j76 : ∀ j, ¬ j = 0 → jz J 76 j = I 76 j := fun j hj => by
      unfold jz
      rw [up_ni hj, k1 _ _ (by omega)]
    refine ⟨1, J, K3, ?_, ?_, ?_⟩
    · unfold zO_restore
      rw [i2, if_pos (by decide), e1, Option.bind_some]
    · unfold zM_restore
      rw [jzE, ir_let, j76 _ (by decide), ← i1, i2, if_pos (by decide), j76 _ (by decide), ir_let, up_ni (by decide), j76 _ (by decide), ir_let, f1, Option.bind_some, f2, Option.bind_some, f3, Option.bind_some]
    · have D : ∀ k j, ¬ k = 98 → ¬ k = 100 → ¬ k = 108 → ¬ k = 76 → K3 k j = J k j := fun k j h1 h2 h3 h4 => by
        rw [g5 k j h3, g3 k j h2, g1 k j h1, up_nk h4, up_nk h4]
        unfold jz
        rw [up_nk h4]
      have D76 : ∀ j, ¬ j = 0 → ¬ j = 54 → ¬ j = 63 → K3 76 j = I 76 j := fun j h1 h2 h3 => by
        rw [g5 _ _ (by decide), g3 _ _ (by decide), g1 _ _ (by decide), up_ni h3, up_ni h2, j76 j h1]
      have aa : jad [0, 4] I K3 := fun k j hk => by
        have hJ : k < 16 ∨ 26 < k := by
          apply Classical.byContradiction
          intro hc
          have q : k = 16 ∨ k = 17 ∨ k = 18 ∨ k = 19 ∨ k = 20 ∨ k = 21 ∨ k = 22 ∨ k = 23 ∨ k = 24 ∨ k = 25 ∨ k = 26 := by omega
          rcases q with rfl | rfl | rfl | rfl | rfl | rfl | rfl | rfl | rfl | rfl | rfl <;> exact hk (show 4 ∈ [0, 4] by decide)
        by_cases e : k = 76
        · subst e
          exact D76 j (fun e => by subst e; exact hk (show 0 ∈ [0, 4] by decide)) (fun e => by subst e; exact hk (show 4 ∈ [0, 4] by decide)) (fun e => by subst e; exact hk (show 4 ∈ [0, 4] by decide))
        · rw [D k j (fun e => by subst e; exact hk (show 4 ∈ [0, 4] by decide)) (fun e => by subst e; exact hk (show 4 ∈ [0, 4] by decide)) (fun e => by subst e; exact hk (show 4 ∈ [0, 4] by decide)) e, k1 k j hJ]
      refine jInv_iff.mpr ⟨m, g', hm, jRU_ad hU aa (by decide), jRN_ad hN aa (by decide), jRB_g (jRB_ad hB aa (by decide)) hY hBB, ?_, jIm_g (jIm_ad ⟨i1, Or.inr ⟨i2, g', hY, hBB, hA⟩⟩ aa (by decide)) hY hBB, jTp_ad ht aa (by decide), jFl_ad hf aa (by decide), jRf_ad hr aa (by decide)⟩
      have T : ∀ k j, 16 ≤ k → k ≤ 26 → K3 k j = J k j := fun k j h1 h2 => D k j (by omega) (by omega) (by omega) (by omega)
      refine jAl_mv hA (by rw [T _ _ (by decide) (by decide), c0]) (by rw [T _ _ (by decide) (by decide), c1]) (by rw [T _ _ (by decide) (by decide), c2]) (fun j h => by rw [T _ _ (by decide) (by decide), cb j h]) (fun j h => by rw [T _ _ (by decide) (by decide), cl j h]) (by rw [T _ _ (by decide) (by decide), ca0]) (fun j h => by rw [T _ _ (by decide) (by decide), ca1 j h]) (fun j h => by rw [T _ _ (by decide) (by decide), ca2 j h]) (fun j h => by rw [T _ _ (by decide) (by decide), ca3 j h]) (fun j h => by rw [T _ _ (by decide) (by decide), ca4 j h]) (fun j h => by rw [T _ _ (by decide) (by decide), cw j h]) (fun j h => by rw [T _ _ (by decide) (by decide), cs1 j h]) (fun j h => by rw [T _ _ (by decide) (by decide), cs2 j h]) (fun j h => ?_) ?_ (fun j h => ?_) (fun j h => ?_) ?_
      · rw [g5 _ _ (by decide), g3 _ _ (by decide), g2 j h, up_nk (by decide), up_nk (by decide)]
        show J 111 j = _
        rw [k1 _ _ (by omega)]
      · rw [g5 _ _ (by decide), g3 _ _ (by decide), g1 _ _ (by decide), up_ni (by decide), up_eq]
      · rw [g5 _ _ (by decide), g4 j h, g1 _ _ (by decide), up_nk (by decide), up_nk (by decide)]
        show J 112 j = _
        rw [k1 _ _ (by omega)]
      · rw [g6 j h, g3 _ _ (by decide), g1 _ _ (by decide), up_nk (by decide), up_nk (by decide)]
        show J 113 j = _
        rw [k1 _ _ (by omega)]
      · rw [g5 _ _ (by decide), g3 _ _ (by decide), g1 _ _ (by decide), up_eq]
