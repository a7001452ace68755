/-! ===== costs: the answers ===== -/
theorem jc_none1 {I : iq_I} {x : Int32} (h : ¬ x < -1) (X : iq_X) : zO_needNoneOrMore x I X = some (.inl (), X) := by
  unfold zO_needNoneOrMore
  rw [if_pos (Int32.not_lt.mp h)]
theorem jc_none0 {I : iq_I} {x : Int32} (h : x < -1) (X : iq_X) : zO_needNoneOrMore x I X = some (.inr 0, ir_xx X) := by
  unfold zO_needNoneOrMore
  rw [if_neg (fun h2 => absurd h (Int32.not_lt.mpr h2))]
theorem jm1_cases (x : Int32) : x < -1 ∨ x = -1 ∨ ∃ n, n < 2147483648 ∧ x = jn n := by
  rcases jx_cases x with h | h
  · by_cases e : x = -1
    · exact Or.inr (Or.inl e)
    · exact Or.inl (jneg1 h e)
  · exact Or.inr (Or.inr h)
theorem jq_costs {I : iq_I} (hI : jInv I) (x z e : Int32) (X : iq_X) : ∃ r I1 X1 b I2, zO_costs x z e I X = some (r, I1, X1) ∧ zM_costs x z e I1 = some (b, I2) ∧ jag I I1 ∧ jag I I2 ∧ jXo X X1 ∧ jAn2 r b (I2 76 0) := by
  obtain ⟨m, g, hm, hU, hN, hB, -, -⟩ := hI
  have h10 := hm.1
  by_cases hx : ∃ s, s < mS m ∧ x = jn s
  · obtain ⟨s, hs, rfl⟩ := hx
    by_cases he : e < -1
    · refine ⟨.inr 0, I, ir_xx X, 0, jw I 1, ?_, ?_, jag_rf I, jw_ag I 1, Or.inr rfl, Or.inr (Or.inl ⟨rfl, rfl⟩)⟩
      · simp only [zO_costs, jc_needState1 hm hU hs, jc_none0 he, ir_let, iq_sm, ir_sm, jzE, j10, Option.bind_some, ↓reduceIte, not_true_eq_false, not_false_eq_true]
      · simp only [zM_costs, zM_costs_24, jm_isState1 hm hN hs, ir_let, iq_sm, ir_sm, jzE, j10, Option.bind_some, ↓reduceIte, not_true_eq_false, not_false_eq_true, he, jm_right0 (I := I) (c := 1) (x := 0) rfl (show ¬ (1 : Int32) = 0 by decide)]
    · by_cases hz : ∃ n, n ≤ 60 ∧ z = jn n
      · obtain ⟨a, ha, rfl⟩ := hz
        obtain ⟨I1, e1, a1, hT⟩ := jc_priceRows hm hU
        have hU1 := jRU_ag hU a1
        have hN0 := jRN_ag hN a1
        have hN1 := jRN_ag hN0 (jz_ag I1)
        have lf := jc_longestFor hm hU1 hT hs ha
        have c1 : ¬ jn a < (0 : Int32) := by rw [← jn0, jn_lt (by omega) (by omega)]; omega
        have c2 : jn a ≤ (60 : Int32) := by rw [show (60 : Int32) = jn 60 from rfl, jn_le (by omega) (by omega)]; omega
        have w1 : zM_within (jn a) 0 60 (jz I1) = some 1 := by
          rcases jm_within (I := jz I1) (x := jn a) (a := 0) (b := 60) (by omega) (by omega) with ⟨_, _, _, _, h⟩ | ⟨h, _⟩
          · exact h
          · exact absurd ⟨a, Nat.zero_le _, ha, rfl⟩ h
        have r1 := jm_right1 (I := I1) (c := 1) (x := 1) rfl
        have r2 := jm_right1 (I := I1) (c := 2) (x := 1) rfl
        have hM := cMo_le m s a 40
        have hok := cMo_ok m s a 40
        obtain ⟨I2, I3, q1, q2, a3, hT3, t3⟩ := jm_cs80 (x3 := e) hm hN1 hs ha
        have t3 : I3 76 0 = 0 := t3
        simp only [jn0] at q1
        simp only [jn0, jn1] at q2
        rcases jm1_cases e with h | h | ⟨i, hi, rfl⟩
        · exact absurd h he
        · subst h
          refine ⟨.inl (jn (cMo m s a 40)), I1, X, jn (cMo m s a 40), I3, ?_, ?_, a1, jag_tr a1 (jag_tr (jz_ag I1) a3), Or.inl rfl, Or.inl ⟨_, rfl, rfl, t3⟩⟩
          · simp only [zO_costs, zP_mostFor, jc_needState1 hm hU hs, jc_none1 he, ir_let, iq_sm, ir_sm, jzE, j10, Option.bind_some, ↓reduceIte, not_true_eq_false, not_false_eq_true, c1, c2, e1, lf]
          · simp only [zM_costs, zM_costs_24, jm_isState1 hm hN0 hs, ir_let, iq_sm, ir_sm, jzE, j10, Option.bind_some, ↓reduceIte, not_true_eq_false, not_false_eq_true, he, r1, w1, r2, q1, q2]
        · have ne : ¬ jn i = (-1 : Int32) := jn_ne hi (by decide)
          by_cases hlt : i < cMo m s a 40
          · have d1 : jn i < jn (cMo m s a 40) := by rw [jn_lt hi (by omega)]; exact hlt
            obtain ⟨k1, k2⟩ := jc_wordFor hm hU1 hT hs ha hM hok hlt
            have k3 := jm_cs264 hm (jRN_ag hN1 a3) hT3 hs ha hM hok hlt
            simp only [jn0, ← jlm] at k1 k3
            rw [← jn_sub (by omega)] at k2
            refine ⟨.inl (vCw m s a (cMo m s a 40) i), I1, X, vCw m s a (cMo m s a 40) i, I3, ?_, ?_, a1, jag_tr a1 (jag_tr (jz_ag I1) a3), Or.inl rfl, Or.inl ⟨_, rfl, rfl, t3⟩⟩
            · simp only [zO_costs, zP_wordFor, zP_wordFor_97, jc_needState1 hm hU hs, jc_none1 he, ir_let, iq_sm, ir_sm, jzE, j10, Option.bind_some, ↓reduceIte, not_true_eq_false, not_false_eq_true, c1, c2, ne, e1, lf, d1, k1, k2]
            · simp only [zM_costs, zM_costs_24, jm_isState1 hm hN0 hs, ir_let, iq_sm, ir_sm, jzE, j10, Option.bind_some, ↓reduceIte, not_true_eq_false, not_false_eq_true, he, r1, w1, r2, q1, q2, ne, d1, k3]
          · have d1 : ¬ jn i < jn (cMo m s a 40) := by rw [jn_lt hi (by omega)]; exact hlt
            refine ⟨.inl (-1), I1, X, -1, I3, ?_, ?_, a1, jag_tr a1 (jag_tr (jz_ag I1) a3), Or.inl rfl, Or.inl ⟨_, rfl, rfl, t3⟩⟩
            · simp only [zO_costs, zP_wordFor, jc_needState1 hm hU hs, jc_none1 he, ir_let, iq_sm, ir_sm, jzE, j10, Option.bind_some, ↓reduceIte, not_true_eq_false, not_false_eq_true, c1, c2, ne, e1, lf, d1]
            · simp only [zM_costs, zM_costs_24, jm_isState1 hm hN0 hs, ir_let, iq_sm, ir_sm, jzE, j10, Option.bind_some, ↓reduceIte, not_true_eq_false, not_false_eq_true, he, r1, w1, r2, q1, q2, ne, d1]
      · have w1 : zM_within z 0 60 (jz I) = some 0 := by
          rcases jm_within (I := jz I) (x := z) (a := 0) (b := 60) (by omega) (by omega) with ⟨n, _, h1, h2, _⟩ | ⟨_, h⟩
          · exact absurd ⟨n, h1, h2⟩ hz
          · exact h
        refine ⟨.inr 1, I, ir_xx X, 0, jw I 2, ?_, ?_, jag_rf I, jw_ag I 2, Or.inr rfl, Or.inr (Or.inr ⟨rfl, rfl⟩)⟩
        · rcases jx_no (n := 61) (by omega) (fun ⟨n, h1, h2⟩ => hz ⟨n, by omega, h2⟩) with h1 | ⟨h1, h2, h3⟩
          · simp only [zO_costs, zO_costs_20, jc_needState1 hm hU hs, jc_none1 he, ir_let, iq_sm, ir_sm, jzE, j10, Option.bind_some, ↓reduceIte, not_true_eq_false, not_false_eq_true, h1]
          · have c2 : ¬ z ≤ (60 : Int32) := by
              intro h
              rw [Int32.le_iff_toInt_le] at h h3
              rw [jn_toInt (by omega)] at h3
              have : (60 : Int32).toInt = 60 := rfl
              omega
            simp only [zO_costs, zO_costs_20, jc_needState1 hm hU hs, jc_none1 he, ir_let, iq_sm, ir_sm, jzE, j10, Option.bind_some, ↓reduceIte, not_true_eq_false, not_false_eq_true, h1, c2]
        · simp only [zM_costs, zM_costs_24, jm_isState1 hm hN hs, ir_let, iq_sm, ir_sm, jzE, j10, Option.bind_some, ↓reduceIte, not_true_eq_false, not_false_eq_true, he, w1, jm_right1 (I := I) (c := 1) (x := 1) rfl, jm_right0 (I := I) (c := 2) (x := 0) rfl (show ¬ (2 : Int32) = 0 by decide)]
  · refine ⟨.inr 0, I, ir_xx X, 0, jw I 1, ?_, ?_, jag_rf I, jw_ag I 1, Or.inr rfl, Or.inr (Or.inl ⟨rfl, rfl⟩)⟩
    · simp only [zO_costs, jc_needState0 hm hU hx, ir_let, iq_sm, ir_sm, jzE, j10, Option.bind_some, ↓reduceIte, not_true_eq_false, not_false_eq_true]
    · simp only [zM_costs, jm_isState0 hm hN hx, ir_let, iq_sm, ir_sm, jzE, j10, Option.bind_some, ↓reduceIte, not_true_eq_false, not_false_eq_true]
