/-! ===== count, letter, saying, culprit ===== -/
theorem jneg {x : Int32} (h : x < 0) (k : Nat) (hk : k < 100) (h' : ∀ i, 1 ≤ i → i ≤ k → ¬ x.toInt = -(i : Int)) : x.toInt < -(k : Int) := by
  rw [Int32.lt_iff_toInt_lt] at h
  have e : (0 : Int32).toInt = 0 := rfl
  rw [e] at h
  apply Classical.byContradiction
  intro hc
  have h2 := h' x.toInt.natAbs (by omega) (by omega)
  omega
theorem jneg1 {x : Int32} (h : x < 0) (h1 : ¬ x = -1) : x < -1 := by
  rw [Int32.lt_iff_toInt_lt]
  have := jneg h 1 (by omega) (fun i h2 h3 h4 => h1 (Int32.toInt.inj (by
    rw [h4, show i = 1 by omega]; rfl)))
  exact this
theorem jneg3 {x : Int32} (h : x < 0) (h1 : ¬ x = -1) (h2 : ¬ x = -2) (h3 : ¬ x = -3) : x < -3 := by
  rw [Int32.lt_iff_toInt_lt]
  have := jneg h 3 (by omega) (fun i h4 h5 h6 => by
    rcases (show i = 1 ∨ i = 2 ∨ i = 3 by omega) with rfl | rfl | rfl
    · exact h1 (Int32.toInt.inj h6)
    · exact h2 (Int32.toInt.inj h6)
    · exact h3 (Int32.toInt.inj h6))
  exact this
theorem jn_ne {n : Nat} (hn : n < 2147483648) {x : Int32} (hx : x < 0) : ¬ jn n = x := by
  rintro rfl
  rw [show (0 : Int32) = jn 0 from rfl, jn_lt hn (by omega)] at hx
  omega
theorem jn_nlt {n : Nat} (hn : n < 2147483648) {x : Int32} (hx : x < 0) : ¬ jn n < x := by
  intro h
  rw [Int32.lt_iff_toInt_lt] at hx h
  rw [jn_toInt hn] at h
  have e : (0 : Int32).toInt = 0 := rfl
  omega
theorem jq_letter {I : iq_I} (hI : jInv I) (x z : Int32) (X : iq_X) : ∃ r X1 b I2, zO_letter x z I X = some (r, X1) ∧ zM_letter x z I = some (b, I2) ∧ jag I I2 ∧ jXo X X1 ∧ jAns r b (I2 76 0) := by
  obtain ⟨m, g, hm, hU, hN, hB, hA, -⟩ := hI
  obtain ⟨hg, hG, hR, -, -⟩ := hA
  have h10 := hm.1
  have h14 := hm.2.1
  have h5 := hg.1
  by_cases hx : ∃ s, s < mW m ∧ x = jn s
  · obtain ⟨w, hw, rfl⟩ := hx
    have hl := hm.2.2.1 w hw
    have hN1 := jRN_ag hN (jz_ag I)
    by_cases hz : z = -1
    · subst hz
      refine jmk (jn (mL m w)) ?_ ⟨jz I, ?_, jz_ag I, rfl⟩
      · simp (disch := omega) only [zO_letter, jc_needWord1 hm hU hw, ir_let, iq_sm, ir_sm, jzE, j10, Option.bind_some, ↓reduceIte, not_true_eq_false, not_false_eq_true, jRU_L hU, jn_in, jn_clamp, if_pos]
      · have e5 : ¬ jn (mL m w) ≤ (-1 : Int32) := by rw [jlm, jn_le_m (by omega)]; simp
        simp (disch := omega) only [zM_letter, zM_letter_34, jm_isWord1 hm hN hw, ir_let, iq_sm, ir_sm, jzE, j10, Option.bind_some, ↓reduceIte, not_true_eq_false, not_false_eq_true, show ¬ ((-1 : Int32) < -1) by decide, jRN_L hN1, jn_in, jn_clamp, if_pos, e5, jm_right1 (I := I) (c := 1) rfl]
    · rcases jx_cases z with hn | ⟨i, hi, rfl⟩
      · refine jmke ?_ ?_
        · simp only [zO_letter, zO_letter_37, jc_needWord1 hm hU hw, ir_let, iq_sm, ir_sm, jzE, j10, Option.bind_some, ↓reduceIte, not_true_eq_false, not_false_eq_true, hz, hn]
        · simp only [zM_letter, zM_letter_33, zM_letter_34, jm_isWord1 hm hN hw, ir_let, iq_sm, ir_sm, jzE, j10, Option.bind_some, ↓reduceIte, not_true_eq_false, not_false_eq_true, jneg1 hn hz, jm_right0 (I := I) (c := 1) rfl (by decide)]
      · have e1 : ¬ jn i < (0 : Int32) := by rw [← jn0, jn_lt hi (by omega)]; omega
        have e2 : ¬ jn i < (-1 : Int32) := jn_nlt hi (by decide)
        by_cases h : i < mL m w
        · refine jmk (mT m w i) ?_ ⟨jz I, ?_, jz_ag I, rfl⟩
          · simp (disch := omega) only [zO_letter, jc_needWord1 hm hU hw, ir_let, iq_sm, ir_sm, jzE, j10, Option.bind_some, ↓reduceIte, not_true_eq_false, not_false_eq_true, hz, e1, jRU_L hU, zU_letterAt_4, jRU_T hU, ir_let, jn_lt, jn_le, jn_in, jn_inj, jn_ne_m, jm_ne_n, jm_eq_m, jm_lt, jm_le, jn_lt_m, jn_le_m, jn_add, jn_mul, jn_clamp, jo_some, jn_min, jn_max, ↓jlm, jl0, jl1, jl2, jl3, jl4, jl5, jl6, jl7, jl8, jl9, jl10, jl11, jl12, jl13, jl14, jl15, jl16, jl20, jl24, jl32, jl39, jl40, jl41, jl60, jl61, jl80, jl96, jl97, jl99, jl100, jl122, jl126, jl199, jl200, jl205, jl206, jl255, jl256, jl410, jl700, jl950, jl1000, jl1000000, jl4000, jl8240, jl32767, if_pos, if_neg, ↓reduceIte, Option.bind_some, not_true_eq_false, not_false_eq_true, Nat.not_lt, Nat.not_le]
          · simp (disch := omega) only [zM_letter, zM_letter_34, jm_isWord1 hm hN hw, ir_let, iq_sm, ir_sm, jzE, j10, Option.bind_some, ↓reduceIte, not_true_eq_false, not_false_eq_true, e2, jRN_L hN1, jn_in, jn_clamp, if_pos, jn_le, if_neg, jm_right1 (I := I) (c := 1) rfl, hz, jl9, jn_mul, jn_add, jRN_T hN1]
        · have e3 : ¬ jn i < jn (mL m w) := by rw [jn_lt hi (by omega)]; omega
          have e4 : jn (mL m w) ≤ jn i := by rw [jn_le (by omega) hi]; omega
          refine jmke ?_ ?_
          · simp (disch := omega) only [zO_letter, zO_letter_37, jc_needWord1 hm hU hw, ir_let, iq_sm, ir_sm, jzE, j10, Option.bind_some, ↓reduceIte, not_true_eq_false, not_false_eq_true, hz, e1, jRU_L hU, jn_in, jn_clamp, if_pos, e3]
          · simp (disch := omega) only [zM_letter, zM_letter_33, zM_letter_34, jm_isWord1 hm hN hw, ir_let, iq_sm, ir_sm, jzE, j10, Option.bind_some, ↓reduceIte, not_true_eq_false, not_false_eq_true, e2, jRN_L hN1, jn_in, jn_clamp, if_pos, e4, jm_right0 (I := I) (c := 1) rfl (show ¬ (1 : Int32) = 0 by decide)]
  · refine jmke ?_ ?_
    · simp only [zO_letter, jc_needWord0 hm hU hx, ir_let, iq_sm, ir_sm, jzE, j10, Option.bind_some, ↓reduceIte, not_true_eq_false, not_false_eq_true]
    · simp only [zM_letter, jm_isWord0 hm hN hx, ir_let, iq_sm, ir_sm, jzE, j10, Option.bind_some, ↓reduceIte, not_true_eq_false, not_false_eq_true]
theorem jc_needPlace1 {I : iq_I} {m : jMu} {g : jGa} (hg : gOk m g) (hG : jRG I 16 17 18 24 g) {y i : Nat} (hy : y < gY g) (hi : i < (gS g y).length) (X : iq_X) : zO_needPlace (jn y) (jn i) I X = some (.inl (), X) := by
  have h5 := hg.1
  have h40 := hg.2.2.1 y hy
  simp (disch := omega) only [zO_needPlace, jRG_L hG, ir_let, jn_lt, jn_le, jn_in, jn_inj, jn_ne_m, jm_ne_n, jm_eq_m, jm_lt, jm_le, jn_lt_m, jn_le_m, jn_add, jn_mul, jn_clamp, jo_some, jn_min, jn_max, ↓jlm, jl0, jl1, jl2, jl3, jl4, jl5, jl6, jl7, jl8, jl9, jl10, jl11, jl12, jl13, jl14, jl15, jl16, jl20, jl24, jl32, jl39, jl40, jl41, jl60, jl61, jl80, jl96, jl97, jl99, jl100, jl122, jl126, jl199, jl200, jl205, jl206, jl255, jl256, jl410, jl700, jl950, jl1000, jl1000000, jl4000, jl8240, jl32767, if_pos, if_neg, ↓reduceIte, Option.bind_some, not_true_eq_false, not_false_eq_true, Nat.not_lt, Nat.not_le]
theorem jc_needPlace0 {I : iq_I} {m : jMu} {g : jGa} (hg : gOk m g) (hG : jRG I 16 17 18 24 g) {y : Nat} {x : Int32} (hy : y < gY g) (hx : ¬ ∃ i, i < (gS g y).length ∧ x = jn i) (X : iq_X) : zO_needPlace (jn y) x I X = some (.inr 0, ir_xx X) := by
  have h5 := hg.1
  have h40 := hg.2.2.1 y hy
  rcases jx_no (by omega) hx with h1 | ⟨h1, h2, h3⟩
  · simp only [zO_needPlace, zO_needPlace_17, h1, ↓reduceIte]
  · simp (disch := omega) only [zO_needPlace, zO_needPlace_17, h1, jRG_L hG, jn_in, jn_clamp, h2, ↓reduceIte, if_pos]
theorem jq_saying {I : iq_I} (hI : jInv I) (x z : Int32) (X : iq_X) : ∃ r X1 b I2, zO_saying x z I X = some (r, X1) ∧ zM_saying x z I = some (b, I2) ∧ jag I I2 ∧ jXo X X1 ∧ jAns r b (I2 76 0) := by
  obtain ⟨m, g, hm, hU, hN, hB, hA, -⟩ := hI
  obtain ⟨hg, hG, hR, -, -⟩ := hA
  have h10 := hm.1
  have h14 := hm.2.1
  have h5 := hg.1
  by_cases hx : ∃ s, s < gY g ∧ x = jn s
  · obtain ⟨y, hy, rfl⟩ := hx
    have h40 := hg.2.2.1 y hy
    have hN1 := jRN_ag hN (jz_ag I)
    have hB1 := jRB_ag hB (jz_ag I)
    have hR1 := jRR_ag hR (jz_ag I)
    have r1 := jm_right1 (I := I) (c := 1) (x := 1) rfl
    have r0 := jm_right0 (I := I) (c := 1) (x := 0) rfl (by decide)
    have ne : ∀ {c : Int32}, c < 0 → ¬ jn (gS g y).length ≤ c := fun {c} hc h => by
      rw [Int32.le_iff_toInt_le, jn_toInt (by omega)] at h
      rw [Int32.lt_iff_toInt_lt] at hc
      have e : (0 : Int32).toInt = 0 := rfl
      omega
    by_cases hz1 : z = -1
    · subst hz1
      refine jmk (jn (gS g y).length) ?_ ⟨jz I, ?_, jz_ag I, rfl⟩
      · simp (disch := omega) only [zO_saying, jc_needSaying1 hg hG hy, ir_let, iq_sm, ir_sm, jzE, j10, Option.bind_some, ↓reduceIte, not_true_eq_false, not_false_eq_true, jRG_L hG, jn_in, jn_clamp, if_pos]
      · simp (disch := omega) only [zM_saying, zM_saying_35, jm_isSaying1 hg hB hy, ir_let, iq_sm, ir_sm, jzE, j10, Option.bind_some, ↓reduceIte, not_true_eq_false, not_false_eq_true, show ¬ ((-1 : Int32) < -3) by decide, jRR_L hR1, jn_in, jn_clamp, if_pos, ne (show (-1 : Int32) < 0 by decide), r1]
    · by_cases hz2 : z = -2
      · subst hz2
        refine jmk (jo (gSt m g y (gB g y) none)) ?_ ⟨jz I, ?_, jz_ag I, rfl⟩
        · simp (disch := omega) only [zO_saying, jc_needSaying1 hg hG hy, ir_let, iq_sm, ir_sm, jzE, j10, Option.bind_some, ↓reduceIte, not_true_eq_false, not_false_eq_true, hz1, jc_stateOf hm hU hg hG hy]
        · simp (disch := omega) only [zM_saying, zM_saying_35, jm_isSaying1 hg hB hy, ir_let, iq_sm, ir_sm, jzE, j10, Option.bind_some, ↓reduceIte, not_true_eq_false, not_false_eq_true, show ¬ ((-2 : Int32) < -3) by decide, jRR_L hR1, jn_in, jn_clamp, if_pos, ne (show (-2 : Int32) < 0 by decide), r1, hz1, jm_stateNow hm hN1 hg hB1 hR1 hy]
      · by_cases hz3 : z = -3
        · subst hz3
          refine jmk (jn (gB g y)) ?_ ⟨jz I, ?_, jz_ag I, rfl⟩
          · simp (disch := omega) only [zO_saying, jc_needSaying1 hg hG hy, ir_let, iq_sm, ir_sm, jzE, j10, Option.bind_some, ↓reduceIte, not_true_eq_false, not_false_eq_true, hz1, hz2, jRG_B hG, jn_in, jn_clamp, if_pos]
          · simp (disch := omega) only [zM_saying, zM_saying_35, jm_isSaying1 hg hB hy, ir_let, iq_sm, ir_sm, jzE, j10, Option.bind_some, ↓reduceIte, not_true_eq_false, not_false_eq_true, show ¬ ((-3 : Int32) < -3) by decide, jRR_L hR1, jn_in, jn_clamp, if_pos, ne (show (-3 : Int32) < 0 by decide), r1, hz1, hz2, hB1.2 y hy]
        · by_cases hp : ∃ i, i < (gS g y).length ∧ z = jn i
          · obtain ⟨i, hi, rfl⟩ := hp
            have e2 : ¬ jn i < (-3 : Int32) := jn_nlt (by omega) (by decide)
            refine jmk (jn ((gS g y).getD i 0)) ?_ ⟨jz I, ?_, jz_ag I, rfl⟩
            · simp (disch := omega) only [zO_saying, jc_needSaying1 hg hG hy, ir_let, iq_sm, ir_sm, jzE, j10, Option.bind_some, ↓reduceIte, not_true_eq_false, not_false_eq_true, hz1, hz2, hz3, jc_needPlace1 hg hG hy hi, jc_wordAt hg hG hy hi]
            · simp (disch := omega) only [zM_saying, zM_saying_35, jm_isSaying1 hg hB hy, ir_let, iq_sm, ir_sm, jzE, j10, Option.bind_some, ↓reduceIte, not_true_eq_false, not_false_eq_true, e2, jRR_L hR1, jn_in, jn_clamp, if_pos, jn_le, if_neg, r1, hz1, hz2, hz3, jm_wordAt hg hR1 hy hi]
          · refine jmke ?_ ?_
            · simp (disch := omega) only [zO_saying, jc_needSaying1 hg hG hy, ir_let, iq_sm, ir_sm, jzE, j10, Option.bind_some, ↓reduceIte, not_true_eq_false, not_false_eq_true, hz1, hz2, hz3, jc_needPlace0 hg hG hy hp]
            · rcases jx_no (by omega) hp with h1 | ⟨h1, h2, h3⟩
              · simp (disch := omega) only [zM_saying, zM_saying_34, zM_saying_35, jm_isSaying1 hg hB hy, ir_let, iq_sm, ir_sm, jzE, j10, Option.bind_some, ↓reduceIte, not_true_eq_false, not_false_eq_true, jneg3 h1 hz1 hz2 hz3, r0]
              · have e2 : ¬ z < (-3 : Int32) := by
                  intro h
                  apply h1
                  rw [Int32.lt_iff_toInt_lt] at h ⊢
                  have e : (0 : Int32).toInt = 0 := rfl
                  have e' : (-3 : Int32).toInt = -3 := rfl
                  omega
                simp (disch := omega) only [zM_saying, zM_saying_34, zM_saying_35, jm_isSaying1 hg hB hy, ir_let, iq_sm, ir_sm, jzE, j10, Option.bind_some, ↓reduceIte, not_true_eq_false, not_false_eq_true, e2, jRR_L hR1, jn_in, jn_clamp, if_pos, h3, r0]
  · refine jmke ?_ ?_
    · simp only [zO_saying, jc_needSaying0 hg hG hx, ir_let, iq_sm, ir_sm, jzE, j10, Option.bind_some, ↓reduceIte, not_true_eq_false, not_false_eq_true]
    · simp only [zM_saying, jm_isSaying0 hg hB hx, ir_let, iq_sm, ir_sm, jzE, j10, Option.bind_some, ↓reduceIte, not_true_eq_false, not_false_eq_true]
theorem jc_countBroken {I : iq_I} {m : jMu} {g : jGa} (hm : mOk m) (hU : jRU I m) (hg : gOk m g) (hG : jRG I 16 17 18 24 g) : zW_countBroken I = some (jn (jcn (gY g) fun y => decide (gSt m g y (gB g y) none = none))) := by
  have h5 := hg.1
  have key : zW_countBroken_l4 I ir_F (jn 0, jn 0) = some (jn (jcn (gY g) fun y => decide (gSt m g y (gB g y) none = none))) := by
    refine js_seq (fun i => (jn (jcn i fun y => decide (gSt m g y (gB g y) none = none)), jn i)) (gY g) _ (fun y hy => ?_) ?_ (gY g) 0 ir_F (by omega) (by unfold ir_F; omega)
    · have kk := jc_stateOf hm hU hg hG hy
      cases hr : gSt m g y (gB g y) none with
      | none =>
        rw [hr] at kk
        simp (disch := omega) only [zW_countBroken_l4_b, jRG_Y hG, kk, ir_let, jn_lt, jn_le, jn_in, jn_inj, jn_ne_m, jm_ne_n, jm_eq_m, jm_lt, jm_le, jn_lt_m, jn_le_m, jn_add, jn_mul, jn_clamp, jo_some, jn_min, jn_max, ↓jlm, jl0, jl1, jl2, jl3, jl4, jl5, jl6, jl7, jl8, jl9, jl10, jl11, jl12, jl13, jl14, jl15, jl16, jl20, jl24, jl32, jl39, jl40, jl41, jl60, jl61, jl80, jl96, jl97, jl99, jl100, jl122, jl126, jl199, jl200, jl205, jl206, jl255, jl256, jl410, jl700, jl950, jl1000, jl1000000, jl4000, jl8240, jl32767, if_pos, if_neg, ↓reduceIte, Option.bind_some, not_true_eq_false, not_false_eq_true, Nat.not_lt, Nat.not_le]
        rw [jcnS1 (decide_eq_true hr)]
      | some t =>
        have ht := gSt_lt hm hg hy (hg.2.1 y hy) hr
        have h10 := hm.1
        rw [hr] at kk
        simp (disch := omega) only [zW_countBroken_l4_b, jRG_Y hG, kk, ir_let, jn_lt, jn_le, jn_in, jn_inj, jn_ne_m, jm_ne_n, jm_eq_m, jm_lt, jm_le, jn_lt_m, jn_le_m, jn_add, jn_mul, jn_clamp, jo_some, jn_min, jn_max, ↓jlm, jl0, jl1, jl2, jl3, jl4, jl5, jl6, jl7, jl8, jl9, jl10, jl11, jl12, jl13, jl14, jl15, jl16, jl20, jl24, jl32, jl39, jl40, jl41, jl60, jl61, jl80, jl96, jl97, jl99, jl100, jl122, jl126, jl199, jl200, jl205, jl206, jl255, jl256, jl410, jl700, jl950, jl1000, jl1000000, jl4000, jl8240, jl32767, if_pos, if_neg, ↓reduceIte, Option.bind_some, not_true_eq_false, not_false_eq_true, Nat.not_lt, Nat.not_le]
        rw [jcnS0 (decide_eq_false (by rw [hr]; simp))]
    · simp (disch := omega) only [zW_countBroken_l4_b, jRG_Y hG, ir_let, jn_lt, jn_le, jn_in, jn_inj, jn_ne_m, jm_ne_n, jm_eq_m, jm_lt, jm_le, jn_lt_m, jn_le_m, jn_add, jn_mul, jn_clamp, jo_some, jn_min, jn_max, ↓jlm, jl0, jl1, jl2, jl3, jl4, jl5, jl6, jl7, jl8, jl9, jl10, jl11, jl12, jl13, jl14, jl15, jl16, jl20, jl24, jl32, jl39, jl40, jl41, jl60, jl61, jl80, jl96, jl97, jl99, jl100, jl122, jl126, jl199, jl200, jl205, jl206, jl255, jl256, jl410, jl700, jl950, jl1000, jl1000000, jl4000, jl8240, jl32767, if_pos, if_neg, ↓reduceIte, Option.bind_some, not_true_eq_false, not_false_eq_true, Nat.not_lt, Nat.not_le]
  simp only [jn0] at key
  simp only [zW_countBroken, key, ir_let, iq_sm, ir_sm, jzE, j10, Option.bind_some, ↓reduceIte, not_true_eq_false, not_false_eq_true]
theorem jm_broken {I : iq_I} {m : jMu} {g : jGa} (hm : mOk m) (hN : jRN I m) (hg : gOk m g) (hB : jRB I g) (hR : jRR (I 98) g) : zM_broken I = some (jn (jcn (gY g) fun y => decide (gSt m g y (gB g y) none = none))) := by
  have h5 := hg.1
  have key : zM_broken_l4 I ir_F (jn 0, jn 0) = some (jn (jcn (gY g) fun y => decide (gSt m g y (gB g y) none = none))) := by
    refine js_seq (fun i => (jn (jcn i fun y => decide (gSt m g y (gB g y) none = none)), jn i)) (gY g) _ (fun y hy => ?_) ?_ (gY g) 0 ir_F (by omega) (by unfold ir_F; omega)
    · have kk := jm_stateNow hm hN hg hB hR hy
      cases hr : gSt m g y (gB g y) none with
      | none =>
        rw [hr] at kk
        simp (disch := omega) only [zM_broken_l4_b, hB.1, kk, ir_let, jn_lt, jn_le, jn_in, jn_inj, jn_ne_m, jm_ne_n, jm_eq_m, jm_lt, jm_le, jn_lt_m, jn_le_m, jn_add, jn_mul, jn_clamp, jo_some, jn_min, jn_max, ↓jlm, jl0, jl1, jl2, jl3, jl4, jl5, jl6, jl7, jl8, jl9, jl10, jl11, jl12, jl13, jl14, jl15, jl16, jl20, jl24, jl32, jl39, jl40, jl41, jl60, jl61, jl80, jl96, jl97, jl99, jl100, jl122, jl126, jl199, jl200, jl205, jl206, jl255, jl256, jl410, jl700, jl950, jl1000, jl1000000, jl4000, jl8240, jl32767, if_pos, if_neg, ↓reduceIte, Option.bind_some, not_true_eq_false, not_false_eq_true, Nat.not_lt, Nat.not_le]
        rw [jcnS1 (decide_eq_true hr)]
      | some t =>
        have ht := gSt_lt hm hg hy (hg.2.1 y hy) hr
        have h10 := hm.1
        rw [hr] at kk
        simp (disch := omega) only [zM_broken_l4_b, hB.1, kk, ir_let, jn_lt, jn_le, jn_in, jn_inj, jn_ne_m, jm_ne_n, jm_eq_m, jm_lt, jm_le, jn_lt_m, jn_le_m, jn_add, jn_mul, jn_clamp, jo_some, jn_min, jn_max, ↓jlm, jl0, jl1, jl2, jl3, jl4, jl5, jl6, jl7, jl8, jl9, jl10, jl11, jl12, jl13, jl14, jl15, jl16, jl20, jl24, jl32, jl39, jl40, jl41, jl60, jl61, jl80, jl96, jl97, jl99, jl100, jl122, jl126, jl199, jl200, jl205, jl206, jl255, jl256, jl410, jl700, jl950, jl1000, jl1000000, jl4000, jl8240, jl32767, if_pos, if_neg, ↓reduceIte, Option.bind_some, not_true_eq_false, not_false_eq_true, Nat.not_lt, Nat.not_le]
        rw [jcnS0 (decide_eq_false (by rw [hr]; simp))]
        rfl
    · simp (disch := omega) only [zM_broken_l4_b, hB.1, ir_let, jn_lt, jn_le, jn_in, jn_inj, jn_ne_m, jm_ne_n, jm_eq_m, jm_lt, jm_le, jn_lt_m, jn_le_m, jn_add, jn_mul, jn_clamp, jo_some, jn_min, jn_max, ↓jlm, jl0, jl1, jl2, jl3, jl4, jl5, jl6, jl7, jl8, jl9, jl10, jl11, jl12, jl13, jl14, jl15, jl16, jl20, jl24, jl32, jl39, jl40, jl41, jl60, jl61, jl80, jl96, jl97, jl99, jl100, jl122, jl126, jl199, jl200, jl205, jl206, jl255, jl256, jl410, jl700, jl950, jl1000, jl1000000, jl4000, jl8240, jl32767, if_pos, if_neg, ↓reduceIte, Option.bind_some, not_true_eq_false, not_false_eq_true, Nat.not_lt, Nat.not_le]
  simp only [jn0] at key
  simp only [zM_broken, key, ir_let, iq_sm, ir_sm, jzE, j10, Option.bind_some, ↓reduceIte, not_true_eq_false, not_false_eq_true]
def gMx (g : jGa) : Nat → Nat
  | 0 => 0
  | n + 1 => max (gMx g n) (gS g n).length
theorem gMx_le {m : jMu} {g : jGa} (hg : gOk m g) : ∀ n, n ≤ gY g → gMx g n ≤ 40
  | 0, _ => Nat.zero_le _
  | n + 1, h => by
    have h1 := gMx_le hg n (by omega)
    have h2 := hg.2.2.1 n (by omega)
    unfold gMx; omega
theorem jc_longest {I : iq_I} {m : jMu} {g : jGa} (hg : gOk m g) (hG : jRG I 16 17 18 24 g) : zG_longest I = some (jn (gMx g (gY g))) := by
  have h5 := hg.1
  have key : zG_longest_l4 I ir_F (jn 0, jn 0) = some (jn (gMx g (gY g))) := by
    refine js_seq (fun i => (jn (gMx g i), jn i)) (gY g) _ (fun y hy => ?_) ?_ (gY g) 0 ir_F (by omega) (by unfold ir_F; omega)
    · have h1 := gMx_le hg y (by omega)
      have h2 := hg.2.2.1 y hy
      simp (disch := omega) only [zG_longest_l4_b, jRG_Y hG, jc_lengthOf hg hG hy, ir_let, jn_lt, jn_le, jn_in, jn_inj, jn_ne_m, jm_ne_n, jm_eq_m, jm_lt, jm_le, jn_lt_m, jn_le_m, jn_add, jn_mul, jn_clamp, jo_some, jn_min, jn_max, ↓jlm, jl0, jl1, jl2, jl3, jl4, jl5, jl6, jl7, jl8, jl9, jl10, jl11, jl12, jl13, jl14, jl15, jl16, jl20, jl24, jl32, jl39, jl40, jl41, jl60, jl61, jl80, jl96, jl97, jl99, jl100, jl122, jl126, jl199, jl200, jl205, jl206, jl255, jl256, jl410, jl700, jl950, jl1000, jl1000000, jl4000, jl8240, jl32767, if_pos, if_neg, ↓reduceIte, Option.bind_some, not_true_eq_false, not_false_eq_true, Nat.not_lt, Nat.not_le]
      rfl
    · simp (disch := omega) only [zG_longest_l4_b, jRG_Y hG, ir_let, jn_lt, jn_le, jn_in, jn_inj, jn_ne_m, jm_ne_n, jm_eq_m, jm_lt, jm_le, jn_lt_m, jn_le_m, jn_add, jn_mul, jn_clamp, jo_some, jn_min, jn_max, ↓jlm, jl0, jl1, jl2, jl3, jl4, jl5, jl6, jl7, jl8, jl9, jl10, jl11, jl12, jl13, jl14, jl15, jl16, jl20, jl24, jl32, jl39, jl40, jl41, jl60, jl61, jl80, jl96, jl97, jl99, jl100, jl122, jl126, jl199, jl200, jl205, jl206, jl255, jl256, jl410, jl700, jl950, jl1000, jl1000000, jl4000, jl8240, jl32767, if_pos, if_neg, ↓reduceIte, Option.bind_some, not_true_eq_false, not_false_eq_true, Nat.not_lt, Nat.not_le]
  simp only [jn0] at key
  simp only [zG_longest, key, ir_let, iq_sm, ir_sm, jzE, j10, Option.bind_some, ↓reduceIte, not_true_eq_false, not_false_eq_true]
theorem jm_longestOf {I : iq_I} {m : jMu} {g : jGa} (hg : gOk m g) (hB : jRB I g) (hR : jRR (I 98) g) : zM_longestOf I = some (jn (gMx g (gY g))) := by
  have h5 := hg.1
  have key : zM_longestOf_l4 I ir_F (jn 0, jn 0) = some (jn (gMx g (gY g))) := by
    refine js_seq (fun i => (jn (gMx g i), jn i)) (gY g) _ (fun y hy => ?_) ?_ (gY g) 0 ir_F (by omega) (by unfold ir_F; omega)
    · have h1 := gMx_le hg y (by omega)
      have h2 := hg.2.2.1 y hy
      by_cases e : (gS g y).length ≤ gMx g y
      · simp (disch := omega) only [zM_longestOf_l4_b, hB.1, jRR_L hR, ir_let, jn_lt, jn_le, jn_in, jn_inj, jn_ne_m, jm_ne_n, jm_eq_m, jm_lt, jm_le, jn_lt_m, jn_le_m, jn_add, jn_mul, jn_clamp, jo_some, jn_min, jn_max, ↓jlm, jl0, jl1, jl2, jl3, jl4, jl5, jl6, jl7, jl8, jl9, jl10, jl11, jl12, jl13, jl14, jl15, jl16, jl20, jl24, jl32, jl39, jl40, jl41, jl60, jl61, jl80, jl96, jl97, jl99, jl100, jl122, jl126, jl199, jl200, jl205, jl206, jl255, jl256, jl410, jl700, jl950, jl1000, jl1000000, jl4000, jl8240, jl32767, if_pos, if_neg, ↓reduceIte, Option.bind_some, not_true_eq_false, not_false_eq_true, Nat.not_lt, Nat.not_le]
        simp only [gMx, Nat.max_eq_left e]
      · simp (disch := omega) only [zM_longestOf_l4_b, hB.1, jRR_L hR, ir_let, jn_lt, jn_le, jn_in, jn_inj, jn_ne_m, jm_ne_n, jm_eq_m, jm_lt, jm_le, jn_lt_m, jn_le_m, jn_add, jn_mul, jn_clamp, jo_some, jn_min, jn_max, ↓jlm, jl0, jl1, jl2, jl3, jl4, jl5, jl6, jl7, jl8, jl9, jl10, jl11, jl12, jl13, jl14, jl15, jl16, jl20, jl24, jl32, jl39, jl40, jl41, jl60, jl61, jl80, jl96, jl97, jl99, jl100, jl122, jl126, jl199, jl200, jl205, jl206, jl255, jl256, jl410, jl700, jl950, jl1000, jl1000000, jl4000, jl8240, jl32767, if_pos, if_neg, ↓reduceIte, Option.bind_some, not_true_eq_false, not_false_eq_true, Nat.not_lt, Nat.not_le]
        simp only [gMx, Nat.max_eq_right (Nat.le_of_lt (Nat.lt_of_not_le e))]
    · simp (disch := omega) only [zM_longestOf_l4_b, hB.1, ir_let, jn_lt, jn_le, jn_in, jn_inj, jn_ne_m, jm_ne_n, jm_eq_m, jm_lt, jm_le, jn_lt_m, jn_le_m, jn_add, jn_mul, jn_clamp, jo_some, jn_min, jn_max, ↓jlm, jl0, jl1, jl2, jl3, jl4, jl5, jl6, jl7, jl8, jl9, jl10, jl11, jl12, jl13, jl14, jl15, jl16, jl20, jl24, jl32, jl39, jl40, jl41, jl60, jl61, jl80, jl96, jl97, jl99, jl100, jl122, jl126, jl199, jl200, jl205, jl206, jl255, jl256, jl410, jl700, jl950, jl1000, jl1000000, jl4000, jl8240, jl32767, if_pos, if_neg, ↓reduceIte, Option.bind_some, not_true_eq_false, not_false_eq_true, Nat.not_lt, Nat.not_le]
  simp only [jn0] at key
  simp only [zM_longestOf, key, ir_let, iq_sm, ir_sm, jzE, j10, Option.bind_some, ↓reduceIte, not_true_eq_false, not_false_eq_true]
theorem jq_count {I : iq_I} (hI : jInv I) (x : Int32) (X : iq_X) : ∃ r X1 b I2, zO_count x I X = some (r, X1) ∧ zM_count x I = some (b, I2) ∧ jag I I2 ∧ jXo X X1 ∧ jAns r b (I2 76 0) := by
  obtain ⟨m, g, hm, hU, hN, hB, ⟨hg, hG, hR, ⟨a, ha1, ha2, ha3, -⟩, ⟨c, hc1, hc2, hc3, -⟩⟩, -, ⟨t, ht1, ht2, ht3, -⟩, -, hr0, hr1, hr2⟩ := hI
  have hN1 := jRN_ag hN (jz_ag I)
  have hB1 := jRB_ag hB (jz_ag I)
  have hR1 := jRR_ag hR (jz_ag I)
  by_cases hx : ∃ k, k ≤ 14 ∧ x = jn k
  · obtain ⟨k, hk, rfl⟩ := hx
    have hk : k = 0 ∨ k = 1 ∨ k = 2 ∨ k = 3 ∨ k = 4 ∨ k = 5 ∨ k = 6 ∨ k = 7 ∨ k = 8 ∨ k = 9 ∨ k = 10 ∨ k = 11 ∨ k = 12 ∨ k = 13 ∨ k = 14 := by omega
    rcases hk with rfl | rfl | rfl | rfl | rfl | rfl | rfl | rfl | rfl | rfl | rfl | rfl | rfl | rfl | rfl
    · exact jmk (I 4 0) rfl ⟨jz I, by rw [jRU_S hU, ← jRN_S hN]; rfl, jz_ag I, rfl⟩
    · exact jmk (I 4 2) rfl ⟨jz I, by rw [jRU_W hU, ← jRN_W hN]; rfl, jz_ag I, rfl⟩
    · exact jmk (I 4 3) rfl ⟨jz I, by rw [jRU_A hU, ← jRN_A hN]; rfl, jz_ag I, rfl⟩
    · exact jmk (I 16 0) rfl ⟨jz I, by rw [jRG_Y hG, ← hB.1]; rfl, jz_ag I, rfl⟩
    · exact jmk (I 8 0) rfl ⟨jz I, by rw [jRU_V hU, ← jRN_V hN]; rfl, jz_ag I, rfl⟩
    · exact jmk (I 16 1) rfl ⟨jz I, by rw [jRG_D hG, ← jRR_D hR]; rfl, jz_ag I, rfl⟩
    · exact jmk (I 19 0) rfl ⟨jz I, by rw [ha2, ← ha3]; rfl, jz_ag I, rfl⟩
    · exact jmk (I 16 2) rfl ⟨jz I, by rw [hc2, ← hc3]; rfl, jz_ag I, rfl⟩
    · exact jmk (I 1 11) rfl ⟨jz I, by rw [ht2, ← ht3]; rfl, jz_ag I, rfl⟩
    · exact jmk (I 3 0) rfl ⟨jz I, by rw [← hr0]; rfl, jz_ag I, rfl⟩
    · exact jmk (I 3 1) rfl ⟨jz I, by rw [← hr1]; rfl, jz_ag I, rfl⟩
    · exact jmk (I 3 2) rfl ⟨jz I, by rw [← hr2]; rfl, jz_ag I, rfl⟩
    · refine jmk (jn (jcn (gY g) fun y => decide (gSt m g y (gB g y) none = none))) ?_ ⟨jz I, ?_, jz_ag I, rfl⟩
      · show zO_count_172 I X = _
        simp only [zO_count_172, jc_countBroken hm hU hg hG, ir_let, iq_sm, ir_sm, jzE, j10, Option.bind_some, ↓reduceIte, not_true_eq_false, not_false_eq_true]
      · show zM_count_153 (jz I) = _
        simp only [zM_count_153, jm_broken hm hN1 hg hB1 hR1, ir_let, iq_sm, ir_sm, jzE, j10, Option.bind_some, ↓reduceIte, not_true_eq_false, not_false_eq_true]
    · exact jmk (I 4 1) rfl ⟨jz I, by rw [jRU_E hU, ← jRN_E hN]; rfl, jz_ag I, rfl⟩
    · refine jmk (jn (gMx g (gY g))) ?_ ⟨jz I, ?_, jz_ag I, rfl⟩
      · show zO_count_192 I X = _
        simp only [zO_count_192, jc_longest hg hG, ir_let, iq_sm, ir_sm, jzE, j10, Option.bind_some, ↓reduceIte, not_true_eq_false, not_false_eq_true]
      · show zM_count_101 (jz I) = _
        simp only [zM_count_101, jm_longestOf hg hB1 hR1, ir_let, iq_sm, ir_sm, jzE, j10, Option.bind_some, ↓reduceIte, not_true_eq_false, not_false_eq_true]
  · refine jmke ?_ ?_
    · have h : ∀ k, k ≤ 14 → ¬ x = jn k := fun k h1 h2 => hx ⟨k, h1, h2⟩
      unfold zO_count
      rw [if_neg (show ¬ x = 0 from h 0 (by omega)), if_neg (show ¬ x = 1 from h 1 (by omega)), if_neg (show ¬ x = 2 from h 2 (by omega)), if_neg (show ¬ x = 3 from h 3 (by omega)), if_neg (show ¬ x = 4 from h 4 (by omega)), if_neg (show ¬ x = 5 from h 5 (by omega)), if_neg (show ¬ x = 6 from h 6 (by omega)), if_neg (show ¬ x = 7 from h 7 (by omega)), if_neg (show ¬ x = 8 from h 8 (by omega)), if_neg (show ¬ x = 9 from h 9 (by omega)), if_neg (show ¬ x = 10 from h 10 (by omega)), if_neg (show ¬ x = 11 from h 11 (by omega)), if_neg (show ¬ x = 12 from h 12 (by omega)), if_neg (show ¬ x = 13 from h 13 (by omega)), if_neg (show ¬ x = 14 from h 14 (by omega))]
      rfl
    · have k1 : zM_within x 0 14 (jz I) = some 0 := by
        rcases jm_within (I := jz I) (x := x) (a := 0) (b := 14) (by omega) (by omega) with ⟨k, _, h1, h2, _⟩ | ⟨_, h⟩
        · exact absurd ⟨k, h1, h2⟩ hx
        · exact h
      simp only [zM_count, ir_let, iq_sm, ir_sm, jzE, j10, Option.bind_some, ↓reduceIte, not_true_eq_false, not_false_eq_true, k1, jm_right0 (I := I) (c := 1) (x := 0) rfl (by decide)]
def pCu (m : jMu) (g : jGa) (y i : Nat) : Bool := (gSt m g y (gB g y) (some i)).isSome
theorem jc_heal {I : iq_I} {m : jMu} {g : jGa} (hm : mOk m) (hU : jRU I m) (hg : gOk m g) (hG : jRG I 16 17 18 24 g) {y i : Nat} (hy : y < gY g) (hi : i < (gS g y).length) : zW_wouldHeal (jn y) (jn i) I = some (jB (pCu m g y i)) := by
  have h40 := hg.2.2.1 y hy
  have h10 := hm.1
  have kk := jc_stateFrom hm hU hg hG hy (hg.2.1 y hy) (but := some i) (fun b h => by cases h; omega)
  rw [jo_some] at kk
  cases hr : gSt m g y (gB g y) (some i) with
  | none =>
    rw [hr] at kk
    simp (disch := omega) only [zW_wouldHeal, jc_beginOf hg hG hy, kk, pCu, hr, ir_let, jn_lt, jn_le, jn_in, jn_inj, jn_ne_m, jm_ne_n, jm_eq_m, jm_lt, jm_le, jn_lt_m, jn_le_m, jn_add, jn_mul, jn_clamp, jo_some, jn_min, jn_max, ↓jlm, jl0, jl1, jl2, jl3, jl4, jl5, jl6, jl7, jl8, jl9, jl10, jl11, jl12, jl13, jl14, jl15, jl16, jl20, jl24, jl32, jl39, jl40, jl41, jl60, jl61, jl80, jl96, jl97, jl99, jl100, jl122, jl126, jl199, jl200, jl205, jl206, jl255, jl256, jl410, jl700, jl950, jl1000, jl1000000, jl4000, jl8240, jl32767, if_pos, if_neg, ↓reduceIte, Option.bind_some, not_true_eq_false, not_false_eq_true, Nat.not_lt, Nat.not_le]
    rfl
  | some t =>
    have ht := gSt_lt hm hg hy (hg.2.1 y hy) hr
    rw [hr] at kk
    simp (disch := omega) only [zW_wouldHeal, jc_beginOf hg hG hy, kk, pCu, hr, ir_let, jn_lt, jn_le, jn_in, jn_inj, jn_ne_m, jm_ne_n, jm_eq_m, jm_lt, jm_le, jn_lt_m, jn_le_m, jn_add, jn_mul, jn_clamp, jo_some, jn_min, jn_max, ↓jlm, jl0, jl1, jl2, jl3, jl4, jl5, jl6, jl7, jl8, jl9, jl10, jl11, jl12, jl13, jl14, jl15, jl16, jl20, jl24, jl32, jl39, jl40, jl41, jl60, jl61, jl80, jl96, jl97, jl99, jl100, jl122, jl126, jl199, jl200, jl205, jl206, jl255, jl256, jl410, jl700, jl950, jl1000, jl1000000, jl4000, jl8240, jl32767, if_pos, if_neg, ↓reduceIte, Option.bind_some, not_true_eq_false, not_false_eq_true, Nat.not_lt, Nat.not_le]
    rfl
def vCu (m : jMu) (g : jGa) (y k : Nat) : Int32 := if gSt m g y (gB g y) none = none then (if k = 0 then jn (jcn (gS g y).length (pCu m g y)) else jo (gFst (pCu m g y) (gS g y).length 0)) else (if k = 0 then jn 0 else jo none)
theorem jm_cu32 {I : iq_I} {m : jMu} {g : jGa} (hm : mOk m) (hN : jRN I m) (hg : gOk m g) (hB : jRB I g) (hR : jRR (I 98) g) {y : Nat} (hy : y < gY g) (x2 : Int32) :
    zM_culprit_l32 (jn y) x2 I ir_F (jn 0, jo none, jn 0) = some (vCu m g y 0, vCu m g y 1) := by
  have h40 := hg.2.2.1 y hy
  have h10 := hm.1
  have h5 := hg.1
  have k0 := jm_stateNow hm hN hg hB hR hy
  cases hr : gSt m g y (gB g y) none with
  | some t =>
    have ht := gSt_lt hm hg hy (hg.2.1 y hy) hr
    rw [hr] at k0
    have e : vCu m g y 0 = jn 0 ∧ vCu m g y 1 = jo none := by simp [vCu, hr]
    rw [e.1, e.2]
    refine js_0 ?_
    by_cases h0 : (gS g y).length ≤ 0
    · simp (disch := omega) only [zM_culprit_l32_b, jRR_L hR, ir_let, jn_lt, jn_le, jn_in, jn_inj, jn_ne_m, jm_ne_n, jm_eq_m, jm_lt, jm_le, jn_lt_m, jn_le_m, jn_add, jn_mul, jn_clamp, jo_some, jn_min, jn_max, ↓jlm, jl0, jl1, jl2, jl3, jl4, jl5, jl6, jl7, jl8, jl9, jl10, jl11, jl12, jl13, jl14, jl15, jl16, jl20, jl24, jl32, jl39, jl40, jl41, jl60, jl61, jl80, jl96, jl97, jl99, jl100, jl122, jl126, jl199, jl200, jl205, jl206, jl255, jl256, jl410, jl700, jl950, jl1000, jl1000000, jl4000, jl8240, jl32767, if_pos, if_neg, ↓reduceIte, Option.bind_some, not_true_eq_false, not_false_eq_true, Nat.not_lt, Nat.not_le]
    · simp (disch := omega) only [zM_culprit_l32_b, jRR_L hR, k0, ir_let, jn_lt, jn_le, jn_in, jn_inj, jn_ne_m, jm_ne_n, jm_eq_m, jm_lt, jm_le, jn_lt_m, jn_le_m, jn_add, jn_mul, jn_clamp, jo_some, jn_min, jn_max, ↓jlm, jl0, jl1, jl2, jl3, jl4, jl5, jl6, jl7, jl8, jl9, jl10, jl11, jl12, jl13, jl14, jl15, jl16, jl20, jl24, jl32, jl39, jl40, jl41, jl60, jl61, jl80, jl96, jl97, jl99, jl100, jl122, jl126, jl199, jl200, jl205, jl206, jl255, jl256, jl410, jl700, jl950, jl1000, jl1000000, jl4000, jl8240, jl32767, if_pos, if_neg, ↓reduceIte, Option.bind_some, not_true_eq_false, not_false_eq_true, Nat.not_lt, Nat.not_le]
  | none =>
    rw [hr] at k0
    have e : vCu m g y 0 = jn (jcn (gS g y).length (pCu m g y)) ∧ vCu m g y 1 = jo (gFst (pCu m g y) (gS g y).length 0) := by simp [vCu, hr]
    rw [e.1, e.2]
    refine js_seq (fun i => (jn (jcn i (pCu m g y)), jo (gFst (pCu m g y) i 0), jn i)) (gS g y).length _ (fun i hi => ?_) ?_ (gS g y).length 0 ir_F (by omega) (by unfold ir_F; omega)
    · have kk := jm_stateOf hm hN hg hR hy (hg.2.1 y hy) (but := some i) (fun b h => by cases h; omega)
      rw [jo_some] at kk
      have hBy := hB.2 y hy
      cases hp : gSt m g y (gB g y) (some i) with
      | none =>
        have e1 : pCu m g y i = false := by simp [pCu, hp]
        rw [hp] at kk
        simp (disch := omega) only [zM_culprit_l32_b, jRR_L hR, k0, hBy, kk, jcnS0 e1, ir_let, jn_lt, jn_le, jn_in, jn_inj, jn_ne_m, jm_ne_n, jm_eq_m, jm_lt, jm_le, jn_lt_m, jn_le_m, jn_add, jn_mul, jn_clamp, jo_some, jn_min, jn_max, ↓jlm, jl0, jl1, jl2, jl3, jl4, jl5, jl6, jl7, jl8, jl9, jl10, jl11, jl12, jl13, jl14, jl15, jl16, jl20, jl24, jl32, jl39, jl40, jl41, jl60, jl61, jl80, jl96, jl97, jl99, jl100, jl122, jl126, jl199, jl200, jl205, jl206, jl255, jl256, jl410, jl700, jl950, jl1000, jl1000000, jl4000, jl8240, jl32767, if_pos, if_neg, ↓reduceIte, Option.bind_some, not_true_eq_false, not_false_eq_true, Nat.not_lt, Nat.not_le]
        rw [gFst_s, Nat.zero_add, e1]
        cases gFst (pCu m g y) i 0 <;> rfl
      | some t =>
        have ht := gSt_lt hm hg hy (hg.2.1 y hy) hp
        have e1 : pCu m g y i = true := by simp [pCu, hp]
        rw [hp] at kk
        cases hf : gFst (pCu m g y) i 0 with
        | none =>
          simp (disch := omega) only [zM_culprit_l32_b, jRR_L hR, k0, hBy, kk, jcnS1 e1, hf, ir_let, jn_lt, jn_le, jn_in, jn_inj, jn_ne_m, jm_ne_n, jm_eq_m, jm_lt, jm_le, jn_lt_m, jn_le_m, jn_add, jn_mul, jn_clamp, jo_some, jn_min, jn_max, ↓jlm, jl0, jl1, jl2, jl3, jl4, jl5, jl6, jl7, jl8, jl9, jl10, jl11, jl12, jl13, jl14, jl15, jl16, jl20, jl24, jl32, jl39, jl40, jl41, jl60, jl61, jl80, jl96, jl97, jl99, jl100, jl122, jl126, jl199, jl200, jl205, jl206, jl255, jl256, jl410, jl700, jl950, jl1000, jl1000000, jl4000, jl8240, jl32767, if_pos, if_neg, ↓reduceIte, Option.bind_some, not_true_eq_false, not_false_eq_true, Nat.not_lt, Nat.not_le]
          rw [gFst_s, Nat.zero_add, e1, hf]
          rfl
        | some e =>
          have he : e < i := by
            rcases gFst_sp (P := pCu m g y) (c := i) (i := 0) with ⟨h1, _⟩ | ⟨k, h1, _, h3, _⟩
            · rw [h1] at hf; cases hf
            · rw [h1] at hf; cases hf; omega
          simp (disch := omega) only [zM_culprit_l32_b, jRR_L hR, k0, hBy, kk, jcnS1 e1, hf, ir_let, jn_lt, jn_le, jn_in, jn_inj, jn_ne_m, jm_ne_n, jm_eq_m, jm_lt, jm_le, jn_lt_m, jn_le_m, jn_add, jn_mul, jn_clamp, jo_some, jn_min, jn_max, ↓jlm, jl0, jl1, jl2, jl3, jl4, jl5, jl6, jl7, jl8, jl9, jl10, jl11, jl12, jl13, jl14, jl15, jl16, jl20, jl24, jl32, jl39, jl40, jl41, jl60, jl61, jl80, jl96, jl97, jl99, jl100, jl122, jl126, jl199, jl200, jl205, jl206, jl255, jl256, jl410, jl700, jl950, jl1000, jl1000000, jl4000, jl8240, jl32767, if_pos, if_neg, ↓reduceIte, Option.bind_some, not_true_eq_false, not_false_eq_true, Nat.not_lt, Nat.not_le]
          rw [gFst_s, Nat.zero_add, e1, hf]
          rfl
    · simp (disch := omega) only [zM_culprit_l32_b, jRR_L hR, ir_let, jn_lt, jn_le, jn_in, jn_inj, jn_ne_m, jm_ne_n, jm_eq_m, jm_lt, jm_le, jn_lt_m, jn_le_m, jn_add, jn_mul, jn_clamp, jo_some, jn_min, jn_max, ↓jlm, jl0, jl1, jl2, jl3, jl4, jl5, jl6, jl7, jl8, jl9, jl10, jl11, jl12, jl13, jl14, jl15, jl16, jl20, jl24, jl32, jl39, jl40, jl41, jl60, jl61, jl80, jl96, jl97, jl99, jl100, jl122, jl126, jl199, jl200, jl205, jl206, jl255, jl256, jl410, jl700, jl950, jl1000, jl1000000, jl4000, jl8240, jl32767, if_pos, if_neg, ↓reduceIte, Option.bind_some, not_true_eq_false, not_false_eq_true, Nat.not_lt, Nat.not_le]
theorem jc_countFlies {I : iq_I} {m : jMu} {g : jGa} (hm : mOk m) (hU : jRU I m) (hg : gOk m g) (hG : jRG I 16 17 18 24 g) {y : Nat} (hy : y < gY g) : zW_countFlies (jn y) I = some (vCu m g y 0) := by
  have h40 := hg.2.2.1 y hy
  have h10 := hm.1
  have k0 := jc_stateOf hm hU hg hG hy
  cases hr : gSt m g y (gB g y) none with
  | some t =>
    have ht := gSt_lt hm hg hy (hg.2.1 y hy) hr
    rw [hr] at k0
    simp (disch := omega) only [zW_countFlies, k0, vCu, hr, ir_let, jn_lt, jn_le, jn_in, jn_inj, jn_ne_m, jm_ne_n, jm_eq_m, jm_lt, jm_le, jn_lt_m, jn_le_m, jn_add, jn_mul, jn_clamp, jo_some, jn_min, jn_max, ↓jlm, jl0, jl1, jl2, jl3, jl4, jl5, jl6, jl7, jl8, jl9, jl10, jl11, jl12, jl13, jl14, jl15, jl16, jl20, jl24, jl32, jl39, jl40, jl41, jl60, jl61, jl80, jl96, jl97, jl99, jl100, jl122, jl126, jl199, jl200, jl205, jl206, jl255, jl256, jl410, jl700, jl950, jl1000, jl1000000, jl4000, jl8240, jl32767, if_pos, if_neg, ↓reduceIte, Option.bind_some, not_true_eq_false, not_false_eq_true, Nat.not_lt, Nat.not_le]
    simp
  | none =>
    rw [hr] at k0
    have key : zW_countFlies_l27 (jn y) (jn (gS g y).length) I ir_F (jn 0, jn 0) = some (jn (jcn (gS g y).length (pCu m g y))) := by
      refine js_seq (fun i => (jn (jcn i (pCu m g y)), jn i)) (gS g y).length _ (fun i hi => ?_) ?_ (gS g y).length 0 ir_F (by omega) (by unfold ir_F; omega)
      · cases hp : pCu m g y i with
        | false => simp (disch := omega) only [zW_countFlies_l27_b, jc_heal hm hU hg hG hy hi, hp, jB0, jcnS0 hp, ir_let, jn_lt, jn_le, jn_in, jn_inj, jn_ne_m, jm_ne_n, jm_eq_m, jm_lt, jm_le, jn_lt_m, jn_le_m, jn_add, jn_mul, jn_clamp, jo_some, jn_min, jn_max, ↓jlm, jl0, jl1, jl2, jl3, jl4, jl5, jl6, jl7, jl8, jl9, jl10, jl11, jl12, jl13, jl14, jl15, jl16, jl20, jl24, jl32, jl39, jl40, jl41, jl60, jl61, jl80, jl96, jl97, jl99, jl100, jl122, jl126, jl199, jl200, jl205, jl206, jl255, jl256, jl410, jl700, jl950, jl1000, jl1000000, jl4000, jl8240, jl32767, if_pos, if_neg, ↓reduceIte, Option.bind_some, not_true_eq_false, not_false_eq_true, Nat.not_lt, Nat.not_le]
        | true => simp (disch := omega) only [zW_countFlies_l27_b, jc_heal hm hU hg hG hy hi, hp, jB0, jcnS1 hp, ir_let, jn_lt, jn_le, jn_in, jn_inj, jn_ne_m, jm_ne_n, jm_eq_m, jm_lt, jm_le, jn_lt_m, jn_le_m, jn_add, jn_mul, jn_clamp, jo_some, jn_min, jn_max, ↓jlm, jl0, jl1, jl2, jl3, jl4, jl5, jl6, jl7, jl8, jl9, jl10, jl11, jl12, jl13, jl14, jl15, jl16, jl20, jl24, jl32, jl39, jl40, jl41, jl60, jl61, jl80, jl96, jl97, jl99, jl100, jl122, jl126, jl199, jl200, jl205, jl206, jl255, jl256, jl410, jl700, jl950, jl1000, jl1000000, jl4000, jl8240, jl32767, if_pos, if_neg, ↓reduceIte, Option.bind_some, not_true_eq_false, not_false_eq_true, Nat.not_lt, Nat.not_le, Bool.true_eq_false]
      · simp (disch := omega) only [zW_countFlies_l27_b, ir_let, jn_lt, jn_le, jn_in, jn_inj, jn_ne_m, jm_ne_n, jm_eq_m, jm_lt, jm_le, jn_lt_m, jn_le_m, jn_add, jn_mul, jn_clamp, jo_some, jn_min, jn_max, ↓jlm, jl0, jl1, jl2, jl3, jl4, jl5, jl6, jl7, jl8, jl9, jl10, jl11, jl12, jl13, jl14, jl15, jl16, jl20, jl24, jl32, jl39, jl40, jl41, jl60, jl61, jl80, jl96, jl97, jl99, jl100, jl122, jl126, jl199, jl200, jl205, jl206, jl255, jl256, jl410, jl700, jl950, jl1000, jl1000000, jl4000, jl8240, jl32767, if_pos, if_neg, ↓reduceIte, Option.bind_some, not_true_eq_false, not_false_eq_true, Nat.not_lt, Nat.not_le]
    simp (disch := omega) only [zW_countFlies, k0, jc_lengthOf hg hG hy, key, vCu, hr, ir_let, jn_lt, jn_le, jn_in, jn_inj, jn_ne_m, jm_ne_n, jm_eq_m, jm_lt, jm_le, jn_lt_m, jn_le_m, jn_add, jn_mul, jn_clamp, jo_some, jn_min, jn_max, ↓jlm, jl0, jl1, jl2, jl3, jl4, jl5, jl6, jl7, jl8, jl9, jl10, jl11, jl12, jl13, jl14, jl15, jl16, jl20, jl24, jl32, jl39, jl40, jl41, jl60, jl61, jl80, jl96, jl97, jl99, jl100, jl122, jl126, jl199, jl200, jl205, jl206, jl255, jl256, jl410, jl700, jl950, jl1000, jl1000000, jl4000, jl8240, jl32767, if_pos, if_neg, ↓reduceIte, Option.bind_some, not_true_eq_false, not_false_eq_true, Nat.not_lt, Nat.not_le]
theorem jc_firstFly {I : iq_I} {m : jMu} {g : jGa} (hm : mOk m) (hU : jRU I m) (hg : gOk m g) (hG : jRG I 16 17 18 24 g) {y : Nat} (hy : y < gY g) : zW_firstFly (jn y) I = some (vCu m g y 1) := by
  have h40 := hg.2.2.1 y hy
  have h10 := hm.1
  have k0 := jc_stateOf hm hU hg hG hy
  cases hr : gSt m g y (gB g y) none with
  | some t =>
    have ht := gSt_lt hm hg hy (hg.2.1 y hy) hr
    rw [hr] at k0
    simp (disch := omega) only [zW_firstFly, k0, vCu, hr, ir_let, jn_lt, jn_le, jn_in, jn_inj, jn_ne_m, jm_ne_n, jm_eq_m, jm_lt, jm_le, jn_lt_m, jn_le_m, jn_add, jn_mul, jn_clamp, jo_some, jn_min, jn_max, ↓jlm, jl0, jl1, jl2, jl3, jl4, jl5, jl6, jl7, jl8, jl9, jl10, jl11, jl12, jl13, jl14, jl15, jl16, jl20, jl24, jl32, jl39, jl40, jl41, jl60, jl61, jl80, jl96, jl97, jl99, jl100, jl122, jl126, jl199, jl200, jl205, jl206, jl255, jl256, jl410, jl700, jl950, jl1000, jl1000000, jl4000, jl8240, jl32767, if_pos, if_neg, ↓reduceIte, Option.bind_some, not_true_eq_false, not_false_eq_true, Nat.not_lt, Nat.not_le]
    simp
  | none =>
    rw [hr] at k0
    have key : zW_firstFly_l24 (jn y) (jn (gS g y).length) I ir_F (jn 0) = some (match gFst (pCu m g y) (gS g y).length 0 with
        | some e => .inr (jn e)
        | none => .inl ()) := by
      rcases gFst_sp (P := pCu m g y) (c := (gS g y).length) (i := 0) with ⟨h1, h2⟩ | ⟨e, h1, _, h3, h4, h5⟩
      · rw [h1]
        refine js_seq (fun i => jn i) (gS g y).length _ (fun i hi => ?_) ?_ (gS g y).length 0 ir_F (by omega) (by unfold ir_F; omega)
        · simp (disch := omega) only [zW_firstFly_l24_b, jc_heal hm hU hg hG hy hi, h2 i (by omega) (by omega), jB0, ir_let, jn_lt, jn_le, jn_in, jn_inj, jn_ne_m, jm_ne_n, jm_eq_m, jm_lt, jm_le, jn_lt_m, jn_le_m, jn_add, jn_mul, jn_clamp, jo_some, jn_min, jn_max, ↓jlm, jl0, jl1, jl2, jl3, jl4, jl5, jl6, jl7, jl8, jl9, jl10, jl11, jl12, jl13, jl14, jl15, jl16, jl20, jl24, jl32, jl39, jl40, jl41, jl60, jl61, jl80, jl96, jl97, jl99, jl100, jl122, jl126, jl199, jl200, jl205, jl206, jl255, jl256, jl410, jl700, jl950, jl1000, jl1000000, jl4000, jl8240, jl32767, if_pos, if_neg, ↓reduceIte, Option.bind_some, not_true_eq_false, not_false_eq_true, Nat.not_lt, Nat.not_le]
        · simp (disch := omega) only [zW_firstFly_l24_b, ir_let, jn_lt, jn_le, jn_in, jn_inj, jn_ne_m, jm_ne_n, jm_eq_m, jm_lt, jm_le, jn_lt_m, jn_le_m, jn_add, jn_mul, jn_clamp, jo_some, jn_min, jn_max, ↓jlm, jl0, jl1, jl2, jl3, jl4, jl5, jl6, jl7, jl8, jl9, jl10, jl11, jl12, jl13, jl14, jl15, jl16, jl20, jl24, jl32, jl39, jl40, jl41, jl60, jl61, jl80, jl96, jl97, jl99, jl100, jl122, jl126, jl199, jl200, jl205, jl206, jl255, jl256, jl410, jl700, jl950, jl1000, jl1000000, jl4000, jl8240, jl32767, if_pos, if_neg, ↓reduceIte, Option.bind_some, not_true_eq_false, not_false_eq_true, Nat.not_lt, Nat.not_le]
      · rw [h1]
        refine js_seq (fun i => jn i) e _ (fun i hi => ?_) ?_ e 0 ir_F (by omega) (by unfold ir_F; omega)
        · simp (disch := omega) only [zW_firstFly_l24_b, jc_heal hm hU hg hG hy (show i < (gS g y).length by omega), h5 i (by omega) hi, jB0, ir_let, jn_lt, jn_le, jn_in, jn_inj, jn_ne_m, jm_ne_n, jm_eq_m, jm_lt, jm_le, jn_lt_m, jn_le_m, jn_add, jn_mul, jn_clamp, jo_some, jn_min, jn_max, ↓jlm, jl0, jl1, jl2, jl3, jl4, jl5, jl6, jl7, jl8, jl9, jl10, jl11, jl12, jl13, jl14, jl15, jl16, jl20, jl24, jl32, jl39, jl40, jl41, jl60, jl61, jl80, jl96, jl97, jl99, jl100, jl122, jl126, jl199, jl200, jl205, jl206, jl255, jl256, jl410, jl700, jl950, jl1000, jl1000000, jl4000, jl8240, jl32767, if_pos, if_neg, ↓reduceIte, Option.bind_some, not_true_eq_false, not_false_eq_true, Nat.not_lt, Nat.not_le]
        · simp (disch := omega) only [zW_firstFly_l24_b, jc_heal hm hU hg hG hy (show e < (gS g y).length by omega), h4, jB0, ir_let, jn_lt, jn_le, jn_in, jn_inj, jn_ne_m, jm_ne_n, jm_eq_m, jm_lt, jm_le, jn_lt_m, jn_le_m, jn_add, jn_mul, jn_clamp, jo_some, jn_min, jn_max, ↓jlm, jl0, jl1, jl2, jl3, jl4, jl5, jl6, jl7, jl8, jl9, jl10, jl11, jl12, jl13, jl14, jl15, jl16, jl20, jl24, jl32, jl39, jl40, jl41, jl60, jl61, jl80, jl96, jl97, jl99, jl100, jl122, jl126, jl199, jl200, jl205, jl206, jl255, jl256, jl410, jl700, jl950, jl1000, jl1000000, jl4000, jl8240, jl32767, if_pos, if_neg, ↓reduceIte, Option.bind_some, not_true_eq_false, not_false_eq_true, Nat.not_lt, Nat.not_le, Bool.true_eq_false]
    simp (disch := omega) only [zW_firstFly, k0, jc_lengthOf hg hG hy, key, vCu, hr, ir_let, jn_lt, jn_le, jn_in, jn_inj, jn_ne_m, jm_ne_n, jm_eq_m, jm_lt, jm_le, jn_lt_m, jn_le_m, jn_add, jn_mul, jn_clamp, jo_some, jn_min, jn_max, ↓jlm, jl0, jl1, jl2, jl3, jl4, jl5, jl6, jl7, jl8, jl9, jl10, jl11, jl12, jl13, jl14, jl15, jl16, jl20, jl24, jl32, jl39, jl40, jl41, jl60, jl61, jl80, jl96, jl97, jl99, jl100, jl122, jl126, jl199, jl200, jl205, jl206, jl255, jl256, jl410, jl700, jl950, jl1000, jl1000000, jl4000, jl8240, jl32767, if_pos, if_neg, ↓reduceIte, Option.bind_some, not_true_eq_false, not_false_eq_true, Nat.not_lt, Nat.not_le]
    cases gFst (pCu m g y) (gS g y).length 0 <;> rfl
theorem jq_culprit {I : iq_I} (hI : jInv I) (x z : Int32) (X : iq_X) : ∃ r X1 b I2, zO_culprit x z I X = some (r, X1) ∧ zM_culprit x z I = some (b, I2) ∧ jag I I2 ∧ jXo X X1 ∧ jAns r b (I2 76 0) := by
  obtain ⟨m, g, hm, hU, hN, hB, hA, -⟩ := hI
  obtain ⟨hg, hG, hR, -, -⟩ := hA
  have h10 := hm.1
  have h14 := hm.2.1
  have h5 := hg.1
  by_cases hx : ∃ s, s < gY g ∧ x = jn s
  · obtain ⟨y, hy, rfl⟩ := hx
    have h40 := hg.2.2.1 y hy
    have hN1 := jRN_ag hN (jz_ag I)
    have hB1 := jRB_ag hB (jz_ag I)
    have hR1 := jRR_ag hR (jz_ag I)
    by_cases hz : ∃ k, k < 2 ∧ z = jn k
    · obtain ⟨k, hk, rfl⟩ := hz
      have k1 := jm_isWhat1 (I := I) (k := k) (n := 1) (by omega) (by omega)
      have k2 := jm_cu32 hm hN1 hg hB1 hR1 hy (jn k)
      rw [jn1] at k1
      simp only [jn0, ← jlm] at k2
      have c1 := jc_oneOfTwo1 (I := I) hk X
      rcases (show k = 0 ∨ k = 1 by omega) with rfl | rfl
      · simp only [jn0] at c1 k1 k2 ⊢
        refine jmk (vCu m g y 0) ?_ ⟨jz I, ?_, jz_ag I, rfl⟩
        · simp only [zO_culprit, jc_needSaying1 hg hG hy, c1, jc_countFlies hm hU hg hG hy, ir_let, iq_sm, ir_sm, jzE, j10, Option.bind_some, ↓reduceIte, not_true_eq_false, not_false_eq_true]
        · simp only [zM_culprit, zM_culprit_99, jm_isSaying1 hg hB hy, k1, k2, ir_let, iq_sm, ir_sm, jzE, j10, Option.bind_some, ↓reduceIte, not_true_eq_false, not_false_eq_true]
      · simp only [jn1] at c1 k1 k2 ⊢
        refine jmk (vCu m g y 1) ?_ ⟨jz I, ?_, jz_ag I, rfl⟩
        · simp only [zO_culprit, jc_needSaying1 hg hG hy, c1, jc_firstFly hm hU hg hG hy, ir_let, iq_sm, ir_sm, jzE, j10, Option.bind_some, ↓reduceIte, not_true_eq_false, not_false_eq_true]
        · simp only [zM_culprit, zM_culprit_99, jm_isSaying1 hg hB hy, k1, k2, ir_let, iq_sm, ir_sm, jzE, j10, Option.bind_some, ↓reduceIte, not_true_eq_false, not_false_eq_true]
    · have k1 := jm_isWhat0 (I := I) (x := z) (n := 1) (by omega) (fun ⟨k, h1, h2⟩ => hz ⟨k, by omega, h2⟩)
      rw [jn1] at k1
      refine jmke ?_ ?_
      · simp only [zO_culprit, jc_needSaying1 hg hG hy, jc_oneOfTwo0 hz, ir_let, iq_sm, ir_sm, jzE, j10, Option.bind_some, ↓reduceIte, not_true_eq_false, not_false_eq_true]
      · simp only [zM_culprit, jm_isSaying1 hg hB hy, k1, ir_let, iq_sm, ir_sm, jzE, j10, Option.bind_some, ↓reduceIte, not_true_eq_false, not_false_eq_true]
  · refine jmke ?_ ?_
    · simp only [zO_culprit, jc_needSaying0 hg hG hx, ir_let, iq_sm, ir_sm, jzE, j10, Option.bind_some, ↓reduceIte, not_true_eq_false, not_false_eq_true]
    · simp only [zM_culprit, jm_isSaying0 hg hB hx, ir_let, iq_sm, ir_sm, jzE, j10, Option.bind_some, ↓reduceIte, not_true_eq_false, not_false_eq_true]
