/-! ===== far, doors, open, must ===== -/
theorem j10 : ((1 : Int32) = 0) = False := eq_false (by decide)
theorem jn0 : jn 0 = (0 : Int32) := rfl
theorem gFst_cum {P Q : Nat → Bool} (h : ∀ i, Q i = true ↔ ∃ j, j ≤ i ∧ P j = true) (c : Nat) : gFst Q c 0 = gFst P c 0 := by
  rcases gFst_sp (P := P) (c := c) (i := 0) with ⟨h1, h2⟩ | ⟨k, h1, h2, h3, h4, h5⟩
  · rw [h1]
    refine gFst_none fun j h3 h4 => ?_
    cases hj : Q j with
    | false => rfl
    | true =>
      obtain ⟨i, h5, h6⟩ := (h j).mp hj
      rw [h2 i (by omega) (by omega)] at h6; cases h6
  · rw [h1]
    rcases gFst_sp (P := Q) (c := c) (i := 0) with ⟨q1, q2⟩ | ⟨k', q1, q2, q3, q4, q5⟩
    · have := q2 k h2 h3
      rw [(h k).mpr ⟨k, Nat.le_refl _, h4⟩] at this; cases this
    · rw [q1]
      obtain ⟨i, p1, p2⟩ := (h k').mp q4
      by_cases e : i < k
      · rw [h5 i (by omega) e] at p2; cases p2
      · by_cases e2 : k < k'
        · have := q5 k h2 e2
          rw [(h k).mpr ⟨k, Nat.le_refl _, h4⟩] at this; cases this
        · have : k = k' := by omega
          rw [this]
theorem jc_fw12 {I : iq_I} {m : jMu} (hm : mOk m) (h : jRU I m) {sh : Nat → Bool} (hb : jBh I m sh) {F : Nat → Bool} {t : Nat} (ht : t < mS m) :
    zP_fewestWords_l12 (jn t) I ir_F (jb (mS m) F, jn 0) = some (match gFst (fun i => gIt (gIm (mS m) (mEd m sh) fun _ => true) i F t) (mS m) 0 with
      | some e => .inr (jn e, I)
      | none => .inl ()) := by
  have h10 := hm.1
  have st : ∀ i, i < mS m → gIt (gIm (mS m) (mEd m sh) fun _ => true) i F t = false → zP_fewestWords_l12_b (jn t) I (jb (mS m) (gIt (gIm (mS m) (mEd m sh) fun _ => true) i F)) (jn i) = some (.inl (jb (mS m) (gIt (gIm (mS m) (mEd m sh) fun _ => true) (i + 1) F), jn (i + 1))) := fun i hi hf => by
    simp (disch := omega) only [zP_fewestWords_l12_b, jRU_S h, jq_bit, jq_jb, hf, jc_allBehind hm h hb, ir_let, jn_lt, jn_le, jn_in, jn_inj, jn_ne_m, jm_ne_n, jm_eq_m, jm_lt, jm_le, jn_lt_m, jn_le_m, jn_add, jn_mul, jn_clamp, jo_some, jn_min, jn_max, ↓jlm, jl0, jl1, jl2, jl3, jl4, jl5, jl6, jl7, jl8, jl9, jl10, jl11, jl12, jl13, jl14, jl15, jl16, jl20, jl24, jl32, jl39, jl40, jl41, jl60, jl61, jl80, jl96, jl97, jl99, jl100, jl122, jl126, jl199, jl200, jl205, jl206, jl255, jl256, jl410, jl700, jl950, jl1000, jl1000000, jl4000, jl8240, jl32767, if_pos, if_neg, ↓reduceIte, Option.bind_some, not_true_eq_false, not_false_eq_true, Nat.not_lt, Nat.not_le]
    rfl
  rcases gFst_sp (P := fun i => gIt (gIm (mS m) (mEd m sh) fun _ => true) i F t) (c := mS m) (i := 0) with ⟨h1, h2⟩ | ⟨e, h1, _, h3, h4, h5⟩
  · rw [h1]
    refine js_seq (fun i => (jb (mS m) (gIt (gIm (mS m) (mEd m sh) fun _ => true) i F), jn i)) (mS m) _ (fun i hi => st i hi (h2 i (by omega) (by omega))) ?_ (mS m) 0 ir_F (by omega) (by unfold ir_F; omega)
    simp (disch := omega) only [zP_fewestWords_l12_b, jRU_S h, ir_let, jn_lt, jn_le, jn_in, jn_inj, jn_ne_m, jm_ne_n, jm_eq_m, jm_lt, jm_le, jn_lt_m, jn_le_m, jn_add, jn_mul, jn_clamp, jo_some, jn_min, jn_max, ↓jlm, jl0, jl1, jl2, jl3, jl4, jl5, jl6, jl7, jl8, jl9, jl10, jl11, jl12, jl13, jl14, jl15, jl16, jl20, jl24, jl32, jl39, jl40, jl41, jl60, jl61, jl80, jl96, jl97, jl99, jl100, jl122, jl126, jl199, jl200, jl205, jl206, jl255, jl256, jl410, jl700, jl950, jl1000, jl1000000, jl4000, jl8240, jl32767, if_pos, if_neg, ↓reduceIte, Option.bind_some, not_true_eq_false, not_false_eq_true, Nat.not_lt, Nat.not_le]
  · rw [h1]
    refine js_seq (fun i => (jb (mS m) (gIt (gIm (mS m) (mEd m sh) fun _ => true) i F), jn i)) e _ (fun i hi => st i (by omega) (h5 i (by omega) hi)) ?_ e 0 ir_F (by omega) (by unfold ir_F; omega)
    simp (disch := omega) only [zP_fewestWords_l12_b, jRU_S h, jq_bit, jq_jb, h4, ir_let, jn_lt, jn_le, jn_in, jn_inj, jn_ne_m, jm_ne_n, jm_eq_m, jm_lt, jm_le, jn_lt_m, jn_le_m, jn_add, jn_mul, jn_clamp, jo_some, jn_min, jn_max, ↓jlm, jl0, jl1, jl2, jl3, jl4, jl5, jl6, jl7, jl8, jl9, jl10, jl11, jl12, jl13, jl14, jl15, jl16, jl20, jl24, jl32, jl39, jl40, jl41, jl60, jl61, jl80, jl96, jl97, jl99, jl100, jl122, jl126, jl199, jl200, jl205, jl206, jl255, jl256, jl410, jl700, jl950, jl1000, jl1000000, jl4000, jl8240, jl32767, if_pos, if_neg, ↓reduceIte, Option.bind_some, not_true_eq_false, not_false_eq_true, Nat.not_lt, Nat.not_le, Bool.true_eq_false]
theorem jm_fr30 {I : iq_I} {m : jMu} (hm : mOk m) (h : jRN I m) {F : Nat → Bool} {t : Nat} (ht : t < mS m) :
    zM_far_l30 (jn t) I ir_F (jb (mS m) F, jn 0) = some (match gFst (fun i => gIt (gUp (mS m) (mEd m fun _ => false)) i F t) (mS m + 1) 0 with
      | some e => .inr (jn e, I)
      | none => .inl ()) := by
  have h10 := hm.1
  have st : ∀ i, i < mS m + 1 → gIt (gUp (mS m) (mEd m fun _ => false)) i F t = false → zM_far_l30_b (jn t) I (jb (mS m) (gIt (gUp (mS m) (mEd m fun _ => false)) i F)) (jn i) = some (.inl (jb (mS m) (gIt (gUp (mS m) (mEd m fun _ => false)) (i + 1) F), jn (i + 1))) := fun i hi hf => by
    simp (disch := omega) only [zM_far_l30_b, jRN_S h, jq_bit1, jq_jb, hf, jm_onward0 hm h, jb_or, ir_let, jn_lt, jn_le, jn_in, jn_inj, jn_ne_m, jm_ne_n, jm_eq_m, jm_lt, jm_le, jn_lt_m, jn_le_m, jn_add, jn_mul, jn_clamp, jo_some, jn_min, jn_max, ↓jlm, jl0, jl1, jl2, jl3, jl4, jl5, jl6, jl7, jl8, jl9, jl10, jl11, jl12, jl13, jl14, jl15, jl16, jl20, jl24, jl32, jl39, jl40, jl41, jl60, jl61, jl80, jl96, jl97, jl99, jl100, jl122, jl126, jl199, jl200, jl205, jl206, jl255, jl256, jl410, jl700, jl950, jl1000, jl1000000, jl4000, jl8240, jl32767, if_pos, if_neg, ↓reduceIte, Option.bind_some, not_true_eq_false, not_false_eq_true, Nat.not_lt, Nat.not_le, Bool.false_eq_true]
    congr 3 <;> exact jb_ext fun j _ => by simp [gIt, gUp, gIm]
  rcases gFst_sp (P := fun i => gIt (gUp (mS m) (mEd m fun _ => false)) i F t) (c := mS m + 1) (i := 0) with ⟨h1, h2⟩ | ⟨e, h1, _, h3, h4, h5⟩
  · rw [h1]
    refine js_seq (fun i => (jb (mS m) (gIt (gUp (mS m) (mEd m fun _ => false)) i F), jn i)) (mS m + 1) _ (fun i hi => st i hi (h2 i (by omega) (by omega))) ?_ (mS m + 1) 0 ir_F (by omega) (by unfold ir_F; omega)
    simp (disch := omega) only [zM_far_l30_b, jRN_S h, ir_let, jn_lt, jn_le, jn_in, jn_inj, jn_ne_m, jm_ne_n, jm_eq_m, jm_lt, jm_le, jn_lt_m, jn_le_m, jn_add, jn_mul, jn_clamp, jo_some, jn_min, jn_max, ↓jlm, jl0, jl1, jl2, jl3, jl4, jl5, jl6, jl7, jl8, jl9, jl10, jl11, jl12, jl13, jl14, jl15, jl16, jl20, jl24, jl32, jl39, jl40, jl41, jl60, jl61, jl80, jl96, jl97, jl99, jl100, jl122, jl126, jl199, jl200, jl205, jl206, jl255, jl256, jl410, jl700, jl950, jl1000, jl1000000, jl4000, jl8240, jl32767, if_pos, if_neg, ↓reduceIte, Option.bind_some, not_true_eq_false, not_false_eq_true, Nat.not_lt, Nat.not_le]
  · rw [h1]
    refine js_seq (fun i => (jb (mS m) (gIt (gUp (mS m) (mEd m fun _ => false)) i F), jn i)) e _ (fun i hi => st i (by omega) (h5 i (by omega) hi)) ?_ e 0 ir_F (by omega) (by unfold ir_F; omega)
    simp (disch := omega) only [zM_far_l30_b, jRN_S h, jq_bit1, jq_jb, h4, ir_let, jn_lt, jn_le, jn_in, jn_inj, jn_ne_m, jm_ne_n, jm_eq_m, jm_lt, jm_le, jn_lt_m, jn_le_m, jn_add, jn_mul, jn_clamp, jo_some, jn_min, jn_max, ↓jlm, jl0, jl1, jl2, jl3, jl4, jl5, jl6, jl7, jl8, jl9, jl10, jl11, jl12, jl13, jl14, jl15, jl16, jl20, jl24, jl32, jl39, jl40, jl41, jl60, jl61, jl80, jl96, jl97, jl99, jl100, jl122, jl126, jl199, jl200, jl205, jl206, jl255, jl256, jl410, jl700, jl950, jl1000, jl1000000, jl4000, jl8240, jl32767, if_pos, if_neg, ↓reduceIte, Option.bind_some, not_true_eq_false, not_false_eq_true, Nat.not_lt, Nat.not_le]
theorem jfar_eq {m : jMu} {s t : Nat} {E : Nat → Nat → Bool} (hs : s < mS m) (ht : t < mS m) :
    gFst (fun i => gIt (gUp (mS m) E) i (fun j => decide (j = s)) t) (mS m + 1) 0 = gFst (fun i => gIt (gIm (mS m) E fun _ => true) i (fun j => decide (j = s)) t) (mS m) 0 := by
  rw [gFst_ext (c := mS m) (d := mS m + 1) (by omega), gFst_cum (fun i => gUp_im i t)]
  intro j h1 h2 h3
  have e : j = mS m := by omega
  subst e
  refine ⟨mS m - 1, by omega, by omega, ?_⟩
  have c : 1 ≤ jcn (mS m) (fun j => decide (j = s)) := jcn_pos ⟨s, hs, by simp⟩
  have := gUp_st (E := E) c (k := mS m - 1) (m := mS m) (by omega) (by omega) t ht
  rw [← this]; exact h3
theorem jq_far {I : iq_I} (hI : jInv I) (x y : Int32) (X : iq_X) : ∃ r I1 X1 b I2, zO_far x y I X = some (r, I1, X1) ∧ zM_far x y I1 = some (b, I2) ∧ jag I I1 ∧ jag I I2 ∧ jXo X X1 ∧ jAns r b (I2 76 0) := by
  obtain ⟨m, g, hm, hU, hN, hB, hA, -⟩ := hI
  have h10 := hm.1
  by_cases hx : ∃ s, s < mS m ∧ x = jn s
  · obtain ⟨s, hs, rfl⟩ := hx
    by_cases hy : ∃ t, t < mS m ∧ y = jn t
    · obtain ⟨t, ht, rfl⟩ := hy
      obtain ⟨I1, e1, a1, b1⟩ := jc_lb hm hU (jc_told0 hU)
      have hU1 := jRU_ag hU a1
      have hN0 := jRN_ag hN a1
      have k1 := jc_fw12 hm hU1 b1 (F := fun j => decide (j = s)) ht
      have k2 := jm_fr30 hm (jRN_ag hN0 (jz_ag I1)) (F := fun j => decide (j = s)) ht
      rw [← jb_one hs (by omega)] at k1 k2
      rw [jfar_eq hs ht] at k2
      simp only [jn0] at k1 k2
      refine ⟨.inl (jo (gFst (fun i => gIt (gIm (mS m) (mEd m fun _ => false) fun _ => true) i (fun j => decide (j = s)) t) (mS m) 0)), I1, X, jo (gFst (fun i => gIt (gIm (mS m) (mEd m fun _ => false) fun _ => true) i (fun j => decide (j = s)) t) (mS m) 0), jz I1, ?_, ?_, a1, jag_tr a1 (jz_ag I1), Or.inl rfl, Or.inl ⟨_, rfl, rfl, rfl⟩⟩
      · simp only [zO_far, zP_fewestWords, jc_needState1 hm hU hs, jc_needState1 hm hU ht, e1, k1, ir_let, iq_sm, ir_sm, jzE, j10, Option.bind_some, ↓reduceIte, not_true_eq_false, not_false_eq_true]
        cases gFst (fun i => gIt (gIm (mS m) (mEd m fun _ => false) fun _ => true) i (fun j => decide (j = s)) t) (mS m) 0 <;> rfl
      · simp only [zM_far, jm_isState1 hm hN0 hs, jm_isState1 hm hN0 ht, k2, ir_let, iq_sm, ir_sm, jzE, j10, Option.bind_some, ↓reduceIte, not_true_eq_false, not_false_eq_true]
        cases gFst (fun i => gIt (gIm (mS m) (mEd m fun _ => false) fun _ => true) i (fun j => decide (j = s)) t) (mS m) 0 <;> rfl
    · refine ⟨.inr 0, I, ir_xx X, 0, jw I 1, ?_, ?_, jag_rf I, jw_ag I 1, Or.inr rfl, Or.inr ⟨rfl, rfl⟩⟩
      · simp only [zO_far, jc_needState1 hm hU hs, jc_needState0 hm hU hy, ir_let, iq_sm, ir_sm, jzE, j10, Option.bind_some, ↓reduceIte, not_true_eq_false, not_false_eq_true]
      · simp only [zM_far, jm_isState1 hm hN hs, jm_isState0 hm hN hy, ir_let, iq_sm, ir_sm, jzE, j10, Option.bind_some, ↓reduceIte, not_true_eq_false, not_false_eq_true]
  · refine ⟨.inr 0, I, ir_xx X, 0, jw I 1, ?_, ?_, jag_rf I, jw_ag I 1, Or.inr rfl, Or.inr ⟨rfl, rfl⟩⟩
    · simp only [zO_far, jc_needState0 hm hU hx, ir_let, iq_sm, ir_sm, jzE, j10, Option.bind_some, ↓reduceIte, not_true_eq_false, not_false_eq_true]
    · simp only [zM_far, jm_isState0 hm hN hx, ir_let, iq_sm, ir_sm, jzE, j10, Option.bind_some, ↓reduceIte, not_true_eq_false, not_false_eq_true]
