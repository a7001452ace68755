/-! ===== doors, open, must ===== -/
/-- class and reference answer alike: builders -/
theorem jmkI {zo : Option ((Int32 ⊕ Nat) × iq_I × iq_X)} {zm : iq_I → Option (Int32 × iq_I)} {I : iq_I} {X : iq_X} (v : Int32) (hC : ∃ I1, zo = some (.inl v, I1, X) ∧ jag I I1) (hM : ∀ I1, jag I I1 → ∃ I2, zm I1 = some (v, I2) ∧ jag I1 I2 ∧ I2 76 0 = 0) :
    ∃ r I1 X1 b I2, zo = some (r, I1, X1) ∧ zm I1 = some (b, I2) ∧ jag I I1 ∧ jag I I2 ∧ jXo X X1 ∧ jAns r b (I2 76 0) := by
  obtain ⟨I1, c1, c2⟩ := hC
  obtain ⟨I2, d1, d2, d3⟩ := hM I1 c2
  exact ⟨_, I1, X, v, I2, c1, d1, c2, jag_tr c2 d2, Or.inl rfl, Or.inl ⟨v, rfl, rfl, d3⟩⟩
theorem jmkE {zo : Option ((Int32 ⊕ Nat) × iq_I × iq_X)} {zm : iq_I → Option (Int32 × iq_I)} {I : iq_I} {X : iq_X} (hC : zo = some (.inr 0, I, ir_xx X)) (hM : zm I = some (0, jw I 1)) :
    ∃ r I1 X1 b I2, zo = some (r, I1, X1) ∧ zm I1 = some (b, I2) ∧ jag I I1 ∧ jag I I2 ∧ jXo X X1 ∧ jAns r b (I2 76 0) :=
  ⟨_, I, ir_xx X, 0, jw I 1, hC, hM, jag_rf I, jw_ag I 1, Or.inr rfl, Or.inr ⟨rfl, rfl⟩⟩
theorem jmk {zo : Option ((Int32 ⊕ Nat) × iq_X)} {zm : Option (Int32 × iq_I)} {I : iq_I} {X : iq_X} (v : Int32) (hC : zo = some (.inl v, X)) (hM : ∃ I2, zm = some (v, I2) ∧ jag I I2 ∧ I2 76 0 = 0) :
    ∃ r X1 b I2, zo = some (r, X1) ∧ zm = some (b, I2) ∧ jag I I2 ∧ jXo X X1 ∧ jAns r b (I2 76 0) := by
  obtain ⟨I2, d1, d2, d3⟩ := hM
  exact ⟨_, X, v, I2, hC, d1, d2, Or.inl rfl, Or.inl ⟨v, rfl, rfl, d3⟩⟩
theorem jmke {zo : Option ((Int32 ⊕ Nat) × iq_X)} {zm : Option (Int32 × iq_I)} {I : iq_I} {X : iq_X} (hC : zo = some (.inr 0, ir_xx X)) (hM : zm = some (0, jw I 1)) :
    ∃ r X1 b I2, zo = some (r, X1) ∧ zm = some (b, I2) ∧ jag I I2 ∧ jXo X X1 ∧ jAns r b (I2 76 0) :=
  ⟨_, ir_xx X, 0, jw I 1, hC, hM, jw_ag I 1, Or.inr rfl, Or.inr ⟨rfl, rfl⟩⟩
theorem gFst_shift {P : Nat → Bool} : ∀ {c i : Nat}, gFst P c (i + 1) = (gFst (fun j => P (j + 1)) c i).map (· + 1)
  | 0, i => rfl
  | c + 1, i => by
    unfold gFst
    by_cases h : P (i + 1) = true
    · rw [if_pos h, if_pos h]; rfl
    · rw [if_neg h, if_neg h]
      exact gFst_shift
theorem jb_z {n : Nat} {F : Nat → Bool} (hn : n ≤ 32) : (jb n F = 0) = (jex n F = false) := by
  rw [jb_zero hn, jex_f]
theorem jq_z {n : Nat} {F : Nat → Bool} (hn : n ≤ 32) : (jb n F = jn 0) = (jex n F = false) := jb_z hn
theorem gDual' {n : Nat} {E : Nat → Nat → Bool} {A : Nat → Bool} (k : Nat) {s : Nat} (hs : s < n) (F : Nat → Bool) (hF : ∀ j, F j = true ↔ (j = s ∧ A s = true)) :
    jex n (gIt (gIm n E A) k F) = (A s && gIt (gPr n E A) k A s) := by
  rw [Bool.eq_iff_iff, jex_iff, gDual k F (fun j h => by obtain ⟨rfl, h2⟩ := (hF j).mp h; exact h2), Bool.and_eq_true]
  constructor
  · rintro ⟨j, h1, h2, h3⟩
    obtain ⟨rfl, h4⟩ := (hF j).mp h2
    exact ⟨h4, h3⟩
  · rintro ⟨h1, h2⟩
    exact ⟨s, hs, (hF s).mpr ⟨rfl, h1⟩, h2⟩
theorem gUp_none {n : Nat} {E : Nat → Nat → Bool} {F : Nat → Bool} (h : ∀ j, j < n → F j = false) : ∀ (k j : Nat), j < n → gIt (gUp n E) k F j = false
  | 0, j, hj => h j hj
  | k + 1, j, hj => by
    show gUp n E (gIt (gUp n E) k F) j = false
    simp only [gUp]
    rw [gUp_none h k j hj, jex_f.mpr (fun i hi => by rw [gUp_none h k i hi]; rfl)]
    rfl
theorem gUp_st1 {n : Nat} {E : Nat → Nat → Bool} {F : Nat → Bool} {j : Nat} (hj : j < n) : gIt (gUp n E) n F j = gIt (gUp n E) (n - 1) F j := by
  by_cases h : ∃ j, j < n ∧ F j = true
  · exact gUp_st (c := 1) (jcn_pos h) (by omega) (by omega) j hj
  · have h2 : ∀ j, j < n → F j = false := fun j hj => by
      cases e : F j with
      | false => rfl
      | true => exact absurd ⟨j, hj, e⟩ h
    rw [gUp_none h2 _ j hj, gUp_none h2 _ j hj]
theorem jc_re15 {I : iq_I} {m : jMu} (hm : mOk m) (h : jRU I m) {sh : Nat → Bool} (hb : jBh I m sh) {F : Nat → Bool} (h1 : 1 ≤ mS m) :
    zP_reached_l15 I ir_F (jb (mS m) F, jn 1) = some (jb (mS m) (gIt (gUp (mS m) (mEd m sh)) (mS m - 1) F)) := by
  have h10 := hm.1
  refine js_seq (fun i => (jb (mS m) (gIt (gUp (mS m) (mEd m sh)) i F), jn (i + 1))) (mS m - 1) _ (fun i hi => ?_) ?_ (mS m - 1) 0 ir_F (by omega) (by unfold ir_F; omega)
  · simp (disch := omega) only [zP_reached_l15_b, jRU_S h, jc_allBehind hm h hb, jb_or, ir_let, jn_lt, jn_le, jn_in, jn_inj, jn_ne_m, jm_ne_n, jm_eq_m, jm_lt, jm_le, jn_lt_m, jn_le_m, jn_add, jn_mul, jn_clamp, jo_some, jn_min, jn_max, ↓jlm, jl0, jl1, jl2, jl3, jl4, jl5, jl6, jl7, jl8, jl9, jl10, jl11, jl12, jl13, jl14, jl15, jl16, jl20, jl24, jl32, jl39, jl40, jl41, jl60, jl61, jl80, jl96, jl97, jl99, jl100, jl122, jl126, jl199, jl200, jl205, jl206, jl255, jl256, jl410, jl700, jl950, jl1000, jl1000000, jl4000, jl8240, jl32767, if_pos, if_neg, ↓reduceIte, Option.bind_some, not_true_eq_false, not_false_eq_true, Nat.not_lt, Nat.not_le]
    congr 3 <;> exact jb_ext fun j _ => by simp [gIt, gUp, gIm]
  · simp (disch := omega) only [zP_reached_l15_b, jRU_S h, ir_let, jn_lt, jn_le, jn_in, jn_inj, jn_ne_m, jm_ne_n, jm_eq_m, jm_lt, jm_le, jn_lt_m, jn_le_m, jn_add, jn_mul, jn_clamp, jo_some, jn_min, jn_max, ↓jlm, jl0, jl1, jl2, jl3, jl4, jl5, jl6, jl7, jl8, jl9, jl10, jl11, jl12, jl13, jl14, jl15, jl16, jl20, jl24, jl32, jl39, jl40, jl41, jl60, jl61, jl80, jl96, jl97, jl99, jl100, jl122, jl126, jl199, jl200, jl205, jl206, jl255, jl256, jl410, jl700, jl950, jl1000, jl1000000, jl4000, jl8240, jl32767, if_pos, if_neg, ↓reduceIte, Option.bind_some, not_true_eq_false, not_false_eq_true, Nat.not_lt, Nat.not_le]
theorem jm_do10 {I : iq_I} {m : jMu} (hm : mOk m) (h : jRN I m) {F : Nat → Bool} :
    zM_doorsOf_l10 I ir_F (jb (mS m) F, jn 0) = some (jb (mS m) (gIt (gUp (mS m) (mEd m fun _ => false)) (mS m) F)) := by
  have h10 := hm.1
  refine js_seq (fun i => (jb (mS m) (gIt (gUp (mS m) (mEd m fun _ => false)) i F), jn i)) (mS m) _ (fun i hi => ?_) ?_ (mS m) 0 ir_F (by omega) (by unfold ir_F; omega)
  · simp (disch := omega) only [zM_doorsOf_l10_b, jRN_S h, jm_onward0 hm h, jb_or, ir_let, jn_lt, jn_le, jn_in, jn_inj, jn_ne_m, jm_ne_n, jm_eq_m, jm_lt, jm_le, jn_lt_m, jn_le_m, jn_add, jn_mul, jn_clamp, jo_some, jn_min, jn_max, ↓jlm, jl0, jl1, jl2, jl3, jl4, jl5, jl6, jl7, jl8, jl9, jl10, jl11, jl12, jl13, jl14, jl15, jl16, jl20, jl24, jl32, jl39, jl40, jl41, jl60, jl61, jl80, jl96, jl97, jl99, jl100, jl122, jl126, jl199, jl200, jl205, jl206, jl255, jl256, jl410, jl700, jl950, jl1000, jl1000000, jl4000, jl8240, jl32767, if_pos, if_neg, ↓reduceIte, Option.bind_some, not_true_eq_false, not_false_eq_true, Nat.not_lt, Nat.not_le]
    congr 3 <;> exact jb_ext fun j _ => by simp [gIt, gUp, gIm]
  · simp (disch := omega) only [zM_doorsOf_l10_b, jRN_S h, ir_let, jn_lt, jn_le, jn_in, jn_inj, jn_ne_m, jm_ne_n, jm_eq_m, jm_lt, jm_le, jn_lt_m, jn_le_m, jn_add, jn_mul, jn_clamp, jo_some, jn_min, jn_max, ↓jlm, jl0, jl1, jl2, jl3, jl4, jl5, jl6, jl7, jl8, jl9, jl10, jl11, jl12, jl13, jl14, jl15, jl16, jl20, jl24, jl32, jl39, jl40, jl41, jl60, jl61, jl80, jl96, jl97, jl99, jl100, jl122, jl126, jl199, jl200, jl205, jl206, jl255, jl256, jl410, jl700, jl950, jl1000, jl1000000, jl4000, jl8240, jl32767, if_pos, if_neg, ↓reduceIte, Option.bind_some, not_true_eq_false, not_false_eq_true, Nat.not_lt, Nat.not_le]
theorem jn1 : jn 1 = (1 : Int32) := rfl
theorem jq_doors {I : iq_I} (hI : jInv I) (x : Int32) (X : iq_X) : ∃ r I1 X1 b I2, zO_doors x I X = some (r, I1, X1) ∧ zM_doors x I1 = some (b, I2) ∧ jag I I1 ∧ jag I I2 ∧ jXo X X1 ∧ jAns r b (I2 76 0) := by
  obtain ⟨m, g, hm, hU, hN, hB, hA, -⟩ := hI
  have h10 := hm.1
  by_cases hx : ∃ s, s < mS m ∧ x = jn s
  · obtain ⟨s, hs, rfl⟩ := hx
    refine jmkI (jb (mS m) (gIt (gUp (mS m) (mEd m fun _ => false)) (mS m - 1) (gIm (mS m) (mEd m fun _ => false) (fun _ => true) fun j => decide (j = s)))) ?_ fun I1 a1 => ⟨jz I1, ?_, jz_ag I1, rfl⟩
    · obtain ⟨I1, e1, a1, b1⟩ := jc_lb hm hU (jc_told0 hU)
      have hU1 := jRU_ag hU a1
      have k0 := jc_allBehind hm hU1 b1 (F := fun j => decide (j = s))
      have k1 := jc_re15 hm hU1 b1 (F := gIm (mS m) (mEd m fun _ => false) (fun _ => true) fun j => decide (j = s)) (by omega)
      rw [← jb_one hs (by omega)] at k0
      simp only [jn1] at k1
      refine ⟨I1, ?_, a1⟩
      simp only [zO_doors, zP_reached, jc_needState1 hm hU hs, e1, k0, k1, ir_let, iq_sm, ir_sm, jzE, j10, Option.bind_some, ↓reduceIte, not_true_eq_false, not_false_eq_true]
    · have hN0 := jRN_ag hN a1
      have k2 := jm_do10 hm (jRN_ag hN0 (jz_ag I1)) (F := gIm (mS m) (mEd m fun _ => false) (fun _ => true) fun j => decide (j = s))
      have k3 := jm_onward0 hm (jRN_ag hN0 (jz_ag I1)) (F := fun j => decide (j = s))
      rw [← jb_one hs (by omega)] at k3
      rw [jb_ext (fun j hj => gUp_st1 hj)] at k2
      simp only [jn0] at k2
      simp only [zM_doors, zM_doorsOf, jm_isState1 hm hN0 hs, k2, k3, ir_let, iq_sm, ir_sm, jzE, j10, Option.bind_some, ↓reduceIte, not_true_eq_false, not_false_eq_true]
  · refine jmkE ?_ ?_
    · simp only [zO_doors, jc_needState0 hm hU hx, ir_let, iq_sm, ir_sm, jzE, j10, Option.bind_some, ↓reduceIte, not_true_eq_false, not_false_eq_true]
    · simp only [zM_doors, jm_isState0 hm hN hx, ir_let, iq_sm, ir_sm, jzE, j10, Option.bind_some, ↓reduceIte, not_true_eq_false, not_false_eq_true]
theorem jc_lw {I : iq_I} {m : jMu} (hm : mOk m) (h : jRU I m) {sh : Nat → Bool} (hb : jBh I m sh) {A : Nat → Bool} {s : Nat} (hs : s < mS m) :
    zP_longestWithin (jn s) (jb (mS m) A) I = some (jo (gFst (fun i => !gIt (gPr (mS m) (mEd m sh) A) (i + 1) A s) (mS m) 0)) := by
  have h10 := hm.1
  have key : zP_longestWithin_l5 (jn s) (jb (mS m) A) I ir_F (jb (mS m) A, jn 1) = some (match gFst (fun i => !gIt (gPr (mS m) (mEd m sh) A) (i + 1) A s) (mS m) 0 with
      | some e => .inr (jn e)
      | none => .inl ()) := by
    have st : ∀ i, i < mS m → (!gIt (gPr (mS m) (mEd m sh) A) (i + 1) A s) = false → zP_longestWithin_l5_b (jn s) (jb (mS m) A) I (jb (mS m) (gIt (gPr (mS m) (mEd m sh) A) i A)) (jn (i + 1)) = some (.inl (jb (mS m) (gIt (gPr (mS m) (mEd m sh) A) (i + 1) A), jn (i + 1 + 1))) := fun i hi hf => by
      have hf : gPr (mS m) (mEd m sh) A (gIt (gPr (mS m) (mEd m sh) A) i A) s = true := show gIt (gPr (mS m) (mEd m sh) A) (i + 1) A s = true by simpa using hf
      simp (disch := omega) only [zP_longestWithin_l5_b, jRU_S h, jc_leadingInto' hm h hb, jq_bit, jq_jb, hf, ir_let, jn_lt, jn_le, jn_in, jn_inj, jn_ne_m, jm_ne_n, jm_eq_m, jm_lt, jm_le, jn_lt_m, jn_le_m, jn_add, jn_mul, jn_clamp, jo_some, jn_min, jn_max, ↓jlm, jl0, jl1, jl2, jl3, jl4, jl5, jl6, jl7, jl8, jl9, jl10, jl11, jl12, jl13, jl14, jl15, jl16, jl20, jl24, jl32, jl39, jl40, jl41, jl60, jl61, jl80, jl96, jl97, jl99, jl100, jl122, jl126, jl199, jl200, jl205, jl206, jl255, jl256, jl410, jl700, jl950, jl1000, jl1000000, jl4000, jl8240, jl32767, if_pos, if_neg, ↓reduceIte, Option.bind_some, not_true_eq_false, not_false_eq_true, Nat.not_lt, Nat.not_le, Bool.true_eq_false]
      rfl
    rcases gFst_sp (P := fun i => !gIt (gPr (mS m) (mEd m sh) A) (i + 1) A s) (c := mS m) (i := 0) with ⟨h1, h2⟩ | ⟨e, h1, _, h3, h4, h5⟩
    · rw [h1]
      refine js_seq (fun i => (jb (mS m) (gIt (gPr (mS m) (mEd m sh) A) i A), jn (i + 1))) (mS m) _ (fun i hi => st i hi (h2 i (by omega) (by omega))) ?_ (mS m) 0 ir_F (by omega) (by unfold ir_F; omega)
      simp (disch := omega) only [zP_longestWithin_l5_b, jRU_S h, ir_let, jn_lt, jn_le, jn_in, jn_inj, jn_ne_m, jm_ne_n, jm_eq_m, jm_lt, jm_le, jn_lt_m, jn_le_m, jn_add, jn_mul, jn_clamp, jo_some, jn_min, jn_max, ↓jlm, jl0, jl1, jl2, jl3, jl4, jl5, jl6, jl7, jl8, jl9, jl10, jl11, jl12, jl13, jl14, jl15, jl16, jl20, jl24, jl32, jl39, jl40, jl41, jl60, jl61, jl80, jl96, jl97, jl99, jl100, jl122, jl126, jl199, jl200, jl205, jl206, jl255, jl256, jl410, jl700, jl950, jl1000, jl1000000, jl4000, jl8240, jl32767, if_pos, if_neg, ↓reduceIte, Option.bind_some, not_true_eq_false, not_false_eq_true, Nat.not_lt, Nat.not_le]
    · rw [h1]
      refine js_seq (fun i => (jb (mS m) (gIt (gPr (mS m) (mEd m sh) A) i A), jn (i + 1))) e _ (fun i hi => st i (by omega) (h5 i (by omega) hi)) ?_ e 0 ir_F (by omega) (by unfold ir_F; omega)
      have h4 : gPr (mS m) (mEd m sh) A (gIt (gPr (mS m) (mEd m sh) A) e A) s = false := show gIt (gPr (mS m) (mEd m sh) A) (e + 1) A s = false by simpa using h4
      simp (disch := omega) only [zP_longestWithin_l5_b, jRU_S h, jc_leadingInto' hm h hb, jq_bit, jq_jb, h4, ir_let, jn_lt, jn_le, jn_in, jn_inj, jn_ne_m, jm_ne_n, jm_eq_m, jm_lt, jm_le, jn_lt_m, jn_le_m, jn_add, jn_mul, jn_clamp, jo_some, jn_min, jn_max, ↓jlm, jl0, jl1, jl2, jl3, jl4, jl5, jl6, jl7, jl8, jl9, jl10, jl11, jl12, jl13, jl14, jl15, jl16, jl20, jl24, jl32, jl39, jl40, jl41, jl60, jl61, jl80, jl96, jl97, jl99, jl100, jl122, jl126, jl199, jl200, jl205, jl206, jl255, jl256, jl410, jl700, jl950, jl1000, jl1000000, jl4000, jl8240, jl32767, if_pos, if_neg, ↓reduceIte, Option.bind_some, not_true_eq_false, not_false_eq_true, Nat.not_lt, Nat.not_le, jn_sub, Nat.add_sub_cancel]
  simp only [jn1] at key
  simp only [zP_longestWithin, key, ir_let, iq_sm, ir_sm, jzE, j10, Option.bind_some, ↓reduceIte, not_true_eq_false, not_false_eq_true]
  cases gFst (fun i => !gIt (gPr (mS m) (mEd m sh) A) (i + 1) A s) (mS m) 0 <;> rfl
theorem jm_follows {I I' : iq_I} {m : jMu} (hm : mOk m) (h : jRN I m) {sh : Nat → Bool} (ha : ∀ k i, (k = 76 → ¬ i = 57) → I' k i = I k i) (hs57 : I' 76 57 = jb 8 sh) {s : Nat} (hs : s < mS m) :
    zM_follows (jn s) I' = some (jo (gFst (fun i => !gIt (gPr (mS m) (mEd m sh) fun _ => true) (i + 1) (fun _ => true) s) (mS m) 0)) := by
  have h10 := hm.1
  have hS : I' 76 1 = jn (mS m) := by rw [ha 76 1 (fun _ => by decide), jRN_S h]
  have key : zM_follows_l6 I' ir_F (jb (mS m) (fun j => decide (j = s)), jn 0) = some (match gFst (fun i => !jex (mS m) (gIt (gIm (mS m) (mEd m sh) fun _ => true) (i + 1) fun j => decide (j = s))) (mS m + 1) 0 with
      | some e => .inr (jn e)
      | none => .inl ()) := by
    have st : ∀ i, i < mS m + 1 → (!jex (mS m) (gIt (gIm (mS m) (mEd m sh) fun _ => true) (i + 1) fun j => decide (j = s))) = false → zM_follows_l6_b I' (jb (mS m) (gIt (gIm (mS m) (mEd m sh) fun _ => true) i fun j => decide (j = s))) (jn i) = some (.inl (jb (mS m) (gIt (gIm (mS m) (mEd m sh) fun _ => true) (i + 1) fun j => decide (j = s)), jn (i + 1))) := fun i hi hf => by
      have hf : jex (mS m) (gIm (mS m) (mEd m sh) (fun _ => true) (gIt (gIm (mS m) (mEd m sh) fun _ => true) i fun j => decide (j = s))) = true := show jex (mS m) (gIt (gIm (mS m) (mEd m sh) fun _ => true) (i + 1) fun j => decide (j = s)) = true by simpa using hf
      simp (disch := omega) only [zM_follows_l6_b, hS, jm_onward hm h ha hs57, jq_z, hf, ir_let, jn_lt, jn_le, jn_in, jn_inj, jn_ne_m, jm_ne_n, jm_eq_m, jm_lt, jm_le, jn_lt_m, jn_le_m, jn_add, jn_mul, jn_clamp, jo_some, jn_min, jn_max, ↓jlm, jl0, jl1, jl2, jl3, jl4, jl5, jl6, jl7, jl8, jl9, jl10, jl11, jl12, jl13, jl14, jl15, jl16, jl20, jl24, jl32, jl39, jl40, jl41, jl60, jl61, jl80, jl96, jl97, jl99, jl100, jl122, jl126, jl199, jl200, jl205, jl206, jl255, jl256, jl410, jl700, jl950, jl1000, jl1000000, jl4000, jl8240, jl32767, if_pos, if_neg, ↓reduceIte, Option.bind_some, not_true_eq_false, not_false_eq_true, Nat.not_lt, Nat.not_le, Bool.true_eq_false]
      rfl
    rcases gFst_sp (P := fun i => !jex (mS m) (gIt (gIm (mS m) (mEd m sh) fun _ => true) (i + 1) fun j => decide (j = s))) (c := mS m + 1) (i := 0) with ⟨h1, h2⟩ | ⟨e, h1, _, h3, h4, h5⟩
    · rw [h1]
      refine js_seq (fun i => (jb (mS m) (gIt (gIm (mS m) (mEd m sh) fun _ => true) i fun j => decide (j = s)), jn i)) (mS m + 1) _ (fun i hi => st i hi (h2 i (by omega) (by omega))) ?_ (mS m + 1) 0 ir_F (by omega) (by unfold ir_F; omega)
      simp (disch := omega) only [zM_follows_l6_b, hS, ir_let, jn_lt, jn_le, jn_in, jn_inj, jn_ne_m, jm_ne_n, jm_eq_m, jm_lt, jm_le, jn_lt_m, jn_le_m, jn_add, jn_mul, jn_clamp, jo_some, jn_min, jn_max, ↓jlm, jl0, jl1, jl2, jl3, jl4, jl5, jl6, jl7, jl8, jl9, jl10, jl11, jl12, jl13, jl14, jl15, jl16, jl20, jl24, jl32, jl39, jl40, jl41, jl60, jl61, jl80, jl96, jl97, jl99, jl100, jl122, jl126, jl199, jl200, jl205, jl206, jl255, jl256, jl410, jl700, jl950, jl1000, jl1000000, jl4000, jl8240, jl32767, if_pos, if_neg, ↓reduceIte, Option.bind_some, not_true_eq_false, not_false_eq_true, Nat.not_lt, Nat.not_le]
    · rw [h1]
      refine js_seq (fun i => (jb (mS m) (gIt (gIm (mS m) (mEd m sh) fun _ => true) i fun j => decide (j = s)), jn i)) e _ (fun i hi => st i (by omega) (h5 i (by omega) hi)) ?_ e 0 ir_F (by omega) (by unfold ir_F; omega)
      have h4 : jex (mS m) (gIm (mS m) (mEd m sh) (fun _ => true) (gIt (gIm (mS m) (mEd m sh) fun _ => true) e fun j => decide (j = s))) = false := show jex (mS m) (gIt (gIm (mS m) (mEd m sh) fun _ => true) (e + 1) fun j => decide (j = s)) = false by simpa using h4
      simp (disch := omega) only [zM_follows_l6_b, hS, jm_onward hm h ha hs57, jq_z, h4, ir_let, jn_lt, jn_le, jn_in, jn_inj, jn_ne_m, jm_ne_n, jm_eq_m, jm_lt, jm_le, jn_lt_m, jn_le_m, jn_add, jn_mul, jn_clamp, jo_some, jn_min, jn_max, ↓jlm, jl0, jl1, jl2, jl3, jl4, jl5, jl6, jl7, jl8, jl9, jl10, jl11, jl12, jl13, jl14, jl15, jl16, jl20, jl24, jl32, jl39, jl40, jl41, jl60, jl61, jl80, jl96, jl97, jl99, jl100, jl122, jl126, jl199, jl200, jl205, jl206, jl255, jl256, jl410, jl700, jl950, jl1000, jl1000000, jl4000, jl8240, jl32767, if_pos, if_neg, ↓reduceIte, Option.bind_some, not_true_eq_false, not_false_eq_true, Nat.not_lt, Nat.not_le]
  have E : gFst (fun i => !jex (mS m) (gIt (gIm (mS m) (mEd m sh) fun _ => true) (i + 1) fun j => decide (j = s))) (mS m + 1) 0 = gFst (fun i => !gIt (gPr (mS m) (mEd m sh) fun _ => true) (i + 1) (fun _ => true) s) (mS m) 0 := by
    rw [gFst_cg (Q := fun i => !gIt (gPr (mS m) (mEd m sh) fun _ => true) (i + 1) (fun _ => true) s) (fun j _ _ => by
      rw [gDual' (A := fun _ => true) (j + 1) hs (fun j => decide (j = s)) (fun j => by simp)]; simp)]
    refine gFst_ext (by omega) fun j h1 h2 h3 => ⟨mS m - 1, by omega, by omega, ?_⟩
    have e : j = mS m := by omega
    subst e
    have := gPr_st (n := mS m) (E := mEd m sh) (A := fun _ => true) (k := mS m) (m := mS m + 1) (by omega) (by omega) s hs
    rw [show mS m - 1 + 1 = mS m by omega]
    rw [this] at h3
    exact h3
  rw [E, ← jb_one hs (by omega)] at key
  simp only [jn0] at key
  simp only [zM_follows, key, ir_let, iq_sm, ir_sm, jzE, j10, Option.bind_some, ↓reduceIte, not_true_eq_false, not_false_eq_true]
  cases gFst (fun i => !gIt (gPr (mS m) (mEd m sh) fun _ => true) (i + 1) (fun _ => true) s) (mS m) 0 <;> rfl
theorem jc_allStates {I : iq_I} {m : jMu} (hm : mOk m) (h : jRU I m) : zP_allStates I = some (jb (mS m) fun _ => true) := by
  have h10 := hm.1
  simp only [zP_allStates, jRU_S h]
  rw [jb_all (by omega)]
theorem jq_open {I : iq_I} (hI : jInv I) (x : Int32) (X : iq_X) : ∃ r I1 X1 b I2, zO_open x I X = some (r, I1, X1) ∧ zM_open x I1 = some (b, I2) ∧ jag I I1 ∧ jag I I2 ∧ jXo X X1 ∧ jAns r b (I2 76 0) := by
  obtain ⟨m, g, hm, hU, hN, hB, hA, -⟩ := hI
  have h10 := hm.1
  by_cases hx : ∃ s, s < mS m ∧ x = jn s
  · obtain ⟨s, hs, rfl⟩ := hx
    refine jmkI (jo (gFst (fun i => !gIt (gPr (mS m) (mEd m fun _ => false) fun _ => true) (i + 1) (fun _ => true) s) (mS m) 0)) ?_ fun I1 a1 => ⟨jz I1, ?_, jz_ag I1, rfl⟩
    · obtain ⟨I1, e1, a1, b1⟩ := jc_lb hm hU (jc_told0 hU)
      have hU1 := jRU_ag hU a1
      refine ⟨I1, ?_, a1⟩
      simp only [zO_open, zP_keptOpen, jc_needState1 hm hU hs, e1, jc_allStates hm hU1, jc_lw hm hU1 b1 hs, ir_let, iq_sm, ir_sm, jzE, j10, Option.bind_some, ↓reduceIte, not_true_eq_false, not_false_eq_true]
    · have hN0 := jRN_ag hN a1
      have hN1 := jRN_ag hN0 (jz_ag I1)
      have k2 := jm_follows hm hN1 (fun _ _ _ => rfl) (sh := fun _ => false) (by rw [jRN_s hN1]; exact jb_0 (by omega)) hs
      simp only [zM_open, jm_isState1 hm hN0 hs, k2, ir_let, iq_sm, ir_sm, jzE, j10, Option.bind_some, ↓reduceIte, not_true_eq_false, not_false_eq_true]
  · refine jmkE ?_ ?_
    · simp only [zO_open, jc_needState0 hm hU hx, ir_let, iq_sm, ir_sm, jzE, j10, Option.bind_some, ↓reduceIte, not_true_eq_false, not_false_eq_true]
    · simp only [zM_open, jm_isState0 hm hN hx, ir_let, iq_sm, ir_sm, jzE, j10, Option.bind_some, ↓reduceIte, not_true_eq_false, not_false_eq_true]
theorem jm_mu28 {I : iq_I} {m : jMu} (hm : mOk m) (h : jRN I m) {F : Nat → Bool} :
    zM_must_l28 I ir_F (jb (mS m) F, jn 0) = some (match gFst (fun i => !jex (mS m) (gIt (gIm (mS m) (mEd m fun _ => false) fun j => !mE m j) i F)) 41 0 with
      | some e => .inr (jn e, I)
      | none => .inl ()) := by
  have h10 := hm.1
  have st : ∀ i, i < 41 → (!jex (mS m) (gIt (gIm (mS m) (mEd m fun _ => false) fun j => !mE m j) i F)) = false → zM_must_l28_b I (jb (mS m) (gIt (gIm (mS m) (mEd m fun _ => false) fun j => !mE m j) i F)) (jn i) = some (.inl (jb (mS m) (gIt (gIm (mS m) (mEd m fun _ => false) fun j => !mE m j) (i + 1) F), jn (i + 1))) := fun i hi hf => by
    have hf : jex (mS m) (gIt (gIm (mS m) (mEd m fun _ => false) fun j => !mE m j) i F) = true := by simpa using hf
    simp (disch := omega) only [zM_must_l28_b, jRN_E h, jm_onward0 hm h, jq_z, hf, jb_andn, ir_let, jn_lt, jn_le, jn_in, jn_inj, jn_ne_m, jm_ne_n, jm_eq_m, jm_lt, jm_le, jn_lt_m, jn_le_m, jn_add, jn_mul, jn_clamp, jo_some, jn_min, jn_max, ↓jlm, jl0, jl1, jl2, jl3, jl4, jl5, jl6, jl7, jl8, jl9, jl10, jl11, jl12, jl13, jl14, jl15, jl16, jl20, jl24, jl32, jl39, jl40, jl41, jl60, jl61, jl80, jl96, jl97, jl99, jl100, jl122, jl126, jl199, jl200, jl205, jl206, jl255, jl256, jl410, jl700, jl950, jl1000, jl1000000, jl4000, jl8240, jl32767, if_pos, if_neg, ↓reduceIte, Option.bind_some, not_true_eq_false, not_false_eq_true, Nat.not_lt, Nat.not_le, Bool.true_eq_false]
    congr 3 <;> exact jb_ext fun j _ => by simp [gIt, gIm, Bool.and_comm]
  rcases gFst_sp (P := fun i => !jex (mS m) (gIt (gIm (mS m) (mEd m fun _ => false) fun j => !mE m j) i F)) (c := 41) (i := 0) with ⟨h1, h2⟩ | ⟨e, h1, _, h3, h4, h5⟩
  · rw [h1]
    refine js_seq (fun i => (jb (mS m) (gIt (gIm (mS m) (mEd m fun _ => false) fun j => !mE m j) i F), jn i)) 41 _ (fun i hi => st i hi (h2 i (by omega) (by omega))) ?_ 41 0 ir_F (by omega) (by unfold ir_F; omega)
    simp (disch := omega) only [zM_must_l28_b, ir_let, jn_lt, jn_le, jn_in, jn_inj, jn_ne_m, jm_ne_n, jm_eq_m, jm_lt, jm_le, jn_lt_m, jn_le_m, jn_add, jn_mul, jn_clamp, jo_some, jn_min, jn_max, ↓jlm, jl0, jl1, jl2, jl3, jl4, jl5, jl6, jl7, jl8, jl9, jl10, jl11, jl12, jl13, jl14, jl15, jl16, jl20, jl24, jl32, jl39, jl40, jl41, jl60, jl61, jl80, jl96, jl97, jl99, jl100, jl122, jl126, jl199, jl200, jl205, jl206, jl255, jl256, jl410, jl700, jl950, jl1000, jl1000000, jl4000, jl8240, jl32767, if_pos, if_neg, ↓reduceIte, Option.bind_some, not_true_eq_false, not_false_eq_true, Nat.not_lt, Nat.not_le]
  · rw [h1]
    refine js_seq (fun i => (jb (mS m) (gIt (gIm (mS m) (mEd m fun _ => false) fun j => !mE m j) i F), jn i)) e _ (fun i hi => st i (by omega) (h5 i (by omega) hi)) ?_ e 0 ir_F (by omega) (by unfold ir_F; omega)
    have h4 : jex (mS m) (gIt (gIm (mS m) (mEd m fun _ => false) fun j => !mE m j) e F) = false := by simpa using h4
    simp (disch := omega) only [zM_must_l28_b, jq_z, h4, ir_let, jn_lt, jn_le, jn_in, jn_inj, jn_ne_m, jm_ne_n, jm_eq_m, jm_lt, jm_le, jn_lt_m, jn_le_m, jn_add, jn_mul, jn_clamp, jo_some, jn_min, jn_max, ↓jlm, jl0, jl1, jl2, jl3, jl4, jl5, jl6, jl7, jl8, jl9, jl10, jl11, jl12, jl13, jl14, jl15, jl16, jl20, jl24, jl32, jl39, jl40, jl41, jl60, jl61, jl80, jl96, jl97, jl99, jl100, jl122, jl126, jl199, jl200, jl205, jl206, jl255, jl256, jl410, jl700, jl950, jl1000, jl1000000, jl4000, jl8240, jl32767, if_pos, if_neg, ↓reduceIte, Option.bind_some, not_true_eq_false, not_false_eq_true, Nat.not_lt, Nat.not_le]
def vMust (m : jMu) (s : Nat) : Option Nat := if mE m s = true then some 0 else (gFst (fun i => !gIt (gPr (mS m) (mEd m fun _ => false) fun j => !mE m j) (i + 1) (fun j => !mE m j) s) (mS m) 0).map (· + 1)
theorem vMust_eq {m : jMu} (hm : mOk m) {s : Nat} (hs : s < mS m) : gFst (fun i => !jex (mS m) (gIt (gIm (mS m) (mEd m fun _ => false) fun j => !mE m j) i fun j => decide (j = s) && !mE m j)) 41 0 = vMust m s := by
  have h10 := hm.1
  rw [gFst_cg (Q := fun i => !(!mE m s && gIt (gPr (mS m) (mEd m fun _ => false) fun j => !mE m j) i (fun j => !mE m j) s)) (fun j _ _ => by
    rw [gDual' j hs _ (fun i => by
      simp only [Bool.and_eq_true, decide_eq_true_eq]
      constructor
      · rintro ⟨rfl, h⟩; exact ⟨rfl, h⟩
      · rintro ⟨rfl, h⟩; exact ⟨rfl, h⟩)])]
  unfold vMust
  cases he : mE m s with
  | true =>
    rw [if_pos rfl]
    conv => lhs; unfold gFst
    rw [if_pos (by simp)]
  | false =>
    rw [if_neg (by simp)]
    conv => lhs; unfold gFst
    rw [if_neg (by simp [gIt, he]), gFst_shift]
    congr 1
    simp only [Bool.not_false, Bool.true_and]
    refine gFst_ext (i := 0) (c := mS m) (d := 40) (by omega) fun j h1 h2 h3 => ⟨mS m - 1, by omega, by omega, ?_⟩
    have := gPr_st (n := mS m) (E := mEd m fun _ => false) (A := fun j => !mE m j) (k := mS m) (m := j + 1) (by omega) (by omega) s hs
    rw [this] at h3
    rw [show mS m - 1 + 1 = mS m by omega]
    exact h3
theorem jq_must {I : iq_I} (hI : jInv I) (x : Int32) (X : iq_X) : ∃ r I1 X1 b I2, zO_must x I X = some (r, I1, X1) ∧ zM_must x I1 = some (b, I2) ∧ jag I I1 ∧ jag I I2 ∧ jXo X X1 ∧ jAns r b (I2 76 0) := by
  obtain ⟨m, g, hm, hU, hN, hB, hA, -⟩ := hI
  have h10 := hm.1
  by_cases hx : ∃ s, s < mS m ∧ x = jn s
  · obtain ⟨s, hs, rfl⟩ := hx
    refine jmkI (jo (vMust m s)) ?_ fun I1 a1 => ⟨jz I1, ?_, jz_ag I1, rfl⟩
    · cases he : mE m s with
      | true =>
        refine ⟨I, ?_, jag_rf I⟩
        have hc : ((I 4 1 >>> (jn s &&& 31)) &&& 1 = 0) = False := by
          rw [jt_bit (by omega), jRU_E hU, jq_jb hs (by omega), he]; simp
        simp only [zO_must, zP_mustEnd, jc_needState1 hm hU hs, hc, vMust, he, ir_let, iq_sm, ir_sm, jzE, j10, Option.bind_some, ↓reduceIte, not_true_eq_false, not_false_eq_true]
        rfl
      | false =>
        obtain ⟨I1, e1, a1, b1⟩ := jc_lb hm hU (jc_told0 hU)
        have hU1 := jRU_ag hU a1
        refine ⟨I1, ?_, a1⟩
        have hc : ((I 4 1 >>> (jn s &&& 31)) &&& 1 = 0) = True := by
          rw [jt_bit (by omega), jRU_E hU, jq_jb hs (by omega), he]; simp
        have hw : (jb (mS m) fun _ => true) &&& (I1 4 1 ^^^ (-1 : Int32)) = jb (mS m) fun j => !mE m j := by
          rw [jRU_E hU1]
          exact (jb_andn (by omega)).trans (jb_ext fun j _ => by simp)
        simp only [zO_must, zP_mustEnd, jc_needState1 hm hU hs, hc, e1, jc_allStates hm hU1, hw, jc_lw hm hU1 b1 hs, vMust, he, ir_let, iq_sm, ir_sm, jzE, j10, Option.bind_some, ↓reduceIte, not_true_eq_false, not_false_eq_true]
        cases hf : gFst (fun i => !gIt (gPr (mS m) (mEd m fun _ => false) fun j => !mE m j) (i + 1) (fun j => !mE m j) s) (mS m) 0 with
        | none => rfl
        | some e =>
          have he2 : e < mS m := by
            rcases gFst_sp (P := fun i => !gIt (gPr (mS m) (mEd m fun _ => false) fun j => !mE m j) (i + 1) (fun j => !mE m j) s) (c := mS m) (i := 0) with ⟨h1, _⟩ | ⟨k, h1, _, h3, _⟩
            · rw [h1] at hf; cases hf
            · rw [h1] at hf; cases hf; omega
          simp (disch := omega) only [ir_let, jn_lt, jn_le, jn_in, jn_inj, jn_ne_m, jm_ne_n, jm_eq_m, jm_lt, jm_le, jn_lt_m, jn_le_m, jn_add, jn_mul, jn_clamp, jo_some, jn_min, jn_max, ↓jlm, jl0, jl1, jl2, jl3, jl4, jl5, jl6, jl7, jl8, jl9, jl10, jl11, jl12, jl13, jl14, jl15, jl16, jl20, jl24, jl32, jl39, jl40, jl41, jl60, jl61, jl80, jl96, jl97, jl99, jl100, jl122, jl126, jl199, jl200, jl205, jl206, jl255, jl256, jl410, jl700, jl950, jl1000, jl1000000, jl4000, jl8240, jl32767, if_pos, if_neg, ↓reduceIte, Option.bind_some, not_true_eq_false, not_false_eq_true, Nat.not_lt, Nat.not_le]
          rfl
    · have hN0 := jRN_ag hN a1
      have hN1 := jRN_ag hN0 (jz_ag I1)
      have k2 := jm_mu28 hm hN1 (F := fun j => decide (j = s) && !mE m j)
      have hw : ((1 : Int32) <<< (jn s &&& 31)) &&& (jz I1 76 7 ^^^ (-1 : Int32)) = jb (mS m) fun j => decide (j = s) && !mE m j := by
        rw [jRN_E hN1, jb_one hs (by omega)]
        exact jb_andn (by omega)
      rw [vMust_eq hm hs] at k2
      simp only [jn0] at k2
      simp only [zM_must, jm_isState1 hm hN0 hs, hw, k2, ir_let, iq_sm, ir_sm, jzE, j10, Option.bind_some, ↓reduceIte, not_true_eq_false, not_false_eq_true]
      cases vMust m s <;> rfl
  · refine jmkE ?_ ?_
    · simp only [zO_must, jc_needState0 hm hU hx, ir_let, iq_sm, ir_sm, jzE, j10, Option.bind_some, ↓reduceIte, not_true_eq_false, not_false_eq_true]
    · simp only [zM_must, jm_isState0 hm hN hx, ir_let, iq_sm, ir_sm, jzE, j10, Option.bind_some, ↓reduceIte, not_true_eq_false, not_false_eq_true]
