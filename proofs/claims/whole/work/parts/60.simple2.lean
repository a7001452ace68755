/-! ===== begun, cost, often, about, count, letter, saying, culprit ===== -/
theorem jRR_ag {I I' : iq_I} {g : jGa} (h : jRR (I 98) g) (a : jag I I') : jRR (I' 98) g := jRR_cg h fun j => a 98 j rfl
def pBeg (m : jMu) (g : jGa) (y k : Nat) : Bool := (gSt m g y k none).isSome
def pOft (m : jMu) (g : jGa) (y k i : Nat) : Bool := decide (mK m ((gS g y).getD i 0) = k)
def pTm (g : jGa) (y w i : Nat) : Bool := decide ((gS g y).getD i 0 = w)
def pAb (g : jGa) (w y : Nat) : Bool := jex (gS g y).length (pTm g y w)
def jsum (f : Nat → Nat) : Nat → Nat
  | 0 => 0
  | n + 1 => jsum f n + f n
theorem jsumS (f : Nat → Nat) (n : Nat) : jsum f n + f n = jsum f (n + 1) := rfl
theorem gFst_s {P : Nat → Bool} : ∀ {c i : Nat}, gFst P (c + 1) i = match gFst P c i with
    | some e => some e
    | none => if P (i + c) = true then some (i + c) else none
  | 0, i => rfl
  | c + 1, i => by
    conv => lhs; unfold gFst
    conv => rhs; unfold gFst
    by_cases h : P i = true
    · rw [if_pos h, if_pos h]
    · rw [if_neg h, if_neg h, gFst_s, show i + 1 + c = i + (c + 1) by omega]
theorem jq_begun {I : iq_I} (hI : jInv I) (x : Int32) (X : iq_X) : ∃ r X1 b I2, zO_begun x I X = some (r, X1) ∧ zM_begun x I = some (b, I2) ∧ jag I I2 ∧ jXo X X1 ∧ jAns r b (I2 76 0) := by
  obtain ⟨m, g, hm, hU, hN, hB, hA, -⟩ := hI
  obtain ⟨hg, hG, hR, -, -⟩ := hA
  have h10 := hm.1
  have h14 := hm.2.1
  have h5 := hg.1
  by_cases hx : ∃ s, s < gY g ∧ x = jn s
  · obtain ⟨y, hy, rfl⟩ := hx
    have h40 := hg.2.2.1 y hy
    have hN1 := jRN_ag hN (jz_ag I)
    have hB1 := jRB_ag hB (jz_ag I)
    have hR1 := jRR_ag hR (jz_ag I)
    refine jmk (jb (mS m) (pBeg m g y)) ?_ ⟨jz I, ?_, jz_ag I, rfl⟩
    · have key : zW_whereBegun_l5 (jn y) I ir_F (jn 0, jn 0) = some (jb (mS m) (pBeg m g y)) := by
        refine js_seq (fun i => (jb i (pBeg m g y), jn i)) (mS m) _ (fun i hi => ?_) ?_ (mS m) 0 ir_F (by omega) (by unfold ir_F; omega)
        · have kk := jc_stateFrom hm hU hg hG hy hi (but := none) (fun b h => by cases h)
          cases hr : gSt m g y i none with
          | none =>
            have e : pBeg m g y i = false := by simp [pBeg, hr]
            rw [hr] at kk
            simp (disch := omega) only [zW_whereBegun_l5_b, jRU_S hU, kk, jbS0 e, ir_let, jn_lt, jn_le, jn_in, jn_inj, jn_ne_m, jm_ne_n, jm_eq_m, jm_lt, jm_le, jn_lt_m, jn_le_m, jn_add, jn_mul, jn_clamp, jo_some, jn_min, jn_max, ↓jlm, jl0, jl1, jl2, jl3, jl4, jl5, jl6, jl7, jl8, jl9, jl10, jl11, jl12, jl13, jl14, jl15, jl16, jl20, jl24, jl32, jl39, jl40, jl41, jl60, jl61, jl80, jl96, jl97, jl99, jl100, jl122, jl126, jl199, jl200, jl205, jl206, jl255, jl256, jl410, jl700, jl950, jl1000, jl1000000, jl4000, jl8240, jl32767, if_pos, if_neg, ↓reduceIte, Option.bind_some, not_true_eq_false, not_false_eq_true, Nat.not_lt, Nat.not_le]
          | some t =>
            have ht := gSt_lt hm hg hy hi hr
            have e : pBeg m g y i = true := by simp [pBeg, hr]
            rw [hr] at kk
            simp (disch := omega) only [zW_whereBegun_l5_b, jRU_S hU, kk, jbS1 e, ir_let, jn_lt, jn_le, jn_in, jn_inj, jn_ne_m, jm_ne_n, jm_eq_m, jm_lt, jm_le, jn_lt_m, jn_le_m, jn_add, jn_mul, jn_clamp, jo_some, jn_min, jn_max, ↓jlm, jl0, jl1, jl2, jl3, jl4, jl5, jl6, jl7, jl8, jl9, jl10, jl11, jl12, jl13, jl14, jl15, jl16, jl20, jl24, jl32, jl39, jl40, jl41, jl60, jl61, jl80, jl96, jl97, jl99, jl100, jl122, jl126, jl199, jl200, jl205, jl206, jl255, jl256, jl410, jl700, jl950, jl1000, jl1000000, jl4000, jl8240, jl32767, if_pos, if_neg, ↓reduceIte, Option.bind_some, not_true_eq_false, not_false_eq_true, Nat.not_lt, Nat.not_le]
        · simp (disch := omega) only [zW_whereBegun_l5_b, jRU_S hU, ir_let, jn_lt, jn_le, jn_in, jn_inj, jn_ne_m, jm_ne_n, jm_eq_m, jm_lt, jm_le, jn_lt_m, jn_le_m, jn_add, jn_mul, jn_clamp, jo_some, jn_min, jn_max, ↓jlm, jl0, jl1, jl2, jl3, jl4, jl5, jl6, jl7, jl8, jl9, jl10, jl11, jl12, jl13, jl14, jl15, jl16, jl20, jl24, jl32, jl39, jl40, jl41, jl60, jl61, jl80, jl96, jl97, jl99, jl100, jl122, jl126, jl199, jl200, jl205, jl206, jl255, jl256, jl410, jl700, jl950, jl1000, jl1000000, jl4000, jl8240, jl32767, if_pos, if_neg, ↓reduceIte, Option.bind_some, not_true_eq_false, not_false_eq_true, Nat.not_lt, Nat.not_le]
      simp only [jn0] at key
      simp only [zO_begun, zW_whereBegun, jc_needSaying1 hg hG hy, key, ir_let, iq_sm, ir_sm, jzE, j10, Option.bind_some, ↓reduceIte, not_true_eq_false, not_false_eq_true]
    · have key : zM_begun_l19 (jn y) (jz I) ir_F (jn 0, jn 0) = some (jb (mS m) (pBeg m g y)) := by
        refine js_seq (fun i => (jb i (pBeg m g y), jn i)) (mS m) _ (fun i hi => ?_) ?_ (mS m) 0 ir_F (by omega) (by unfold ir_F; omega)
        · have kk := jm_stateOf hm hN1 hg hR1 hy hi (but := none) (fun b h => by cases h)
          cases hr : gSt m g y i none with
          | none =>
            have e : pBeg m g y i = false := by simp [pBeg, hr]
            rw [hr] at kk
            simp (disch := omega) only [zM_begun_l19_b, jRN_S hN1, kk, jbSz e, ir_let, jn_lt, jn_le, jn_in, jn_inj, jn_ne_m, jm_ne_n, jm_eq_m, jm_lt, jm_le, jn_lt_m, jn_le_m, jn_add, jn_mul, jn_clamp, jo_some, jn_min, jn_max, ↓jlm, jl0, jl1, jl2, jl3, jl4, jl5, jl6, jl7, jl8, jl9, jl10, jl11, jl12, jl13, jl14, jl15, jl16, jl20, jl24, jl32, jl39, jl40, jl41, jl60, jl61, jl80, jl96, jl97, jl99, jl100, jl122, jl126, jl199, jl200, jl205, jl206, jl255, jl256, jl410, jl700, jl950, jl1000, jl1000000, jl4000, jl8240, jl32767, if_pos, if_neg, ↓reduceIte, Option.bind_some, not_true_eq_false, not_false_eq_true, Nat.not_lt, Nat.not_le]
          | some t =>
            have ht := gSt_lt hm hg hy hi hr
            have e : pBeg m g y i = true := by simp [pBeg, hr]
            rw [hr] at kk
            simp (disch := omega) only [zM_begun_l19_b, jRN_S hN1, kk, jbS1 e, ir_let, jn_lt, jn_le, jn_in, jn_inj, jn_ne_m, jm_ne_n, jm_eq_m, jm_lt, jm_le, jn_lt_m, jn_le_m, jn_add, jn_mul, jn_clamp, jo_some, jn_min, jn_max, ↓jlm, jl0, jl1, jl2, jl3, jl4, jl5, jl6, jl7, jl8, jl9, jl10, jl11, jl12, jl13, jl14, jl15, jl16, jl20, jl24, jl32, jl39, jl40, jl41, jl60, jl61, jl80, jl96, jl97, jl99, jl100, jl122, jl126, jl199, jl200, jl205, jl206, jl255, jl256, jl410, jl700, jl950, jl1000, jl1000000, jl4000, jl8240, jl32767, if_pos, if_neg, ↓reduceIte, Option.bind_some, not_true_eq_false, not_false_eq_true, Nat.not_lt, Nat.not_le]
        · simp (disch := omega) only [zM_begun_l19_b, jRN_S hN1, ir_let, jn_lt, jn_le, jn_in, jn_inj, jn_ne_m, jm_ne_n, jm_eq_m, jm_lt, jm_le, jn_lt_m, jn_le_m, jn_add, jn_mul, jn_clamp, jo_some, jn_min, jn_max, ↓jlm, jl0, jl1, jl2, jl3, jl4, jl5, jl6, jl7, jl8, jl9, jl10, jl11, jl12, jl13, jl14, jl15, jl16, jl20, jl24, jl32, jl39, jl40, jl41, jl60, jl61, jl80, jl96, jl97, jl99, jl100, jl122, jl126, jl199, jl200, jl205, jl206, jl255, jl256, jl410, jl700, jl950, jl1000, jl1000000, jl4000, jl8240, jl32767, if_pos, if_neg, ↓reduceIte, Option.bind_some, not_true_eq_false, not_false_eq_true, Nat.not_lt, Nat.not_le]
      simp only [jn0] at key
      simp only [zM_begun, jm_isSaying1 hg hB hy, key, ir_let, iq_sm, ir_sm, jzE, j10, Option.bind_some, ↓reduceIte, not_true_eq_false, not_false_eq_true]
  · refine jmke ?_ ?_
    · simp only [zO_begun, jc_needSaying0 hg hG hx, ir_let, iq_sm, ir_sm, jzE, j10, Option.bind_some, ↓reduceIte, not_true_eq_false, not_false_eq_true]
    · simp only [zM_begun, jm_isSaying0 hg hB hx, ir_let, iq_sm, ir_sm, jzE, j10, Option.bind_some, ↓reduceIte, not_true_eq_false, not_false_eq_true]
theorem jq_cost {I : iq_I} (hI : jInv I) (x : Int32) (X : iq_X) : ∃ r X1 b I2, zO_cost x I X = some (r, X1) ∧ zM_cost x I = some (b, I2) ∧ jag I I2 ∧ jXo X X1 ∧ jAns r b (I2 76 0) := by
  obtain ⟨m, g, hm, hU, hN, hB, hA, -⟩ := hI
  obtain ⟨hg, hG, hR, -, -⟩ := hA
  have h10 := hm.1
  have h14 := hm.2.1
  have h5 := hg.1
  by_cases hx : ∃ s, s < gY g ∧ x = jn s
  · obtain ⟨y, hy, rfl⟩ := hx
    have h40 := hg.2.2.1 y hy
    have hN1 := jRN_ag hN (jz_ag I)
    have hB1 := jRB_ag hB (jz_ag I)
    have hR1 := jRR_ag hR (jz_ag I)
    refine jmk (jn (jsum (fun i => mP m (mK m ((gS g y).getD i 0))) (gS g y).length)) ?_ ⟨jz I, ?_, jz_ag I, rfl⟩
    · have key : zO_cost_l9 (jn y) I X ir_F (jn 0, jn 0) = some (jn (jsum (fun i => mP m (mK m ((gS g y).getD i 0))) (gS g y).length)) := by
        refine js_seq (fun i => (jn (jsum (fun i => mP m (mK m ((gS g y).getD i 0))) i), jn i)) (gS g y).length _ (fun i hi => ?_) ?_ (gS g y).length 0 ir_F (by omega) (by unfold ir_F; omega)
        · have hw := hg.2.2.2.1 y i hy hi
          have hk := (hm.2.2.1 _ hw).2.2
          simp (disch := omega) only [zO_cost_l9_b, jRG_L hG, jc_wordAt hg hG hy hi, jc_kindOf hm hU hw, jc_priceOf hm hU hk, ir_let, jn_lt, jn_le, jn_in, jn_inj, jn_ne_m, jm_ne_n, jm_eq_m, jm_lt, jm_le, jn_lt_m, jn_le_m, jn_add, jn_mul, jn_clamp, jo_some, jn_min, jn_max, ↓jlm, jl0, jl1, jl2, jl3, jl4, jl5, jl6, jl7, jl8, jl9, jl10, jl11, jl12, jl13, jl14, jl15, jl16, jl20, jl24, jl32, jl39, jl40, jl41, jl60, jl61, jl80, jl96, jl97, jl99, jl100, jl122, jl126, jl199, jl200, jl205, jl206, jl255, jl256, jl410, jl700, jl950, jl1000, jl1000000, jl4000, jl8240, jl32767, if_pos, if_neg, ↓reduceIte, Option.bind_some, not_true_eq_false, not_false_eq_true, Nat.not_lt, Nat.not_le]
          rfl
        · simp (disch := omega) only [zO_cost_l9_b, jRG_L hG, ir_let, jn_lt, jn_le, jn_in, jn_inj, jn_ne_m, jm_ne_n, jm_eq_m, jm_lt, jm_le, jn_lt_m, jn_le_m, jn_add, jn_mul, jn_clamp, jo_some, jn_min, jn_max, ↓jlm, jl0, jl1, jl2, jl3, jl4, jl5, jl6, jl7, jl8, jl9, jl10, jl11, jl12, jl13, jl14, jl15, jl16, jl20, jl24, jl32, jl39, jl40, jl41, jl60, jl61, jl80, jl96, jl97, jl99, jl100, jl122, jl126, jl199, jl200, jl205, jl206, jl255, jl256, jl410, jl700, jl950, jl1000, jl1000000, jl4000, jl8240, jl32767, if_pos, if_neg, ↓reduceIte, Option.bind_some, not_true_eq_false, not_false_eq_true, Nat.not_lt, Nat.not_le]
      simp only [jn0] at key
      simp only [zO_cost, jc_needSaying1 hg hG hy, key, ir_let, iq_sm, ir_sm, jzE, j10, Option.bind_some, ↓reduceIte, not_true_eq_false, not_false_eq_true]
    · have key : zM_cost_l19 (jn y) (jz I) ir_F (jn 0, jn 0) = some (jn (jsum (fun i => mP m (mK m ((gS g y).getD i 0))) (gS g y).length)) := by
        refine js_seq (fun i => (jn (jsum (fun i => mP m (mK m ((gS g y).getD i 0))) i), jn i)) (gS g y).length _ (fun i hi => ?_) ?_ (gS g y).length 0 ir_F (by omega) (by unfold ir_F; omega)
        · have hw := hg.2.2.2.1 y i hy hi
          have hk := (hm.2.2.1 _ hw).2.2
          simp (disch := omega) only [zM_cost_l19_b, jRR_L hR1, jm_wordAt hg hR1 hy hi, jRN_K hN1, jRN_P hN1, ir_let, jn_lt, jn_le, jn_in, jn_inj, jn_ne_m, jm_ne_n, jm_eq_m, jm_lt, jm_le, jn_lt_m, jn_le_m, jn_add, jn_mul, jn_clamp, jo_some, jn_min, jn_max, ↓jlm, jl0, jl1, jl2, jl3, jl4, jl5, jl6, jl7, jl8, jl9, jl10, jl11, jl12, jl13, jl14, jl15, jl16, jl20, jl24, jl32, jl39, jl40, jl41, jl60, jl61, jl80, jl96, jl97, jl99, jl100, jl122, jl126, jl199, jl200, jl205, jl206, jl255, jl256, jl410, jl700, jl950, jl1000, jl1000000, jl4000, jl8240, jl32767, if_pos, if_neg, ↓reduceIte, Option.bind_some, not_true_eq_false, not_false_eq_true, Nat.not_lt, Nat.not_le]
          rfl
        · simp (disch := omega) only [zM_cost_l19_b, jRR_L hR1, ir_let, jn_lt, jn_le, jn_in, jn_inj, jn_ne_m, jm_ne_n, jm_eq_m, jm_lt, jm_le, jn_lt_m, jn_le_m, jn_add, jn_mul, jn_clamp, jo_some, jn_min, jn_max, ↓jlm, jl0, jl1, jl2, jl3, jl4, jl5, jl6, jl7, jl8, jl9, jl10, jl11, jl12, jl13, jl14, jl15, jl16, jl20, jl24, jl32, jl39, jl40, jl41, jl60, jl61, jl80, jl96, jl97, jl99, jl100, jl122, jl126, jl199, jl200, jl205, jl206, jl255, jl256, jl410, jl700, jl950, jl1000, jl1000000, jl4000, jl8240, jl32767, if_pos, if_neg, ↓reduceIte, Option.bind_some, not_true_eq_false, not_false_eq_true, Nat.not_lt, Nat.not_le]
      simp only [jn0] at key
      simp only [zM_cost, jm_isSaying1 hg hB hy, key, ir_let, iq_sm, ir_sm, jzE, j10, Option.bind_some, ↓reduceIte, not_true_eq_false, not_false_eq_true]
  · refine jmke ?_ ?_
    · simp only [zO_cost, jc_needSaying0 hg hG hx, ir_let, iq_sm, ir_sm, jzE, j10, Option.bind_some, ↓reduceIte, not_true_eq_false, not_false_eq_true]
    · simp only [zM_cost, jm_isSaying0 hg hB hx, ir_let, iq_sm, ir_sm, jzE, j10, Option.bind_some, ↓reduceIte, not_true_eq_false, not_false_eq_true]
theorem jq_often {I : iq_I} (hI : jInv I) (x z : Int32) (X : iq_X) : ∃ r X1 b I2, zO_often x z I X = some (r, X1) ∧ zM_often x z I = some (b, I2) ∧ jag I I2 ∧ jXo X X1 ∧ jAns r b (I2 76 0) := by
  obtain ⟨m, g, hm, hU, hN, hB, hA, -⟩ := hI
  obtain ⟨hg, hG, hR, -, -⟩ := hA
  have h10 := hm.1
  have h14 := hm.2.1
  have h5 := hg.1
  by_cases hx : ∃ s, s < gY g ∧ x = jn s
  · obtain ⟨y, hy, rfl⟩ := hx
    have h40 := hg.2.2.1 y hy
    have hN1 := jRN_ag hN (jz_ag I)
    have hB1 := jRB_ag hB (jz_ag I)
    have hR1 := jRR_ag hR (jz_ag I)
    by_cases hz : ∃ k, k < 8 ∧ z = jn k
    · obtain ⟨k, hk, rfl⟩ := hz
      have k1 := jm_isWhat1 (I := I) (k := k) (n := 7) (by omega) (by omega)
      rw [jn7] at k1
      refine jmk (jn (jcn (gS g y).length (pOft m g y k))) ?_ ⟨jz I, ?_, jz_ag I, rfl⟩
      · have key : zO_often_l15 (jn y) (jn k) I X ir_F (jn 0, jn 0) = some (jn (jcn (gS g y).length (pOft m g y k))) := by
          refine js_seq (fun i => (jn (jcn i (pOft m g y k)), jn i)) (gS g y).length _ (fun i hi => ?_) ?_ (gS g y).length 0 ir_F (by omega) (by unfold ir_F; omega)
          · have hw := hg.2.2.2.1 y i hy hi
            have hk2 := (hm.2.2.1 _ hw).2.2
            by_cases e : mK m ((gS g y).getD i 0) = k
            · have e1 : pOft m g y k i = true := decide_eq_true e
              simp (disch := omega) only [zO_often_l15_b, jRG_L hG, jc_wordAt hg hG hy hi, jc_kindOf hm hU hw, jcnS1 e1, ir_let, jn_lt, jn_le, jn_in, jn_inj, jn_ne_m, jm_ne_n, jm_eq_m, jm_lt, jm_le, jn_lt_m, jn_le_m, jn_add, jn_mul, jn_clamp, jo_some, jn_min, jn_max, ↓jlm, jl0, jl1, jl2, jl3, jl4, jl5, jl6, jl7, jl8, jl9, jl10, jl11, jl12, jl13, jl14, jl15, jl16, jl20, jl24, jl32, jl39, jl40, jl41, jl60, jl61, jl80, jl96, jl97, jl99, jl100, jl122, jl126, jl199, jl200, jl205, jl206, jl255, jl256, jl410, jl700, jl950, jl1000, jl1000000, jl4000, jl8240, jl32767, if_pos, if_neg, ↓reduceIte, Option.bind_some, not_true_eq_false, not_false_eq_true, Nat.not_lt, Nat.not_le]
            · have e1 : pOft m g y k i = false := decide_eq_false e
              simp (disch := omega) only [zO_often_l15_b, jRG_L hG, jc_wordAt hg hG hy hi, jc_kindOf hm hU hw, jcnS0 e1, ir_let, jn_lt, jn_le, jn_in, jn_inj, jn_ne_m, jm_ne_n, jm_eq_m, jm_lt, jm_le, jn_lt_m, jn_le_m, jn_add, jn_mul, jn_clamp, jo_some, jn_min, jn_max, ↓jlm, jl0, jl1, jl2, jl3, jl4, jl5, jl6, jl7, jl8, jl9, jl10, jl11, jl12, jl13, jl14, jl15, jl16, jl20, jl24, jl32, jl39, jl40, jl41, jl60, jl61, jl80, jl96, jl97, jl99, jl100, jl122, jl126, jl199, jl200, jl205, jl206, jl255, jl256, jl410, jl700, jl950, jl1000, jl1000000, jl4000, jl8240, jl32767, if_pos, if_neg, ↓reduceIte, Option.bind_some, not_true_eq_false, not_false_eq_true, Nat.not_lt, Nat.not_le]
          · simp (disch := omega) only [zO_often_l15_b, jRG_L hG, ir_let, jn_lt, jn_le, jn_in, jn_inj, jn_ne_m, jm_ne_n, jm_eq_m, jm_lt, jm_le, jn_lt_m, jn_le_m, jn_add, jn_mul, jn_clamp, jo_some, jn_min, jn_max, ↓jlm, jl0, jl1, jl2, jl3, jl4, jl5, jl6, jl7, jl8, jl9, jl10, jl11, jl12, jl13, jl14, jl15, jl16, jl20, jl24, jl32, jl39, jl40, jl41, jl60, jl61, jl80, jl96, jl97, jl99, jl100, jl122, jl126, jl199, jl200, jl205, jl206, jl255, jl256, jl410, jl700, jl950, jl1000, jl1000000, jl4000, jl8240, jl32767, if_pos, if_neg, ↓reduceIte, Option.bind_some, not_true_eq_false, not_false_eq_true, Nat.not_lt, Nat.not_le]
        simp only [jn0] at key
        simp only [zO_often, jc_needSaying1 hg hG hy, jc_needKind1 hk, key, ir_let, iq_sm, ir_sm, jzE, j10, Option.bind_some, ↓reduceIte, not_true_eq_false, not_false_eq_true]
      · have key : zM_often_l30 (jn y) (jn k) (jz I) ir_F (jn 0, jn 0) = some (jn (jcn (gS g y).length (pOft m g y k))) := by
          refine js_seq (fun i => (jn (jcn i (pOft m g y k)), jn i)) (gS g y).length _ (fun i hi => ?_) ?_ (gS g y).length 0 ir_F (by omega) (by unfold ir_F; omega)
          · have hw := hg.2.2.2.1 y i hy hi
            have hk2 := (hm.2.2.1 _ hw).2.2
            by_cases e : mK m ((gS g y).getD i 0) = k
            · have e1 : pOft m g y k i = true := decide_eq_true e
              simp (disch := omega) only [zM_often_l30_b, jRR_L hR1, jm_wordAt hg hR1 hy hi, jRN_K hN1, jcnS1 e1, ir_let, jn_lt, jn_le, jn_in, jn_inj, jn_ne_m, jm_ne_n, jm_eq_m, jm_lt, jm_le, jn_lt_m, jn_le_m, jn_add, jn_mul, jn_clamp, jo_some, jn_min, jn_max, ↓jlm, jl0, jl1, jl2, jl3, jl4, jl5, jl6, jl7, jl8, jl9, jl10, jl11, jl12, jl13, jl14, jl15, jl16, jl20, jl24, jl32, jl39, jl40, jl41, jl60, jl61, jl80, jl96, jl97, jl99, jl100, jl122, jl126, jl199, jl200, jl205, jl206, jl255, jl256, jl410, jl700, jl950, jl1000, jl1000000, jl4000, jl8240, jl32767, if_pos, if_neg, ↓reduceIte, Option.bind_some, not_true_eq_false, not_false_eq_true, Nat.not_lt, Nat.not_le]
            · have e1 : pOft m g y k i = false := decide_eq_false e
              simp (disch := omega) only [zM_often_l30_b, jRR_L hR1, jm_wordAt hg hR1 hy hi, jRN_K hN1, jcnS0 e1, ir_let, jn_lt, jn_le, jn_in, jn_inj, jn_ne_m, jm_ne_n, jm_eq_m, jm_lt, jm_le, jn_lt_m, jn_le_m, jn_add, jn_mul, jn_clamp, jo_some, jn_min, jn_max, ↓jlm, jl0, jl1, jl2, jl3, jl4, jl5, jl6, jl7, jl8, jl9, jl10, jl11, jl12, jl13, jl14, jl15, jl16, jl20, jl24, jl32, jl39, jl40, jl41, jl60, jl61, jl80, jl96, jl97, jl99, jl100, jl122, jl126, jl199, jl200, jl205, jl206, jl255, jl256, jl410, jl700, jl950, jl1000, jl1000000, jl4000, jl8240, jl32767, if_pos, if_neg, ↓reduceIte, Option.bind_some, not_true_eq_false, not_false_eq_true, Nat.not_lt, Nat.not_le]
              rfl
          · simp (disch := omega) only [zM_often_l30_b, jRR_L hR1, ir_let, jn_lt, jn_le, jn_in, jn_inj, jn_ne_m, jm_ne_n, jm_eq_m, jm_lt, jm_le, jn_lt_m, jn_le_m, jn_add, jn_mul, jn_clamp, jo_some, jn_min, jn_max, ↓jlm, jl0, jl1, jl2, jl3, jl4, jl5, jl6, jl7, jl8, jl9, jl10, jl11, jl12, jl13, jl14, jl15, jl16, jl20, jl24, jl32, jl39, jl40, jl41, jl60, jl61, jl80, jl96, jl97, jl99, jl100, jl122, jl126, jl199, jl200, jl205, jl206, jl255, jl256, jl410, jl700, jl950, jl1000, jl1000000, jl4000, jl8240, jl32767, if_pos, if_neg, ↓reduceIte, Option.bind_some, not_true_eq_false, not_false_eq_true, Nat.not_lt, Nat.not_le]
        simp only [jn0] at key
        simp only [zM_often, jm_isSaying1 hg hB hy, k1, key, ir_let, iq_sm, ir_sm, jzE, j10, Option.bind_some, ↓reduceIte, not_true_eq_false, not_false_eq_true]
    · have k1 := jm_isWhat0 (I := I) (x := z) (n := 7) (by omega) (fun ⟨k, h1, h2⟩ => hz ⟨k, by omega, h2⟩)
      rw [jn7] at k1
      refine jmke ?_ ?_
      · simp only [zO_often, jc_needSaying1 hg hG hy, jc_needKind0 hz, ir_let, iq_sm, ir_sm, jzE, j10, Option.bind_some, ↓reduceIte, not_true_eq_false, not_false_eq_true]
      · simp only [zM_often, jm_isSaying1 hg hB hy, k1, ir_let, iq_sm, ir_sm, jzE, j10, Option.bind_some, ↓reduceIte, not_true_eq_false, not_false_eq_true]
  · refine jmke ?_ ?_
    · simp only [zO_often, jc_needSaying0 hg hG hx, ir_let, iq_sm, ir_sm, jzE, j10, Option.bind_some, ↓reduceIte, not_true_eq_false, not_false_eq_true]
    · simp only [zM_often, jm_isSaying0 hg hB hx, ir_let, iq_sm, ir_sm, jzE, j10, Option.bind_some, ↓reduceIte, not_true_eq_false, not_false_eq_true]
def gTm (g : jGa) (y w : Nat) : Nat := jcn (gS g y).length (pTm g y w)
theorem jc_timesIn {I : iq_I} {m : jMu} {g : jGa} (hm : mOk m) (hg : gOk m g) (hG : jRG I 16 17 18 24 g) {y w : Nat} (hy : y < gY g) (hw : w < mW m) : zG_timesIn_16 (jn y) (jn w) I = some (jn (gTm g y w)) := by
  have h5 := hg.1
  have h14 := hm.2.1
  have h40 := hg.2.2.1 y hy
  have key : zG_timesIn_16_l19 (jn y) (jn w) I ir_F (jn 0, jn 0) = some (jn (gTm g y w)) := by
    refine js_seq (fun i => (jn (jcn i (pTm g y w)), jn i)) (gS g y).length _ (fun i hi => ?_) ?_ (gS g y).length 0 ir_F (by omega) (by unfold ir_F; omega)
    · have hw2 := hg.2.2.2.1 y i hy hi
      by_cases e : (gS g y).getD i 0 = w
      · have e1 : pTm g y w i = true := decide_eq_true e
        simp (disch := omega) only [zG_timesIn_16_l19_b, jRG_L hG, jRG_W hG, jcnS1 e1, ir_let, jn_lt, jn_le, jn_in, jn_inj, jn_ne_m, jm_ne_n, jm_eq_m, jm_lt, jm_le, jn_lt_m, jn_le_m, jn_add, jn_mul, jn_clamp, jo_some, jn_min, jn_max, ↓jlm, jl0, jl1, jl2, jl3, jl4, jl5, jl6, jl7, jl8, jl9, jl10, jl11, jl12, jl13, jl14, jl15, jl16, jl20, jl24, jl32, jl39, jl40, jl41, jl60, jl61, jl80, jl96, jl97, jl99, jl100, jl122, jl126, jl199, jl200, jl205, jl206, jl255, jl256, jl410, jl700, jl950, jl1000, jl1000000, jl4000, jl8240, jl32767, if_pos, if_neg, ↓reduceIte, Option.bind_some, not_true_eq_false, not_false_eq_true, Nat.not_lt, Nat.not_le]
      · have e1 : pTm g y w i = false := decide_eq_false e
        simp (disch := omega) only [zG_timesIn_16_l19_b, jRG_L hG, jRG_W hG, jcnS0 e1, ir_let, jn_lt, jn_le, jn_in, jn_inj, jn_ne_m, jm_ne_n, jm_eq_m, jm_lt, jm_le, jn_lt_m, jn_le_m, jn_add, jn_mul, jn_clamp, jo_some, jn_min, jn_max, ↓jlm, jl0, jl1, jl2, jl3, jl4, jl5, jl6, jl7, jl8, jl9, jl10, jl11, jl12, jl13, jl14, jl15, jl16, jl20, jl24, jl32, jl39, jl40, jl41, jl60, jl61, jl80, jl96, jl97, jl99, jl100, jl122, jl126, jl199, jl200, jl205, jl206, jl255, jl256, jl410, jl700, jl950, jl1000, jl1000000, jl4000, jl8240, jl32767, if_pos, if_neg, ↓reduceIte, Option.bind_some, not_true_eq_false, not_false_eq_true, Nat.not_lt, Nat.not_le]
    · simp (disch := omega) only [zG_timesIn_16_l19_b, jRG_L hG, ir_let, jn_lt, jn_le, jn_in, jn_inj, jn_ne_m, jm_ne_n, jm_eq_m, jm_lt, jm_le, jn_lt_m, jn_le_m, jn_add, jn_mul, jn_clamp, jo_some, jn_min, jn_max, ↓jlm, jl0, jl1, jl2, jl3, jl4, jl5, jl6, jl7, jl8, jl9, jl10, jl11, jl12, jl13, jl14, jl15, jl16, jl20, jl24, jl32, jl39, jl40, jl41, jl60, jl61, jl80, jl96, jl97, jl99, jl100, jl122, jl126, jl199, jl200, jl205, jl206, jl255, jl256, jl410, jl700, jl950, jl1000, jl1000000, jl4000, jl8240, jl32767, if_pos, if_neg, ↓reduceIte, Option.bind_some, not_true_eq_false, not_false_eq_true, Nat.not_lt, Nat.not_le]
      rfl
  simp (disch := omega) only [zG_timesIn_16, jRG_Y hG, key, ir_let, jn_lt, jn_le, jn_in, jn_inj, jn_ne_m, jm_ne_n, jm_eq_m, jm_lt, jm_le, jn_lt_m, jn_le_m, jn_add, jn_mul, jn_clamp, jo_some, jn_min, jn_max, ↓jlm, jl0, jl1, jl2, jl3, jl4, jl5, jl6, jl7, jl8, jl9, jl10, jl11, jl12, jl13, jl14, jl15, jl16, jl20, jl24, jl32, jl39, jl40, jl41, jl60, jl61, jl80, jl96, jl97, jl99, jl100, jl122, jl126, jl199, jl200, jl205, jl206, jl255, jl256, jl410, jl700, jl950, jl1000, jl1000000, jl4000, jl8240, jl32767, if_pos, if_neg, ↓reduceIte, Option.bind_some, not_true_eq_false, not_false_eq_true, Nat.not_lt, Nat.not_le]
theorem gTm_le {m : jMu} {g : jGa} (hg : gOk m g) {y w : Nat} (hy : y < gY g) : gTm g y w ≤ 40 := Nat.le_trans jcn_le (hg.2.2.1 y hy)
theorem jq_about {I : iq_I} (hI : jInv I) (x : Int32) (X : iq_X) : ∃ r X1 b I2, zO_about x I X = some (r, X1) ∧ zM_about x I = some (b, I2) ∧ jag I I2 ∧ jXo X X1 ∧ jAns r b (I2 76 0) := by
  obtain ⟨m, g, hm, hU, hN, hB, hA, -⟩ := hI
  obtain ⟨hg, hG, hR, -, -⟩ := hA
  have h10 := hm.1
  have h14 := hm.2.1
  have h5 := hg.1
  by_cases hx : ∃ s, s < mW m ∧ x = jn s
  · obtain ⟨w, hw, rfl⟩ := hx
    have hN1 := jRN_ag hN (jz_ag I)
    have hB1 := jRB_ag hB (jz_ag I)
    have hR1 := jRR_ag hR (jz_ag I)
    refine jmk (jb (gY g) (pAb g w)) ?_ ⟨jz I, ?_, jz_ag I, rfl⟩
    · have key : zO_about_l9 (jn w) I X ir_F (jn 0, jn 0) = some (jb (gY g) (pAb g w)) := by
        refine js_seq (fun i => (jb i (pAb g w), jn i)) (gY g) _ (fun y hy => ?_) ?_ (gY g) 0 ir_F (by omega) (by unfold ir_F; omega)
        · have hl := gTm_le (w := w) hg hy
          cases e : jex (gS g y).length (pTm g y w) with
          | true =>
            have e1 : pAb g w y = true := e
            have e2 : 0 < gTm g y w := jcn_pos (jex_iff.mp e)
            simp (disch := omega) only [zO_about_l9_b, jRG_Y hG, jc_timesIn hm hg hG hy hw, jbS1 e1, ir_let, jn_lt, jn_le, jn_in, jn_inj, jn_ne_m, jm_ne_n, jm_eq_m, jm_lt, jm_le, jn_lt_m, jn_le_m, jn_add, jn_mul, jn_clamp, jo_some, jn_min, jn_max, ↓jlm, jl0, jl1, jl2, jl3, jl4, jl5, jl6, jl7, jl8, jl9, jl10, jl11, jl12, jl13, jl14, jl15, jl16, jl20, jl24, jl32, jl39, jl40, jl41, jl60, jl61, jl80, jl96, jl97, jl99, jl100, jl122, jl126, jl199, jl200, jl205, jl206, jl255, jl256, jl410, jl700, jl950, jl1000, jl1000000, jl4000, jl8240, jl32767, if_pos, if_neg, ↓reduceIte, Option.bind_some, not_true_eq_false, not_false_eq_true, Nat.not_lt, Nat.not_le]
          | false =>
            have e1 : pAb g w y = false := e
            have e2 : gTm g y w = 0 := by
              have h1 := jcn_mono (n := (gS g y).length) (P := pTm g y w) (Q := fun _ => false) (fun j hj h => by rw [jex_f.mp e j hj] at h; exact h)
              have h2 : ∀ n, jcn n (fun _ => false) = 0 := fun n => by
                induction n with
                | zero => rfl
                | succ n ih => rw [jcnS0 rfl, ih]
              rw [h2] at h1
              unfold gTm; omega
            simp (disch := omega) only [zO_about_l9_b, jRG_Y hG, jc_timesIn hm hg hG hy hw, jbS0 e1, e2, ir_let, jn_lt, jn_le, jn_in, jn_inj, jn_ne_m, jm_ne_n, jm_eq_m, jm_lt, jm_le, jn_lt_m, jn_le_m, jn_add, jn_mul, jn_clamp, jo_some, jn_min, jn_max, ↓jlm, jl0, jl1, jl2, jl3, jl4, jl5, jl6, jl7, jl8, jl9, jl10, jl11, jl12, jl13, jl14, jl15, jl16, jl20, jl24, jl32, jl39, jl40, jl41, jl60, jl61, jl80, jl96, jl97, jl99, jl100, jl122, jl126, jl199, jl200, jl205, jl206, jl255, jl256, jl410, jl700, jl950, jl1000, jl1000000, jl4000, jl8240, jl32767, if_pos, if_neg, ↓reduceIte, Option.bind_some, not_true_eq_false, not_false_eq_true, Nat.not_lt, Nat.not_le]
        · simp (disch := omega) only [zO_about_l9_b, jRG_Y hG, ir_let, jn_lt, jn_le, jn_in, jn_inj, jn_ne_m, jm_ne_n, jm_eq_m, jm_lt, jm_le, jn_lt_m, jn_le_m, jn_add, jn_mul, jn_clamp, jo_some, jn_min, jn_max, ↓jlm, jl0, jl1, jl2, jl3, jl4, jl5, jl6, jl7, jl8, jl9, jl10, jl11, jl12, jl13, jl14, jl15, jl16, jl20, jl24, jl32, jl39, jl40, jl41, jl60, jl61, jl80, jl96, jl97, jl99, jl100, jl122, jl126, jl199, jl200, jl205, jl206, jl255, jl256, jl410, jl700, jl950, jl1000, jl1000000, jl4000, jl8240, jl32767, if_pos, if_neg, ↓reduceIte, Option.bind_some, not_true_eq_false, not_false_eq_true, Nat.not_lt, Nat.not_le]
      simp only [jn0] at key
      simp only [zO_about, jc_needWord1 hm hU hw, key, ir_let, iq_sm, ir_sm, jzE, j10, Option.bind_some, ↓reduceIte, not_true_eq_false, not_false_eq_true]
    · have inner : ∀ (y : Nat) (hy : y < gY g) (P : Nat → Bool), zM_about_l30 (jn w) (jn y) (jz I) ir_F (jb (gY g) P, jn 0) = some (jb (gY g) fun j => P j || (decide (j = y) && jex (gS g y).length (pTm g y w))) := by
        intro y hy P
        have h40 := hg.2.2.1 y hy
        have E : ((jb (gY g) P, jn 0) : Int32 × Int32) = (fun k => (jb (gY g) fun j => P j || (decide (j = y) && jex k (pTm g y w)), jn k)) 0 := by
          refine congrArg (fun z => (z, jn 0)) (jb_ext fun j _ => ?_)
          rw [jex_0]; simp
        rw [E]
        refine js_seq (fun k => (jb (gY g) fun j => P j || (decide (j = y) && jex k (pTm g y w)), jn k)) (gS g y).length _ (fun i hi => ?_) ?_ (gS g y).length 0 ir_F (by omega) (by unfold ir_F; omega)
        · have hw2 := hg.2.2.2.1 y i hy hi
          by_cases e : (gS g y).getD i 0 = w
          · simp (disch := omega) only [zM_about_l30_b, jRR_L hR1, jm_wordAt hg hR1 hy hi, e, jq_set, ir_let, jn_lt, jn_le, jn_in, jn_inj, jn_ne_m, jm_ne_n, jm_eq_m, jm_lt, jm_le, jn_lt_m, jn_le_m, jn_add, jn_mul, jn_clamp, jo_some, jn_min, jn_max, ↓jlm, jl0, jl1, jl2, jl3, jl4, jl5, jl6, jl7, jl8, jl9, jl10, jl11, jl12, jl13, jl14, jl15, jl16, jl20, jl24, jl32, jl39, jl40, jl41, jl60, jl61, jl80, jl96, jl97, jl99, jl100, jl122, jl126, jl199, jl200, jl205, jl206, jl255, jl256, jl410, jl700, jl950, jl1000, jl1000000, jl4000, jl8240, jl32767, if_pos, if_neg, ↓reduceIte, Option.bind_some, not_true_eq_false, not_false_eq_true, Nat.not_lt, Nat.not_le]
            congr 3
            refine jb_ext fun j _ => ?_
            rw [jex_s, show pTm g y w i = true from decide_eq_true e]
            by_cases ej : j = y
            · simp [ej]
            · simp [ej]
          · simp (disch := omega) only [zM_about_l30_b, jRR_L hR1, jm_wordAt hg hR1 hy hi, ir_let, jn_lt, jn_le, jn_in, jn_inj, jn_ne_m, jm_ne_n, jm_eq_m, jm_lt, jm_le, jn_lt_m, jn_le_m, jn_add, jn_mul, jn_clamp, jo_some, jn_min, jn_max, ↓jlm, jl0, jl1, jl2, jl3, jl4, jl5, jl6, jl7, jl8, jl9, jl10, jl11, jl12, jl13, jl14, jl15, jl16, jl20, jl24, jl32, jl39, jl40, jl41, jl60, jl61, jl80, jl96, jl97, jl99, jl100, jl122, jl126, jl199, jl200, jl205, jl206, jl255, jl256, jl410, jl700, jl950, jl1000, jl1000000, jl4000, jl8240, jl32767, if_pos, if_neg, ↓reduceIte, Option.bind_some, not_true_eq_false, not_false_eq_true, Nat.not_lt, Nat.not_le]
            congr 3
            show _ ||| (0 : Int32) = _
            rw [Int32.or_zero]
            refine jb_ext fun j _ => ?_
            rw [jex_s, show pTm g y w i = false from decide_eq_false e]
            simp
        · simp (disch := omega) only [zM_about_l30_b, jRR_L hR1, ir_let, jn_lt, jn_le, jn_in, jn_inj, jn_ne_m, jm_ne_n, jm_eq_m, jm_lt, jm_le, jn_lt_m, jn_le_m, jn_add, jn_mul, jn_clamp, jo_some, jn_min, jn_max, ↓jlm, jl0, jl1, jl2, jl3, jl4, jl5, jl6, jl7, jl8, jl9, jl10, jl11, jl12, jl13, jl14, jl15, jl16, jl20, jl24, jl32, jl39, jl40, jl41, jl60, jl61, jl80, jl96, jl97, jl99, jl100, jl122, jl126, jl199, jl200, jl205, jl206, jl255, jl256, jl410, jl700, jl950, jl1000, jl1000000, jl4000, jl8240, jl32767, if_pos, if_neg, ↓reduceIte, Option.bind_some, not_true_eq_false, not_false_eq_true, Nat.not_lt, Nat.not_le]
      have key : zM_about_l19 (jn w) (jz I) ir_F (jn 0, jn 0) = some (jb (gY g) (pAb g w)) := by
        have E : ((jn 0, jn 0) : Int32 × Int32) = (fun k => (jb (gY g) fun j => decide (j < k) && jex (gS g j).length (pTm g j w), jn k)) 0 := by
          show ((0 : Int32), jn 0) = _
          rw [jb_0 (n := gY g) (by omega)]
          exact congrArg (fun z => (z, jn 0)) (jb_ext fun j _ => by simp)
        rw [E]
        refine js_seq (fun k => (jb (gY g) fun j => decide (j < k) && jex (gS g j).length (pTm g j w), jn k)) (gY g) _ (fun y hy => ?_) ?_ (gY g) 0 ir_F (by omega) (by unfold ir_F; omega)
        · simp (disch := omega) only [zM_about_l19_b, hB1.1, inner y hy, ir_let, jn_lt, jn_le, jn_in, jn_inj, jn_ne_m, jm_ne_n, jm_eq_m, jm_lt, jm_le, jn_lt_m, jn_le_m, jn_add, jn_mul, jn_clamp, jo_some, jn_min, jn_max, ↓jlm, jl0, jl1, jl2, jl3, jl4, jl5, jl6, jl7, jl8, jl9, jl10, jl11, jl12, jl13, jl14, jl15, jl16, jl20, jl24, jl32, jl39, jl40, jl41, jl60, jl61, jl80, jl96, jl97, jl99, jl100, jl122, jl126, jl199, jl200, jl205, jl206, jl255, jl256, jl410, jl700, jl950, jl1000, jl1000000, jl4000, jl8240, jl32767, if_pos, if_neg, ↓reduceIte, Option.bind_some, not_true_eq_false, not_false_eq_true, Nat.not_lt, Nat.not_le]
          congr 3
          refine jb_ext fun j _ => ?_
          by_cases ej : j = y
          · subst ej; simp
          · have : decide (j < y + 1) = decide (j < y) := by
              by_cases h : j < y
              · simp [h]; omega
              · simp [h]; omega
            rw [this]; simp [ej]
        · simp (disch := omega) only [zM_about_l19_b, hB1.1, ir_let, jn_lt, jn_le, jn_in, jn_inj, jn_ne_m, jm_ne_n, jm_eq_m, jm_lt, jm_le, jn_lt_m, jn_le_m, jn_add, jn_mul, jn_clamp, jo_some, jn_min, jn_max, ↓jlm, jl0, jl1, jl2, jl3, jl4, jl5, jl6, jl7, jl8, jl9, jl10, jl11, jl12, jl13, jl14, jl15, jl16, jl20, jl24, jl32, jl39, jl40, jl41, jl60, jl61, jl80, jl96, jl97, jl99, jl100, jl122, jl126, jl199, jl200, jl205, jl206, jl255, jl256, jl410, jl700, jl950, jl1000, jl1000000, jl4000, jl8240, jl32767, if_pos, if_neg, ↓reduceIte, Option.bind_some, not_true_eq_false, not_false_eq_true, Nat.not_lt, Nat.not_le]
          congr 2
          exact jb_ext fun j hj => by simp [hj, pAb]
      simp only [jn0] at key
      simp only [zM_about, jm_isWord1 hm hN hw, key, ir_let, iq_sm, ir_sm, jzE, j10, Option.bind_some, ↓reduceIte, not_true_eq_false, not_false_eq_true]
  · refine jmke ?_ ?_
    · simp only [zO_about, jc_needWord0 hm hU hx, ir_let, iq_sm, ir_sm, jzE, j10, Option.bind_some, ↓reduceIte, not_true_eq_false, not_false_eq_true]
    · simp only [zM_about, jm_isWord0 hm hN hx, ir_let, iq_sm, ir_sm, jzE, j10, Option.bind_some, ↓reduceIte, not_true_eq_false, not_false_eq_true]
