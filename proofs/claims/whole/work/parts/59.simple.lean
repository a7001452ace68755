/-! ===== kind, arc, crimes, begun, cost, often, about ===== -/
theorem jbS1 {P : Nat → Bool} {i : Nat} (h : P i = true) : jb i P ||| (jn 1 <<< (jn i &&& 31)) = jb (i + 1) P := by
  conv => rhs; unfold jb
  rw [if_pos h]; rfl
theorem jbS0 {P : Nat → Bool} {i : Nat} (h : P i = false) : jb (i + 1) P = jb i P := by
  conv => lhs; unfold jb
  rw [if_neg (by simp [h])]
theorem jbSz {P : Nat → Bool} {i : Nat} (h : P i = false) : jb i P ||| jn 0 = jb (i + 1) P := by
  rw [jbS0 h]; exact Int32.or_zero
theorem jcnS1 {P : Nat → Bool} {i : Nat} (h : P i = true) : jcn (i + 1) P = jcn i P + 1 := by
  conv => lhs; unfold jcn
  rw [if_pos h]
theorem jcnS0 {P : Nat → Bool} {i : Nat} (h : P i = false) : jcn (i + 1) P = jcn i P := by
  conv => lhs; unfold jcn
  rw [if_neg (by simp [h])]; rfl
theorem jq_kind {I : iq_I} (hI : jInv I) (x : Int32) (X : iq_X) : ∃ r X1 b I2, zO_kind x I X = some (r, X1) ∧ zM_kind x I = some (b, I2) ∧ jag I I2 ∧ jXo X X1 ∧ jAns r b (I2 76 0) := by
  obtain ⟨m, g, hm, hU, hN, hB, hA, -⟩ := hI
  have h14 := hm.2.1
  by_cases hx : ∃ s, s < mW m ∧ x = jn s
  · obtain ⟨w, hw, rfl⟩ := hx
    refine jmk (jn (mK m w)) ?_ ⟨jz I, ?_, jz_ag I, rfl⟩
    · simp (disch := omega) only [zO_kind, jc_needWord1 hm hU hw, ir_let, iq_sm, ir_sm, jzE, j10, Option.bind_some, ↓reduceIte, not_true_eq_false, not_false_eq_true, jRU_K hU, ir_let, jn_lt, jn_le, jn_in, jn_inj, jn_ne_m, jm_ne_n, jm_eq_m, jm_lt, jm_le, jn_lt_m, jn_le_m, jn_add, jn_mul, jn_clamp, jo_some, jn_min, jn_max, ↓jlm, jl0, jl1, jl2, jl3, jl4, jl5, jl6, jl7, jl8, jl9, jl10, jl11, jl12, jl13, jl14, jl15, jl16, jl20, jl24, jl32, jl39, jl40, jl41, jl60, jl61, jl80, jl96, jl97, jl99, jl100, jl122, jl126, jl199, jl200, jl205, jl206, jl255, jl256, jl410, jl700, jl950, jl1000, jl1000000, jl4000, jl8240, jl32767, if_pos, if_neg, ↓reduceIte, Option.bind_some, not_true_eq_false, not_false_eq_true, Nat.not_lt, Nat.not_le]
    · simp (disch := omega) only [zM_kind, jm_isWord1 hm hN hw, ir_let, iq_sm, ir_sm, jzE, j10, Option.bind_some, ↓reduceIte, not_true_eq_false, not_false_eq_true, jRN_K (jRN_ag hN (jz_ag I)), jn_in, jn_clamp, if_pos]
  · refine jmke ?_ ?_
    · simp only [zO_kind, jc_needWord0 hm hU hx, ir_let, iq_sm, ir_sm, jzE, j10, Option.bind_some, ↓reduceIte, not_true_eq_false, not_false_eq_true]
    · simp only [zM_kind, jm_isWord0 hm hN hx, ir_let, iq_sm, ir_sm, jzE, j10, Option.bind_some, ↓reduceIte, not_true_eq_false, not_false_eq_true]
theorem jn7 : jn 7 = (7 : Int32) := rfl
theorem jq_arc {I : iq_I} (hI : jInv I) (x y : Int32) (X : iq_X) : ∃ r X1 b I2, zO_arc x y I X = some (r, X1) ∧ zM_arc x y I = some (b, I2) ∧ jag I I2 ∧ jXo X X1 ∧ jAns r b (I2 76 0) := by
  obtain ⟨m, g, hm, hU, hN, hB, hA, -⟩ := hI
  have h10 := hm.1
  by_cases hx : ∃ s, s < mS m ∧ x = jn s
  · obtain ⟨s, hs, rfl⟩ := hx
    by_cases hy : ∃ k, k < 8 ∧ y = jn k
    · obtain ⟨k, hk, rfl⟩ := hy
      have k1 := jm_isWhat1 (I := I) (k := k) (n := 7) (by omega) (by omega)
      rw [jn7] at k1
      refine jmk (jo (mR m s k)) ?_ ⟨jz I, ?_, jz_ag I, rfl⟩
      · simp only [zO_arc, jc_needState1 hm hU hs, jc_needKind1 hk, jc_leadsBy hm hU hs hk, ir_let, iq_sm, ir_sm, jzE, j10, Option.bind_some, ↓reduceIte, not_true_eq_false, not_false_eq_true]
      · simp (disch := omega) only [zM_arc, jm_isState1 hm hN hs, k1, ir_let, iq_sm, ir_sm, jzE, j10, Option.bind_some, ↓reduceIte, not_true_eq_false, not_false_eq_true, jl8, jn_mul, jn_add, jn_in, jn_clamp, if_pos, jRN_R (jRN_ag hN (jz_ag I))]
    · have k1 := jm_isWhat0 (I := I) (x := y) (n := 7) (by omega) (fun ⟨k, h1, h2⟩ => hy ⟨k, by omega, h2⟩)
      rw [jn7] at k1
      refine jmke ?_ ?_
      · simp only [zO_arc, jc_needState1 hm hU hs, jc_needKind0 hy, ir_let, iq_sm, ir_sm, jzE, j10, Option.bind_some, ↓reduceIte, not_true_eq_false, not_false_eq_true]
      · simp only [zM_arc, jm_isState1 hm hN hs, k1, ir_let, iq_sm, ir_sm, jzE, j10, Option.bind_some, ↓reduceIte, not_true_eq_false, not_false_eq_true]
  · refine jmke ?_ ?_
    · simp only [zO_arc, jc_needState0 hm hU hx, ir_let, iq_sm, ir_sm, jzE, j10, Option.bind_some, ↓reduceIte, not_true_eq_false, not_false_eq_true]
    · simp only [zM_arc, jm_isState0 hm hN hx, ir_let, iq_sm, ir_sm, jzE, j10, Option.bind_some, ↓reduceIte, not_true_eq_false, not_false_eq_true]
/-- some word can follow -/
def mFol (m : jMu) (s : Nat) : Bool := jex (mW m) fun w => (mLd m s w).isSome
def jB (b : Bool) : Int32 := if b = true then 1 else 0
theorem mFol_k {m : jMu} (hm : mOk m) (s : Nat) : mFol m s = jex 8 fun k => mTold m k && (mR m s k).isSome := by
  rw [Bool.eq_iff_iff]
  simp only [mFol, mTold, jex_iff, Bool.and_eq_true, mLd]
  constructor
  · rintro ⟨w, h1, h2⟩
    exact ⟨mK m w, (hm.2.2.1 w h1).2.2, ⟨w, h1, decide_eq_true rfl⟩, h2⟩
  · rintro ⟨k, h1, ⟨w, h2, h3⟩, h4⟩
    have h3 := of_decide_eq_true h3
    subst h3
    exact ⟨w, h2, h4⟩
theorem jc_someFollows {I : iq_I} {m : jMu} (hm : mOk m) (h : jRU I m) {s : Nat} (hs : s < mS m) : zU_someFollows (jn s) I = some (jB (mFol m s)) := by
  rw [mFol_k hm]
  have key : zU_someFollows_l2 (jn s) I ir_F (jn 0) = some (match gFst (fun k => mTold m k && (mR m s k).isSome) 8 0 with
      | some _ => .inr 1
      | none => .inl ()) := by
    have st : ∀ i, i < 8 → (mTold m i && (mR m s i).isSome) = false → zU_someFollows_l2_b (jn s) I (jn i) = some (.inl (jn (i + 1))) := fun i hi hf => by
      cases h1 : mTold m i with
      | false => simp (disch := omega) only [zU_someFollows_l2_b, jRU_t h, jq_bit, jq_jb, h1, ir_let, jn_lt, jn_le, jn_in, jn_inj, jn_ne_m, jm_ne_n, jm_eq_m, jm_lt, jm_le, jn_lt_m, jn_le_m, jn_add, jn_mul, jn_clamp, jo_some, jn_min, jn_max, ↓jlm, jl0, jl1, jl2, jl3, jl4, jl5, jl6, jl7, jl8, jl9, jl10, jl11, jl12, jl13, jl14, jl15, jl16, jl20, jl24, jl32, jl39, jl40, jl41, jl60, jl61, jl80, jl96, jl97, jl99, jl100, jl122, jl126, jl199, jl200, jl205, jl206, jl255, jl256, jl410, jl700, jl950, jl1000, jl1000000, jl4000, jl8240, jl32767, if_pos, if_neg, ↓reduceIte, Option.bind_some, not_true_eq_false, not_false_eq_true, Nat.not_lt, Nat.not_le]
      | true =>
        rw [h1, Bool.true_and] at hf
        have h2 : mR m s i = none := by
          cases e : mR m s i with
          | none => rfl
          | some t => rw [e] at hf; cases hf
        simp (disch := omega) only [zU_someFollows_l2_b, jRU_t h, jq_bit, jq_jb, h1, jc_leadsBy hm h hs, h2, ir_let, jn_lt, jn_le, jn_in, jn_inj, jn_ne_m, jm_ne_n, jm_eq_m, jm_lt, jm_le, jn_lt_m, jn_le_m, jn_add, jn_mul, jn_clamp, jo_some, jn_min, jn_max, ↓jlm, jl0, jl1, jl2, jl3, jl4, jl5, jl6, jl7, jl8, jl9, jl10, jl11, jl12, jl13, jl14, jl15, jl16, jl20, jl24, jl32, jl39, jl40, jl41, jl60, jl61, jl80, jl96, jl97, jl99, jl100, jl122, jl126, jl199, jl200, jl205, jl206, jl255, jl256, jl410, jl700, jl950, jl1000, jl1000000, jl4000, jl8240, jl32767, if_pos, if_neg, ↓reduceIte, Option.bind_some, not_true_eq_false, not_false_eq_true, Nat.not_lt, Nat.not_le, Bool.true_eq_false]
    rcases gFst_sp (P := fun k => mTold m k && (mR m s k).isSome) (c := 8) (i := 0) with ⟨h1, h2⟩ | ⟨e, h1, _, h3, h4, h5⟩
    · rw [h1]
      refine js_seq (fun i => jn i) 8 _ (fun i hi => st i hi (h2 i (by omega) (by omega))) ?_ 8 0 ir_F (by omega) (by unfold ir_F; omega)
      simp (disch := omega) only [zU_someFollows_l2_b, ir_let, jn_lt, jn_le, jn_in, jn_inj, jn_ne_m, jm_ne_n, jm_eq_m, jm_lt, jm_le, jn_lt_m, jn_le_m, jn_add, jn_mul, jn_clamp, jo_some, jn_min, jn_max, ↓jlm, jl0, jl1, jl2, jl3, jl4, jl5, jl6, jl7, jl8, jl9, jl10, jl11, jl12, jl13, jl14, jl15, jl16, jl20, jl24, jl32, jl39, jl40, jl41, jl60, jl61, jl80, jl96, jl97, jl99, jl100, jl122, jl126, jl199, jl200, jl205, jl206, jl255, jl256, jl410, jl700, jl950, jl1000, jl1000000, jl4000, jl8240, jl32767, if_pos, if_neg, ↓reduceIte, Option.bind_some, not_true_eq_false, not_false_eq_true, Nat.not_lt, Nat.not_le]
    · rw [h1]
      refine js_seq (fun i => jn i) e _ (fun i hi => st i (by omega) (h5 i (by omega) hi)) ?_ e 0 ir_F (by omega) (by unfold ir_F; omega)
      simp only [Bool.and_eq_true] at h4
      obtain ⟨t, ht⟩ := Option.isSome_iff_exists.mp h4.2
      have ht2 := hm.2.2.2.1 s e t hs (by omega) ht
      have h10 := hm.1
      simp (disch := omega) only [zU_someFollows_l2_b, jRU_t h, jq_bit, jq_jb, h4.1, jc_leadsBy hm h hs, ht, ir_let, jn_lt, jn_le, jn_in, jn_inj, jn_ne_m, jm_ne_n, jm_eq_m, jm_lt, jm_le, jn_lt_m, jn_le_m, jn_add, jn_mul, jn_clamp, jo_some, jn_min, jn_max, ↓jlm, jl0, jl1, jl2, jl3, jl4, jl5, jl6, jl7, jl8, jl9, jl10, jl11, jl12, jl13, jl14, jl15, jl16, jl20, jl24, jl32, jl39, jl40, jl41, jl60, jl61, jl80, jl96, jl97, jl99, jl100, jl122, jl126, jl199, jl200, jl205, jl206, jl255, jl256, jl410, jl700, jl950, jl1000, jl1000000, jl4000, jl8240, jl32767, if_pos, if_neg, ↓reduceIte, Option.bind_some, not_true_eq_false, not_false_eq_true, Nat.not_lt, Nat.not_le, Bool.true_eq_false]
  simp only [jn0] at key
  simp only [zU_someFollows, key, ir_let, iq_sm, ir_sm, jzE, j10, Option.bind_some, ↓reduceIte, not_true_eq_false, not_false_eq_true]
  rcases gFst_sp (P := fun k => mTold m k && (mR m s k).isSome) (c := 8) (i := 0) with ⟨h1, h2⟩ | ⟨e, h1, _, h3, h4, h5⟩
  · rw [h1, jex_f.mpr fun k hk => h2 k (by omega) (by omega)]; rfl
  · rw [h1, jex_iff.mpr ⟨e, by omega, h4⟩]; rfl
theorem jm_canFollow {I : iq_I} {m : jMu} (hm : mOk m) (h : jRN I m) {s : Nat} (hs : s < mS m) : zM_canFollow (jn s) I = some (jB (mFol m s)) := by
  have h14 := hm.2.1
  have h10 := hm.1
  have key : zM_canFollow_l2 (jn s) I ir_F (jn 0) = some (match gFst (fun w => (mLd m s w).isSome) (mW m) 0 with
      | some _ => .inr 1
      | none => .inl ()) := by
    have st : ∀ i, i < mW m → ((mLd m s i).isSome) = false → zM_canFollow_l2_b (jn s) I (jn i) = some (.inl (jn (i + 1))) := fun i hi hf => by
      have h2 : mLd m s i = none := by
        cases e : mLd m s i with
        | none => rfl
        | some t => rw [e] at hf; cases hf
      simp (disch := omega) only [zM_canFollow_l2_b, jRN_W h, jm_leads hm h hs, h2, ir_let, jn_lt, jn_le, jn_in, jn_inj, jn_ne_m, jm_ne_n, jm_eq_m, jm_lt, jm_le, jn_lt_m, jn_le_m, jn_add, jn_mul, jn_clamp, jo_some, jn_min, jn_max, ↓jlm, jl0, jl1, jl2, jl3, jl4, jl5, jl6, jl7, jl8, jl9, jl10, jl11, jl12, jl13, jl14, jl15, jl16, jl20, jl24, jl32, jl39, jl40, jl41, jl60, jl61, jl80, jl96, jl97, jl99, jl100, jl122, jl126, jl199, jl200, jl205, jl206, jl255, jl256, jl410, jl700, jl950, jl1000, jl1000000, jl4000, jl8240, jl32767, if_pos, if_neg, ↓reduceIte, Option.bind_some, not_true_eq_false, not_false_eq_true, Nat.not_lt, Nat.not_le]
    rcases gFst_sp (P := fun w => (mLd m s w).isSome) (c := mW m) (i := 0) with ⟨h1, h2⟩ | ⟨e, h1, _, h3, h4, h5⟩
    · rw [h1]
      refine js_seq (fun i => jn i) (mW m) _ (fun i hi => st i hi (h2 i (by omega) (by omega))) ?_ (mW m) 0 ir_F (by omega) (by unfold ir_F; omega)
      simp (disch := omega) only [zM_canFollow_l2_b, jRN_W h, ir_let, jn_lt, jn_le, jn_in, jn_inj, jn_ne_m, jm_ne_n, jm_eq_m, jm_lt, jm_le, jn_lt_m, jn_le_m, jn_add, jn_mul, jn_clamp, jo_some, jn_min, jn_max, ↓jlm, jl0, jl1, jl2, jl3, jl4, jl5, jl6, jl7, jl8, jl9, jl10, jl11, jl12, jl13, jl14, jl15, jl16, jl20, jl24, jl32, jl39, jl40, jl41, jl60, jl61, jl80, jl96, jl97, jl99, jl100, jl122, jl126, jl199, jl200, jl205, jl206, jl255, jl256, jl410, jl700, jl950, jl1000, jl1000000, jl4000, jl8240, jl32767, if_pos, if_neg, ↓reduceIte, Option.bind_some, not_true_eq_false, not_false_eq_true, Nat.not_lt, Nat.not_le]
    · rw [h1]
      refine js_seq (fun i => jn i) e _ (fun i hi => st i (by omega) (h5 i (by omega) hi)) ?_ e 0 ir_F (by omega) (by unfold ir_F; omega)
      obtain ⟨t, ht⟩ := Option.isSome_iff_exists.mp h4
      have ht2 := mLd_lt hm hs (by omega) ht
      simp (disch := omega) only [zM_canFollow_l2_b, jRN_W h, jm_leads hm h hs, ht, ir_let, jn_lt, jn_le, jn_in, jn_inj, jn_ne_m, jm_ne_n, jm_eq_m, jm_lt, jm_le, jn_lt_m, jn_le_m, jn_add, jn_mul, jn_clamp, jo_some, jn_min, jn_max, ↓jlm, jl0, jl1, jl2, jl3, jl4, jl5, jl6, jl7, jl8, jl9, jl10, jl11, jl12, jl13, jl14, jl15, jl16, jl20, jl24, jl32, jl39, jl40, jl41, jl60, jl61, jl80, jl96, jl97, jl99, jl100, jl122, jl126, jl199, jl200, jl205, jl206, jl255, jl256, jl410, jl700, jl950, jl1000, jl1000000, jl4000, jl8240, jl32767, if_pos, if_neg, ↓reduceIte, Option.bind_some, not_true_eq_false, not_false_eq_true, Nat.not_lt, Nat.not_le]
  simp only [jn0] at key
  simp only [zM_canFollow, key, ir_let, iq_sm, ir_sm, jzE, j10, Option.bind_some, ↓reduceIte, not_true_eq_false, not_false_eq_true, mFol]
  rcases gFst_sp (P := fun w => (mLd m s w).isSome) (c := mW m) (i := 0) with ⟨h1, h2⟩ | ⟨e, h1, _, h3, h4, h5⟩
  · rw [h1, jex_f.mpr fun k hk => h2 k (by omega) (by omega)]; rfl
  · rw [h1, jex_iff.mpr ⟨e, by omega, h4⟩]; rfl
def mCr (m : jMu) (s w : Nat) : Bool := match mLd m s w with
  | none => false
  | some t => !mFol m t
theorem jB0 {b : Bool} : (jB b = jn 0) = (b = false) := by cases b <;> simp [jB, jn0]
theorem jq_crimes {I : iq_I} (hI : jInv I) (x : Int32) (X : iq_X) : ∃ r X1 b I2, zO_crimes x I X = some (r, X1) ∧ zM_crimes x I = some (b, I2) ∧ jag I I2 ∧ jXo X X1 ∧ jAns r b (I2 76 0) := by
  obtain ⟨m, g, hm, hU, hN, hB, hA, -⟩ := hI
  have h14 := hm.2.1
  have h10 := hm.1
  by_cases hx : ∃ s, s < mS m ∧ x = jn s
  · obtain ⟨s, hs, rfl⟩ := hx
    refine jmk (jb (mW m) (mCr m s)) ?_ ⟨jz I, ?_, jz_ag I, rfl⟩
    · have key : zP_deadEnds_l4 (jn s) I ir_F (jn 0, jn 0) = some (jb (mW m) (mCr m s)) := by
        refine js_seq (fun i => (jb i (mCr m s), jn i)) (mW m) _ (fun i hi => ?_) ?_ (mW m) 0 ir_F (by omega) (by unfold ir_F; omega)
        · cases hr : mLd m s i with
          | none =>
            have e : mCr m s i = false := by simp [mCr, hr]
            simp (disch := omega) only [zP_deadEnds_l4_b, jRU_W hU, jc_leadsTo hm hU hs, hr, jbS0 e, ir_let, jn_lt, jn_le, jn_in, jn_inj, jn_ne_m, jm_ne_n, jm_eq_m, jm_lt, jm_le, jn_lt_m, jn_le_m, jn_add, jn_mul, jn_clamp, jo_some, jn_min, jn_max, ↓jlm, jl0, jl1, jl2, jl3, jl4, jl5, jl6, jl7, jl8, jl9, jl10, jl11, jl12, jl13, jl14, jl15, jl16, jl20, jl24, jl32, jl39, jl40, jl41, jl60, jl61, jl80, jl96, jl97, jl99, jl100, jl122, jl126, jl199, jl200, jl205, jl206, jl255, jl256, jl410, jl700, jl950, jl1000, jl1000000, jl4000, jl8240, jl32767, if_pos, if_neg, ↓reduceIte, Option.bind_some, not_true_eq_false, not_false_eq_true, Nat.not_lt, Nat.not_le]
          | some t =>
            have ht := mLd_lt hm hs hi hr
            cases hf : mFol m t with
            | true =>
              have e : mCr m s i = false := by simp [mCr, hr, hf]
              simp (disch := omega) only [zP_deadEnds_l4_b, jRU_W hU, jc_leadsTo hm hU hs, hr, jc_someFollows hm hU ht, jB0, hf, jbS0 e, ir_let, jn_lt, jn_le, jn_in, jn_inj, jn_ne_m, jm_ne_n, jm_eq_m, jm_lt, jm_le, jn_lt_m, jn_le_m, jn_add, jn_mul, jn_clamp, jo_some, jn_min, jn_max, ↓jlm, jl0, jl1, jl2, jl3, jl4, jl5, jl6, jl7, jl8, jl9, jl10, jl11, jl12, jl13, jl14, jl15, jl16, jl20, jl24, jl32, jl39, jl40, jl41, jl60, jl61, jl80, jl96, jl97, jl99, jl100, jl122, jl126, jl199, jl200, jl205, jl206, jl255, jl256, jl410, jl700, jl950, jl1000, jl1000000, jl4000, jl8240, jl32767, if_pos, if_neg, ↓reduceIte, Option.bind_some, not_true_eq_false, not_false_eq_true, Nat.not_lt, Nat.not_le, Bool.true_eq_false]
            | false =>
              have e : mCr m s i = true := by simp [mCr, hr, hf]
              simp (disch := omega) only [zP_deadEnds_l4_b, jRU_W hU, jc_leadsTo hm hU hs, hr, jc_someFollows hm hU ht, jB0, hf, jbS1 e, ir_let, jn_lt, jn_le, jn_in, jn_inj, jn_ne_m, jm_ne_n, jm_eq_m, jm_lt, jm_le, jn_lt_m, jn_le_m, jn_add, jn_mul, jn_clamp, jo_some, jn_min, jn_max, ↓jlm, jl0, jl1, jl2, jl3, jl4, jl5, jl6, jl7, jl8, jl9, jl10, jl11, jl12, jl13, jl14, jl15, jl16, jl20, jl24, jl32, jl39, jl40, jl41, jl60, jl61, jl80, jl96, jl97, jl99, jl100, jl122, jl126, jl199, jl200, jl205, jl206, jl255, jl256, jl410, jl700, jl950, jl1000, jl1000000, jl4000, jl8240, jl32767, if_pos, if_neg, ↓reduceIte, Option.bind_some, not_true_eq_false, not_false_eq_true, Nat.not_lt, Nat.not_le]
        · simp (disch := omega) only [zP_deadEnds_l4_b, jRU_W hU, ir_let, jn_lt, jn_le, jn_in, jn_inj, jn_ne_m, jm_ne_n, jm_eq_m, jm_lt, jm_le, jn_lt_m, jn_le_m, jn_add, jn_mul, jn_clamp, jo_some, jn_min, jn_max, ↓jlm, jl0, jl1, jl2, jl3, jl4, jl5, jl6, jl7, jl8, jl9, jl10, jl11, jl12, jl13, jl14, jl15, jl16, jl20, jl24, jl32, jl39, jl40, jl41, jl60, jl61, jl80, jl96, jl97, jl99, jl100, jl122, jl126, jl199, jl200, jl205, jl206, jl255, jl256, jl410, jl700, jl950, jl1000, jl1000000, jl4000, jl8240, jl32767, if_pos, if_neg, ↓reduceIte, Option.bind_some, not_true_eq_false, not_false_eq_true, Nat.not_lt, Nat.not_le]
      simp only [jn0] at key
      simp only [zO_crimes, zP_deadEnds, jc_needState1 hm hU hs, key, ir_let, iq_sm, ir_sm, jzE, j10, Option.bind_some, ↓reduceIte, not_true_eq_false, not_false_eq_true]
    · have hN1 := jRN_ag hN (jz_ag I)
      have key : zM_crimes_l19 (jn s) (jz I) ir_F (jn 0, jn 0) = some (jb (mW m) (mCr m s)) := by
        refine js_seq (fun i => (jb i (mCr m s), jn i)) (mW m) _ (fun i hi => ?_) ?_ (mW m) 0 ir_F (by omega) (by unfold ir_F; omega)
        · cases hr : mLd m s i with
          | none =>
            have e : mCr m s i = false := by simp [mCr, hr]
            simp (disch := omega) only [zM_crimes_l19_b, jRN_W hN1, jm_leads hm hN1 hs, hr, jbSz e, ir_let, jn_lt, jn_le, jn_in, jn_inj, jn_ne_m, jm_ne_n, jm_eq_m, jm_lt, jm_le, jn_lt_m, jn_le_m, jn_add, jn_mul, jn_clamp, jo_some, jn_min, jn_max, ↓jlm, jl0, jl1, jl2, jl3, jl4, jl5, jl6, jl7, jl8, jl9, jl10, jl11, jl12, jl13, jl14, jl15, jl16, jl20, jl24, jl32, jl39, jl40, jl41, jl60, jl61, jl80, jl96, jl97, jl99, jl100, jl122, jl126, jl199, jl200, jl205, jl206, jl255, jl256, jl410, jl700, jl950, jl1000, jl1000000, jl4000, jl8240, jl32767, if_pos, if_neg, ↓reduceIte, Option.bind_some, not_true_eq_false, not_false_eq_true, Nat.not_lt, Nat.not_le]
          | some t =>
            have ht := mLd_lt hm hs hi hr
            cases hf : mFol m t with
            | true =>
              have e : mCr m s i = false := by simp [mCr, hr, hf]
              simp (disch := omega) only [zM_crimes_l19_b, jRN_W hN1, jm_leads hm hN1 hs, hr, jm_canFollow hm hN1 ht, jB0, hf, jbSz e, ir_let, jn_lt, jn_le, jn_in, jn_inj, jn_ne_m, jm_ne_n, jm_eq_m, jm_lt, jm_le, jn_lt_m, jn_le_m, jn_add, jn_mul, jn_clamp, jo_some, jn_min, jn_max, ↓jlm, jl0, jl1, jl2, jl3, jl4, jl5, jl6, jl7, jl8, jl9, jl10, jl11, jl12, jl13, jl14, jl15, jl16, jl20, jl24, jl32, jl39, jl40, jl41, jl60, jl61, jl80, jl96, jl97, jl99, jl100, jl122, jl126, jl199, jl200, jl205, jl206, jl255, jl256, jl410, jl700, jl950, jl1000, jl1000000, jl4000, jl8240, jl32767, if_pos, if_neg, ↓reduceIte, Option.bind_some, not_true_eq_false, not_false_eq_true, Nat.not_lt, Nat.not_le, Bool.true_eq_false]
            | false =>
              have e : mCr m s i = true := by simp [mCr, hr, hf]
              simp (disch := omega) only [zM_crimes_l19_b, jRN_W hN1, jm_leads hm hN1 hs, hr, jm_canFollow hm hN1 ht, jB0, hf, jbS1 e, ir_let, jn_lt, jn_le, jn_in, jn_inj, jn_ne_m, jm_ne_n, jm_eq_m, jm_lt, jm_le, jn_lt_m, jn_le_m, jn_add, jn_mul, jn_clamp, jo_some, jn_min, jn_max, ↓jlm, jl0, jl1, jl2, jl3, jl4, jl5, jl6, jl7, jl8, jl9, jl10, jl11, jl12, jl13, jl14, jl15, jl16, jl20, jl24, jl32, jl39, jl40, jl41, jl60, jl61, jl80, jl96, jl97, jl99, jl100, jl122, jl126, jl199, jl200, jl205, jl206, jl255, jl256, jl410, jl700, jl950, jl1000, jl1000000, jl4000, jl8240, jl32767, if_pos, if_neg, ↓reduceIte, Option.bind_some, not_true_eq_false, not_false_eq_true, Nat.not_lt, Nat.not_le]
        · simp (disch := omega) only [zM_crimes_l19_b, jRN_W hN1, ir_let, jn_lt, jn_le, jn_in, jn_inj, jn_ne_m, jm_ne_n, jm_eq_m, jm_lt, jm_le, jn_lt_m, jn_le_m, jn_add, jn_mul, jn_clamp, jo_some, jn_min, jn_max, ↓jlm, jl0, jl1, jl2, jl3, jl4, jl5, jl6, jl7, jl8, jl9, jl10, jl11, jl12, jl13, jl14, jl15, jl16, jl20, jl24, jl32, jl39, jl40, jl41, jl60, jl61, jl80, jl96, jl97, jl99, jl100, jl122, jl126, jl199, jl200, jl205, jl206, jl255, jl256, jl410, jl700, jl950, jl1000, jl1000000, jl4000, jl8240, jl32767, if_pos, if_neg, ↓reduceIte, Option.bind_some, not_true_eq_false, not_false_eq_true, Nat.not_lt, Nat.not_le]
      simp only [jn0] at key
      simp only [zM_crimes, jm_isState1 hm hN hs, key, ir_let, iq_sm, ir_sm, jzE, j10, Option.bind_some, ↓reduceIte, not_true_eq_false, not_false_eq_true]
  · refine jmke ?_ ?_
    · simp only [zO_crimes, jc_needState0 hm hU hx, ir_let, iq_sm, ir_sm, jzE, j10, Option.bind_some, ↓reduceIte, not_true_eq_false, not_false_eq_true]
    · simp only [zM_crimes, jm_isState0 hm hN hx, ir_let, iq_sm, ir_sm, jzE, j10, Option.bind_some, ↓reduceIte, not_true_eq_false, not_false_eq_true]
