/-! ===== guards: is there such a state, word, saying ===== -/
theorem jx_no {x : Int32} {n : Nat} (hn : n < 2147483648) (h : ¬ ∃ s, s < n ∧ x = jn s) : x < 0 ∨ (¬ x < 0 ∧ ¬ x < jn n ∧ jn n ≤ x) := by
  rcases jx_cases x with hx | ⟨k, hk, rfl⟩
  · exact Or.inl hx
  · refine Or.inr ?_
    have : n ≤ k := by
      apply Classical.byContradiction
      intro hc
      exact h ⟨k, by omega, rfl⟩
    rw [show (0 : Int32) = jn 0 from rfl, jn_lt hk (by omega), jn_lt hk hn, jn_le hn hk]
    omega
def jz (I : iq_I) : iq_I := iq_upI I 76 0 0
def jw (I : iq_I) (c : Int32) : iq_I := iq_upI (jz I) 76 0 c
theorem jzE (I : iq_I) : iq_upI I 76 0 (0 : Int32) = jz I := rfl
theorem jz_ag (I : iq_I) : jag I (jz I) := jag_up (jag_rf I) rfl
theorem jw_ag (I : iq_I) (c : Int32) : jag I (jw I c) := jag_up (jz_ag I) rfl
theorem jz_0 (I : iq_I) : jz I 76 0 = 0 := rfl
theorem jw_0 (I : iq_I) (c : Int32) : jw I c 76 0 = c := rfl
theorem jm_right1 {I : iq_I} {c x : Int32} (hx : x = 1) : zM_right x c (jz I) = some (1, jz I) := by
  subst hx
  unfold zM_right zM_right_16
  rw [if_neg (by rw [jz_0]; simp), if_pos (by decide), if_neg (by rw [jz_0]; simp)]
theorem jm_right0 {I : iq_I} {c x : Int32} (hx : x = 0) (hc : ¬ c = 0) : zM_right x c (jz I) = some (0, jw I c) := by
  subst hx
  unfold zM_right zM_right_16
  rw [if_neg (by rw [jz_0]; simp), if_neg (by simp), ir_let, show iq_upI (jz I) 76 0 c = jw I c from rfl, if_pos (by rw [jw_0]; exact hc)]
theorem jm_within {I : iq_I} {x : Int32} {a b : Nat} (ha : a < 2147483648) (hb : b < 2147483648) : (∃ n, a ≤ n ∧ n ≤ b ∧ x = jn n ∧ zM_within x (jn a) (jn b) I = some 1) ∨ ((¬ ∃ n, a ≤ n ∧ n ≤ b ∧ x = jn n) ∧ zM_within x (jn a) (jn b) I = some 0) := by
  rcases jx_cases x with hx | ⟨k, hk, rfl⟩
  · refine Or.inr ⟨?_, ?_⟩
    · rintro ⟨n, _, hn, rfl⟩
      rw [show (0 : Int32) = jn 0 from rfl, jn_lt (by omega) (by omega)] at hx
      omega
    · unfold zM_within
      have : x < jn a := by
        rw [Int32.lt_iff_toInt_lt] at hx ⊢
        rw [jn_toInt ha]
        have e : (0 : Int32).toInt = 0 := rfl
        omega
      rw [if_pos this]
  · by_cases h1 : k < a
    · refine Or.inr ⟨?_, ?_⟩
      · rintro ⟨n, hn1, hn, e⟩
        rw [jn_inj hk (by omega)] at e
        omega
      · unfold zM_within
        rw [if_pos (by rw [jn_lt hk ha]; exact h1)]
    · by_cases h2 : b < k
      · refine Or.inr ⟨?_, ?_⟩
        · rintro ⟨n, hn1, hn, e⟩
          rw [jn_inj hk (by omega)] at e
          omega
        · unfold zM_within
          rw [if_neg (by rw [jn_lt hk ha]; exact h1), if_pos (by rw [jn_lt hb hk]; exact h2)]
      · refine Or.inl ⟨k, by omega, by omega, rfl, ?_⟩
        unfold zM_within
        rw [if_neg (by rw [jn_lt hk ha]; exact h1), if_neg (by rw [jn_lt hb hk]; exact h2)]
theorem jc_needState1 {I : iq_I} {m : jMu} (hm : mOk m) (h : jRU I m) {s : Nat} (hs : s < mS m) (X : iq_X) : zO_needState (jn s) I X = some (.inl (), X) := by
  have hb := hm.1
  simp (disch := omega) only [zO_needState, jRU_S h, ir_let, jn_lt, jn_le, jn_in, jn_inj, jn_ne_m, jm_ne_n, jm_eq_m, jm_lt, jm_le, jn_lt_m, jn_le_m, jn_add, jn_mul, jn_clamp, jo_some, jn_min, jn_max, ↓jlm, jl0, jl1, jl2, jl3, jl4, jl5, jl6, jl7, jl8, jl9, jl10, jl11, jl12, jl13, jl14, jl15, jl16, jl20, jl24, jl32, jl39, jl40, jl41, jl60, jl61, jl80, jl96, jl97, jl99, jl100, jl122, jl126, jl199, jl200, jl205, jl206, jl255, jl256, jl410, jl700, jl950, jl1000, jl1000000, jl4000, jl8240, jl32767, if_pos, if_neg, ↓reduceIte, Option.bind_some, not_true_eq_false, not_false_eq_true, Nat.not_lt, Nat.not_le]
theorem jc_needState0 {I : iq_I} {m : jMu} (hm : mOk m) (h : jRU I m) {x : Int32} (hx : ¬ ∃ s, s < mS m ∧ x = jn s) (X : iq_X) : zO_needState x I X = some (.inr 0, ir_xx X) := by
  have hb := hm.1
  rcases jx_no (by omega) hx with h1 | ⟨h1, h2, h3⟩
  · simp only [zO_needState, zO_needState_15, h1, ↓reduceIte]
  · simp only [zO_needState, zO_needState_15, jRU_S h, h1, h2, ↓reduceIte]
theorem jm_isState1 {I : iq_I} {m : jMu} (hm : mOk m) (h : jRN I m) {s : Nat} (hs : s < mS m) : zM_isState (jn s) (jz I) = some (1, jz I) := by
  have hb := hm.1
  have h := jRN_ag h (jz_ag I)
  simp (disch := omega) only [zM_isState, jRN_S h, ir_let, jn_lt, jn_le, jn_in, jn_inj, jn_ne_m, jm_ne_n, jm_eq_m, jm_lt, jm_le, jn_lt_m, jn_le_m, jn_add, jn_mul, jn_clamp, jo_some, jn_min, jn_max, ↓jlm, jl0, jl1, jl2, jl3, jl4, jl5, jl6, jl7, jl8, jl9, jl10, jl11, jl12, jl13, jl14, jl15, jl16, jl20, jl24, jl32, jl39, jl40, jl41, jl60, jl61, jl80, jl96, jl97, jl99, jl100, jl122, jl126, jl199, jl200, jl205, jl206, jl255, jl256, jl410, jl700, jl950, jl1000, jl1000000, jl4000, jl8240, jl32767, if_pos, if_neg, ↓reduceIte, Option.bind_some, not_true_eq_false, not_false_eq_true, Nat.not_lt, Nat.not_le]
  simp only [zM_isState_18, jm_right1 (show jn 1 = 1 from rfl), Option.bind_some]
  rfl
theorem jm_isState0 {I : iq_I} {m : jMu} (hm : mOk m) (h : jRN I m) {x : Int32} (hx : ¬ ∃ s, s < mS m ∧ x = jn s) : zM_isState x (jz I) = some (0, jw I 1) := by
  have hb := hm.1
  have h := jRN_ag h (jz_ag I)
  have hr : zM_isState_18 0 (jz I) = some (0, jw I 1) := by
    simp only [zM_isState_18, jm_right0 (I := I) (c := 1) rfl (by decide), Option.bind_some]
    rfl
  rcases jx_no (by omega) hx with h1 | ⟨h1, h2, h3⟩
  · simp only [zM_isState, zM_isState_17, h1, ↓reduceIte, hr]
  · simp only [zM_isState, zM_isState_17, jRN_S h, h1, h3, ↓reduceIte, hr]
theorem jc_needWord1 {I : iq_I} {m : jMu} (hm : mOk m) (h : jRU I m) {s : Nat} (hs : s < mW m) (X : iq_X) : zO_needWord (jn s) I X = some (.inl (), X) := by
  have hb := hm.2.1
  simp (disch := omega) only [zO_needWord, jRU_W h, ir_let, jn_lt, jn_le, jn_in, jn_inj, jn_ne_m, jm_ne_n, jm_eq_m, jm_lt, jm_le, jn_lt_m, jn_le_m, jn_add, jn_mul, jn_clamp, jo_some, jn_min, jn_max, ↓jlm, jl0, jl1, jl2, jl3, jl4, jl5, jl6, jl7, jl8, jl9, jl10, jl11, jl12, jl13, jl14, jl15, jl16, jl20, jl24, jl32, jl39, jl40, jl41, jl60, jl61, jl80, jl96, jl97, jl99, jl100, jl122, jl126, jl199, jl200, jl205, jl206, jl255, jl256, jl410, jl700, jl950, jl1000, jl1000000, jl4000, jl8240, jl32767, if_pos, if_neg, ↓reduceIte, Option.bind_some, not_true_eq_false, not_false_eq_true, Nat.not_lt, Nat.not_le]
theorem jc_needWord0 {I : iq_I} {m : jMu} (hm : mOk m) (h : jRU I m) {x : Int32} (hx : ¬ ∃ s, s < mW m ∧ x = jn s) (X : iq_X) : zO_needWord x I X = some (.inr 0, ir_xx X) := by
  have hb := hm.2.1
  rcases jx_no (by omega) hx with h1 | ⟨h1, h2, h3⟩
  · simp only [zO_needWord, zO_needWord_15, h1, ↓reduceIte]
  · simp only [zO_needWord, zO_needWord_15, jRU_W h, h1, h2, ↓reduceIte]
theorem jm_isWord1 {I : iq_I} {m : jMu} (hm : mOk m) (h : jRN I m) {s : Nat} (hs : s < mW m) : zM_isWord (jn s) (jz I) = some (1, jz I) := by
  have hb := hm.2.1
  have h := jRN_ag h (jz_ag I)
  simp (disch := omega) only [zM_isWord, jRN_W h, ir_let, jn_lt, jn_le, jn_in, jn_inj, jn_ne_m, jm_ne_n, jm_eq_m, jm_lt, jm_le, jn_lt_m, jn_le_m, jn_add, jn_mul, jn_clamp, jo_some, jn_min, jn_max, ↓jlm, jl0, jl1, jl2, jl3, jl4, jl5, jl6, jl7, jl8, jl9, jl10, jl11, jl12, jl13, jl14, jl15, jl16, jl20, jl24, jl32, jl39, jl40, jl41, jl60, jl61, jl80, jl96, jl97, jl99, jl100, jl122, jl126, jl199, jl200, jl205, jl206, jl255, jl256, jl410, jl700, jl950, jl1000, jl1000000, jl4000, jl8240, jl32767, if_pos, if_neg, ↓reduceIte, Option.bind_some, not_true_eq_false, not_false_eq_true, Nat.not_lt, Nat.not_le]
  simp only [zM_isWord_18, jm_right1 (show jn 1 = 1 from rfl), Option.bind_some]
  rfl
theorem jm_isWord0 {I : iq_I} {m : jMu} (hm : mOk m) (h : jRN I m) {x : Int32} (hx : ¬ ∃ s, s < mW m ∧ x = jn s) : zM_isWord x (jz I) = some (0, jw I 1) := by
  have hb := hm.2.1
  have h := jRN_ag h (jz_ag I)
  have hr : zM_isWord_18 0 (jz I) = some (0, jw I 1) := by
    simp only [zM_isWord_18, jm_right0 (I := I) (c := 1) rfl (by decide), Option.bind_some]
    rfl
  rcases jx_no (by omega) hx with h1 | ⟨h1, h2, h3⟩
  · simp only [zM_isWord, zM_isWord_17, h1, ↓reduceIte, hr]
  · simp only [zM_isWord, zM_isWord_17, jRN_W h, h1, h3, ↓reduceIte, hr]
theorem jc_needSaying1 {I : iq_I} {m : jMu} {g : jGa} (hg : gOk m g) (h : jRG I 16 17 18 24 g) {s : Nat} (hs : s < gY g) (X : iq_X) : zO_needSaying (jn s) I X = some (.inl (), X) := by
  have hb := hg.1
  simp (disch := omega) only [zO_needSaying, jRG_Y h, ir_let, jn_lt, jn_le, jn_in, jn_inj, jn_ne_m, jm_ne_n, jm_eq_m, jm_lt, jm_le, jn_lt_m, jn_le_m, jn_add, jn_mul, jn_clamp, jo_some, jn_min, jn_max, ↓jlm, jl0, jl1, jl2, jl3, jl4, jl5, jl6, jl7, jl8, jl9, jl10, jl11, jl12, jl13, jl14, jl15, jl16, jl20, jl24, jl32, jl39, jl40, jl41, jl60, jl61, jl80, jl96, jl97, jl99, jl100, jl122, jl126, jl199, jl200, jl205, jl206, jl255, jl256, jl410, jl700, jl950, jl1000, jl1000000, jl4000, jl8240, jl32767, if_pos, if_neg, ↓reduceIte, Option.bind_some, not_true_eq_false, not_false_eq_true, Nat.not_lt, Nat.not_le]
theorem jc_needSaying0 {I : iq_I} {m : jMu} {g : jGa} (hg : gOk m g) (h : jRG I 16 17 18 24 g) {x : Int32} (hx : ¬ ∃ s, s < gY g ∧ x = jn s) (X : iq_X) : zO_needSaying x I X = some (.inr 0, ir_xx X) := by
  have hb := hg.1
  rcases jx_no (by omega) hx with h1 | ⟨h1, h2, h3⟩
  · simp only [zO_needSaying, zO_needSaying_15, h1, ↓reduceIte]
  · simp only [zO_needSaying, zO_needSaying_15, jRG_Y h, h1, h2, ↓reduceIte]
theorem jm_isSaying1 {I : iq_I} {m : jMu} {g : jGa} (hg : gOk m g) (h : jRB I g) {s : Nat} (hs : s < gY g) : zM_isSaying (jn s) (jz I) = some (1, jz I) := by
  have hb := hg.1
  have h := jRB_ag h (jz_ag I)
  simp (disch := omega) only [zM_isSaying, h.1, ir_let, jn_lt, jn_le, jn_in, jn_inj, jn_ne_m, jm_ne_n, jm_eq_m, jm_lt, jm_le, jn_lt_m, jn_le_m, jn_add, jn_mul, jn_clamp, jo_some, jn_min, jn_max, ↓jlm, jl0, jl1, jl2, jl3, jl4, jl5, jl6, jl7, jl8, jl9, jl10, jl11, jl12, jl13, jl14, jl15, jl16, jl20, jl24, jl32, jl39, jl40, jl41, jl60, jl61, jl80, jl96, jl97, jl99, jl100, jl122, jl126, jl199, jl200, jl205, jl206, jl255, jl256, jl410, jl700, jl950, jl1000, jl1000000, jl4000, jl8240, jl32767, if_pos, if_neg, ↓reduceIte, Option.bind_some, not_true_eq_false, not_false_eq_true, Nat.not_lt, Nat.not_le]
  simp only [zM_isSaying_18, jm_right1 (show jn 1 = 1 from rfl), Option.bind_some]
  rfl
theorem jm_isSaying0 {I : iq_I} {m : jMu} {g : jGa} (hg : gOk m g) (h : jRB I g) {x : Int32} (hx : ¬ ∃ s, s < gY g ∧ x = jn s) : zM_isSaying x (jz I) = some (0, jw I 1) := by
  have hb := hg.1
  have h := jRB_ag h (jz_ag I)
  have hr : zM_isSaying_18 0 (jz I) = some (0, jw I 1) := by
    simp only [zM_isSaying_18, jm_right0 (I := I) (c := 1) rfl (by decide), Option.bind_some]
    rfl
  rcases jx_no (by omega) hx with h1 | ⟨h1, h2, h3⟩
  · simp only [zM_isSaying, zM_isSaying_17, h1, ↓reduceIte, hr]
  · simp only [zM_isSaying, zM_isSaying_17, h.1, h1, h3, ↓reduceIte, hr]
theorem jc_needKind1 {I : iq_I} {k : Nat} (hk : k < 8) (X : iq_X) : zO_needKind (jn k) I X = some (.inl (), X) := by
  simp (disch := omega) only [zO_needKind, ir_let, jn_lt, jn_le, jn_in, jn_inj, jn_ne_m, jm_ne_n, jm_eq_m, jm_lt, jm_le, jn_lt_m, jn_le_m, jn_add, jn_mul, jn_clamp, jo_some, jn_min, jn_max, ↓jlm, jl0, jl1, jl2, jl3, jl4, jl5, jl6, jl7, jl8, jl9, jl10, jl11, jl12, jl13, jl14, jl15, jl16, jl20, jl24, jl32, jl39, jl40, jl41, jl60, jl61, jl80, jl96, jl97, jl99, jl100, jl122, jl126, jl199, jl200, jl205, jl206, jl255, jl256, jl410, jl700, jl950, jl1000, jl1000000, jl4000, jl8240, jl32767, if_pos, if_neg, ↓reduceIte, Option.bind_some, not_true_eq_false, not_false_eq_true, Nat.not_lt, Nat.not_le]
theorem jc_needKind0 {I : iq_I} {x : Int32} (hx : ¬ ∃ k, k < 8 ∧ x = jn k) (X : iq_X) : zO_needKind x I X = some (.inr 0, ir_xx X) := by
  rcases jx_no (by omega) hx with h1 | ⟨h1, h2, h3⟩
  · simp only [zO_needKind, zO_needKind_10, h1, ↓reduceIte]
  · rw [show jn 8 = 8 from rfl] at h2
    simp only [zO_needKind, zO_needKind_10, h1, h2, ↓reduceIte]
theorem jm_isWhat1 {I : iq_I} {k n : Nat} (hn : n < 2147483648) (hk : k ≤ n) : zM_isWhat (jn k) (jn n) (jz I) = some (1, jz I) := by
  unfold zM_isWhat
  rcases jm_within (I := jz I) (x := jn k) (a := 0) (b := n) (by omega) hn with ⟨_, _, _, _, h⟩ | ⟨h, _⟩
  · rw [show (0 : Int32) = jn 0 from rfl, h, Option.bind_some, jm_right1 rfl]
    rfl
  · exact absurd ⟨k, Nat.zero_le _, hk, rfl⟩ h
theorem jm_isWhat0 {I : iq_I} {x : Int32} {n : Nat} (hn : n < 2147483648) (hk : ¬ ∃ k, k ≤ n ∧ x = jn k) : zM_isWhat x (jn n) (jz I) = some (0, jw I 1) := by
  unfold zM_isWhat
  rcases jm_within (I := jz I) (x := x) (a := 0) (b := n) (by omega) hn with ⟨k, _, h1, h2, h⟩ | ⟨_, h⟩
  · exact absurd ⟨k, h1, h2⟩ hk
  · rw [show (0 : Int32) = jn 0 from rfl, h, Option.bind_some]
    show ((zM_right 0 1 (jz I)).bind fun q2 => if q2.1 = 0 ∨ q2.1 = 1 then some (q2.1, q2.2) else none) = _
    rw [jm_right0 rfl (by decide)]
    rfl
theorem jc_oneOfTwo1 {I : iq_I} {k : Nat} (hk : k < 2) (X : iq_X) : zO_needOneOfTwo (jn k) I X = some (.inl (), X) := by
  unfold zO_needOneOfTwo
  rcases (show k = 0 ∨ k = 1 by omega) with rfl | rfl
  · rfl
  · rfl
theorem jc_oneOfTwo0 {I : iq_I} {x : Int32} (hx : ¬ ∃ k, k < 2 ∧ x = jn k) (X : iq_X) : zO_needOneOfTwo x I X = some (.inr 0, ir_xx X) := by
  unfold zO_needOneOfTwo
  rw [if_neg (show ¬ x = 0 from fun h => hx ⟨0, by omega, h⟩), if_neg (show ¬ x = 1 from fun h => hx ⟨1, by omega, h⟩)]
/-- one more exception at most -/
def jXo (X X' : iq_X) : Prop := X' = X ∨ X' = ir_xx X
/-- class answer r, reference answer b with thrown t: alike (the law's number for an exception is 1) -/
def jAns (r : Int32 ⊕ Nat) (b t : Int32) : Prop := (∃ v, r = .inl v ∧ b = v ∧ t = 0) ∨ (r = .inr 0 ∧ t = 1)
