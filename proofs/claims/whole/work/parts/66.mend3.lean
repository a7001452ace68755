/-! ===== mend: the reference ===== -/
theorem jm_b62a {I : iq_I} {y p s k t c x n a : Nat} (hp : p < 40) (ht : t < 10) (hc : c ≤ 99) (hk : k < n) (hn : n ≤ 14) (hx : x < 14) (ha : a ≤ 99) (hW : I 76 2 = jn n) (lt : zM_leads (jn s) (jn k) I = some (jn t)) (cell : I 110 (10 * p + 10 + t) = jn c) (wa : zM_wordAt_76_98 (jn y) (jn p) I = some (jn k)) (q : a ≤ c) :
    zM_mends_l62_b (jn y) (jn p) (jn s) I (jn a) (jn k) = some (.inl (jn a, jn (k + 1))) := by
  simp (disch := omega) only [zM_mends_l62_b, zM_mends_127, hW, lt, cell, wa, ir_let, jn_lt, jn_le, jn_in, jn_inj, jn_ne_m, jm_ne_n, jm_eq_m, jm_lt, jm_le, jn_lt_m, jn_le_m, jn_add, jn_mul, jn_clamp, jo_some, jn_min, jn_max, ↓jlm, jl0, jl1, jl2, jl3, jl4, jl5, jl6, jl7, jl8, jl9, jl10, jl11, jl12, jl13, jl14, jl15, jl16, jl20, jl24, jl32, jl39, jl40, jl41, jl60, jl61, jl80, jl96, jl97, jl99, jl100, jl122, jl126, jl199, jl200, jl205, jl206, jl255, jl256, jl410, jl700, jl950, jl1000, jl1000000, jl4000, jl8240, jl32767, if_pos, if_neg, ↓reduceIte, Option.bind_some, not_true_eq_false, not_false_eq_true, Nat.not_lt, Nat.not_le]
theorem jm_b62b {I : iq_I} {y p s k t c x n a : Nat} (hp : p < 40) (ht : t < 10) (hc : c ≤ 99) (hk : k < n) (hn : n ≤ 14) (hx : x < 14) (ha : a ≤ 99) (hW : I 76 2 = jn n) (lt : zM_leads (jn s) (jn k) I = some (jn t)) (cell : I 110 (10 * p + 10 + t) = jn c) (wa : zM_wordAt_76_98 (jn y) (jn p) I = some (jn k)) (q : ¬ a ≤ c) :
    zM_mends_l62_b (jn y) (jn p) (jn s) I (jn a) (jn k) = some (.inl (jn c, jn (k + 1))) := by
  simp (disch := omega) only [zM_mends_l62_b, zM_mends_127, hW, lt, cell, wa, ir_let, jn_lt, jn_le, jn_in, jn_inj, jn_ne_m, jm_ne_n, jm_eq_m, jm_lt, jm_le, jn_lt_m, jn_le_m, jn_add, jn_mul, jn_clamp, jo_some, jn_min, jn_max, ↓jlm, jl0, jl1, jl2, jl3, jl4, jl5, jl6, jl7, jl8, jl9, jl10, jl11, jl12, jl13, jl14, jl15, jl16, jl20, jl24, jl32, jl39, jl40, jl41, jl60, jl61, jl80, jl96, jl97, jl99, jl100, jl122, jl126, jl199, jl200, jl205, jl206, jl255, jl256, jl410, jl700, jl950, jl1000, jl1000000, jl4000, jl8240, jl32767, if_pos, if_neg, ↓reduceIte, Option.bind_some, not_true_eq_false, not_false_eq_true, Nat.not_lt, Nat.not_le]
  rfl
theorem jm_b62c {I : iq_I} {y p s k t c x n a : Nat} (hp : p < 40) (ht : t < 10) (hc : c ≤ 99) (hk : k < n) (hn : n ≤ 14) (hx : x < 14) (ha : a ≤ 99) (hW : I 76 2 = jn n) (lt : zM_leads (jn s) (jn k) I = some (jn t)) (cell : I 110 (10 * p + 10 + t) = jn c) (wa : zM_wordAt_76_98 (jn y) (jn p) I = some (jn x)) (e : ¬ x = k) (q : a ≤ c + 1) :
    zM_mends_l62_b (jn y) (jn p) (jn s) I (jn a) (jn k) = some (.inl (jn a, jn (k + 1))) := by
  simp (disch := omega) only [zM_mends_l62_b, zM_mends_127, hW, lt, cell, wa, ir_let, jn_lt, jn_le, jn_in, jn_inj, jn_ne_m, jm_ne_n, jm_eq_m, jm_lt, jm_le, jn_lt_m, jn_le_m, jn_add, jn_mul, jn_clamp, jo_some, jn_min, jn_max, ↓jlm, jl0, jl1, jl2, jl3, jl4, jl5, jl6, jl7, jl8, jl9, jl10, jl11, jl12, jl13, jl14, jl15, jl16, jl20, jl24, jl32, jl39, jl40, jl41, jl60, jl61, jl80, jl96, jl97, jl99, jl100, jl122, jl126, jl199, jl200, jl205, jl206, jl255, jl256, jl410, jl700, jl950, jl1000, jl1000000, jl4000, jl8240, jl32767, if_pos, if_neg, ↓reduceIte, Option.bind_some, not_true_eq_false, not_false_eq_true, Nat.not_lt, Nat.not_le]
theorem jm_b62d {I : iq_I} {y p s k t c x n a : Nat} (hp : p < 40) (ht : t < 10) (hc : c ≤ 99) (hk : k < n) (hn : n ≤ 14) (hx : x < 14) (ha : a ≤ 99) (hW : I 76 2 = jn n) (lt : zM_leads (jn s) (jn k) I = some (jn t)) (cell : I 110 (10 * p + 10 + t) = jn c) (wa : zM_wordAt_76_98 (jn y) (jn p) I = some (jn x)) (e : ¬ x = k) (q : ¬ a ≤ c + 1) :
    zM_mends_l62_b (jn y) (jn p) (jn s) I (jn a) (jn k) = some (.inl (jn (c + 1), jn (k + 1))) := by
  simp (disch := omega) only [zM_mends_l62_b, zM_mends_127, hW, lt, cell, wa, ir_let, jn_lt, jn_le, jn_in, jn_inj, jn_ne_m, jm_ne_n, jm_eq_m, jm_lt, jm_le, jn_lt_m, jn_le_m, jn_add, jn_mul, jn_clamp, jo_some, jn_min, jn_max, ↓jlm, jl0, jl1, jl2, jl3, jl4, jl5, jl6, jl7, jl8, jl9, jl10, jl11, jl12, jl13, jl14, jl15, jl16, jl20, jl24, jl32, jl39, jl40, jl41, jl60, jl61, jl80, jl96, jl97, jl99, jl100, jl122, jl126, jl199, jl200, jl205, jl206, jl255, jl256, jl410, jl700, jl950, jl1000, jl1000000, jl4000, jl8240, jl32767, if_pos, if_neg, ↓reduceIte, Option.bind_some, not_true_eq_false, not_false_eq_true, Nat.not_lt, Nat.not_le]
theorem jm_b62 {I : iq_I} {y p s k t c x n a : Nat} (hp : p < 40) (ht : t < 10) (hc : c ≤ 99) (hk : k < n) (hn : n ≤ 14) (hx : x < 14) (ha : a ≤ 99) (hW : I 76 2 = jn n) (lt : zM_leads (jn s) (jn k) I = some (jn t)) (cell : I 110 (10 * p + 10 + t) = jn c) (wa : zM_wordAt_76_98 (jn y) (jn p) I = some (jn x)) :
    zM_mends_l62_b (jn y) (jn p) (jn s) I (jn a) (jn k) = some (.inl (jn (min a (c + (if x = k then 0 else 1))), jn (k + 1))) := by
  by_cases e : x = k
  · have e1 : (if x = k then 0 else 1) = 0 := if_pos e
    rw [e] at wa
    by_cases q : a ≤ c
    · rw [e1, Nat.add_zero, Nat.min_eq_left q]
      exact jm_b62a hp ht hc hk hn hx ha hW lt cell wa q
    · rw [e1, Nat.add_zero, Nat.min_eq_right (Nat.le_of_lt (Nat.lt_of_not_le q))]
      exact jm_b62b hp ht hc hk hn hx ha hW lt cell wa q
  · have e1 : (if x = k then 0 else 1) = 1 := if_neg e
    by_cases q : a ≤ c + 1
    · rw [e1, Nat.min_eq_left q]
      exact jm_b62c hp ht hc hk hn hx ha hW lt cell wa e q
    · rw [e1, Nat.min_eq_right (Nat.le_of_lt (Nat.lt_of_not_le q))]
      exact jm_b62d hp ht hc hk hn hx ha hW lt cell wa e q
theorem jm_b62n {I : iq_I} {y p s k n a : Nat} (hk : k < n) (hn : n ≤ 14) (hW : I 76 2 = jn n) (lt : zM_leads (jn s) (jn k) I = some (jo none)) :
    zM_mends_l62_b (jn y) (jn p) (jn s) I (jn a) (jn k) = some (.inl (jn a, jn (k + 1))) := by
  unfold zM_mends_l62_b
  rw [hW, if_neg (by rw [jn_le (by omega) (by omega)]; omega), lt, Option.bind_some, if_neg (fun h => h rfl)]
  rw [show (1 : Int32) = jn 1 from rfl, jn_add]
theorem jm_mn62 {I : iq_I} {m : jMu} {g : jGa} {y i : Nat} (hm : mOk m) (hN : jRN I m) (hg : gOk m g) (hR : jRR (I 98) g) (hy : y < gY g) (hT : jT110 I m g y i) {r s : Nat} (hr : r < i) (hr2 : r < (gS g y).length) (hs : s < mS m) :
    zM_mends_l62 (jn y) (jn ((gS g y).length - (r + 1))) (jn s) I ir_F (jn 99, jn 0) = some (jn ((mD m g y (r + 1) s).getD 99)) := by
  have h40 := hg.2.2.1 y hy
  have h14 := hm.2.1
  have h10 := hm.1
  refine js_seq (fun k => (jn ((mB (mF m g y r (mD m g y r) s) k).getD 99), jn k)) (mW m) _ (fun k hk => ?_) ?_ (mW m) 0 ir_F (by omega) (by unfold ir_F; omega)
  · have b1 : (mB (mF m g y r (mD m g y r) s) k).getD 99 ≤ 99 := getD_le (fun v hv => mB_le k v (by omega) hv) (by omega)
    have wa : zM_wordAt_76_98 (jn y) (jn ((gS g y).length - (r + 1))) I = some (jn (gW g y ((gS g y).length - (r + 1)))) := jm_wordAt hg hR hy (by omega)
    have hwi := gW_lt hm hg hy (show (gS g y).length - (r + 1) < (gS g y).length by omega)
    cases hr3 : mLd m s k with
    | none =>
      have e : mF m g y r (mD m g y r) s k = none := by simp [mF, hr3]
      have e2 : mB (mF m g y r (mD m g y r) s) (k + 1) = mB (mF m g y r (mD m g y r) s) k := by
        show oMin _ _ = _
        rw [e]; cases mB (mF m g y r (mD m g y r) s) k <;> rfl
      have lt := jm_leads hm hN hs hk
      rw [hr3] at lt
      have := jm_b62n (y := y) (p := (gS g y).length - (r + 1)) (a := (mB (mF m g y r (mD m g y r) s) k).getD 99) hk h14 (jRN_W hN) lt
      show zM_mends_l62_b _ _ _ _ _ _ = some (.inl (jn ((mB (mF m g y r (mD m g y r) s) (k + 1)).getD 99), jn (k + 1)))
      rw [e2]; exact this
    | some t =>
      have ht := mLd_lt hm hs hk hr3
      have lt := jm_leads hm hN hs hk
      rw [hr3] at lt
      have b2 : (mD m g y r t).getD 99 ≤ 99 := getD_le (fun v hv => mD_le r t v hv) (by omega)
      have cell := hT r t hr ht
      rw [show (gS g y).length - r = (gS g y).length - (r + 1) + 1 by omega, Nat.mul_add, Nat.mul_one] at cell
      have e2 := mF_get9 (m := m) (g := g) (y := y) (s := s) (w := k) (mB (mF m g y r (mD m g y r) s) k) (fun v hv => by have := mB_le k v (by omega) hv; omega) (show r ≤ 40 by omega) hr3
      have := jm_b62 (show (gS g y).length - (r + 1) < 40 by omega) (show t < 10 by omega) b2 hk h14 hwi b1 (jRN_W hN) lt cell wa
      show zM_mends_l62_b _ _ _ _ _ _ = some (.inl (jn ((oMin (mB (mF m g y r (mD m g y r) s) k) (mF m g y r (mD m g y r) s k)).getD 99), jn (k + 1)))
      rw [e2]; exact this
  · show zM_mends_l62_b _ _ _ _ _ (jn (mW m)) = _
    simp (disch := omega) only [zM_mends_l62_b, jRN_W hN, ir_let, jn_lt, jn_le, jn_in, jn_inj, jn_ne_m, jm_ne_n, jm_eq_m, jm_lt, jm_le, jn_lt_m, jn_le_m, jn_add, jn_mul, jn_clamp, jo_some, jn_min, jn_max, ↓jlm, jl0, jl1, jl2, jl3, jl4, jl5, jl6, jl7, jl8, jl9, jl10, jl11, jl12, jl13, jl14, jl15, jl16, jl20, jl24, jl32, jl39, jl40, jl41, jl60, jl61, jl80, jl96, jl97, jl99, jl100, jl122, jl126, jl199, jl200, jl205, jl206, jl255, jl256, jl410, jl700, jl950, jl1000, jl1000000, jl4000, jl8240, jl32767, if_pos, if_neg, ↓reduceIte, Option.bind_some, not_true_eq_false, not_false_eq_true, Nat.not_lt, Nat.not_le]
    rfl
theorem jm_mn46 {I : iq_I} {m : jMu} {g : jGa} {y i : Nat} (hm : mOk m) (hN : jRN I m) (hg : gOk m g) (hR : jRR (I 98) g) (hy : y < gY g) (hT : jT110 I m g y (i + 1)) (hi : i < (gS g y).length) :
    ∃ I', zM_mends_l46 (jn y) (jn ((gS g y).length - (i + 1))) ir_F (jn 0, I) = some I' ∧ jag I I' ∧ jT110 I' m g y (i + 2) ∧ I' 76 0 = I 76 0 := by
  have h40 := hg.2.2.1 y hy
  have h10 := hm.1
  refine js_inv (fun s v => v.1 = jn s ∧ jag I v.2 ∧ jT110 v.2 m g y (i + 1) ∧ (∀ s', s' < s → v.2 110 (10 * ((gS g y).length - (i + 1)) + s') = jn ((mD m g y (i + 1) s').getD 99)) ∧ v.2 76 0 = I 76 0) (mS m) _ ?_ ?_ (mS m) 0 (jn 0, I) ir_F (by omega) ⟨rfl, jag_rf I, hT, fun s' h => by omega, rfl⟩ (by unfold ir_F; omega)
  · rintro s ⟨x, I1⟩ hs ⟨hv, ha, hT1, hc, ht⟩
    simp only at hv ha hT1 hc ht
    subst hv
    have hN1 := jRN_ag hN ha
    have fa := jm_mn62 hm hN1 hg (jRR_ag hR ha) hy hT1 (r := i) (by omega) (by omega) hs
    refine ⟨(jn (s + 1), iq_upI I1 110 (10 * ((gS g y).length - (i + 1)) + s) (jn ((mD m g y (i + 1) s).getD 99))), ?_, rfl, jag_up ha rfl, fun r s' h1 h2 => ?_, fun s' h => ?_, ?_⟩
    · simp (disch := omega) only [zM_mends_l46_b, jRN_S hN1, ir_let, jn_lt, jn_le, jn_in, jn_inj, jn_ne_m, jm_ne_n, jm_eq_m, jm_lt, jm_le, jn_lt_m, jn_le_m, jn_add, jn_mul, jn_clamp, jo_some, jn_min, jn_max, ↓jlm, jl0, jl1, jl2, jl3, jl4, jl5, jl6, jl7, jl8, jl9, jl10, jl11, jl12, jl13, jl14, jl15, jl16, jl20, jl24, jl32, jl39, jl40, jl41, jl60, jl61, jl80, jl96, jl97, jl99, jl100, jl122, jl126, jl199, jl200, jl205, jl206, jl255, jl256, jl410, jl700, jl950, jl1000, jl1000000, jl4000, jl8240, jl32767, if_pos, if_neg, ↓reduceIte, Option.bind_some, not_true_eq_false, not_false_eq_true, Nat.not_lt, Nat.not_le, fa]
    · dsimp only
      rw [up_ni (by omega)]; exact hT1 r s' h1 h2
    · dsimp only
      by_cases e : s' = s
      · subst e; rw [up_eq]
      · rw [up_ni (by omega)]; exact hc s' (by omega)
    · dsimp only
      rw [up_nk (by decide)]; exact ht
  · rintro ⟨x, I1⟩ ⟨hv, ha, hT1, hc, ht⟩
    simp only at hv ha hT1 hc ht
    subst hv
    have hN1 := jRN_ag hN ha
    refine ⟨I1, ?_, ha, fun r s h1 h2 => ?_, ht⟩
    · simp (disch := omega) only [zM_mends_l46_b, jRN_S hN1, ir_let, jn_lt, jn_le, jn_in, jn_inj, jn_ne_m, jm_ne_n, jm_eq_m, jm_lt, jm_le, jn_lt_m, jn_le_m, jn_add, jn_mul, jn_clamp, jo_some, jn_min, jn_max, ↓jlm, jl0, jl1, jl2, jl3, jl4, jl5, jl6, jl7, jl8, jl9, jl10, jl11, jl12, jl13, jl14, jl15, jl16, jl20, jl24, jl32, jl39, jl40, jl41, jl60, jl61, jl80, jl96, jl97, jl99, jl100, jl122, jl126, jl199, jl200, jl205, jl206, jl255, jl256, jl410, jl700, jl950, jl1000, jl1000000, jl4000, jl8240, jl32767, if_pos, if_neg, ↓reduceIte, Option.bind_some, not_true_eq_false, not_false_eq_true, Nat.not_lt, Nat.not_le]
    · by_cases e : r = i + 1
      · subst e; exact hc s h2
      · exact hT1 r s (by omega) h2
theorem jm_mends {I : iq_I} {m : jMu} {g : jGa} {y : Nat} (hm : mOk m) (hN : jRN I m) (hg : gOk m g) (hR : jRR (I 98) g) (hy : y < gY g) :
    ∃ I', zM_mends (jn y) I = some I' ∧ jag I I' ∧ jT110 I' m g y ((gS g y).length + 1) ∧ I' 76 0 = I 76 0 := by
  have h40 := hg.2.2.1 y hy
  have h10 := hm.1
  have h5 := hg.1
  obtain ⟨I1, e1, a1, hT1, t1⟩ : ∃ I', zM_mends_l9 (jn y) (jn (gS g y).length) ir_F (jn 0, I) = some I' ∧ jag I I' ∧ jT110 I' m g y 1 ∧ I' 76 0 = I 76 0 := by
    refine js_inv (fun s v => v.1 = jn s ∧ jag I v.2 ∧ (∀ s', s' < s → v.2 110 (10 * (gS g y).length + s') = jn 0) ∧ v.2 76 0 = I 76 0) (mS m) _ ?_ ?_ (mS m) 0 (jn 0, I) ir_F (by omega) ⟨rfl, jag_rf I, fun s' h => by omega, rfl⟩ (by unfold ir_F; omega)
    · rintro s ⟨x, I1⟩ hs ⟨hv, ha, hc, ht⟩
      simp only at hv ha hc ht
      subst hv
      have hN1 := jRN_ag hN ha
      refine ⟨(jn (s + 1), iq_upI I1 110 (10 * (gS g y).length + s) (jn 0)), ?_, rfl, jag_up ha rfl, fun s' h => ?_, ?_⟩
      · simp (disch := omega) only [zM_mends_l9_b, jRN_S hN1, ir_let, jn_lt, jn_le, jn_in, jn_inj, jn_ne_m, jm_ne_n, jm_eq_m, jm_lt, jm_le, jn_lt_m, jn_le_m, jn_add, jn_mul, jn_clamp, jo_some, jn_min, jn_max, ↓jlm, jl0, jl1, jl2, jl3, jl4, jl5, jl6, jl7, jl8, jl9, jl10, jl11, jl12, jl13, jl14, jl15, jl16, jl20, jl24, jl32, jl39, jl40, jl41, jl60, jl61, jl80, jl96, jl97, jl99, jl100, jl122, jl126, jl199, jl200, jl205, jl206, jl255, jl256, jl410, jl700, jl950, jl1000, jl1000000, jl4000, jl8240, jl32767, if_pos, if_neg, ↓reduceIte, Option.bind_some, not_true_eq_false, not_false_eq_true, Nat.not_lt, Nat.not_le]
      · dsimp only
        by_cases e : s' = s
        · subst e; rw [up_eq]
        · rw [up_ni (by omega)]; exact hc s' (by omega)
      · dsimp only
        rw [up_nk (by decide)]; exact ht
    · rintro ⟨x, I1⟩ ⟨hv, ha, hc, ht⟩
      simp only at hv ha hc ht
      subst hv
      have hN1 := jRN_ag hN ha
      refine ⟨I1, ?_, ha, fun r s h1 h2 => ?_, ht⟩
      · simp (disch := omega) only [zM_mends_l9_b, jRN_S hN1, ir_let, jn_lt, jn_le, jn_in, jn_inj, jn_ne_m, jm_ne_n, jm_eq_m, jm_lt, jm_le, jn_lt_m, jn_le_m, jn_add, jn_mul, jn_clamp, jo_some, jn_min, jn_max, ↓jlm, jl0, jl1, jl2, jl3, jl4, jl5, jl6, jl7, jl8, jl9, jl10, jl11, jl12, jl13, jl14, jl15, jl16, jl20, jl24, jl32, jl39, jl40, jl41, jl60, jl61, jl80, jl96, jl97, jl99, jl100, jl122, jl126, jl199, jl200, jl205, jl206, jl255, jl256, jl410, jl700, jl950, jl1000, jl1000000, jl4000, jl8240, jl32767, if_pos, if_neg, ↓reduceIte, Option.bind_some, not_true_eq_false, not_false_eq_true, Nat.not_lt, Nat.not_le]
      · have : r = 0 := by omega
        subst this
        exact hc s h2
  obtain ⟨I2, e2, a2, hT2, t2⟩ : ∃ I', zM_mends_l39 (jn y) ir_F (jn (gS g y).length - jn 1, I1) = some I' ∧ jag I1 I' ∧ jT110 I' m g y ((gS g y).length + 1) ∧ I' 76 0 = I1 76 0 := by
    refine js_inv (fun i v => v.1 = (if i < (gS g y).length then jn ((gS g y).length - (i + 1)) else jo none) ∧ jag I1 v.2 ∧ jT110 v.2 m g y (i + 1) ∧ v.2 76 0 = I1 76 0) (gS g y).length _ ?_ ?_ (gS g y).length 0 _ ir_F (by omega) ⟨?_, jag_rf I1, hT1, rfl⟩ (by unfold ir_F; omega)
    · rintro i ⟨x, I2⟩ hi ⟨hv, ha, hTi, ht⟩
      simp only at hv ha hTi ht
      rw [if_pos hi] at hv
      subst hv
      obtain ⟨I3, e3, a3, hT3, t3⟩ := jm_mn46 hm (jRN_ag hN (jag_tr a1 ha)) hg (jRR_ag hR (jag_tr a1 ha)) hy hTi hi
      refine ⟨(if i + 1 < (gS g y).length then jn ((gS g y).length - (i + 1 + 1)) else jo none, I3), ?_, rfl, jag_tr ha a3, hT3, t3.trans ht⟩
      have en : jn ((gS g y).length - (i + 1)) + jo none = (if i + 1 < (gS g y).length then jn ((gS g y).length - (i + 1 + 1)) else jo none) := by
        by_cases e : i + 1 < (gS g y).length
        · rw [if_pos e, jn_pred (by omega), Nat.sub_sub]
        · rw [if_neg e, show (gS g y).length - (i + 1) = 0 by omega]; rfl
      simp (disch := omega) only [zM_mends_l39_b, ↓jlm, jl0, jn_lt, if_neg, e3, Option.bind_some, en]
    · rintro ⟨x, I2⟩ ⟨hv, ha, hTi, ht⟩
      simp only at hv ha hTi ht
      rw [if_neg (by omega)] at hv
      subst hv
      refine ⟨I2, ?_, ha, hTi, ht⟩
      simp (disch := omega) only [zM_mends_l39_b, ir_let, jn_lt, jn_le, jn_in, jn_inj, jn_ne_m, jm_ne_n, jm_eq_m, jm_lt, jm_le, jn_lt_m, jn_le_m, jn_add, jn_mul, jn_clamp, jo_some, jn_min, jn_max, ↓jlm, jl0, jl1, jl2, jl3, jl4, jl5, jl6, jl7, jl8, jl9, jl10, jl11, jl12, jl13, jl14, jl15, jl16, jl20, jl24, jl32, jl39, jl40, jl41, jl60, jl61, jl80, jl96, jl97, jl99, jl100, jl122, jl126, jl199, jl200, jl205, jl206, jl255, jl256, jl410, jl700, jl950, jl1000, jl1000000, jl4000, jl8240, jl32767, if_pos, if_neg, ↓reduceIte, Option.bind_some, not_true_eq_false, not_false_eq_true, Nat.not_lt, Nat.not_le]
    · simp only
      by_cases e : 0 < (gS g y).length
      · rw [if_pos e, jn_sub (by omega)]
      · rw [if_neg e, show (gS g y).length = 0 by omega]; rfl
  refine ⟨I2, ?_, jag_tr a1 a2, hT2, t2.trans t1⟩
  simp only [jn0] at e1
  simp only [jn1] at e2
  simp (disch := omega) only [zM_mends, jRR_L hR, jn_in, jn_clamp, if_pos, e1, e2, Option.bind_some]
theorem mF_99 {m : jMu} {g : jGa} {y r s w v t : Nat} (hr : r ≤ 40) (hv : v ≤ 41) (ht : mLd m s w = some t) : ((mD m g y r t).getD 99 + (if gW g y ((gS g y).length - (r + 1)) = w then 0 else 1) = v) = (mF m g y r (mD m g y r) s w = some v) := by
  unfold mF
  rw [ht]
  cases h2 : mD m g y r t with
  | none => simp [h2]; split <;> omega
  | some c => simp [h2]
theorem jm_b121a {I : iq_I} {y p s k t c x v : Nat} {x2 : Int32} (hp : p < 40) (ht : t < 10) (hs : s < 10) (hc : c ≤ 99) (hv : v ≤ 99) (hk : k < 14) (hx : x < 14) (lt : zM_leads (jn s) (jn k) I = some (jn t)) (cell : I 110 (10 * p + 10 + t) = jn c) (c0 : I 110 (10 * p + s) = jn v) (wa : zM_wordAt_76_98 (jn y) (jn p) I = some (jn k)) (q : c = v) :
    zM_mend_l121_b (jn y) x2 (jn s) (jn p) I (jn k) = some (.inr (jn k)) := by
  simp (disch := omega) only [zM_mend_l121_b, zM_mend_176, lt, cell, c0, wa, ir_let, jn_lt, jn_le, jn_in, jn_inj, jn_ne_m, jm_ne_n, jm_eq_m, jm_lt, jm_le, jn_lt_m, jn_le_m, jn_add, jn_mul, jn_clamp, jo_some, jn_min, jn_max, ↓jlm, jl0, jl1, jl2, jl3, jl4, jl5, jl6, jl7, jl8, jl9, jl10, jl11, jl12, jl13, jl14, jl15, jl16, jl20, jl24, jl32, jl39, jl40, jl41, jl60, jl61, jl80, jl96, jl97, jl99, jl100, jl122, jl126, jl199, jl200, jl205, jl206, jl255, jl256, jl410, jl700, jl950, jl1000, jl1000000, jl4000, jl8240, jl32767, if_pos, if_neg, ↓reduceIte, Option.bind_some, not_true_eq_false, not_false_eq_true, Nat.not_lt, Nat.not_le]
theorem jm_b121b {I : iq_I} {y p s k t c x v : Nat} {x2 : Int32} (hp : p < 40) (ht : t < 10) (hs : s < 10) (hc : c ≤ 99) (hv : v ≤ 99) (hk : k < 14) (hx : x < 14) (lt : zM_leads (jn s) (jn k) I = some (jn t)) (cell : I 110 (10 * p + 10 + t) = jn c) (c0 : I 110 (10 * p + s) = jn v) (wa : zM_wordAt_76_98 (jn y) (jn p) I = some (jn k)) (q : ¬ c = v) :
    zM_mend_l121_b (jn y) x2 (jn s) (jn p) I (jn k) = some (.inl (jn (k + 1))) := by
  simp (disch := omega) only [zM_mend_l121_b, zM_mend_176, lt, cell, c0, wa, ir_let, jn_lt, jn_le, jn_in, jn_inj, jn_ne_m, jm_ne_n, jm_eq_m, jm_lt, jm_le, jn_lt_m, jn_le_m, jn_add, jn_mul, jn_clamp, jo_some, jn_min, jn_max, ↓jlm, jl0, jl1, jl2, jl3, jl4, jl5, jl6, jl7, jl8, jl9, jl10, jl11, jl12, jl13, jl14, jl15, jl16, jl20, jl24, jl32, jl39, jl40, jl41, jl60, jl61, jl80, jl96, jl97, jl99, jl100, jl122, jl126, jl199, jl200, jl205, jl206, jl255, jl256, jl410, jl700, jl950, jl1000, jl1000000, jl4000, jl8240, jl32767, if_pos, if_neg, ↓reduceIte, Option.bind_some, not_true_eq_false, not_false_eq_true, Nat.not_lt, Nat.not_le]
theorem jm_b121c {I : iq_I} {y p s k t c x v : Nat} {x2 : Int32} (hp : p < 40) (ht : t < 10) (hs : s < 10) (hc : c ≤ 99) (hv : v ≤ 99) (hk : k < 14) (hx : x < 14) (lt : zM_leads (jn s) (jn k) I = some (jn t)) (cell : I 110 (10 * p + 10 + t) = jn c) (c0 : I 110 (10 * p + s) = jn v) (wa : zM_wordAt_76_98 (jn y) (jn p) I = some (jn x)) (e : ¬ x = k) (q : c + 1 = v) :
    zM_mend_l121_b (jn y) x2 (jn s) (jn p) I (jn k) = some (.inr (jn k)) := by
  simp (disch := omega) only [zM_mend_l121_b, zM_mend_176, lt, cell, c0, wa, ir_let, jn_lt, jn_le, jn_in, jn_inj, jn_ne_m, jm_ne_n, jm_eq_m, jm_lt, jm_le, jn_lt_m, jn_le_m, jn_add, jn_mul, jn_clamp, jo_some, jn_min, jn_max, ↓jlm, jl0, jl1, jl2, jl3, jl4, jl5, jl6, jl7, jl8, jl9, jl10, jl11, jl12, jl13, jl14, jl15, jl16, jl20, jl24, jl32, jl39, jl40, jl41, jl60, jl61, jl80, jl96, jl97, jl99, jl100, jl122, jl126, jl199, jl200, jl205, jl206, jl255, jl256, jl410, jl700, jl950, jl1000, jl1000000, jl4000, jl8240, jl32767, if_pos, if_neg, ↓reduceIte, Option.bind_some, not_true_eq_false, not_false_eq_true, Nat.not_lt, Nat.not_le]
theorem jm_b121d {I : iq_I} {y p s k t c x v : Nat} {x2 : Int32} (hp : p < 40) (ht : t < 10) (hs : s < 10) (hc : c ≤ 99) (hv : v ≤ 99) (hk : k < 14) (hx : x < 14) (lt : zM_leads (jn s) (jn k) I = some (jn t)) (cell : I 110 (10 * p + 10 + t) = jn c) (c0 : I 110 (10 * p + s) = jn v) (wa : zM_wordAt_76_98 (jn y) (jn p) I = some (jn x)) (e : ¬ x = k) (q : ¬ c + 1 = v) :
    zM_mend_l121_b (jn y) x2 (jn s) (jn p) I (jn k) = some (.inl (jn (k + 1))) := by
  simp (disch := omega) only [zM_mend_l121_b, zM_mend_176, lt, cell, c0, wa, ir_let, jn_lt, jn_le, jn_in, jn_inj, jn_ne_m, jm_ne_n, jm_eq_m, jm_lt, jm_le, jn_lt_m, jn_le_m, jn_add, jn_mul, jn_clamp, jo_some, jn_min, jn_max, ↓jlm, jl0, jl1, jl2, jl3, jl4, jl5, jl6, jl7, jl8, jl9, jl10, jl11, jl12, jl13, jl14, jl15, jl16, jl20, jl24, jl32, jl39, jl40, jl41, jl60, jl61, jl80, jl96, jl97, jl99, jl100, jl122, jl126, jl199, jl200, jl205, jl206, jl255, jl256, jl410, jl700, jl950, jl1000, jl1000000, jl4000, jl8240, jl32767, if_pos, if_neg, ↓reduceIte, Option.bind_some, not_true_eq_false, not_false_eq_true, Nat.not_lt, Nat.not_le]
theorem jm_b121 {I : iq_I} {y p s k t c x v : Nat} {x2 : Int32} (hp : p < 40) (ht : t < 10) (hs : s < 10) (hc : c ≤ 99) (hv : v ≤ 99) (hk : k < 14) (hx : x < 14) (lt : zM_leads (jn s) (jn k) I = some (jn t)) (cell : I 110 (10 * p + 10 + t) = jn c) (c0 : I 110 (10 * p + s) = jn v) (wa : zM_wordAt_76_98 (jn y) (jn p) I = some (jn x)) :
    zM_mend_l121_b (jn y) x2 (jn s) (jn p) I (jn k) = some (if c + (if x = k then 0 else 1) = v then .inr (jn k) else .inl (jn (k + 1))) := by
  by_cases e : x = k
  · have e1 : (if x = k then 0 else 1) = 0 := if_pos e
    rw [e] at wa
    by_cases q : c = v
    · rw [e1, Nat.add_zero, if_pos q]
      exact jm_b121a hp ht hs hc hv hk hx lt cell c0 wa q
    · rw [e1, Nat.add_zero, if_neg q]
      exact jm_b121b hp ht hs hc hv hk hx lt cell c0 wa q
  · have e1 : (if x = k then 0 else 1) = 1 := if_neg e
    by_cases q : c + 1 = v
    · rw [e1, if_pos q]
      exact jm_b121c hp ht hs hc hv hk hx lt cell c0 wa e q
    · rw [e1, if_neg q]
      exact jm_b121d hp ht hs hc hv hk hx lt cell c0 wa e q
theorem jm_b121n {I : iq_I} {y p s k : Nat} {x2 : Int32} (hk : k < 14) (lt : zM_leads (jn s) (jn k) I = some (jo none)) :
    zM_mend_l121_b (jn y) x2 (jn s) (jn p) I (jn k) = some (.inl (jn (k + 1))) := by
  unfold zM_mend_l121_b
  rw [lt, Option.bind_some, if_pos (show jo none = -1 from rfl), show (1 : Int32) = jn 1 from rfl, jn_add]
theorem jm_pick {I : iq_I} {m : jMu} {g : jGa} {y : Nat} (hm : mOk m) (hN : jRN I m) (hg : gOk m g) (hR : jRR (I 98) g) (hy : y < gY g) (hT : jT110 I m g y ((gS g y).length + 1)) {r s v : Nat} (hr : r < (gS g y).length) (hs : s < mS m) (h : mD m g y (r + 1) s = some v) (x2 : Int32) :
    ∃ w t, mPk m g y r s = some w ∧ w < mW m ∧ mLd m s w = some t ∧ zM_mend_l121 (jn y) x2 (jn s) (jn ((gS g y).length - (r + 1))) I ir_F (jn 0) = some (jn w) := by
  have h40 := hg.2.2.1 y hy
  have h14 := hm.2.1
  have h10 := hm.1
  have hv := mD_le _ _ _ h
  obtain ⟨w, t, u, p1, p2, p3, p4, p5, p6⟩ := mPk_ok h
  have wa : zM_wordAt_76_98 (jn y) (jn ((gS g y).length - (r + 1))) I = some (jn (gW g y ((gS g y).length - (r + 1)))) := jm_wordAt hg hR hy (by omega)
  have hwi := gW_lt hm hg hy (show (gS g y).length - (r + 1) < (gS g y).length by omega)
  have c0 := hT (r + 1) s (by omega) hs
  rw [h, Option.getD_some] at c0
  have hp : (gS g y).length - (r + 1) < 40 := by omega
  have cell : ∀ t, t < mS m → I 110 (10 * ((gS g y).length - (r + 1)) + 10 + t) = jn ((mD m g y r t).getD 99) := fun t ht => by
    have := hT r t (by omega) ht
    rw [show (gS g y).length - r = (gS g y).length - (r + 1) + 1 by omega, Nat.mul_add, Nat.mul_one] at this
    exact this
  have b2 : ∀ t, (mD m g y r t).getD 99 ≤ 99 := fun t => getD_le (fun v hv => mD_le r t v hv) (by omega)
  refine ⟨w, t, p1, p2, p3, ?_⟩
  refine js_seq (fun k => jn k) w _ (fun k hk => ?_) ?_ w 0 ir_F (by omega) (by unfold ir_F; omega)
  · have ne := p6 k hk
    have lt := jm_leads hm hN hs (show k < mW m by omega)
    cases hr3 : mLd m s k with
    | none =>
      rw [hr3] at lt
      exact jm_b121n (by omega) lt
    | some t' =>
      have ht := mLd_lt hm hs (show k < mW m by omega) hr3
      rw [hr3] at lt
      rw [← mF_99 (by omega) (by omega) hr3] at ne
      have := jm_b121 (y := y) (x2 := x2) hp (show t' < 10 by omega) (show s < 10 by omega) (b2 t') (show v ≤ 99 by omega) (show k < 14 by omega) hwi lt (cell t' ht) c0 wa
      rw [if_neg ne] at this
      exact this
  · have ne := p5
    have lt := jm_leads hm hN hs p2
    have ht := mLd_lt hm hs p2 p3
    rw [p3] at lt
    rw [← mF_99 (by omega) (by omega) p3] at ne
    have := jm_b121 (y := y) (x2 := x2) hp (show t < 10 by omega) (show s < 10 by omega) (b2 t) (show v ≤ 99 by omega) (show w < 14 by omega) hwi lt (cell t ht) c0 wa
    rw [if_pos ne] at this
    exact this
theorem jm_mend112 {I : iq_I} {m : jMu} {g : jGa} {y i v : Nat} (hm : mOk m) (hN : jRN I m) (hg : gOk m g) (hR : jRR (I 98) g) (hy : y < gY g) (hT : jT110 I m g y ((gS g y).length + 1)) (hv : vMn m g y = some v) (hi : i < (gS g y).length) :
    zM_mend_l112 (jn y) (jn i) I ir_F (jn (gB g y), jo none, jn 0) = some (vMw m g y i) := by
  have h40 := hg.2.2.1 y hy
  have hb := hg.2.1 y hy
  have step : ∀ k, k < (gS g y).length → ∃ w, mPk m g y ((gS g y).length - (k + 1)) (mAt m g y k) = some w ∧ w < 14 ∧ zM_mend_l121 (jn y) (jn i) (jn (mAt m g y k)) (jn k) I ir_F (jn 0) = some (jn w) ∧ zM_leads (jn (mAt m g y k)) (jn w) I = some (jn (mAt m g y (k + 1))) := fun k hk => by
    obtain ⟨h1, u, h2⟩ := mAt_ok hm hb hv k (by omega)
    rw [show (gS g y).length - k = (gS g y).length - (k + 1) + 1 by omega] at h2
    obtain ⟨w, t, p1, p2, p3, p4⟩ := jm_pick hm hN hg hR hy hT (r := (gS g y).length - (k + 1)) (by omega) h1 h2 (jn i)
    rw [show (gS g y).length - ((gS g y).length - (k + 1) + 1) = k by omega] at p4
    have e : mAt m g y (k + 1) = t := by
      show ((mPk m g y ((gS g y).length - (k + 1)) (mAt m g y k)).bind (mLd m (mAt m g y k))).getD 0 = t
      rw [p1, Option.bind_some, p3]; rfl
    have h14 := hm.2.1
    have lt := jm_leads hm hN h1 p2
    rw [p3] at lt
    exact ⟨w, p1, by omega, p4, by rw [lt, e]; rfl⟩
  have E : ((jn (gB g y), jo none, jn 0) : Int32 × Int32 × Int32) = (fun k => (jn (mAt m g y k), (match k with
      | 0 => jo none
      | k + 1 => vMw m g y k), jn k)) 0 := rfl
  rw [E]
  refine js_seq (fun k => (jn (mAt m g y k), (match k with
      | 0 => jo none
      | k + 1 => vMw m g y k), jn k)) (i + 1) _ (fun k hk => ?_) ?_ (i + 1) 0 ir_F (by omega) (by unfold ir_F; omega)
  · obtain ⟨w, p1, p2, p3, p4⟩ := step k (by omega)
    simp only [jn0] at p3
    simp only [zM_mend_l112_b]
    rw [if_neg (by rw [jn_lt (by omega) (by omega)]; omega), p3, Option.bind_some, p4, Option.bind_some, show (1 : Int32) = jn 1 from rfl, jn_add]
    simp only [vMw, p1, jo_some]
  · simp only [zM_mend_l112_b]
    rw [if_pos (by rw [jn_lt (by omega) (by omega)]; omega)]
theorem jq_mend {I : iq_I} (hI : jInv I) (x z : Int32) (X : iq_X) : ∃ r I1 X1 b I2, zO_mend x z I X = some (r, I1, X1) ∧ zM_mend x z I1 = some (b, I2) ∧ jag I I1 ∧ jag I I2 ∧ jXo X X1 ∧ jAns r b (I2 76 0) := by
  obtain ⟨m, g, hm, hU, hN, hB, ⟨hg, hG, hR, -, -⟩, -⟩ := hI
  have h10 := hm.1
  by_cases hx : ∃ s, s < gY g ∧ x = jn s
  · obtain ⟨y, hy, rfl⟩ := hx
    have h5 := hg.1
    have h40 := hg.2.2.1 y hy
    have hbb := hg.2.1 y hy
    obtain ⟨I1, e1, a1, hT1⟩ := jc_fewestToMend hm hU hg hG hy
    have hU1 := jRU_ag hU a1
    have hG1 := jRG_up hG a1
    have hB1 := jRB_ag hB a1
    have hN1 := jRN_ag hN (jag_tr a1 (jz_ag I1))
    have hR1 := jRR_ag hR (jag_tr a1 (jz_ag I1))
    have hBz := jRB_ag hB (jag_tr a1 (jz_ag I1))
    have r1 := jm_right1 (I := I1) (c := 1) (x := 1) rfl
    have r0 := jm_right0 (I := I1) (c := 1) (x := 0) rfl (by decide)
    obtain ⟨I2, e2, a2, hT2, t2⟩ := jm_mends hm hN1 hg hR1 hy
    have c2 := hT2 (gS g y).length (gB g y) (by omega) hbb
    rw [Nat.sub_self, Nat.mul_zero, Nat.zero_add] at c2
    have hb2 : I2 83 y = jn (gB g y) := (jRB_ag hBz a2).2 y hy
    have t2 : I2 76 0 = 0 := t2
    by_cases hz : z = -1
    · subst hz
      have e5 : ¬ jn (gS g y).length ≤ (-1 : Int32) := by rw [jlm, jn_le_m (by omega)]; simp
      refine ⟨.inl (jo (vMn m g y)), I1, X, jo (vMn m g y), I2, ?_, ?_, a1, jag_tr (jag_tr a1 (jz_ag I1)) a2, Or.inl rfl, Or.inl ⟨_, rfl, rfl, t2⟩⟩
      · simp only [zO_mend, jc_needSaying1 hg hG hy, e1, ir_let, iq_sm, ir_sm, jzE, j10, Option.bind_some, ↓reduceIte, not_true_eq_false, not_false_eq_true]
      · simp (disch := omega) only [zM_mend, zM_mend_34, jm_isSaying1 hg hB1 hy, ir_let, iq_sm, ir_sm, jzE, j10, Option.bind_some, ↓reduceIte, not_true_eq_false, not_false_eq_true, show ¬ ((-1 : Int32) < -1) by decide, jRR_L hR1, jn_in, jn_clamp, if_pos, e5, r1, e2, hb2, c2]
        unfold vMn
        cases h : mD m g y (gS g y).length (gB g y) with
        | none =>
          simp only [Option.getD_none]
          rfl
        | some v =>
          have := mD_le _ _ _ h
          have e6 : jn v < (99 : Int32) := by rw [show (99 : Int32) = jn 99 from rfl, jn_lt (by omega) (by omega)]; omega
          simp only [Option.getD_some, e6, ↓reduceIte, jo_some]
    · by_cases hp : ∃ i, i < (gS g y).length ∧ z = jn i
      · obtain ⟨i, hi, rfl⟩ := hp
        have e7 : ¬ jn i < (-1 : Int32) := jn_nlt (by omega) (by decide)
        cases hv : vMn m g y with
        | none =>
          rw [hv] at e1
          rw [show mD m g y (gS g y).length (gB g y) = none from hv, Option.getD_none] at c2
          have t3 : iq_upI I2 76 0 1 76 0 = 1 := up_eq
          refine ⟨.inr 0, I1, ir_xx X, 0, iq_upI I2 76 0 1, ?_, ?_, a1, jag_up (jag_tr (jag_tr a1 (jz_ag I1)) a2) rfl, Or.inr rfl, Or.inr ⟨rfl, t3⟩⟩
          · simp only [zO_mend, jc_needSaying1 hg hG hy, e1, ir_let, iq_sm, ir_sm, jzE, j10, Option.bind_some, ↓reduceIte, not_true_eq_false, not_false_eq_true, hz, jc_needPlace1 hg hG1 hy hi, ← jlm]
          · have rr : zM_right 0 1 I2 = some (0, iq_upI I2 76 0 1) := by
              unfold zM_right zM_right_16
              rw [if_neg (by rw [t2]; simp), if_neg (by simp), ir_let, if_pos (by rw [t3]; decide)]
            simp (disch := omega) only [zM_mend, zM_mend_34, zM_mend_89, jm_isSaying1 hg hB1 hy, ir_let, iq_sm, ir_sm, jzE, j10, Option.bind_some, ↓reduceIte, not_true_eq_false, not_false_eq_true, e7, jRR_L hR1, jn_in, jn_clamp, if_pos, jn_le, if_neg, r1, e2, hb2, c2, hz, show (99 : Int32) ≤ jn 99 from by decide, rr]
        | some v =>
          rw [hv] at e1
          rw [show mD m g y (gS g y).length (gB g y) = some v from hv, Option.getD_some] at c2
          have hv2 := mD_le _ _ _ (show mD m g y (gS g y).length (gB g y) = some v from hv)
          have mw := jc_mendedWord hm hU1 hg hG1 hy hT1 hv hi
          have mm := jm_mend112 hm (jRN_ag hN1 a2) hg (jRR_ag hR1 a2) hy hT2 hv hi
          simp only [jn0, ← jlm] at mm
          have e8 : ¬ jo (some v) = (-1 : Int32) := by rw [jlm, jo_some, jn_ne_m (by omega)]; simp
          have e9 : ¬ (99 : Int32) ≤ jn v := by rw [show (99 : Int32) = jn 99 from rfl, jn_le (by omega) (by omega)]; omega
          refine ⟨.inl (vMw m g y i), I1, X, vMw m g y i, I2, ?_, ?_, a1, jag_tr (jag_tr a1 (jz_ag I1)) a2, Or.inl rfl, Or.inl ⟨_, rfl, rfl, t2⟩⟩
          · simp only [zO_mend, jc_needSaying1 hg hG hy, e1, ir_let, iq_sm, ir_sm, jzE, j10, Option.bind_some, ↓reduceIte, not_true_eq_false, not_false_eq_true, hz, jc_needPlace1 hg hG1 hy hi, e8, mw]
          · have rr : zM_right 1 1 I2 = some (1, I2) := by
              unfold zM_right zM_right_16
              rw [if_neg (by rw [t2]; simp), if_pos (by decide), if_neg (by rw [t2]; simp)]
            simp (disch := omega) only [zM_mend, zM_mend_34, zM_mend_89, jm_isSaying1 hg hB1 hy, ir_let, iq_sm, ir_sm, jzE, j10, Option.bind_some, ↓reduceIte, not_true_eq_false, not_false_eq_true, e7, jRR_L hR1, jn_in, jn_clamp, if_pos, jn_le, if_neg, r1, e2, hb2, c2, hz, e9, rr, mm]
      · refine ⟨.inr 0, I1, ir_xx X, 0, jw I1 1, ?_, ?_, a1, jag_tr a1 (jw_ag I1 1), Or.inr rfl, Or.inr ⟨rfl, rfl⟩⟩
        · simp only [zO_mend, jc_needSaying1 hg hG hy, e1, ir_let, iq_sm, ir_sm, jzE, j10, Option.bind_some, ↓reduceIte, not_true_eq_false, not_false_eq_true, hz, jc_needPlace0 hg hG1 hy hp]
        · rcases jx_no (by omega) hp with h1 | ⟨h1, h2, h3⟩
          · simp only [zM_mend, zM_mend_33, zM_mend_34, jm_isSaying1 hg hB1 hy, ir_let, iq_sm, ir_sm, jzE, j10, Option.bind_some, ↓reduceIte, not_true_eq_false, not_false_eq_true, jneg1 h1 hz, r0]
          · have e2 : ¬ z < (-1 : Int32) := by
              intro h
              apply h1
              rw [Int32.lt_iff_toInt_lt] at h ⊢
              have e : (0 : Int32).toInt = 0 := rfl
              have e' : (-1 : Int32).toInt = -1 := rfl
              omega
            simp (disch := omega) only [zM_mend, zM_mend_33, zM_mend_34, jm_isSaying1 hg hB1 hy, ir_let, iq_sm, ir_sm, jzE, j10, Option.bind_some, ↓reduceIte, not_true_eq_false, not_false_eq_true, e2, jRR_L hR1, jn_in, jn_clamp, if_pos, h3, r0]
  · refine jmkE ?_ ?_
    · simp only [zO_mend, jc_needSaying0 hg hG hx, ir_let, iq_sm, ir_sm, jzE, j10, Option.bind_some, ↓reduceIte, not_true_eq_false, not_false_eq_true]
    · simp only [zM_mend, jm_isSaying0 hg hB hx, ir_let, iq_sm, ir_sm, jzE, j10, Option.bind_some, ↓reduceIte, not_true_eq_false, not_false_eq_true]
