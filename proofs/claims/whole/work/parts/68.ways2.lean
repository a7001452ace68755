/-! ===== ways: the reference, the answers ===== -/
theorem jm_wy109 {I : iq_I} {J : iq_J} {m : jMu} {e : Bool} {n s : Nat} {x1 x2 x4 : Int32} (hm : mOk m) (hN : jRN I m) (hJ : ∀ s, s < mS m → J 104 s = jlg (wF m e n s)) (hs : s < mS m) (h0 : J 105 s = jlg 0) :
    ∃ J', zM_ways_l109 x1 x2 x4 (jn s) I ir_F (jn 0, J) = some J' ∧ J' 105 s = jlg (wF m e (n + 1) s) ∧ (∀ k i, ¬ (k = 105 ∧ i = s) → J' k i = J k i) := by
  have h10 := hm.1
  have h14 := hm.2.1
  refine js_inv (fun w v => v.1 = jn w ∧ v.2 105 s = jlg (jsum (fun w => oV (wF m e n) (mLd m s w)) w) ∧ ∀ k i, ¬ (k = 105 ∧ i = s) → v.2 k i = J k i) (mW m) _ ?_ ?_ (mW m) 0 (jn 0, J) ir_F (by omega) ⟨rfl, h0, fun _ _ _ => rfl⟩ (by unfold ir_F; omega)
  · rintro w ⟨x, J1⟩ hw ⟨hv, h1, h2⟩
    simp only at hv h1 h2
    subst hv
    have lt := jm_leads hm hN hs hw
    have hc : ¬ jn (mW m) ≤ jn w := by rw [jn_le (by omega) (by omega)]; omega
    cases hr : mLd m s w with
    | none =>
      rw [hr] at lt
      refine ⟨(jn (w + 1), J1), ?_, rfl, ?_, h2⟩
      · unfold zM_ways_l109_b
        rw [jRN_W hN, if_neg hc, lt, Option.bind_some, if_pos (show jo none = -1 from rfl), show (1 : Int32) = jn 1 from rfl, jn_add]
      · dsimp only; rw [← jsumS, hr]; exact h1
    | some t =>
      have ht := mLd_lt hm hs hw hr
      rw [hr] at lt
      have c4 : J1 104 t = jlg (wF m e n t) := (h2 104 t (fun h => absurd h.1 (by decide))).trans (hJ t ht)
      refine ⟨(jn (w + 1), iq_upJ J1 105 s (jlg (jsum (fun w => oV (wF m e n) (mLd m s w)) (w + 1)))), ?_, rfl, ?_, fun k i h => ?_⟩
      · rw [← jsumS, hr]
        simp (disch := omega) only [zM_ways_l109_b, jRN_W hN, lt, h1, c4, ir_let, jn_lt, jn_le, jn_in, jn_inj, jn_ne_m, jm_ne_n, jm_eq_m, jm_lt, jm_le, jn_lt_m, jn_le_m, jn_add, jn_mul, jn_clamp, jo_some, jn_min, jn_max, ↓jlm, jl0, jl1, jl2, jl3, jl4, jl5, jl6, jl7, jl8, jl9, jl10, jl11, jl12, jl13, jl14, jl15, jl16, jl20, jl24, jl32, jl39, jl40, jl41, jl60, jl61, jl80, jl96, jl97, jl99, jl100, jl122, jl126, jl199, jl200, jl205, jl206, jl255, jl256, jl410, jl700, jl950, jl1000, jl1000000, jl4000, jl8240, jl32767, if_pos, if_neg, ↓reduceIte, Option.bind_some, not_true_eq_false, not_false_eq_true, Nat.not_lt, Nat.not_le, jlg_add, oV]
      · dsimp only; rw [upJ_eq]
      · dsimp only
        by_cases q : k = 105
        · subst q
          rw [upJ_ni (fun q2 => h ⟨rfl, q2⟩)]; exact h2 _ _ h
        · rw [upJ_nk q]; exact h2 _ _ h
  · rintro ⟨x, J1⟩ ⟨hv, h1, h2⟩
    simp only at hv h1 h2
    subst hv
    refine ⟨J1, ?_, h1, h2⟩
    simp (disch := omega) only [zM_ways_l109_b, jRN_W hN, ir_let, jn_lt, jn_le, jn_in, jn_inj, jn_ne_m, jm_ne_n, jm_eq_m, jm_lt, jm_le, jn_lt_m, jn_le_m, jn_add, jn_mul, jn_clamp, jo_some, jn_min, jn_max, ↓jlm, jl0, jl1, jl2, jl3, jl4, jl5, jl6, jl7, jl8, jl9, jl10, jl11, jl12, jl13, jl14, jl15, jl16, jl20, jl24, jl32, jl39, jl40, jl41, jl60, jl61, jl80, jl96, jl97, jl99, jl100, jl122, jl126, jl199, jl200, jl205, jl206, jl255, jl256, jl410, jl700, jl950, jl1000, jl1000000, jl4000, jl8240, jl32767, if_pos, if_neg, ↓reduceIte, Option.bind_some, not_true_eq_false, not_false_eq_true, Nat.not_lt, Nat.not_le]
theorem jm_wy89 {I : iq_I} {J : iq_J} {m : jMu} {e : Bool} {n : Nat} {x1 x2 x4 : Int32} (hm : mOk m) (hN : jRN I m) (hJ : ∀ s, s < mS m → J 104 s = jlg (wF m e n s)) :
    ∃ J', zM_ways_l89 x1 x2 x4 I ir_F (jn 0, J) = some J' ∧ (∀ s, s < mS m → J' 105 s = jlg (wF m e (n + 1) s)) ∧ (∀ k i, ¬ k = 105 → J' k i = J k i) := by
  have h10 := hm.1
  refine js_inv (fun i v => v.1 = jn i ∧ (∀ s, s < i → v.2 105 s = jlg (wF m e (n + 1) s)) ∧ ∀ k i, ¬ k = 105 → v.2 k i = J k i) (mS m) _ ?_ ?_ (mS m) 0 (jn 0, J) ir_F (by omega) ⟨rfl, fun s h => by omega, fun _ _ _ => rfl⟩ (by unfold ir_F; omega)
  · rintro s ⟨x, J1⟩ hs ⟨hv, h1, h2⟩
    simp only at hv h1 h2
    subst hv
    obtain ⟨J2, e2, q1, q2⟩ := jm_wy109 (J := iq_upJ J1 105 s 0) (x1 := x1) (x2 := x2) (x4 := x4) hm hN (e := e) (n := n) (fun s' h => by rw [upJ_nk (by decide), h2 _ _ (by decide)]; exact hJ s' h) hs upJ_eq
    refine ⟨(jn (s + 1), J2), ?_, rfl, fun s' h => ?_, fun k i h => ?_⟩
    · simp only [jn0] at e2
      simp (disch := omega) only [zM_ways_l89_b, jRN_S hN, ir_let, jn_le, if_neg, jn_in, jn_clamp, if_pos, e2, Option.bind_some, jl1, jn_add]
    · dsimp only
      by_cases q : s' = s
      · subst q; exact q1
      · rw [q2 _ _ (fun h3 => q h3.2), upJ_ni q]; exact h1 s' (by omega)
    · dsimp only
      rw [q2 _ _ (fun h3 => h h3.1), upJ_nk h]; exact h2 _ _ h
  · rintro ⟨x, J1⟩ ⟨hv, h1, h2⟩
    simp only at hv h1 h2
    subst hv
    refine ⟨J1, ?_, h1, h2⟩
    simp (disch := omega) only [zM_ways_l89_b, jRN_S hN, ir_let, jn_lt, jn_le, jn_in, jn_inj, jn_ne_m, jm_ne_n, jm_eq_m, jm_lt, jm_le, jn_lt_m, jn_le_m, jn_add, jn_mul, jn_clamp, jo_some, jn_min, jn_max, ↓jlm, jl0, jl1, jl2, jl3, jl4, jl5, jl6, jl7, jl8, jl9, jl10, jl11, jl12, jl13, jl14, jl15, jl16, jl20, jl24, jl32, jl39, jl40, jl41, jl60, jl61, jl80, jl96, jl97, jl99, jl100, jl122, jl126, jl199, jl200, jl205, jl206, jl255, jl256, jl410, jl700, jl950, jl1000, jl1000000, jl4000, jl8240, jl32767, if_pos, if_neg, ↓reduceIte, Option.bind_some, not_true_eq_false, not_false_eq_true, Nat.not_lt, Nat.not_le]
theorem jm_wy168 {I : iq_I} {J : iq_J} {m : jMu} {f : Nat → Nat} {x1 x2 x4 : Int32} (hm : mOk m) (hN : jRN I m) (hJ : ∀ s, s < mS m → J 105 s = jlg (f s)) :
    ∃ J', zM_ways_l168 x1 x2 x4 I ir_F (jn 0, J) = some J' ∧ (∀ s, s < mS m → J' 104 s = jlg (f s)) ∧ (∀ k i, ¬ k = 104 → J' k i = J k i) := by
  have h10 := hm.1
  refine js_inv (fun i v => v.1 = jn i ∧ (∀ s, s < i → v.2 104 s = jlg (f s)) ∧ ∀ k i, ¬ k = 104 → v.2 k i = J k i) (mS m) _ ?_ ?_ (mS m) 0 (jn 0, J) ir_F (by omega) ⟨rfl, fun s h => by omega, fun _ _ _ => rfl⟩ (by unfold ir_F; omega)
  · rintro s ⟨x, J1⟩ hs ⟨hv, h1, h2⟩
    simp only at hv h1 h2
    subst hv
    have c := (h2 105 s (by decide)).trans (hJ s hs)
    refine ⟨(jn (s + 1), iq_upJ J1 104 s (jlg (f s))), ?_, rfl, fun s' h => ?_, fun k i h => ?_⟩
    · simp (disch := omega) only [zM_ways_l168_b, jRN_S hN, c, ir_let, jn_lt, jn_le, jn_in, jn_inj, jn_ne_m, jm_ne_n, jm_eq_m, jm_lt, jm_le, jn_lt_m, jn_le_m, jn_add, jn_mul, jn_clamp, jo_some, jn_min, jn_max, ↓jlm, jl0, jl1, jl2, jl3, jl4, jl5, jl6, jl7, jl8, jl9, jl10, jl11, jl12, jl13, jl14, jl15, jl16, jl20, jl24, jl32, jl39, jl40, jl41, jl60, jl61, jl80, jl96, jl97, jl99, jl100, jl122, jl126, jl199, jl200, jl205, jl206, jl255, jl256, jl410, jl700, jl950, jl1000, jl1000000, jl4000, jl8240, jl32767, if_pos, if_neg, ↓reduceIte, Option.bind_some, not_true_eq_false, not_false_eq_true, Nat.not_lt, Nat.not_le]
    · dsimp only
      by_cases q : s' = s
      · subst q; rw [upJ_eq]
      · rw [upJ_ni q]; exact h1 s' (by omega)
    · dsimp only; rw [upJ_nk h]; exact h2 _ _ h
  · rintro ⟨x, J1⟩ ⟨hv, h1, h2⟩
    simp only at hv h1 h2
    subst hv
    refine ⟨J1, ?_, h1, h2⟩
    simp (disch := omega) only [zM_ways_l168_b, jRN_S hN, ir_let, jn_lt, jn_le, jn_in, jn_inj, jn_ne_m, jm_ne_n, jm_eq_m, jm_lt, jm_le, jn_lt_m, jn_le_m, jn_add, jn_mul, jn_clamp, jo_some, jn_min, jn_max, ↓jlm, jl0, jl1, jl2, jl3, jl4, jl5, jl6, jl7, jl8, jl9, jl10, jl11, jl12, jl13, jl14, jl15, jl16, jl20, jl24, jl32, jl39, jl40, jl41, jl60, jl61, jl80, jl96, jl97, jl99, jl100, jl122, jl126, jl199, jl200, jl205, jl206, jl255, jl256, jl410, jl700, jl950, jl1000, jl1000000, jl4000, jl8240, jl32767, if_pos, if_neg, ↓reduceIte, Option.bind_some, not_true_eq_false, not_false_eq_true, Nat.not_lt, Nat.not_le]
theorem jm_wy {I : iq_I} {J : iq_J} {m : jMu} {n s : Nat} {x3 : Int32} (hm : mOk m) (hN : jRN I m) (hs : s < mS m) (hn : n ≤ 12) :
    ∃ J1 J2, zM_ways_l33 (jn s) (jn n) x3 I ir_F (jn 0, J) = some J1 ∧ zM_ways_l80 (jn s) (jn n) I ir_F (jn 0, J1) = some J2 ∧ J2 104 s = jlg (wF m (decide (¬ x3 = 0)) n s) ∧ J2 114 0 = J 114 0 := by
  have h10 := hm.1
  obtain ⟨J1, e1, h1, g1⟩ : ∃ J', zM_ways_l33 (jn s) (jn n) x3 I ir_F (jn 0, J) = some J' ∧ (∀ s, s < mS m → J' 104 s = jlg (wF m (decide (¬ x3 = 0)) 0 s)) ∧ J' 114 0 = J 114 0 := by
    refine js_inv (fun i v => v.1 = jn i ∧ (∀ s, s < i → v.2 104 s = jlg (wF m (decide (¬ x3 = 0)) 0 s)) ∧ v.2 114 0 = J 114 0) (mS m) _ ?_ ?_ (mS m) 0 (jn 0, J) ir_F (by omega) ⟨rfl, fun s h => by omega, rfl⟩ (by unfold ir_F; omega)
    · rintro i ⟨x, J1⟩ hi ⟨hv, h2, g2⟩
      simp only at hv h2 g2
      subst hv
      refine ⟨(jn (i + 1), iq_upJ J1 104 i (jlg (wF m (decide (¬ x3 = 0)) 0 i))), ?_, rfl, fun s' h => ?_, ?_⟩
      · have hz : (x3 = 0) = (x3 = jn 0) := rfl
        by_cases hx : x3 = 0
        · have e : wF m (decide (¬ x3 = 0)) 0 i = 1 := by simp [wF, hx]
          rw [e]
          rw [hz] at hx
          simp (disch := omega) only [zM_ways_l33_b, zM_ways_65, zM_ways_70, jRN_S hN, hx, ir_let, jn_lt, jn_le, jn_in, jn_inj, jn_ne_m, jm_ne_n, jm_eq_m, jm_lt, jm_le, jn_lt_m, jn_le_m, jn_add, jn_mul, jn_clamp, jo_some, jn_min, jn_max, ↓jlm, jl0, jl1, jl2, jl3, jl4, jl5, jl6, jl7, jl8, jl9, jl10, jl11, jl12, jl13, jl14, jl15, jl16, jl20, jl24, jl32, jl39, jl40, jl41, jl60, jl61, jl80, jl96, jl97, jl99, jl100, jl122, jl126, jl199, jl200, jl205, jl206, jl255, jl256, jl410, jl700, jl950, jl1000, jl1000000, jl4000, jl8240, jl32767, if_pos, if_neg, ↓reduceIte, Option.bind_some, not_true_eq_false, not_false_eq_true, Nat.not_lt, Nat.not_le]
          rfl
        · cases he : mE m i with
          | true =>
            have e : wF m (decide (¬ x3 = 0)) 0 i = 1 := by simp [wF, he]
            rw [e]
            rw [hz] at hx
            simp (disch := omega) only [zM_ways_l33_b, zM_ways_65, zM_ways_70, jRN_S hN, jRN_E hN, jq_bit1, jq_jb, he, hx, ir_let, jn_lt, jn_le, jn_in, jn_inj, jn_ne_m, jm_ne_n, jm_eq_m, jm_lt, jm_le, jn_lt_m, jn_le_m, jn_add, jn_mul, jn_clamp, jo_some, jn_min, jn_max, ↓jlm, jl0, jl1, jl2, jl3, jl4, jl5, jl6, jl7, jl8, jl9, jl10, jl11, jl12, jl13, jl14, jl15, jl16, jl20, jl24, jl32, jl39, jl40, jl41, jl60, jl61, jl80, jl96, jl97, jl99, jl100, jl122, jl126, jl199, jl200, jl205, jl206, jl255, jl256, jl410, jl700, jl950, jl1000, jl1000000, jl4000, jl8240, jl32767, if_pos, if_neg, ↓reduceIte, Option.bind_some, not_true_eq_false, not_false_eq_true, Nat.not_lt, Nat.not_le]
            rfl
          | false =>
            have e : wF m (decide (¬ x3 = 0)) 0 i = 0 := by simp [wF, he, hx]
            rw [e]
            rw [hz] at hx
            simp (disch := omega) only [zM_ways_l33_b, zM_ways_65, zM_ways_70, jRN_S hN, jRN_E hN, jq_bit1, jq_jb, he, hx, ir_let, jn_lt, jn_le, jn_in, jn_inj, jn_ne_m, jm_ne_n, jm_eq_m, jm_lt, jm_le, jn_lt_m, jn_le_m, jn_add, jn_mul, jn_clamp, jo_some, jn_min, jn_max, ↓jlm, jl0, jl1, jl2, jl3, jl4, jl5, jl6, jl7, jl8, jl9, jl10, jl11, jl12, jl13, jl14, jl15, jl16, jl20, jl24, jl32, jl39, jl40, jl41, jl60, jl61, jl80, jl96, jl97, jl99, jl100, jl122, jl126, jl199, jl200, jl205, jl206, jl255, jl256, jl410, jl700, jl950, jl1000, jl1000000, jl4000, jl8240, jl32767, if_pos, if_neg, ↓reduceIte, Option.bind_some, not_true_eq_false, not_false_eq_true, Nat.not_lt, Nat.not_le, Bool.false_eq_true]
            rfl
      · dsimp only
        by_cases q : s' = i
        · subst q; rw [upJ_eq]
        · rw [upJ_ni q]; exact h2 s' (by omega)
      · dsimp only; rw [upJ_nk (by decide)]; exact g2
    · rintro ⟨x, J1⟩ ⟨hv, h2, g2⟩
      simp only at hv h2 g2
      subst hv
      refine ⟨J1, ?_, h2, g2⟩
      simp (disch := omega) only [zM_ways_l33_b, jRN_S hN, ir_let, jn_lt, jn_le, jn_in, jn_inj, jn_ne_m, jm_ne_n, jm_eq_m, jm_lt, jm_le, jn_lt_m, jn_le_m, jn_add, jn_mul, jn_clamp, jo_some, jn_min, jn_max, ↓jlm, jl0, jl1, jl2, jl3, jl4, jl5, jl6, jl7, jl8, jl9, jl10, jl11, jl12, jl13, jl14, jl15, jl16, jl20, jl24, jl32, jl39, jl40, jl41, jl60, jl61, jl80, jl96, jl97, jl99, jl100, jl122, jl126, jl199, jl200, jl205, jl206, jl255, jl256, jl410, jl700, jl950, jl1000, jl1000000, jl4000, jl8240, jl32767, if_pos, if_neg, ↓reduceIte, Option.bind_some, not_true_eq_false, not_false_eq_true, Nat.not_lt, Nat.not_le]
  obtain ⟨J2, e2, h2, g2⟩ : ∃ w, zM_ways_l80 (jn s) (jn n) I ir_F (jn 0, J1) = some w ∧ (∀ s, s < mS m → w 104 s = jlg (wF m (decide (¬ x3 = 0)) n s)) ∧ w 114 0 = J 114 0 := by
    refine js_inv (fun i v => v.1 = jn i ∧ (∀ s, s < mS m → v.2 104 s = jlg (wF m (decide (¬ x3 = 0)) i s)) ∧ v.2 114 0 = J 114 0) n _ ?_ ?_ n 0 (jn 0, J1) ir_F (by omega) ⟨rfl, h1, g1⟩ (by unfold ir_F; omega)
    · rintro i ⟨x, J2⟩ hi ⟨hv, h2, g2⟩
      simp only at hv h2 g2
      subst hv
      obtain ⟨J3, e3, h3, f3⟩ := jm_wy89 (x1 := jn s) (x2 := jn n) (x4 := jn i) hm hN h2
      obtain ⟨J4, e4, h4, f4⟩ := jm_wy168 (x1 := jn s) (x2 := jn n) (x4 := jn i) hm hN h3
      refine ⟨(jn (i + 1), J4), ?_, rfl, h4, ?_⟩
      · simp only [jn0] at e3 e4
        simp (disch := omega) only [zM_ways_l80_b, jn_le, if_neg, e3, e4, Option.bind_some, jl1, jn_add]
      · dsimp only; rw [f4 _ _ (by decide), f3 _ _ (by decide)]; exact g2
    · rintro ⟨x, J2⟩ ⟨hv, h2, g2⟩
      simp only at hv h2 g2
      subst hv
      refine ⟨J2, ?_, h2, g2⟩
      simp (disch := omega) only [zM_ways_l80_b, ir_let, jn_lt, jn_le, jn_in, jn_inj, jn_ne_m, jm_ne_n, jm_eq_m, jm_lt, jm_le, jn_lt_m, jn_le_m, jn_add, jn_mul, jn_clamp, jo_some, jn_min, jn_max, ↓jlm, jl0, jl1, jl2, jl3, jl4, jl5, jl6, jl7, jl8, jl9, jl10, jl11, jl12, jl13, jl14, jl15, jl16, jl20, jl24, jl32, jl39, jl40, jl41, jl60, jl61, jl80, jl96, jl97, jl99, jl100, jl122, jl126, jl199, jl200, jl205, jl206, jl255, jl256, jl410, jl700, jl950, jl1000, jl1000000, jl4000, jl8240, jl32767, if_pos, if_neg, ↓reduceIte, Option.bind_some, not_true_eq_false, not_false_eq_true, Nat.not_lt, Nat.not_le]
  exact ⟨J1, J2, e1, e2, h2 s hs, g2⟩
/-- where the law knows two exceptions -/
def jAn2 {α : Type} (r : α ⊕ Nat) (b : α) (t : Int32) : Prop := (∃ v, r = .inl v ∧ b = v ∧ t = 0) ∨ (r = .inr 0 ∧ t = 1) ∨ (r = .inr 1 ∧ t = 2)
theorem jq_ways {I : iq_I} (hI : jInv I) (x z e : Int32) (J : iq_J) (X : iq_X) : ∃ r J1 X1 b I2, zO_ways x z e I J X = some (r, J1, X1) ∧ (∀ J', ∃ J2, zM_ways x z e I J' = some (b, I2, J2) ∧ J2 114 0 = J' 114 0) ∧ jag I I2 ∧ jXo X X1 ∧ jAn2 r b (I2 76 0) := by
  obtain ⟨m, g, hm, hU, hN, hB, -, -⟩ := hI
  have h10 := hm.1
  have hN1 := jRN_ag hN (jz_ag I)
  by_cases hx : ∃ s, s < mS m ∧ x = jn s
  · obtain ⟨s, hs, rfl⟩ := hx
    have r1 := jm_right1 (I := I) (c := 2) (x := 1) rfl
    have r0 := jm_right0 (I := I) (c := 2) (x := 0) rfl (by decide)
    by_cases hz : ∃ n, n ≤ 12 ∧ z = jn n
    · obtain ⟨n, hn, rfl⟩ := hz
      obtain ⟨J1, e1⟩ := jc_countWays (J := J) (x3 := e) hm hU hs hn
      have w1 : zM_within (jn n) 0 12 (jz I) = some 1 := by
        rcases jm_within (I := jz I) (x := jn n) (a := 0) (b := 12) (by omega) (by omega) with ⟨_, _, _, _, h⟩ | ⟨h, _⟩
        · exact h
        · exact absurd ⟨n, Nat.zero_le _, hn, rfl⟩ h
      have c1 : ¬ jn n < (0 : Int32) := by rw [← jn0, jn_lt (by omega) (by omega)]; omega
      have c2 : jn n ≤ (12 : Int32) := by rw [show (12 : Int32) = jn 12 from rfl, jn_le (by omega) (by omega)]; omega
      refine ⟨.inl (jlg (wF m (decide (¬ e = 0)) n s)), J1, X, jlg (wF m (decide (¬ e = 0)) n s), jz I, ?_, fun J' => ?_, jz_ag I, Or.inl rfl, Or.inl ⟨_, rfl, rfl, rfl⟩⟩
      · simp only [zO_ways, jc_needState1 hm hU hs, ir_let, iq_sm, ir_sm, jzE, j10, Option.bind_some, ↓reduceIte, not_true_eq_false, not_false_eq_true, c1, c2, e1]
      · obtain ⟨J2, J3, q1, q2, q3, q4⟩ := jm_wy (J := J') (x3 := e) hm hN1 hs hn
        refine ⟨J3, ?_, q4⟩
        simp only [jn0] at q1 q2
        simp (disch := omega) only [zM_ways, jm_isState1 hm hN hs, ir_let, iq_sm, ir_sm, jzE, j10, Option.bind_some, ↓reduceIte, not_true_eq_false, not_false_eq_true, w1, r1, q1, q2, jn_in, jn_clamp, if_pos, q3]
    · have w1 : zM_within z 0 12 (jz I) = some 0 := by
        rcases jm_within (I := jz I) (x := z) (a := 0) (b := 12) (by omega) (by omega) with ⟨n, _, h1, h2, _⟩ | ⟨_, h⟩
        · exact absurd ⟨n, h1, h2⟩ hz
        · exact h
      refine ⟨.inr 1, J, ir_xx X, 0, jw I 2, ?_, fun J' => ⟨J', ?_, rfl⟩, jw_ag I 2, Or.inr rfl, Or.inr (Or.inr ⟨rfl, rfl⟩)⟩
      · rcases jx_no (n := 13) (by omega) (fun ⟨n, h1, h2⟩ => hz ⟨n, by omega, h2⟩) with h1 | ⟨h1, h2, h3⟩
        · simp only [zO_ways, zO_ways_15, jc_needState1 hm hU hs, ir_let, iq_sm, ir_sm, jzE, j10, Option.bind_some, ↓reduceIte, not_true_eq_false, not_false_eq_true, h1]
        · have c2 : ¬ z ≤ (12 : Int32) := by
            intro h
            rw [Int32.le_iff_toInt_le] at h h3
            rw [jn_toInt (by omega)] at h3
            have : (12 : Int32).toInt = 12 := rfl
            omega
          simp only [zO_ways, zO_ways_15, jc_needState1 hm hU hs, ir_let, iq_sm, ir_sm, jzE, j10, Option.bind_some, ↓reduceIte, not_true_eq_false, not_false_eq_true, h1, c2]
      · simp only [zM_ways, jm_isState1 hm hN hs, ir_let, iq_sm, ir_sm, jzE, j10, Option.bind_some, ↓reduceIte, not_true_eq_false, not_false_eq_true, w1, r0]
  · refine ⟨.inr 0, J, ir_xx X, 0, jw I 1, ?_, fun J' => ⟨J', ?_, rfl⟩, jw_ag I 1, Or.inr rfl, Or.inr (Or.inl ⟨rfl, rfl⟩)⟩
    · simp only [zO_ways, jc_needState0 hm hU hx, ir_let, iq_sm, ir_sm, jzE, j10, Option.bind_some, ↓reduceIte, not_true_eq_false, not_false_eq_true]
    · simp only [zM_ways, jm_isState0 hm hN hx, ir_let, iq_sm, ir_sm, jzE, j10, Option.bind_some, ↓reduceIte, not_true_eq_false, not_false_eq_true]
