/-! ===== costs: rows, the reference, the answers ===== -/
def cAt (m : jMu) (s x M : Nat) : Nat → Nat × Nat
  | 0 => (s, x)
  | k + 1 => ((mLd m (cAt m s x M k).1 ((cPk m (M - (k + 1)) (cAt m s x M k).1 (cAt m s x M k).2).getD 0)).getD 0, (cAt m s x M k).2 - mP m (mK m ((cPk m (M - (k + 1)) (cAt m s x M k).1 (cAt m s x M k).2).getD 0)))
theorem cAt_s {m : jMu} {s x M k w t : Nat} (h : cPk m (M - (k + 1)) (cAt m s x M k).1 (cAt m s x M k).2 = some w) (h2 : mLd m (cAt m s x M k).1 w = some t) : cAt m s x M (k + 1) = (t, (cAt m s x M k).2 - mP m (mK m w)) := by
  conv => lhs; unfold cAt
  rw [h, Option.getD_some, h2, Option.getD_some]
theorem cAt_ok {m : jMu} (hm : mOk m) {s x M : Nat} (hs : s < mS m) (hx : x ≤ 60) (h : cL m M s ≤ x) : ∀ k, k ≤ M → (cAt m s x M k).1 < mS m ∧ (cAt m s x M k).2 ≤ 60 ∧ cL m (M - k) (cAt m s x M k).1 ≤ (cAt m s x M k).2
  | 0, _ => ⟨hs, hx, h⟩
  | k + 1, hk => by
    obtain ⟨h1, h2, h3⟩ := cAt_ok hm hs hx h k (by omega)
    rw [show M - k = M - (k + 1) + 1 by omega] at h3
    obtain ⟨w, t, p1, p2, p3, p4, p5, p6, p7⟩ := cPk_ok hm h2 h3
    rw [cAt_s p1 p3]
    exact ⟨mLd_lt hm h1 p2 p3, by dsimp only; omega, p5⟩
def vCw (m : jMu) (s x M i : Nat) : Int32 := jo (cPk m (M - (i + 1)) (cAt m s x M i).1 (cAt m s x M i).2)
theorem jc_wordFor {I : iq_I} {m : jMu} {s x M i : Nat} (hm : mOk m) (hU : jRU I m) (hT : jT66 I m 41) (hs : s < mS m) (hx : x ≤ 60) (hM : M ≤ 40) (h : cL m M s ≤ x) (hi : i < M) :
    zP_wordFor_l29 (jn i) (jn M) I ir_F (jn s, jn x, jn 0) = some (jn (cAt m s x M i).1, jn (cAt m s x M i).2) ∧ zP_firstFor (jn (cAt m s x M i).1) (jn (cAt m s x M i).2) (jn (M - i)) I = some (vCw m s x M i) := by
  have h14 := hm.2.1
  have step : ∀ k, k < M → zP_firstFor (jn (cAt m s x M k).1) (jn (cAt m s x M k).2) (jn (M - k)) I = some (vCw m s x M k) := fun k hk => by
    obtain ⟨h1, h2, h3⟩ := cAt_ok hm hs hx h k (by omega)
    rw [show M - k = M - (k + 1) + 1 by omega] at h3 ⊢
    exact jc_firstFor hm hU hT (by omega) h1 h2 h3
  refine ⟨?_, step i hi⟩
  refine js_seq (fun k => (jn (cAt m s x M k).1, jn (cAt m s x M k).2, jn k)) i _ (fun k hk => ?_) ?_ i 0 ir_F (by omega) (by unfold ir_F; omega)
  · obtain ⟨h1, h2, h3⟩ := cAt_ok hm hs hx h k (by omega)
    rw [show M - k = M - (k + 1) + 1 by omega] at h3
    obtain ⟨w, t, p1, p2, p3, p4, p5, p6, p7⟩ := cPk_ok hm h2 h3
    have hk8 := (hm.2.2.1 w p2).2.2
    have st := step k (by omega)
    unfold vCw at st
    rw [p1, jo_some] at st
    have lt := jc_leadsTo hm hU h1 p2
    rw [p3, jo_some] at lt
    rw [cAt_s p1 p3]
    dsimp only
    unfold zP_wordFor_l29_b
    rw [if_neg (by rw [jn_le (by omega) (by omega)]; omega), if_neg (by rw [show (40 : Int32) = jn 40 from rfl, jn_le (by omega) (by omega)]; omega), jn_sub (by omega), st, Option.bind_some, jc_kindOf hm hU p2, Option.bind_some, jc_priceOf hm hU hk8, Option.bind_some, lt, Option.bind_some, jn_sub p6, show (1 : Int32) = jn 1 from rfl, jn_add]
  · dsimp only
    unfold zP_wordFor_l29_b
    rw [if_pos (by rw [jn_le (by omega) (by omega)]; omega)]
def jT107 (I : iq_I) (m : jMu) (i : Nat) : Prop := ∀ n s, n < i → s < mS m → I 107 (10 * n + s) = jn (cL m n s)
theorem jm_b107 {I : iq_I} {x1 x2 x3 x4 : Int32} {n s k t kd p c a W : Nat} (hn : n < 40) (ht : t < 10) (hk : k < W) (hW14 : W ≤ 14) (hkd : kd < 8) (hp : p ≤ 9) (hc : c ≤ 1000000) (ha : a ≤ 1000000) (hW : I 76 2 = jn W) (lt : zM_leads (jn s) (jn k) I = some (jn t)) (hK : I 79 k = jn kd) (hP : I 81 kd = jn p) (cell : I 107 (10 * n + t) = jn c) :
    zM_costs_l107_b x1 x2 x3 x4 (jn (n + 1)) (jn s) I (jn a) (jn k) = some (.inl (jn (min a (p + c)), jn (k + 1))) := by
  by_cases q : a ≤ p + c
  · rw [Nat.min_eq_left q]
    simp (disch := omega) only [zM_costs_l107_b, hW, lt, hK, hP, cell, ir_let, jn_lt, jn_le, jn_in, jn_inj, jn_ne_m, jm_ne_n, jm_eq_m, jm_lt, jm_le, jn_lt_m, jn_le_m, jn_add, jn_mul, jn_clamp, jo_some, jn_min, jn_max, ↓jlm, jl0, jl1, jl2, jl3, jl4, jl5, jl6, jl7, jl8, jl9, jl10, jl11, jl12, jl13, jl14, jl15, jl16, jl20, jl24, jl32, jl39, jl40, jl41, jl60, jl61, jl80, jl96, jl97, jl99, jl100, jl122, jl126, jl199, jl200, jl205, jl206, jl255, jl256, jl410, jl700, jl950, jl1000, jl1000000, jl4000, jl8240, jl32767, if_pos, if_neg, ↓reduceIte, Option.bind_some, not_true_eq_false, not_false_eq_true, Nat.not_lt, Nat.not_le, jn_sub, Nat.add_sub_cancel]
  · rw [Nat.min_eq_right (by omega)]
    simp (disch := omega) only [zM_costs_l107_b, hW, lt, hK, hP, cell, ir_let, jn_lt, jn_le, jn_in, jn_inj, jn_ne_m, jm_ne_n, jm_eq_m, jm_lt, jm_le, jn_lt_m, jn_le_m, jn_add, jn_mul, jn_clamp, jo_some, jn_min, jn_max, ↓jlm, jl0, jl1, jl2, jl3, jl4, jl5, jl6, jl7, jl8, jl9, jl10, jl11, jl12, jl13, jl14, jl15, jl16, jl20, jl24, jl32, jl39, jl40, jl41, jl60, jl61, jl80, jl96, jl97, jl99, jl100, jl122, jl126, jl199, jl200, jl205, jl206, jl255, jl256, jl410, jl700, jl950, jl1000, jl1000000, jl4000, jl8240, jl32767, if_pos, if_neg, ↓reduceIte, Option.bind_some, not_true_eq_false, not_false_eq_true, Nat.not_lt, Nat.not_le, jn_sub, Nat.add_sub_cancel]
theorem jm_b107n {I : iq_I} {x1 x2 x3 x4 x5 : Int32} {s k a W : Nat} (hk : k < W) (hW14 : W ≤ 14) (hW : I 76 2 = jn W) (lt : zM_leads (jn s) (jn k) I = some (jo none)) :
    zM_costs_l107_b x1 x2 x3 x4 x5 (jn s) I (jn a) (jn k) = some (.inl (jn a, jn (k + 1))) := by
  unfold zM_costs_l107_b
  rw [hW, if_neg (by rw [jn_le (by omega) (by omega)]; omega), lt, Option.bind_some, if_neg (fun h => h rfl), show (1 : Int32) = jn 1 from rfl, jn_add]
theorem jm_cs107 {I : iq_I} {m : jMu} {x1 x2 x3 x4 : Int32} {i n s : Nat} (hm : mOk m) (hN : jRN I m) (hT : jT107 I m i) (hn : n < i) (h40 : n < 40) (hs : s < mS m) :
    zM_costs_l107 x1 x2 x3 x4 (jn (n + 1)) (jn s) I ir_F (jn 1000000, jn 0) = some (jn (cL m (n + 1) s)) := by
  have h14 := hm.2.1
  have h10 := hm.1
  rw [cL_w hm]
  refine js_seq (fun k => (jn (cMn (cFw m n s) k), jn k)) (mW m) _ (fun k hk => ?_) ?_ (mW m) 0 ir_F (by omega) (by unfold ir_F; omega)
  · have b1 := cMn_le1 (f := cFw m n s) k
    have hk8 := (hm.2.2.1 k hk).2.2
    have b3 := hm.2.2.2.2.1 _ hk8
    have lt := jm_leads hm hN hs hk
    cases hr : mLd m s k with
    | none =>
      rw [hr] at lt
      have e : cMn (cFw m n s) (k + 1) = cMn (cFw m n s) k := by
        show min _ (cFw m n s k) = _
        have e0 : cFw m n s k = mP m (mK m k) + 1000000 := by unfold cFw; rw [hr]; rfl
        rw [e0]; omega
      dsimp only
      rw [e]
      exact jm_b107n hk h14 (jRN_W hN) lt
    | some t =>
      have ht := mLd_lt hm hs hk hr
      rw [hr] at lt
      have e : cMn (cFw m n s) (k + 1) = min (cMn (cFw m n s) k) (mP m (mK m k) + cL m n t) := by
        show min _ (cFw m n s k) = _
        have e0 : cFw m n s k = mP m (mK m k) + cL m n t := by unfold cFw; rw [hr]; rfl
        rw [e0]
      dsimp only
      rw [e]
      exact jm_b107 h40 (by omega) hk h14 hk8 b3 (cL_le m n t) b1 (jRN_W hN) lt (jRN_K hN k hk) (jRN_P hN _ hk8) (hT n t hn ht)
  · dsimp only
    unfold zM_costs_l107_b
    rw [jRN_W hN, if_pos (by rw [jn_le (by omega) (by omega)]; omega)]
theorem jm_cs90 {I : iq_I} {m : jMu} {x1 x2 x3 x4 : Int32} {i : Nat} (hm : mOk m) (hN : jRN I m) (hT : jT107 I m (i + 1)) (hi : i < 40) :
    ∃ I', zM_costs_l90 x1 x2 x3 x4 (jn (i + 1)) ir_F (jn 0, I) = some I' ∧ jag I I' ∧ jT107 I' m (i + 2) ∧ I' 76 0 = I 76 0 := by
  have h10 := hm.1
  refine js_inv (fun s v => v.1 = jn s ∧ jag I v.2 ∧ jT107 v.2 m (i + 1) ∧ (∀ s', s' < s → v.2 107 (10 * (i + 1) + s') = jn (cL m (i + 1) s')) ∧ v.2 76 0 = I 76 0) (mS m) _ ?_ ?_ (mS m) 0 (jn 0, I) ir_F (by omega) ⟨rfl, jag_rf I, hT, fun s h => by omega, rfl⟩ (by unfold ir_F; omega)
  · rintro s ⟨x, I3⟩ hs ⟨hv, hb, h3, h4, ht⟩
    simp only at hv hb h3 h4 ht
    subst hv
    have hN3 := jRN_ag hN hb
    have kk := jm_cs107 (x1 := x1) (x2 := x2) (x3 := x3) (x4 := x4) hm hN3 h3 (show i < i + 1 by omega) hi hs
    have kk' : zM_costs_l107 x1 x2 x3 x4 (jn (i + 1)) (jn s) I3 ir_F ((1000000 : Int32), (0 : Int32)) = some (jn (cL m (i + 1) s)) := kk
    refine ⟨(jn (s + 1), iq_upI I3 107 (10 * (i + 1) + s) (jn (cL m (i + 1) s))), ?_, rfl, jag_up hb rfl, fun n s' hn hs' => ?_, fun s' h => ?_, ?_⟩
    · simp (disch := omega) only [zM_costs_l90_b, ir_let, jRN_S hN3, jn_le, if_neg, kk', Option.bind_some, jl10, jn_mul, jn_add, jn_in, jn_clamp, if_pos, jl1]
    · dsimp only; rw [up_ni (by omega)]; exact h3 n s' hn hs'
    · dsimp only
      by_cases q : s' = s
      · subst q; rw [up_eq]
      · rw [up_ni (by omega)]; exact h4 s' (by omega)
    · dsimp only; rw [up_nk (by decide)]; exact ht
  · rintro ⟨x, I3⟩ ⟨hv, hb, h3, h4, ht⟩
    simp only at hv hb h3 h4 ht
    subst hv
    have hN3 := jRN_ag hN hb
    refine ⟨I3, ?_, hb, fun n s hn hs => ?_, ht⟩
    · simp (disch := omega) only [zM_costs_l90_b, jRN_S hN3, ir_let, jn_lt, jn_le, jn_in, jn_inj, jn_ne_m, jm_ne_n, jm_eq_m, jm_lt, jm_le, jn_lt_m, jn_le_m, jn_add, jn_mul, jn_clamp, jo_some, jn_min, jn_max, ↓jlm, jl0, jl1, jl2, jl3, jl4, jl5, jl6, jl7, jl8, jl9, jl10, jl11, jl12, jl13, jl14, jl15, jl16, jl20, jl24, jl32, jl39, jl40, jl41, jl60, jl61, jl80, jl96, jl97, jl99, jl100, jl122, jl126, jl199, jl200, jl205, jl206, jl255, jl256, jl410, jl700, jl950, jl1000, jl1000000, jl4000, jl8240, jl32767, if_pos, if_neg, ↓reduceIte, Option.bind_some, not_true_eq_false, not_false_eq_true, Nat.not_lt, Nat.not_le]
    · by_cases q : n = i + 1
      · subst q; exact h4 s hs
      · exact h3 n s (by omega) hs
theorem jm_cs80 {I : iq_I} {m : jMu} {x3 : Int32} {s x : Nat} (hm : mOk m) (hN : jRN I m) (hs : s < mS m) (hx : x ≤ 60) :
    ∃ I1 I2, zM_costs_l51 (jn s) (jn x) x3 ir_F (jn 0, I) = some I1 ∧ zM_costs_l80 (jn s) (jn x) x3 ir_F (jn 0, jn 1, I1) = some (jn (cMo m s x 40), I2) ∧ jag I I2 ∧ jT107 I2 m 41 ∧ I2 76 0 = I 76 0 := by
  have h10 := hm.1
  obtain ⟨I1, e1, a1, h1, t1⟩ : ∃ I', zM_costs_l51 (jn s) (jn x) x3 ir_F (jn 0, I) = some I' ∧ jag I I' ∧ jT107 I' m 1 ∧ I' 76 0 = I 76 0 := by
    refine js_inv (fun i v => v.1 = jn i ∧ jag I v.2 ∧ (∀ s, s < i → v.2 107 s = jn 0) ∧ v.2 76 0 = I 76 0) (mS m) _ ?_ ?_ (mS m) 0 (jn 0, I) ir_F (by omega) ⟨rfl, jag_rf I, fun s h => by omega, rfl⟩ (by unfold ir_F; omega)
    · rintro i ⟨y, I1⟩ hi ⟨hv, ha, h2, ht⟩
      simp only at hv ha h2 ht
      subst hv
      have hN1 := jRN_ag hN ha
      refine ⟨(jn (i + 1), iq_upI I1 107 i (jn 0)), ?_, rfl, jag_up ha rfl, fun s h => ?_, ?_⟩
      · simp (disch := omega) only [zM_costs_l51_b, jRN_S hN1, ir_let, jn_lt, jn_le, jn_in, jn_inj, jn_ne_m, jm_ne_n, jm_eq_m, jm_lt, jm_le, jn_lt_m, jn_le_m, jn_add, jn_mul, jn_clamp, jo_some, jn_min, jn_max, ↓jlm, jl0, jl1, jl2, jl3, jl4, jl5, jl6, jl7, jl8, jl9, jl10, jl11, jl12, jl13, jl14, jl15, jl16, jl20, jl24, jl32, jl39, jl40, jl41, jl60, jl61, jl80, jl96, jl97, jl99, jl100, jl122, jl126, jl199, jl200, jl205, jl206, jl255, jl256, jl410, jl700, jl950, jl1000, jl1000000, jl4000, jl8240, jl32767, if_pos, if_neg, ↓reduceIte, Option.bind_some, not_true_eq_false, not_false_eq_true, Nat.not_lt, Nat.not_le]
      · dsimp only
        by_cases q : s = i
        · subst q; rw [up_eq]
        · rw [up_ni q]; exact h2 s (by omega)
      · dsimp only; rw [up_nk (by decide)]; exact ht
    · rintro ⟨y, I1⟩ ⟨hv, ha, h2, ht⟩
      simp only at hv ha h2 ht
      subst hv
      have hN1 := jRN_ag hN ha
      refine ⟨I1, ?_, ha, fun n s hn hs => ?_, ht⟩
      · simp (disch := omega) only [zM_costs_l51_b, jRN_S hN1, ir_let, jn_lt, jn_le, jn_in, jn_inj, jn_ne_m, jm_ne_n, jm_eq_m, jm_lt, jm_le, jn_lt_m, jn_le_m, jn_add, jn_mul, jn_clamp, jo_some, jn_min, jn_max, ↓jlm, jl0, jl1, jl2, jl3, jl4, jl5, jl6, jl7, jl8, jl9, jl10, jl11, jl12, jl13, jl14, jl15, jl16, jl20, jl24, jl32, jl39, jl40, jl41, jl60, jl61, jl80, jl96, jl97, jl99, jl100, jl122, jl126, jl199, jl200, jl205, jl206, jl255, jl256, jl410, jl700, jl950, jl1000, jl1000000, jl4000, jl8240, jl32767, if_pos, if_neg, ↓reduceIte, Option.bind_some, not_true_eq_false, not_false_eq_true, Nat.not_lt, Nat.not_le]
      · have : n = 0 := by omega
        subst this
        rw [Nat.mul_zero, Nat.zero_add]
        exact h2 s hs
  obtain ⟨⟨w, I2⟩, e2, q2, a2, h2, t2⟩ : ∃ w, zM_costs_l80 (jn s) (jn x) x3 ir_F (jn 0, jn 1, I1) = some w ∧ w.1 = jn (cMo m s x 40) ∧ jag I1 w.2 ∧ jT107 w.2 m 41 ∧ w.2 76 0 = I1 76 0 := by
    refine js_inv (fun i v => v.1 = jn (cMo m s x i) ∧ v.2.1 = jn (i + 1) ∧ jag I1 v.2.2 ∧ jT107 v.2.2 m (i + 1) ∧ v.2.2 76 0 = I1 76 0) 40 _ ?_ ?_ 40 0 (jn 0, jn 1, I1) ir_F (by omega) ⟨rfl, rfl, jag_rf I1, h1, rfl⟩ (by unfold ir_F; omega)
    · rintro i ⟨y, y', I2⟩ hi ⟨hv, hv', ha, h2, ht⟩
      simp only at hv hv' ha h2 ht
      subst hv
      subst hv'
      obtain ⟨I3, e3, a3, h3, t3⟩ := jm_cs90 (x1 := jn s) (x2 := jn x) (x3 := x3) (x4 := jn (cMo m s x i)) hm (jRN_ag hN (jag_tr a1 ha)) h2 hi
      have c := h3 (i + 1) s (by omega) hs
      have b := cL_le m (i + 1) s
      refine ⟨(jn (cMo m s x (i + 1)), jn (i + 1 + 1), I3), ?_, rfl, rfl, jag_tr ha a3, h3, t3.trans ht⟩
      simp only [jn0] at e3
      by_cases q : cL m (i + 1) s ≤ x
      · have e : cMo m s x (i + 1) = i + 1 := if_pos q
        rw [e]
        simp (disch := omega) only [zM_costs_l80_b, jl40, jn_lt, if_neg, e3, Option.bind_some, jl10, jn_mul, jn_add, jn_in, jn_clamp, if_pos, c, jl1]
      · have e : cMo m s x (i + 1) = cMo m s x i := if_neg q
        rw [e]
        simp (disch := omega) only [zM_costs_l80_b, jl40, jn_lt, if_neg, e3, Option.bind_some, jl10, jn_mul, jn_add, jn_in, jn_clamp, if_pos, c, jl1]
    · rintro ⟨y, y', I2⟩ ⟨hv, hv', ha, h2, ht⟩
      simp only at hv hv' ha h2 ht
      subst hv
      subst hv'
      refine ⟨(jn (cMo m s x 40), I2), ?_, rfl, ha, h2, ht⟩
      simp (disch := omega) only [zM_costs_l80_b, jl40, jn_lt, if_pos]
  simp only at q2 a2 h2 t2
  subst q2
  exact ⟨I1, I2, e1, e2, jag_tr a1 a2, h2, t2.trans t1⟩
theorem jm_b273 {I : iq_I} {x3 : Int32} {M s x i k t kd p c : Nat} (hi : i < M) (hM : M ≤ 40) (ht : t < 10) (hk : k < 14) (hkd : kd < 8) (hp : p ≤ 9) (hc : c ≤ 1000000) (hx : x ≤ 60) (lt : zM_leads (jn s) (jn k) I = some (jn t)) (hK : I 79 k = jn kd) (hP : I 81 kd = jn p) (cell : I 107 (10 * (M - 1 - i) + t) = jn c) :
    zM_costs_l273_b x3 (jn M) (jn s) (jn x) (jn i) I (jn k) = some (if p + c ≤ x then .inr (jn k) else .inl (jn (k + 1))) := by
  by_cases q : p + c ≤ x
  · rw [if_pos q]
    simp (disch := omega) only [zM_costs_l273_b, lt, hK, hP, ir_let, jn_lt, jn_le, jn_in, jn_inj, jn_ne_m, jm_ne_n, jm_eq_m, jm_lt, jm_le, jn_lt_m, jn_le_m, jn_add, jn_mul, jn_clamp, jo_some, jn_min, jn_max, ↓jlm, jl0, jl1, jl2, jl3, jl4, jl5, jl6, jl7, jl8, jl9, jl10, jl11, jl12, jl13, jl14, jl15, jl16, jl20, jl24, jl32, jl39, jl40, jl41, jl60, jl61, jl80, jl96, jl97, jl99, jl100, jl122, jl126, jl199, jl200, jl205, jl206, jl255, jl256, jl410, jl700, jl950, jl1000, jl1000000, jl4000, jl8240, jl32767, if_pos, if_neg, ↓reduceIte, Option.bind_some, not_true_eq_false, not_false_eq_true, Nat.not_lt, Nat.not_le, jn_sub, cell]
  · rw [if_neg q]
    simp (disch := omega) only [zM_costs_l273_b, lt, hK, hP, ir_let, jn_lt, jn_le, jn_in, jn_inj, jn_ne_m, jm_ne_n, jm_eq_m, jm_lt, jm_le, jn_lt_m, jn_le_m, jn_add, jn_mul, jn_clamp, jo_some, jn_min, jn_max, ↓jlm, jl0, jl1, jl2, jl3, jl4, jl5, jl6, jl7, jl8, jl9, jl10, jl11, jl12, jl13, jl14, jl15, jl16, jl20, jl24, jl32, jl39, jl40, jl41, jl60, jl61, jl80, jl96, jl97, jl99, jl100, jl122, jl126, jl199, jl200, jl205, jl206, jl255, jl256, jl410, jl700, jl950, jl1000, jl1000000, jl4000, jl8240, jl32767, if_pos, if_neg, ↓reduceIte, Option.bind_some, not_true_eq_false, not_false_eq_true, Nat.not_lt, Nat.not_le, jn_sub, cell]
theorem jm_cs264 {I : iq_I} {m : jMu} {s x M i : Nat} (hm : mOk m) (hN : jRN I m) (hT : jT107 I m 41) (hs : s < mS m) (hx : x ≤ 60) (hM : M ≤ 40) (h : cL m M s ≤ x) (hi : i < M) :
    zM_costs_l264 (jn i) (jn M) I ir_F (jn s, jn x, jo none, jn 0) = some (vCw m s x M i) := by
  have h14 := hm.2.1
  have h10 := hm.1
  have step : ∀ k, k < M → ∃ w t, cPk m (M - (k + 1)) (cAt m s x M k).1 (cAt m s x M k).2 = some w ∧ w < mW m ∧ mLd m (cAt m s x M k).1 w = some t ∧ mP m (mK m w) ≤ (cAt m s x M k).2 ∧ zM_costs_l273 (jn i) (jn M) (jn (cAt m s x M k).1) (jn (cAt m s x M k).2) (jn k) I ir_F (jn 0) = some (jn w) := fun k hk => by
    obtain ⟨h1, h2, h3⟩ := cAt_ok hm hs hx h k (by omega)
    rw [show M - k = M - (k + 1) + 1 by omega] at h3
    obtain ⟨w, t, p1, p2, p3, p4, p5, p6, p7⟩ := cPk_ok hm h2 h3
    refine ⟨w, t, p1, p2, p3, p6, ?_⟩
    have body : ∀ j, j < mW m → zM_costs_l273_b (jn i) (jn M) (jn (cAt m s x M k).1) (jn (cAt m s x M k).2) (jn k) I (jn j) = some (if cFw m (M - (k + 1)) (cAt m s x M k).1 j ≤ (cAt m s x M k).2 then .inr (jn j) else .inl (jn (j + 1))) := fun j hj => by
      have hj8 := (hm.2.2.1 j hj).2.2
      have b3 := hm.2.2.2.2.1 _ hj8
      have lt := jm_leads hm hN h1 hj
      cases hr : mLd m (cAt m s x M k).1 j with
      | none =>
        rw [hr] at lt
        have e0 : cFw m (M - (k + 1)) (cAt m s x M k).1 j = mP m (mK m j) + 1000000 := by unfold cFw; rw [hr]; rfl
        rw [e0, if_neg (by omega)]
        unfold zM_costs_l273_b
        rw [lt, Option.bind_some, if_pos (show jo none = -1 from rfl), show (1 : Int32) = jn 1 from rfl, jn_add]
      | some u =>
        have hu := mLd_lt hm h1 hj hr
        rw [hr] at lt
        have e0 : cFw m (M - (k + 1)) (cAt m s x M k).1 j = mP m (mK m j) + cL m (M - (k + 1)) u := by unfold cFw; rw [hr]; rfl
        rw [e0]
        have cell := hT (M - (k + 1)) u (by omega) hu
        rw [show M - (k + 1) = M - 1 - k by omega] at cell ⊢
        exact jm_b273 hk hM (by omega) (by omega) hj8 b3 (cL_le m _ u) h2 lt (jRN_K hN j hj) (jRN_P hN _ hj8) cell
    refine js_seq (fun j => jn j) w _ (fun j hj => ?_) ?_ w 0 ir_F (by omega) (by unfold ir_F; omega)
    · have := body j (by omega)
      rw [if_neg (p7 j hj)] at this
      exact this
    · have := body w p2
      rw [if_pos p4] at this
      exact this
  have E : ((jn s, jn x, jo none, jn 0) : Int32 × Int32 × Int32 × Int32) = (fun k => (jn (cAt m s x M k).1, jn (cAt m s x M k).2, (match k with
      | 0 => jo none
      | k + 1 => vCw m s x M k), jn k)) 0 := rfl
  rw [E]
  refine js_seq (fun k => (jn (cAt m s x M k).1, jn (cAt m s x M k).2, (match k with
      | 0 => jo none
      | k + 1 => vCw m s x M k), jn k)) (i + 1) _ (fun k hk => ?_) ?_ (i + 1) 0 ir_F (by omega) (by unfold ir_F; omega)
  · obtain ⟨w, t, p1, p2, p3, p6, p4⟩ := step k (by omega)
    obtain ⟨h1, h2, h3⟩ := cAt_ok hm hs hx h k (by omega)
    have hk8 := (hm.2.2.1 w p2).2.2
    have lt := jm_leads hm hN h1 p2
    rw [p3, jo_some] at lt
    simp only [jn0] at p4
    dsimp only
    rw [cAt_s p1 p3]
    unfold zM_costs_l264_b vCw
    rw [if_neg (by rw [jn_lt (by omega) (by omega)]; omega), p4, Option.bind_some, if_pos (by rw [jn_in (by omega)]; omega), jn_clamp (by omega), jRN_K hN w p2, if_pos (by rw [jn_in (by omega)]; omega), jn_clamp (by omega), jRN_P hN _ hk8, lt, Option.bind_some, jn_sub p6, show (1 : Int32) = jn 1 from rfl, jn_add, p1, jo_some]
  · dsimp only
    unfold zM_costs_l264_b
    rw [if_pos (by rw [jn_lt (by omega) (by omega)]; omega)]
