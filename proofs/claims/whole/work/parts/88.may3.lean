/-! ===== rules: the reference asks its rule ===== -/
theorem jm_ruleL {I : iq_I} {m : jMu} {g : jGa} (hm : mOk m) (hg : gOk m g) (hR : jRR (I 98) g) {y w : Nat} {x1 : Int32} (hy : y < gY g) (hw : w < mW m) : zM_rule_76_98_l6 x1 (jn y) (jn w) I ir_F ((0 : Int32), (0 : Int32)) = some (jn (gTm g y w)) := by
  have h5 := hg.1
  have h14 := hm.2.1
  have h40 := hg.2.2.1 y hy
  have key : zM_rule_76_98_l6 x1 (jn y) (jn w) I ir_F (jn 0, jn 0) = some (jn (gTm g y w)) := by
    refine js_seq (fun i => (jn (jcn i (pTm g y w)), jn i)) (gS g y).length _ (fun i hi => ?_) ?_ (gS g y).length 0 ir_F (by omega) (by unfold ir_F; omega)
    · have hw2 := hg.2.2.2.1 y i hy hi
      by_cases e : (gS g y).getD i 0 = w
      · have e1 : pTm g y w i = true := decide_eq_true e
        simp (disch := omega) only [zM_rule_76_98_l6_b, jRR_L hR, jm_wordAt hg hR hy hi, jcnS1 e1, ir_let, jn_lt, jn_le, jn_in, jn_inj, jn_ne_m, jm_ne_n, jm_eq_m, jm_lt, jm_le, jn_lt_m, jn_le_m, jn_add, jn_mul, jn_clamp, jo_some, jn_min, jn_max, ↓jlm, jl0, jl1, jl2, jl3, jl4, jl5, jl6, jl7, jl8, jl9, jl10, jl11, jl12, jl13, jl14, jl15, jl16, jl20, jl24, jl32, jl39, jl40, jl41, jl60, jl61, jl80, jl96, jl97, jl99, jl100, jl122, jl126, jl199, jl200, jl205, jl206, jl255, jl256, jl410, jl700, jl950, jl1000, jl1000000, jl4000, jl8240, jl32767, if_pos, if_neg, ↓reduceIte, Option.bind_some, not_true_eq_false, not_false_eq_true, Nat.not_lt, Nat.not_le]
        try rfl
      · have e1 : pTm g y w i = false := decide_eq_false e
        simp (disch := omega) only [zM_rule_76_98_l6_b, jRR_L hR, jm_wordAt hg hR hy hi, jcnS0 e1, ir_let, jn_lt, jn_le, jn_in, jn_inj, jn_ne_m, jm_ne_n, jm_eq_m, jm_lt, jm_le, jn_lt_m, jn_le_m, jn_add, jn_mul, jn_clamp, jo_some, jn_min, jn_max, ↓jlm, jl0, jl1, jl2, jl3, jl4, jl5, jl6, jl7, jl8, jl9, jl10, jl11, jl12, jl13, jl14, jl15, jl16, jl20, jl24, jl32, jl39, jl40, jl41, jl60, jl61, jl80, jl96, jl97, jl99, jl100, jl122, jl126, jl199, jl200, jl205, jl206, jl255, jl256, jl410, jl700, jl950, jl1000, jl1000000, jl4000, jl8240, jl32767, if_pos, if_neg, ↓reduceIte, Option.bind_some, not_true_eq_false, not_false_eq_true, Nat.not_lt, Nat.not_le]
        try rfl
    · simp (disch := omega) only [zM_rule_76_98_l6_b, jRR_L hR, ir_let, jn_lt, jn_le, jn_in, jn_inj, jn_ne_m, jm_ne_n, jm_eq_m, jm_lt, jm_le, jn_lt_m, jn_le_m, jn_add, jn_mul, jn_clamp, jo_some, jn_min, jn_max, ↓jlm, jl0, jl1, jl2, jl3, jl4, jl5, jl6, jl7, jl8, jl9, jl10, jl11, jl12, jl13, jl14, jl15, jl16, jl20, jl24, jl32, jl39, jl40, jl41, jl60, jl61, jl80, jl96, jl97, jl99, jl100, jl122, jl126, jl199, jl200, jl205, jl206, jl255, jl256, jl410, jl700, jl950, jl1000, jl1000000, jl4000, jl8240, jl32767, if_pos, if_neg, ↓reduceIte, Option.bind_some, not_true_eq_false, not_false_eq_true, Nat.not_lt, Nat.not_le]
      try rfl
  exact key
def jR8 (I : iq_I) (a0 a1 a2 a3 a4 a5 : Int32) : iq_I := iq_upI (iq_upI (iq_upI (iq_upI (iq_upI (iq_upI I 101 0 a0) 101 1 a1) 101 2 a2) 101 3 a3) 101 4 a4) 101 5 a5
theorem jR8_nk {I : iq_I} {a0 a1 a2 a3 a4 a5 : Int32} {k i : Nat} (h : ¬ k = 101) : jR8 I a0 a1 a2 a3 a4 a5 k i = I k i := by
  unfold jR8
  rw [up_nk h, up_nk h, up_nk h, up_nk h, up_nk h, up_nk h]
theorem jR8_ag {I : iq_I} {a0 a1 a2 a3 a4 a5 : Int32} : jag I (jR8 I a0 a1 a2 a3 a4 a5) :=
  jag_up (jag_up (jag_up (jag_up (jag_up (jag_up (jag_rf I) rfl) rfl) rfl) rfl) rfl) rfl
theorem jm_rule144 {I : iq_I} {m : jMu} {g : jGa} {y w x : Nat} {c : List Int32} (hc : jcode c) (h : jRn I 84 x c) {s2 : Int32} (hb : s2 = jB (gSame m g y w)) :
    ∃ I', zM_rule_76_98_144 (jn x) (6 : Int32) s2 (jR8 I (jn (mK m w)) (jn (mL m w)) (jn w) (jn (gD g)) (jn (gS g y).length) (jn (gTm g y w))) = some ((jev (jvl m g y w (gD g)) c []).headD 0, I') ∧ jag I I' ∧ ∀ j, I' 76 j = I 76 j := by
  subst hb
  obtain ⟨I', q1, q2⟩ := jm_reckons (I := iq_upI (jR8 I (jn (mK m w)) (jn (mL m w)) (jn w) (jn (gD g)) (jn (gS g y).length) (jn (gTm g y w))) 101 6 (jB (gSame m g y w))) (v := jvl m g y w (gD g)) hc ⟨h.1, fun i hi => by rw [up_nk (by decide), jR8_nk (by decide)]; exact h.2 i hi⟩ (fun k hk => by
    have q : k = 0 ∨ k = 1 ∨ k = 2 ∨ k = 3 ∨ k = 4 ∨ k = 5 ∨ k = 6 := by omega
    unfold jR8
    rcases q with rfl | rfl | rfl | rfl | rfl | rfl | rfl
    · rw [up_ni (by decide), up_ni (by decide), up_ni (by decide), up_ni (by decide), up_ni (by decide), up_ni (by decide), up_eq]; rfl
    · rw [up_ni (by decide), up_ni (by decide), up_ni (by decide), up_ni (by decide), up_ni (by decide), up_eq]; rfl
    · rw [up_ni (by decide), up_ni (by decide), up_ni (by decide), up_ni (by decide), up_eq]; rfl
    · rw [up_ni (by decide), up_ni (by decide), up_ni (by decide), up_eq]; rfl
    · rw [up_ni (by decide), up_ni (by decide), up_eq]; rfl
    · rw [up_ni (by decide), up_eq]; rfl
    · rw [up_eq]; rfl)
  refine ⟨I', ?_, jag_tr (jag_up jR8_ag rfl) fun k i hk => q2 k i (fun e => by subst e; exact absurd (show jsc 102 i = true from rfl) (by rw [hk]; decide)), fun j => by rw [q2 76 j (by decide), up_nk (by decide), jR8_nk (by decide)]⟩
  unfold zM_rule_76_98_144
  rw [if_pos (by decide), ir_let]
  have q1' : zM_reckons (jn x) (iq_upI (jR8 I (jn (mK m w)) (jn (mL m w)) (jn w) (jn (gD g)) (jn (gS g y).length) (jn (gTm g y w))) 101 (Int32.toNatClampNeg 6) (jB (gSame m g y w))) = some ((jev (jvl m g y w (gD g)) c []).headD 0, I') := q1
  rw [q1', Option.bind_some]
theorem jm_rule {I : iq_I} {m : jMu} {g : jGa} (hm : mOk m) (hN : jRN I m) (hg : gOk m g) (hR : jRR (I 98) g) {y w x : Nat} {c : List Int32} (hy : y < gY g) (hw : w < mW m) (hc : jcode c) (h : jRn I 84 x c) :
    ∃ I', zM_rule_76_98 (jn x) (jn y) (jn w) I = some ((jev (jvl m g y w (gD g)) c []).headD 0, I') ∧ jag I I' ∧ ∀ j, I' 76 j = I 76 j := by
  have h5 := hg.1
  have h14 := hm.2.1
  have h40 := hg.2.2.1 y hy
  have i14 : iq_in (jn w) 14 := by rw [jn_in (by omega)]; omega
  have i206 : iq_in (jn y) 206 := by rw [jn_in (by omega)]; omega
  have kw : (jn w).toNatClampNeg = w := jn_clamp (by omega)
  have ky : (jn y).toNatClampNeg = y := jn_clamp (by omega)
  have e79 := jRN_K hN w hw
  have e78 := jRN_L hN w hw
  have e5 := jRR_D hR
  have ey := jRR_L hR y hy
  unfold zM_rule_76_98
  rw [jm_ruleL hm hg hR hy hw, Option.bind_some]
  simp only [if_pos i14, if_pos i206, ir_let]
  simp only [kw, ky, up_nkx 78 101 (by decide), up_nkx 98 101 (by decide), e79, e78, e5, ey]
  show ∃ I', (if jn (gS g y).length ≤ 0 then zM_rule_76_98_143 (jn x) (6 : Int32) (jR8 I (jn (mK m w)) (jn (mL m w)) (jn w) (jn (gD g)) (jn (gS g y).length) (jn (gTm g y w))) else _) = _ ∧ _
  by_cases l0 : (gS g y).length = 0
  · rw [if_pos (by rw [jl0, jn_le (by omega) (by omega)]; omega)]
    unfold zM_rule_76_98_143
    exact jm_rule144 hc h (by unfold gSame; rw [decide_eq_false (by omega)]; rfl)
  · have e : jn (gS g y).length - (1 : Int32) = jn ((gS g y).length - 1) := jn_sub (b := 1) (by omega)
    have hwl := hg.2.2.2.1 y ((gS g y).length - 1) hy (by omega)
    have hN8 : jRN (jR8 I (jn (mK m w)) (jn (mL m w)) (jn w) (jn (gD g)) (jn (gS g y).length) (jn (gTm g y w))) m := jRN_ag hN jR8_ag
    have hR8 : jRR ((jR8 I (jn (mK m w)) (jn (mL m w)) (jn w) (jn (gD g)) (jn (gS g y).length) (jn (gTm g y w))) 98) g := jRR_cg hR fun j => jR8_nk (by decide)
    have w1 := jm_wordAt hg hR8 hy (i := (gS g y).length - 1) (by omega)
    have w2 := jm_lastLetter hm hN8 hwl
    have w3 := jm_lastLetter hm hN8 hw
    unfold jR8 at w1 w2 w3
    rw [if_neg (by rw [jl0, jn_le (by omega) (by omega)]; omega), e, w1, Option.bind_some, w2, Option.bind_some, w3, Option.bind_some]
    by_cases s : mLast m ((gS g y).getD ((gS g y).length - 1) 0) = mLast m w
    · rw [if_neg (fun h => h s)]
      exact jm_rule144 hc h (by unfold gSame; rw [decide_eq_true s, decide_eq_true (by omega)]; rfl)
    · rw [if_pos s]
      unfold zM_rule_76_98_143
      exact jm_rule144 hc h (by unfold gSame; rw [decide_eq_false s, Bool.and_false]; rfl)
