/-! ===== odds ===== -/
theorem jn_nm1 {b : Nat} (hb : b < 2147483648) : jn b ≠ -1 := jn_ne hb (by decide)
theorem jn_div {a b : Nat} (ha : a < 2147483648) (hb : b < 2147483648) : jn a / jn b = jn (a / b) := Int32.toInt.inj (by
  rw [Int32.toInt_div_of_ne_right _ _ (jn_nm1 hb), jn_toInt ha, jn_toInt hb, jn_toInt (Nat.lt_of_le_of_lt (Nat.div_le_self a b) ha)]
  rfl)
theorem jn_rest {a b : Nat} (ha : a < 2147483648) (hb : b < 2147483648) : jn a - jn a / jn b * jn b = jn (a % b) := by
  rw [jn_div ha hb, jn_mul, jn_sub (Nat.div_mul_le_self a b)]
  congr 1
  have := Nat.div_add_mod a b
  rw [Nat.mul_comm] at this
  omega
theorem jm_gcd {x0 x1 x2 : Int32} {I : iq_I} : ∀ (b a n : Nat), a < 2147483648 → b < 2147483648 → b < n → zM_portion_l11 x0 x1 x2 I n (jn a, jn b) = some (jn (Nat.gcd a b)) := by
  intro b
  induction b using Nat.strongRecOn with
  | ind b ih =>
    intro a n ha hb hn
    obtain ⟨n, rfl⟩ : ∃ n', n = n' + 1 := ⟨n - 1, by omega⟩
    by_cases e : b = 0
    · subst e
      refine (js_0 (w := jn a) ?_).trans ?_
      · rfl
      · rw [Nat.gcd_zero_right]
    · have lt : a % b < b := Nat.mod_lt _ (by omega)
      refine (js_1 (v' := (jn b, jn (a % b))) ?_).trans ?_
      · dsimp only
        unfold zM_portion_l11_b
        have z : ¬ jn b = 0 := fun h => by rw [jl0, jn_inj hb (by omega)] at h; exact e h
        rw [if_neg z, if_neg z, jn_rest ha hb]
      · rw [show iq_lp (fun v => zM_portion_l11_b x0 x1 x2 I v.1 v.2) n (jn b, jn (a % b)) = zM_portion_l11 x0 x1 x2 I n (jn b, jn (a % b)) from rfl, ih (a % b) lt b n hb (by omega) (by omega), Nat.gcd_comm b, ← Nat.gcd_rec, Nat.gcd_comm]
theorem jc_gcd {M : Nat} {I : iq_I} (hM : M < 2147483640) : ∀ (b a r n : Nat), a < 2147483648 → b + r ≤ M → b < n → zH_greatestDivisor_l7 (jn M) I n (jn a, jn b, jn r) = some (jn (Nat.gcd a b)) := by
  intro b
  induction b using Nat.strongRecOn with
  | ind b ih =>
    intro a r n ha hb hn
    obtain ⟨n, rfl⟩ : ∃ n', n = n' + 1 := ⟨n - 1, by omega⟩
    by_cases e : b = 0
    · subst e
      refine (js_0 (w := jn a) ?_).trans ?_
      · dsimp only
        unfold zH_greatestDivisor_l7_b
        rw [if_neg (by rw [jn_lt (by omega) (by omega)]; omega), if_pos (by rw [jl0, jn_le (by omega) (by omega)]; omega)]
      · rw [Nat.gcd_zero_right]
    · have lt : a % b < b := Nat.mod_lt _ (by omega)
      refine (js_1 (v' := (jn b, jn (a % b), jn (r + 1))) ?_).trans ?_
      · dsimp only
        unfold zH_greatestDivisor_l7_b
        have z : ¬ jn b = 0 := fun h => by rw [jl0, jn_inj (by omega) (by omega)] at h; exact e h
        rw [if_neg (by rw [jn_lt (by omega) (by omega)]; omega), if_neg (by rw [jl0, jn_le (by omega) (by omega)]; omega), if_neg z, jn_rest ha (by omega), show jn r + (1 : Int32) = jn (r + 1) from jn_add r 1]
      · rw [show iq_lp (fun v => zH_greatestDivisor_l7_b (jn M) I v.1 v.2.1 v.2.2) n (jn b, jn (a % b), jn (r + 1)) = zH_greatestDivisor_l7 (jn M) I n (jn b, jn (a % b), jn (r + 1)) from rfl, ih (a % b) lt b (r + 1) n (by omega) (by omega) (by omega), Nat.gcd_comm b, ← Nat.gcd_rec, Nat.gcd_comm]
/-- the odds of a word in lowest terms: above (0), below (1) -/
def jPo (u l k : Nat) : Nat := if u = 0 then k else (if k = 0 then u else l) / Nat.gcd l u
theorem jm_portion {I : iq_I} {u l k : Nat} (hu : u ≤ l) (hl : l < 15000) (hk : k < 2) : zM_portion (jn u) (jn l) (jn k) I = some (jn (jPo u l k)) := by
  unfold zM_portion jPo
  by_cases e : u = 0
  · subst e; rw [if_neg (fun h => h rfl), if_pos rfl]
  · have gp : 0 < Nat.gcd l u := Nat.gcd_pos_of_pos_right _ (by omega)
    have gl : Nat.gcd l u ≤ u := Nat.gcd_le_right _ (by omega)
    have gz : ¬ jn (Nat.gcd l u) = 0 := fun h => by rw [jl0, jn_inj (by omega) (by omega)] at h; omega
    rw [if_pos (fun h => by rw [jl0, jn_inj (by omega) (by omega)] at h; exact e h), if_neg e, jm_gcd u l ir_F (by omega) (by omega) (by unfold ir_F; omega), Option.bind_some]
    unfold zM_portion_41
    by_cases e2 : k = 0
    · subst e2
      rw [if_neg (fun h => h rfl), if_neg gz, if_pos rfl, jn_div (by omega) (by omega)]
    · rw [if_pos (fun h => by rw [jl0, jn_inj (by omega) (by omega)] at h; exact e2 h), if_neg gz, if_neg e2, jn_div (by omega) (by omega)]
theorem jc_term {I : iq_I} {u l k : Nat} (hu : u ≤ l) (hl : l < 15000) (hk : k < 2) :
    (if jn u = 0 then zH_lowestTerm_27 (jB (decide (k = 0))) I else if ¬ jn l = 0 then (zH_greatestDivisor (jn l) (jn u) I).bind fun q3 => if jB (decide (k = 0)) = 0 then zH_lowestTerm_59 q3 (jn l) I else zH_lowestTerm_59 q3 (jn u) I else zH_lowestTerm_27 (jB (decide (k = 0))) I) = some (jn (jPo u l k), I) := by
  unfold jPo
  by_cases e : u = 0
  · subst e
    rw [if_pos (show jn 0 = 0 from rfl), if_pos rfl]
    unfold zH_lowestTerm_27
    rcases (show k = 0 ∨ k = 1 by omega) with rfl | rfl
    · rw [if_neg (by decide)]; rfl
    · rw [if_pos (by decide)]; rfl
  · have gp : 0 < Nat.gcd l u := Nat.gcd_pos_of_pos_right _ (by omega)
    have gl : Nat.gcd l u ≤ u := Nat.gcd_le_right _ (by omega)
    have gz : ¬ jn (Nat.gcd l u) = 0 := fun h => by rw [jl0, jn_inj (by omega) (by omega)] at h; omega
    have dv : zH_greatestDivisor (jn l) (jn u) I = some (jn (Nat.gcd l u)) := by
      unfold zH_greatestDivisor
      rw [show ((jn l, jn u, (0 : Int32)) : Int32 × Int32 × Int32) = (jn l, jn u, jn 0) from rfl, jc_gcd (by omega) u l 0 ir_F (by omega) (by omega) (by unfold ir_F; omega), Option.bind_some]
      unfold zH_greatestDivisor_33
      rw [jl1, jn_max (by omega) (by omega), Nat.max_eq_right (by omega)]
    rw [if_neg (fun h => by rw [jl0, jn_inj (by omega) (by omega)] at h; exact e h), if_pos (fun h => by rw [jl0, jn_inj (by omega) (by omega)] at h; omega), if_neg e, dv, Option.bind_some]
    unfold zH_lowestTerm_59
    rcases (show k = 0 ∨ k = 1 by omega) with rfl | rfl
    · rw [if_neg (by decide), if_neg gz, if_pos rfl, jn_div (by omega) (by omega)]
    · rw [if_pos (by decide), if_neg gz, if_neg (by decide), jn_div (by omega) (by omega)]
theorem jc_weightOf {I : iq_I} {w : Nat} (hw : w < 14) : zH_weightOf (jn w) I = some (I 71 w) := by
  simp (disch := omega) only [zH_weightOf, ir_let, jn_lt, jn_le, jn_in, jn_inj, jn_ne_m, jm_ne_n, jm_eq_m, jm_lt, jm_le, jn_lt_m, jn_le_m, jn_add, jn_mul, jn_clamp, jo_some, jn_min, jn_max, ↓jlm, jl0, jl1, jl2, jl3, jl4, jl5, jl6, jl7, jl8, jl9, jl10, jl11, jl12, jl13, jl14, jl15, jl16, jl20, jl24, jl32, jl39, jl40, jl41, jl60, jl61, jl80, jl96, jl97, jl99, jl100, jl122, jl126, jl199, jl200, jl205, jl206, jl255, jl256, jl410, jl700, jl950, jl1000, jl1000000, jl4000, jl8240, jl32767, if_pos, if_neg, ↓reduceIte, Option.bind_some, not_true_eq_false, not_false_eq_true, Nat.not_lt, Nat.not_le]
theorem jc_lowestTerm {I : iq_I} {m : jMu} {g : jGa} (hm : mOk m) (hU : jRU I m) (hg : gOk m g) (hG : jRG I 16 17 18 24 g) {v y w k : Nat} (hv : v < mV m) (hy : y < gY g) (hw : w < mW m) (hk : k < 2) :
    ∃ I', zH_lowestTerm (jn v) (jn y) (jn w) (jB (decide (k = 0))) I = some (jn (jPo (gWt m g v y w) (gSu m g v y (mW m)) k), I') ∧ jch [12, 70, 71] I I' := by
  have h14 := hm.2.1
  obtain ⟨I1, e1, a1, w1⟩ := jc_weighC hm hU hg hG hv hy
  refine ⟨I1, ?_, a1⟩
  unfold zH_lowestTerm
  rw [e1, Option.bind_some]
  dsimp only
  rw [jc_weightOf (by omega), Option.bind_some, w1 w (by omega)]
  have := gSu_le m g v y (mW m)
  exact jc_term (gWt_su hw) (by omega) hk
theorem jm_oddsOf {I : iq_I} {m : jMu} {g : jGa} (hm : mOk m) (hN : jRN I m) (hB : jRB I g) (hg : gOk m g) (hR : jRR (I 98) g) {v y w k : Nat} (hv : v < mV m) (hy : y < gY g) (hw : w < mW m) (hk : k < 2) :
    ∃ I', zM_oddsOf (jn v) (jn y) (jn w) (jn k) I = some (jn (jPo (gWt m g v y w) (gSu m g v y (mW m)) k), I') ∧ jch [101, 102] I I' := by
  have h14 := hm.2.1
  obtain ⟨I1, e1, a1⟩ := jm_weightC hm hN hg hR hv hy hw
  obtain ⟨I2, e2, a2⟩ := jm_weightsC hm (jRN_ch hN a1 (by decide)) (jRB_ch hB a1 (by decide)) hg (jRR_cg hR fun j => a1 98 j (by decide)) hv hy
  refine ⟨I2, ?_, jch_tr a1 a2⟩
  have := gSu_le m g v y (mW m)
  unfold zM_oddsOf
  rw [jm_stateNow hm hN hg hB hR hy, Option.bind_some, e1, Option.bind_some]
  dsimp only
  rw [e2, Option.bind_some]
  dsimp only
  rw [jm_portion (gWt_su hw) (by omega) hk, Option.bind_some]
theorem jq_odds {I : iq_I} (hI : jInv I) (x y z u : Int32) (X : iq_X) : ∃ r I1 X1 b I2, zO_odds x y z u I X = some (r, I1, X1) ∧ zM_odds x y z u I1 = some (b, I2) ∧ jag I I1 ∧ jag I I2 ∧ jXo X X1 ∧ jAns r b (I2 76 0) := by
  obtain ⟨m, g, hm, hU, hN, hB, ⟨hg, hG, hR, -, -⟩, -⟩ := hI
  have h4 := hm.2.2.2.2.2.1
  by_cases hx : ∃ s, s < mV m ∧ x = jn s
  · obtain ⟨v, hv, rfl⟩ := hx
    have v0 : ¬ jn v < 0 := by rw [jl0, jn_lt (by omega) (by omega)]; omega
    have v1 : jn v < I 8 0 := by rw [jRU_V hU, jn_lt (by omega) (by omega)]; exact hv
    have v2 : ∀ I1, jag I I1 → ¬ jz I1 76 4 ≤ jn v := fun I1 a => by rw [jRN_V (jRN_ag hN (jag_tr a (jz_ag I1))), jn_le (by omega) (by omega)]; omega
    by_cases hy : ∃ s, s < gY g ∧ y = jn s
    · obtain ⟨y, hy, rfl⟩ := hy
      by_cases hz : ∃ s, s < mW m ∧ z = jn s
      · obtain ⟨w, hw, rfl⟩ := hz
        by_cases hu : ∃ k, k < 2 ∧ u = jn k
        · obtain ⟨k, hk, rfl⟩ := hu
          refine jmkI (jn (jPo (gWt m g v y w) (gSu m g v y (mW m)) k)) ?_ fun I1 a1 => ?_
          · obtain ⟨I1, e1, a1⟩ := jc_lowestTerm hm hU hg hG hv hy hw hk
            refine ⟨I1, ?_, jag_ch a1 (by decide)⟩
            have c1 := jc_oneOfTwo1 (I := I) hk X
            rcases (show k = 0 ∨ k = 1 by omega) with rfl | rfl
            · have e1 : zH_lowestTerm (jn v) (jn y) (jn w) (1 : Int32) I = _ := e1
              simp only [jn0] at c1 ⊢
              simp only [zO_odds, if_neg v0, if_pos v1, jc_needSaying1 hg hG hy, jc_needWord1 hm hU hw, c1, ir_let, iq_sm, ir_sm, jzE, j10, Option.bind_some, ↓reduceIte, not_true_eq_false, not_false_eq_true, zO_odds_66, e1]
            · have e1 : zH_lowestTerm (jn v) (jn y) (jn w) (0 : Int32) I = _ := e1
              simp only [jn1] at c1 ⊢
              simp only [zO_odds, if_neg v0, if_pos v1, jc_needSaying1 hg hG hy, jc_needWord1 hm hU hw, c1, ir_let, iq_sm, ir_sm, jzE, j10, Option.bind_some, ↓reduceIte, not_true_eq_false, not_false_eq_true, zO_odds_66, e1]
          · have az := jag_tr a1 (jz_ag I1)
            obtain ⟨I2, e2, a2⟩ := jm_oddsOf hm (jRN_ag hN az) (jRB_ag hB az) hg (jRR_ag hR az) hv hy hw hk
            have k1 := jm_isWhat1 (I := I1) (k := k) (n := 1) (by omega) (by omega)
            rw [jn1] at k1
            refine ⟨I2, ?_, jag_tr (jz_ag I1) (jag_ch a2 (by decide)), by rw [a2 76 0 (by decide)]; rfl⟩
            unfold zM_odds
            rw [jzE, ir_let, if_neg v0, if_neg (v2 I1 a1)]
            simp only [zM_odds_23, jm_right1 (I := I1) (x := 1) rfl, jm_isSaying1 hg (jRB_ag hB a1) hy, jm_isWord1 hm (jRN_ag hN a1) hw, k1, e2, ir_let, iq_sm, ir_sm, jzE, j10, Option.bind_some, ↓reduceIte, not_true_eq_false, not_false_eq_true]
        · have k1 := jm_isWhat0 (I := I) (x := u) (n := 1) (by omega) (fun ⟨k, h1, h2⟩ => hu ⟨k, by omega, h2⟩)
          rw [jn1] at k1
          refine jmkE ?_ ?_
          · simp only [zO_odds, if_neg v0, if_pos v1, jc_needSaying1 hg hG hy, jc_needWord1 hm hU hw, jc_oneOfTwo0 hu, ir_let, iq_sm, ir_sm, jzE, j10, Option.bind_some, ↓reduceIte, not_true_eq_false, not_false_eq_true]
          · unfold zM_odds
            rw [jzE, ir_let, if_neg v0, if_neg (v2 I (jag_rf I))]
            simp only [zM_odds_23, jm_right1 (I := I) (x := 1) rfl, jm_isSaying1 hg hB hy, jm_isWord1 hm hN hw, k1, ir_let, iq_sm, ir_sm, jzE, j10, Option.bind_some, ↓reduceIte, not_true_eq_false, not_false_eq_true]
      · refine jmkE ?_ ?_
        · simp only [zO_odds, if_neg v0, if_pos v1, jc_needSaying1 hg hG hy, jc_needWord0 hm hU hz, ir_let, iq_sm, ir_sm, jzE, j10, Option.bind_some, ↓reduceIte, not_true_eq_false, not_false_eq_true]
        · unfold zM_odds
          rw [jzE, ir_let, if_neg v0, if_neg (v2 I (jag_rf I))]
          simp only [zM_odds_23, jm_right1 (I := I) (x := 1) rfl, jm_isSaying1 hg hB hy, jm_isWord0 hm hN hz, ir_let, iq_sm, ir_sm, jzE, j10, Option.bind_some, ↓reduceIte, not_true_eq_false, not_false_eq_true]
    · refine jmkE ?_ ?_
      · simp only [zO_odds, if_neg v0, if_pos v1, jc_needSaying0 hg hG hy, ir_let, iq_sm, ir_sm, jzE, j10, Option.bind_some, ↓reduceIte, not_true_eq_false, not_false_eq_true]
      · unfold zM_odds
        rw [jzE, ir_let, if_neg v0, if_neg (v2 I (jag_rf I))]
        simp only [zM_odds_23, jm_right1 (I := I) (x := 1) rfl, jm_isSaying0 hg hB hy, ir_let, iq_sm, ir_sm, jzE, j10, Option.bind_some, ↓reduceIte, not_true_eq_false, not_false_eq_true]
  · have r0 : zM_odds_22 x y z u (jz I) = some (0, jw I 1) := by
      unfold zM_odds_22 zM_odds_23
      rw [jm_right0 (I := I) (x := 0) rfl (by decide), Option.bind_some, if_pos rfl]
    rcases jx_no (by omega) hx with q | ⟨q1, q2, q3⟩
    · refine jmkE ?_ ?_
      · unfold zO_odds
        rw [if_pos q]; rfl
      · unfold zM_odds
        rw [jzE, ir_let, if_pos q, r0]
    · refine jmkE ?_ ?_
      · unfold zO_odds
        rw [if_neg q1, jRU_V hU, if_neg q2]; rfl
      · unfold zM_odds
        rw [jzE, ir_let, if_neg q1, show jz I 76 4 = jn (mV m) from jRN_V hN, if_pos q3, r0]
