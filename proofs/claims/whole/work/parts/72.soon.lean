/-! ===== soonest: distances ===== -/
def sEr (m : jMu) (t s : Nat) : Bool := mEd m (fun _ => false) s t
def sNr (m : jMu) (k : Nat) : Nat → Bool := gIt (gUp (mS m) (sEr m)) k (mE m)
def sDs (m : jMu) (s : Nat) : Option Nat := gFst (fun k => sNr m k s) (mS m) 0
theorem sNr_s {m : jMu} {k s : Nat} : sNr m (k + 1) s = true ↔ sNr m k s = true ∨ ∃ t, t < mS m ∧ sNr m k t = true ∧ mEd m (fun _ => false) s t = true := by
  show gUp (mS m) (sEr m) (sNr m k) s = true ↔ _
  simp only [gUp, Bool.or_eq_true, jex_iff, Bool.and_eq_true, sEr]
theorem sNr_mo {m : jMu} {s : Nat} : ∀ {j k : Nat}, j ≤ k → sNr m j s = true → sNr m k s = true
  | j, 0, h, hj => by
    have : j = 0 := by omega
    subst this; exact hj
  | j, k + 1, h, hj => by
    by_cases e : j = k + 1
    · subst e; exact hj
    · exact sNr_s.mpr (Or.inl (sNr_mo (show j ≤ k by omega) hj))
theorem sDs_some {m : jMu} {s d : Nat} (h : sDs m s = some d) : d < mS m ∧ sNr m d s = true ∧ ∀ j, j < d → sNr m j s = false := by
  rcases gFst_sp (P := fun k => sNr m k s) (c := mS m) (i := 0) with ⟨h1, _⟩ | ⟨k, h1, _, h3, h4, h5⟩
  · unfold sDs at h; rw [h1] at h; cases h
  · unfold sDs at h; rw [h1] at h; cases h
    exact ⟨by omega, h4, fun j hj => h5 j (by omega) hj⟩
theorem sDs_none {m : jMu} {s : Nat} (hs : s < mS m) (h : sDs m s = none) : ∀ j, sNr m j s = false := by
  rcases gFst_sp (P := fun k => sNr m k s) (c := mS m) (i := 0) with ⟨h1, h2⟩ | ⟨k, h1, _⟩
  · intro j
    by_cases e : j < mS m
    · exact h2 j (by omega) (by omega)
    · cases hj : sNr m j s with
      | false => rfl
      | true =>
        have e1 : sNr m (mS m) s = sNr m (mS m - 1) s := gUp_st1 hs
        have e2 : sNr m j s = sNr m (mS m) s := gUp_st (c := 0) (Nat.zero_le _) (by omega) (by omega) s hs
        rw [e2, e1, h2 (mS m - 1) (by omega) (by omega)] at hj
        cases hj
  · unfold sDs at h; rw [h1] at h; cases h
theorem sDs_of {m : jMu} {s d : Nat} (h1 : sNr m d s = true) (h2 : ∀ j, j < d → sNr m j s = false) (hs : s < mS m) : sDs m s = some d := by
  cases h : sDs m s with
  | none => rw [sDs_none hs h d] at h1; cases h1
  | some e =>
    obtain ⟨_, p2, p3⟩ := sDs_some h
    by_cases q : e < d
    · rw [h2 e q] at p2; cases p2
    · by_cases q2 : d < e
      · rw [p3 d q2] at h1; cases h1
      · have : e = d := by omega
        rw [this]
/-- class: the row of distances -/
def jT65 (I : iq_I) (m : jMu) (i : Nat) : Prop := ∀ s, s < mS m → I 65 s = jo (gFst (fun k => sNr m k s) i 0)
theorem jc_measure {I : iq_I} {m : jMu} (hm : mOk m) (hU : jRU I m) (h1S : 1 ≤ mS m) : ∃ I', zP_measureToEnds I = some I' ∧ jag I I' ∧ ∀ s, s < mS m → I' 65 s = jo (sDs m s) := by
  have h10 := hm.1
  obtain ⟨I0, e0, a0, b0⟩ := jc_lb hm hU (jc_told0 hU)
  have hU0 := jRU_ag hU a0
  obtain ⟨I1, e1, a1, h1⟩ : ∃ I', zP_measureToEnds_l15 (jb (mS m) (mE m)) ir_F (jn 0, I0) = some I' ∧ jag I0 I' ∧ jT65 I' m 1 ∧ jBh I' m fun _ => false := by
    refine js_inv (fun i v => v.1 = jn i ∧ jag I0 v.2 ∧ (∀ s, s < i → v.2 65 s = jo (gFst (fun k => sNr m k s) 1 0)) ∧ jBh v.2 m fun _ => false) (mS m) _ ?_ ?_ (mS m) 0 (jn 0, I0) ir_F (by omega) ⟨rfl, jag_rf I0, fun s h => by omega, b0⟩ (by unfold ir_F; omega)
    · rintro i ⟨x, I1⟩ hi ⟨hv, ha, h2, hb⟩
      simp only at hv ha h2 hb
      subst hv
      have hU1 := jRU_ag hU0 ha
      refine ⟨(jn (i + 1), iq_upI I1 65 i (jo (gFst (fun k => sNr m k i) 1 0))), ?_, rfl, jag_up ha rfl, fun s h => ?_, fun s hs => ?_⟩
      · cases he : mE m i with
        | true =>
          have e : gFst (fun k => sNr m k i) 1 0 = some 0 := if_pos he
          rw [e]
          simp (disch := omega) only [zP_measureToEnds_l15_b, zP_measureToEnds_44, jRU_S hU1, jq_bit, jq_jb, he, ir_let, jn_lt, jn_le, jn_in, jn_inj, jn_ne_m, jm_ne_n, jm_eq_m, jm_lt, jm_le, jn_lt_m, jn_le_m, jn_add, jn_mul, jn_clamp, jo_some, jn_min, jn_max, ↓jlm, jl0, jl1, jl2, jl3, jl4, jl5, jl6, jl7, jl8, jl9, jl10, jl11, jl12, jl13, jl14, jl15, jl16, jl20, jl24, jl32, jl39, jl40, jl41, jl60, jl61, jl80, jl96, jl97, jl99, jl100, jl122, jl126, jl199, jl200, jl205, jl206, jl255, jl256, jl410, jl700, jl950, jl1000, jl1000000, jl4000, jl8240, jl32767, if_pos, if_neg, ↓reduceIte, Option.bind_some, not_true_eq_false, not_false_eq_true, Nat.not_lt, Nat.not_le, Bool.true_eq_false]
        | false =>
          have e : gFst (fun k => sNr m k i) 1 0 = none := if_neg (show ¬ mE m i = true by simp [he])
          rw [e]
          simp (disch := omega) only [zP_measureToEnds_l15_b, zP_measureToEnds_44, jRU_S hU1, jq_bit, jq_jb, he, ir_let, jn_lt, jn_le, jn_in, jn_inj, jn_ne_m, jm_ne_n, jm_eq_m, jm_lt, jm_le, jn_lt_m, jn_le_m, jn_add, jn_mul, jn_clamp, jo_some, jn_min, jn_max, ↓jlm, jl0, jl1, jl2, jl3, jl4, jl5, jl6, jl7, jl8, jl9, jl10, jl11, jl12, jl13, jl14, jl15, jl16, jl20, jl24, jl32, jl39, jl40, jl41, jl60, jl61, jl80, jl96, jl97, jl99, jl100, jl122, jl126, jl199, jl200, jl205, jl206, jl255, jl256, jl410, jl700, jl950, jl1000, jl1000000, jl4000, jl8240, jl32767, if_pos, if_neg, ↓reduceIte, Option.bind_some, not_true_eq_false, not_false_eq_true, Nat.not_lt, Nat.not_le]
      · dsimp only
        by_cases q : s = i
        · subst q; rw [up_eq]
        · rw [up_ni q]; exact h2 s (by omega)
      · dsimp only; rw [up_nk (by decide)]; exact hb s hs
    · rintro ⟨x, I1⟩ ⟨hv, ha, h2, hb⟩
      simp only at hv ha h2 hb
      subst hv
      have hU1 := jRU_ag hU0 ha
      refine ⟨I1, ?_, ha, h2, hb⟩
      simp (disch := omega) only [zP_measureToEnds_l15_b, jRU_S hU1, ir_let, jn_lt, jn_le, jn_in, jn_inj, jn_ne_m, jm_ne_n, jm_eq_m, jm_lt, jm_le, jn_lt_m, jn_le_m, jn_add, jn_mul, jn_clamp, jo_some, jn_min, jn_max, ↓jlm, jl0, jl1, jl2, jl3, jl4, jl5, jl6, jl7, jl8, jl9, jl10, jl11, jl12, jl13, jl14, jl15, jl16, jl20, jl24, jl32, jl39, jl40, jl41, jl60, jl61, jl80, jl96, jl97, jl99, jl100, jl122, jl126, jl199, jl200, jl205, jl206, jl255, jl256, jl410, jl700, jl950, jl1000, jl1000000, jl4000, jl8240, jl32767, if_pos, if_neg, ↓reduceIte, Option.bind_some, not_true_eq_false, not_false_eq_true, Nat.not_lt, Nat.not_le]
  obtain ⟨h1, b1⟩ := h1
  have hU1 := jRU_ag hU0 a1
  obtain ⟨I2, e2, a2, h2⟩ : ∃ I', zP_measureToEnds_l53 ir_F (jb (mS m) (mE m), jn 1, I1) = some I' ∧ jag I1 I' ∧ jT65 I' m (mS m) := by
    refine js_inv (fun i v => v.1 = jb (mS m) (sNr m i) ∧ v.2.1 = jn (i + 1) ∧ jag I1 v.2.2 ∧ jT65 v.2.2 m (i + 1) ∧ jBh v.2.2 m fun _ => false) (mS m - 1) _ ?_ ?_ (mS m - 1) 0 (jb (mS m) (mE m), jn 1, I1) ir_F (by omega) ⟨rfl, rfl, jag_rf I1, h1, b1⟩ (by unfold ir_F; omega)
    · rintro i ⟨x, x', I2⟩ hi ⟨hv, hv', ha, h2, hb⟩
      simp only at hv hv' ha h2 hb
      subst hv
      subst hv'
      have hU2 := jRU_ag hU1 ha
      have li := jc_leadingInto' hm hU2 hb (A := fun j => true && !sNr m i j) (B := sNr m i)
      have come : ∀ s, s < mS m → gPr (mS m) (mEd m fun _ => false) (fun j => true && !sNr m i j) (sNr m i) s = (!sNr m i s && sNr m (i + 1) s) := fun s hs => by
        rw [Bool.eq_iff_iff]
        simp only [gPr, Bool.and_eq_true, jex_iff, Bool.true_and, Bool.not_eq_true', sNr_s]
        constructor
        · rintro ⟨q1, t, q2, q3, q4⟩
          exact ⟨q1, Or.inr ⟨t, q2, q4, q3⟩⟩
        · rintro ⟨q1, q2 | ⟨t, q2, q3, q4⟩⟩
          · rw [q1] at q2; cases q2
          · exact ⟨q1, t, q2, q4, q3⟩
      rw [jb_ext come] at li
      obtain ⟨I3, e3, a3, h3, b3⟩ : ∃ I', zP_measureToEnds_l81 (jb (mS m) (sNr m i)) (jn (i + 1)) (jb (mS m) fun s => !sNr m i s && sNr m (i + 1) s) ir_F (jn 0, I2) = some I' ∧ jag I2 I' ∧ jT65 I' m (i + 2) ∧ jBh I' m fun _ => false := by
        refine js_inv (fun k v => v.1 = jn k ∧ jag I2 v.2 ∧ (∀ s, s < k → v.2 65 s = jo (gFst (fun k => sNr m k s) (i + 2) 0)) ∧ (∀ s, k ≤ s → s < mS m → v.2 65 s = jo (gFst (fun k => sNr m k s) (i + 1) 0)) ∧ jBh v.2 m fun _ => false) (mS m) _ ?_ ?_ (mS m) 0 (jn 0, I2) ir_F (by omega) ⟨rfl, jag_rf I2, fun s h => by omega, fun s _ hs => h2 s hs, hb⟩ (by unfold ir_F; omega)
        · rintro k ⟨x, I3⟩ hk ⟨hv, hc, h3, h4, hb3⟩
          simp only at hv hc h3 h4 hb3
          subst hv
          have hU3 := jRU_ag hU2 hc
          have fs : gFst (fun j => sNr m j k) (i + 2) 0 = match gFst (fun j => sNr m j k) (i + 1) 0 with
              | some e => some e
              | none => if sNr m (0 + (i + 1)) k = true then some (0 + (i + 1)) else none := gFst_s
          rw [Nat.zero_add] at fs
          cases hcm : (!sNr m i k && sNr m (i + 1) k) with
          | true =>
            simp only [Bool.and_eq_true, Bool.not_eq_true'] at hcm
            have fn : gFst (fun j => sNr m j k) (i + 1) 0 = none := gFst_none fun j _ hj => by
              cases q : sNr m j k with
              | false => rfl
              | true => rw [sNr_mo (show j ≤ i by omega) q] at hcm; cases hcm.1
            rw [fn] at fs
            simp only at fs
            rw [if_pos hcm.2] at fs
            have hcm' : (!sNr m i k && sNr m (i + 1) k) = true := by simp [hcm.1, hcm.2]
            refine ⟨(jn (k + 1), iq_upI I3 65 k (jn (i + 1))), ?_, rfl, jag_up hc rfl, fun s h => ?_, fun s h1 h2 => ?_, fun s hs => ?_⟩
            · simp (disch := omega) only [zP_measureToEnds_l81_b, jRU_S hU3, jq_bit, jq_jb, hcm', ir_let, jn_lt, jn_le, jn_in, jn_inj, jn_ne_m, jm_ne_n, jm_eq_m, jm_lt, jm_le, jn_lt_m, jn_le_m, jn_add, jn_mul, jn_clamp, jo_some, jn_min, jn_max, ↓jlm, jl0, jl1, jl2, jl3, jl4, jl5, jl6, jl7, jl8, jl9, jl10, jl11, jl12, jl13, jl14, jl15, jl16, jl20, jl24, jl32, jl39, jl40, jl41, jl60, jl61, jl80, jl96, jl97, jl99, jl100, jl122, jl126, jl199, jl200, jl205, jl206, jl255, jl256, jl410, jl700, jl950, jl1000, jl1000000, jl4000, jl8240, jl32767, if_pos, if_neg, ↓reduceIte, Option.bind_some, not_true_eq_false, not_false_eq_true, Nat.not_lt, Nat.not_le, Bool.true_eq_false]
            · dsimp only
              by_cases q : s = k
              · subst q; rw [up_eq, fs]; rfl
              · rw [up_ni q]; exact h3 s (by omega)
            · dsimp only; rw [up_ni (by omega)]; exact h4 s (by omega) h2
            · dsimp only; rw [up_nk (by decide)]; exact hb3 s hs
          | false =>
            have fe : gFst (fun j => sNr m j k) (i + 2) 0 = gFst (fun j => sNr m j k) (i + 1) 0 := by
              rw [fs]
              cases q : gFst (fun j => sNr m j k) (i + 1) 0 with
              | some e => rfl
              | none =>
                simp only
                rcases gFst_sp (P := fun j => sNr m j k) (c := i + 1) (i := 0) with ⟨_, q2⟩ | ⟨e, q1, _⟩
                · have q3 := q2 i (by omega) (by omega)
                  rw [q3] at hcm
                  simp only [Bool.not_false, Bool.true_and] at hcm
                  rw [if_neg (by simp [hcm])]
                · rw [q1] at q; cases q
            refine ⟨(jn (k + 1), I3), ?_, rfl, hc, fun s h => ?_, fun s h1 h2 => h4 s (by omega) h2, hb3⟩
            · simp (disch := omega) only [zP_measureToEnds_l81_b, jRU_S hU3, jq_bit, jq_jb, hcm, ir_let, jn_lt, jn_le, jn_in, jn_inj, jn_ne_m, jm_ne_n, jm_eq_m, jm_lt, jm_le, jn_lt_m, jn_le_m, jn_add, jn_mul, jn_clamp, jo_some, jn_min, jn_max, ↓jlm, jl0, jl1, jl2, jl3, jl4, jl5, jl6, jl7, jl8, jl9, jl10, jl11, jl12, jl13, jl14, jl15, jl16, jl20, jl24, jl32, jl39, jl40, jl41, jl60, jl61, jl80, jl96, jl97, jl99, jl100, jl122, jl126, jl199, jl200, jl205, jl206, jl255, jl256, jl410, jl700, jl950, jl1000, jl1000000, jl4000, jl8240, jl32767, if_pos, if_neg, ↓reduceIte, Option.bind_some, not_true_eq_false, not_false_eq_true, Nat.not_lt, Nat.not_le]
            · dsimp only
              by_cases q : s = k
              · subst q; rw [fe]; exact h4 s (by omega) hk
              · exact h3 s (by omega)
        · rintro ⟨x, I3⟩ ⟨hv, hc, h3, h4, hb3⟩
          simp only at hv hc h3 h4 hb3
          subst hv
          have hU3 := jRU_ag hU2 hc
          refine ⟨I3, ?_, hc, h3, hb3⟩
          simp (disch := omega) only [zP_measureToEnds_l81_b, jRU_S hU3, ir_let, jn_lt, jn_le, jn_in, jn_inj, jn_ne_m, jm_ne_n, jm_eq_m, jm_lt, jm_le, jn_lt_m, jn_le_m, jn_add, jn_mul, jn_clamp, jo_some, jn_min, jn_max, ↓jlm, jl0, jl1, jl2, jl3, jl4, jl5, jl6, jl7, jl8, jl9, jl10, jl11, jl12, jl13, jl14, jl15, jl16, jl20, jl24, jl32, jl39, jl40, jl41, jl60, jl61, jl80, jl96, jl97, jl99, jl100, jl122, jl126, jl199, jl200, jl205, jl206, jl255, jl256, jl410, jl700, jl950, jl1000, jl1000000, jl4000, jl8240, jl32767, if_pos, if_neg, ↓reduceIte, Option.bind_some, not_true_eq_false, not_false_eq_true, Nat.not_lt, Nat.not_le]
      refine ⟨(jb (mS m) (sNr m (i + 1)), jn (i + 1 + 1), I3), ?_, rfl, rfl, jag_tr ha a3, h3, b3⟩
      have an : (jb (mS m) fun _ => true) &&& (jb (mS m) (sNr m i) ^^^ jo none) = jb (mS m) fun j => true && !sNr m i j := jb_andn (by omega)
      have orr : jb (mS m) (sNr m i) ||| (jb (mS m) fun s => !sNr m i s && sNr m (i + 1) s) = jb (mS m) (sNr m (i + 1)) := by
        rw [jb_or (by omega)]
        refine jb_ext fun j _ => ?_
        cases q : sNr m i j with
        | true => rw [sNr_mo (show i ≤ i + 1 by omega) q]; rfl
        | false => simp
      simp only [jn0] at e3
      simp (disch := omega) only [zP_measureToEnds_l53_b, jRU_S hU2, jc_allStates hm hU2, jn_le, if_neg, Option.bind_some, ↓jlm, an, li, e3, orr, jl1, jn_add]
    · rintro ⟨x, x', I2⟩ ⟨hv, hv', ha, h2, hb⟩
      simp only at hv hv' ha h2 hb
      subst hv
      subst hv'
      have hU2 := jRU_ag hU1 ha
      refine ⟨I2, ?_, ha, by rw [show mS m = mS m - 1 + 1 by omega]; exact h2⟩
      simp (disch := omega) only [zP_measureToEnds_l53_b, jRU_S hU2, ir_let, jn_lt, jn_le, jn_in, jn_inj, jn_ne_m, jm_ne_n, jm_eq_m, jm_lt, jm_le, jn_lt_m, jn_le_m, jn_add, jn_mul, jn_clamp, jo_some, jn_min, jn_max, ↓jlm, jl0, jl1, jl2, jl3, jl4, jl5, jl6, jl7, jl8, jl9, jl10, jl11, jl12, jl13, jl14, jl15, jl16, jl20, jl24, jl32, jl39, jl40, jl41, jl60, jl61, jl80, jl96, jl97, jl99, jl100, jl122, jl126, jl199, jl200, jl205, jl206, jl255, jl256, jl410, jl700, jl950, jl1000, jl1000000, jl4000, jl8240, jl32767, if_pos, if_neg, ↓reduceIte, Option.bind_some, not_true_eq_false, not_false_eq_true, Nat.not_lt, Nat.not_le]
  refine ⟨I2, ?_, jag_tr a0 (jag_tr a1 a2), h2⟩
  simp only [jn0] at e1
  simp only [jn1] at e2
  simp only [zP_measureToEnds, e0, jRU_E hU0, e1, e2, ir_let, iq_sm, ir_sm, jzE, j10, Option.bind_some, ↓reduceIte, not_true_eq_false, not_false_eq_true]
