/-! ===== soonest: the reference's distances ===== -/
def bfS (m : jMu) (V : Nat → Nat) : Prop := ∀ s, s < mS m → V s ≤ 99 ∧ (V s < 99 → sNr m (V s) s = true)
def bfC (m : jMu) (k : Nat) (V : Nat → Nat) (s : Nat) : Prop := ∀ j, j ≤ k → sNr m j s = true → V s ≤ j
def jV103 (I : iq_I) (m : jMu) (V : Nat → Nat) : Prop := ∀ s, s < mS m → I 103 s = jn (V s)
theorem bf_up {m : jMu} (hm : mOk m) {V : Nat → Nat} {s w t : Nat} (hs : s < mS m) (hw : w < mW m) (ht : t < mS m) (hl : mLd m s w = some t) (hS : bfS m V) (h : V t + 1 < V s) : bfS m fun x => if x = s then V t + 1 else V x := by
  intro x hx
  by_cases e : x = s
  · subst e
    dsimp only
    rw [if_pos rfl]
    have h1 := hS x hx
    have h2 := hS t ht
    refine ⟨by omega, fun _ => sNr_s.mpr (Or.inr ⟨t, ht, h2.2 (by omega), ?_⟩)⟩
    rw [mEd_w hm]
    exact jex_iff.mpr ⟨w, hw, by simp [hl]⟩
  · dsimp only
    rw [if_neg e]; exact hS x hx
theorem jm_bf62 {I : iq_I} {m : jMu} {x1 : Int32} {V : Nat → Nat} {s : Nat} (hm : mOk m) (hN : jRN I m) (hs : s < mS m) (hV : jV103 I m V) (hS : bfS m V) :
    ∃ I', zM_measures_l62 x1 (jn s) ir_F (jn 0, I) = some I' ∧ jag I I' ∧ I' 76 0 = I 76 0 ∧ ∃ V', jV103 I' m V' ∧ bfS m V' ∧ (∀ x, V' x ≤ V x) ∧ (∀ w t, w < mW m → mLd m s w = some t → V' s ≤ V' t + 1) := by
  have h10 := hm.1
  have h14 := hm.2.1
  refine js_inv (fun w v => v.1 = jn w ∧ jag I v.2 ∧ v.2 76 0 = I 76 0 ∧ ∃ V', jV103 v.2 m V' ∧ bfS m V' ∧ (∀ x, V' x ≤ V x) ∧ (∀ w' t, w' < w → mLd m s w' = some t → V' s ≤ V' t + 1)) (mW m) _ ?_ ?_ (mW m) 0 (jn 0, I) ir_F (by omega) ⟨rfl, jag_rf I, rfl, V, hV, hS, fun _ => Nat.le_refl _, fun w' t h => by omega⟩ (by unfold ir_F; omega)
  · rintro w ⟨x, I1⟩ hw ⟨hv, ha, h0, V', hV', hS', hle, hc⟩
    simp only at hv ha h0 hV'
    subst hv
    have hN1 := jRN_ag hN ha
    have lt := jm_leads hm hN1 hs hw
    have hcw : ¬ jn (mW m) ≤ jn w := by rw [jn_le (by omega) (by omega)]; omega
    cases hr : mLd m s w with
    | none =>
      rw [hr] at lt
      refine ⟨(jn (w + 1), I1), ?_, rfl, ha, h0, V', hV', hS', hle, fun w' t h1 h2 => ?_⟩
      · dsimp only
        unfold zM_measures_l62_b
        rw [jRN_W hN1, if_neg hcw, lt, Option.bind_some, if_pos (show jo none = -1 from rfl), show (1 : Int32) = jn 1 from rfl, jn_add]
      · by_cases e : w' = w
        · subst e; rw [hr] at h2; cases h2
        · exact hc w' t (by omega) h2
    | some t =>
      have ht := mLd_lt hm hs hw hr
      rw [hr, jo_some] at lt
      have b1 := (hS' s hs).1
      have b2 := (hS' t ht).1
      have is : iq_in (jn s) 10 := by rw [jn_in (by omega)]; omega
      have it : iq_in (jn t) 10 := by rw [jn_in (by omega)]; omega
      have nm : ¬ jn t = (-1 : Int32) := jn_ne (by omega) (by decide)
      by_cases q : V' s ≤ V' t + 1
      · refine ⟨(jn (w + 1), I1), ?_, rfl, ha, h0, V', hV', hS', hle, fun w' t' h1 h2 => ?_⟩
        · have q' : jn (V' s) ≤ jn (V' t) + (1 : Int32) := by rw [show (1 : Int32) = jn 1 from rfl, jn_add, jn_le (by omega) (by omega)]; exact q
          simp (disch := omega) only [zM_measures_l62_b, jRN_W hN1, lt, hV' s hs, hV' t ht, ir_let, jn_lt, jn_le, jn_in, jn_inj, jn_ne_m, jm_ne_n, jm_eq_m, jm_lt, jm_le, jn_lt_m, jn_le_m, jn_add, jn_mul, jn_clamp, jo_some, jn_min, jn_max, ↓jlm, jl0, jl1, jl2, jl3, jl4, jl5, jl6, jl7, jl8, jl9, jl10, jl11, jl12, jl13, jl14, jl15, jl16, jl20, jl24, jl32, jl39, jl40, jl41, jl60, jl61, jl80, jl96, jl97, jl99, jl100, jl122, jl126, jl199, jl200, jl205, jl206, jl255, jl256, jl410, jl700, jl950, jl1000, jl1000000, jl4000, jl8240, jl32767, if_pos, if_neg, ↓reduceIte, Option.bind_some, not_true_eq_false, not_false_eq_true, Nat.not_lt, Nat.not_le]
        · by_cases e : w' = w
          · subst e; rw [hr] at h2; cases h2; exact q
          · exact hc w' t' (by omega) h2
      · have nst : ¬ t = s := by rintro rfl; omega
        refine ⟨(jn (w + 1), iq_upI I1 103 s (jn (V' t + 1))), ?_, rfl, jag_up ha rfl, ?_, (fun x => if x = s then V' t + 1 else V' x), fun x hx => ?_, bf_up hm hs hw ht hr hS' (by omega), fun x => ?_, fun w' t' h1 h2 => ?_⟩
        · have q' : ¬ jn (V' s) ≤ jn (V' t) + (1 : Int32) := by rw [show (1 : Int32) = jn 1 from rfl, jn_add, jn_le (by omega) (by omega)]; exact q
          simp (disch := omega) only [zM_measures_l62_b, jRN_W hN1, lt, hV' s hs, hV' t ht, ir_let, jn_lt, jn_le, jn_in, jn_inj, jn_ne_m, jm_ne_n, jm_eq_m, jm_lt, jm_le, jn_lt_m, jn_le_m, jn_add, jn_mul, jn_clamp, jo_some, jn_min, jn_max, ↓jlm, jl0, jl1, jl2, jl3, jl4, jl5, jl6, jl7, jl8, jl9, jl10, jl11, jl12, jl13, jl14, jl15, jl16, jl20, jl24, jl32, jl39, jl40, jl41, jl60, jl61, jl80, jl96, jl97, jl99, jl100, jl122, jl126, jl199, jl200, jl205, jl206, jl255, jl256, jl410, jl700, jl950, jl1000, jl1000000, jl4000, jl8240, jl32767, if_pos, if_neg, ↓reduceIte, Option.bind_some, not_true_eq_false, not_false_eq_true, Nat.not_lt, Nat.not_le]
        · dsimp only; rw [up_nk (by decide)]; exact h0
        · dsimp only
          by_cases e : x = s
          · subst e; rw [if_pos rfl, up_eq]
          · rw [if_neg e, up_ni e]; exact hV' x hx
        · dsimp only
          by_cases e : x = s
          · subst e; rw [if_pos rfl]; have := hle x; omega
          · rw [if_neg e]; exact hle x
        · dsimp only
          rw [if_pos rfl]
          by_cases e : w' = w
          · subst e; rw [hr] at h2; cases h2; rw [if_neg nst]; exact Nat.le_refl _
          · have := hc w' t' (by omega) h2
            by_cases e2 : t' = s
            · rw [if_pos e2]; omega
            · rw [if_neg e2]; omega
  · rintro ⟨x, I1⟩ ⟨hv, ha, h0, V', hV', hS', hle, hc⟩
    simp only at hv ha h0 hV'
    subst hv
    have hN1 := jRN_ag hN ha
    refine ⟨I1, ?_, ha, h0, V', hV', hS', hle, hc⟩
    simp (disch := omega) only [zM_measures_l62_b, jRN_W hN1, ir_let, jn_lt, jn_le, jn_in, jn_inj, jn_ne_m, jm_ne_n, jm_eq_m, jm_lt, jm_le, jn_lt_m, jn_le_m, jn_add, jn_mul, jn_clamp, jo_some, jn_min, jn_max, ↓jlm, jl0, jl1, jl2, jl3, jl4, jl5, jl6, jl7, jl8, jl9, jl10, jl11, jl12, jl13, jl14, jl15, jl16, jl20, jl24, jl32, jl39, jl40, jl41, jl60, jl61, jl80, jl96, jl97, jl99, jl100, jl122, jl126, jl199, jl200, jl205, jl206, jl255, jl256, jl410, jl700, jl950, jl1000, jl1000000, jl4000, jl8240, jl32767, if_pos, if_neg, ↓reduceIte, Option.bind_some, not_true_eq_false, not_false_eq_true, Nat.not_lt, Nat.not_le]
theorem jm_bf52 {I : iq_I} {m : jMu} {x1 : Int32} {V : Nat → Nat} {k : Nat} (hm : mOk m) (hN : jRN I m) (hV : jV103 I m V) (hS : bfS m V) (hC : ∀ s, s < mS m → bfC m k V s) :
    ∃ I', zM_measures_l52 x1 ir_F (jn 0, I) = some I' ∧ jag I I' ∧ I' 76 0 = I 76 0 ∧ ∃ V', jV103 I' m V' ∧ bfS m V' ∧ (∀ s, s < mS m → bfC m (k + 1) V' s) := by
  have h10 := hm.1
  refine js_inv (fun i v => v.1 = jn i ∧ jag I v.2 ∧ v.2 76 0 = I 76 0 ∧ ∃ V', jV103 v.2 m V' ∧ bfS m V' ∧ (∀ s, s < mS m → bfC m k V' s) ∧ (∀ s, s < i → bfC m (k + 1) V' s)) (mS m) _ ?_ ?_ (mS m) 0 (jn 0, I) ir_F (by omega) ⟨rfl, jag_rf I, rfl, V, hV, hS, hC, fun s h => by omega⟩ (by unfold ir_F; omega)
  · rintro s ⟨x, I1⟩ hs ⟨hv, ha, h0, V', hV', hS', hk, hk1⟩
    simp only at hv ha h0 hV'
    subst hv
    have hN1 := jRN_ag hN ha
    obtain ⟨I2, e2, a2, t2, W, hW, hSW, hle, hc⟩ := jm_bf62 (x1 := x1) hm hN1 hs hV' hS'
    refine ⟨(jn (s + 1), I2), ?_, rfl, jag_tr ha a2, t2.trans h0, W, hW, hSW, fun s' hs' j hj hn => Nat.le_trans (hle s') (hk s' hs' j hj hn), fun s' h => ?_⟩
    · simp only [jn0] at e2
      simp (disch := omega) only [zM_measures_l52_b, jRN_S hN1, jn_le, if_neg, e2, Option.bind_some, jl1, jn_add]
    · by_cases e : s' = s
      · subst e
        intro j hj hn
        by_cases ej : j ≤ k
        · exact Nat.le_trans (hle s') (hk s' hs j ej hn)
        · have ej : j = k + 1 := by omega
          subst ej
          rcases sNr_s.mp hn with h1 | ⟨t, ht, h1, h2⟩
          · have := Nat.le_trans (hle s') (hk s' hs k (Nat.le_refl _) h1); omega
          · rw [mEd_w hm] at h2
            obtain ⟨w, hw, h3⟩ := jex_iff.mp h2
            simp only [Bool.and_eq_true] at h3
            have h3 := of_decide_eq_true h3.2
            have h4 := hc w t hw h3
            have h5 := Nat.le_trans (hle t) (hk t ht k (Nat.le_refl _) h1)
            omega
      · intro j hj hn
        exact Nat.le_trans (hle s') (hk1 s' (by omega) j hj hn)
  · rintro ⟨x, I1⟩ ⟨hv, ha, h0, V', hV', hS', hk, hk1⟩
    simp only at hv ha h0 hV'
    subst hv
    have hN1 := jRN_ag hN ha
    refine ⟨I1, ?_, ha, h0, V', hV', hS', hk1⟩
    simp (disch := omega) only [zM_measures_l52_b, jRN_S hN1, ir_let, jn_lt, jn_le, jn_in, jn_inj, jn_ne_m, jm_ne_n, jm_eq_m, jm_lt, jm_le, jn_lt_m, jn_le_m, jn_add, jn_mul, jn_clamp, jo_some, jn_min, jn_max, ↓jlm, jl0, jl1, jl2, jl3, jl4, jl5, jl6, jl7, jl8, jl9, jl10, jl11, jl12, jl13, jl14, jl15, jl16, jl20, jl24, jl32, jl39, jl40, jl41, jl60, jl61, jl80, jl96, jl97, jl99, jl100, jl122, jl126, jl199, jl200, jl205, jl206, jl255, jl256, jl410, jl700, jl950, jl1000, jl1000000, jl4000, jl8240, jl32767, if_pos, if_neg, ↓reduceIte, Option.bind_some, not_true_eq_false, not_false_eq_true, Nat.not_lt, Nat.not_le]
theorem jm_measures {I : iq_I} {m : jMu} (hm : mOk m) (hN : jRN I m) : ∃ I', zM_measures I = some I' ∧ jag I I' ∧ I' 76 0 = I 76 0 ∧ ∀ s, s < mS m → I' 103 s = jn ((sDs m s).getD 99) := by
  have h10 := hm.1
  obtain ⟨I1, e1, a1, t1, h1⟩ : ∃ I', zM_measures_l2 ir_F (jn 0, I) = some I' ∧ jag I I' ∧ I' 76 0 = I 76 0 ∧ jV103 I' m fun s => if mE m s = true then 0 else 99 := by
    refine js_inv (fun i v => v.1 = jn i ∧ jag I v.2 ∧ v.2 76 0 = I 76 0 ∧ ∀ s, s < i → v.2 103 s = jn (if mE m s = true then 0 else 99)) (mS m) _ ?_ ?_ (mS m) 0 (jn 0, I) ir_F (by omega) ⟨rfl, jag_rf I, rfl, fun s h => by omega⟩ (by unfold ir_F; omega)
    · rintro i ⟨x, I1⟩ hi ⟨hv, ha, h0, h2⟩
      simp only at hv ha h0 h2
      subst hv
      have hN1 := jRN_ag hN ha
      refine ⟨(jn (i + 1), iq_upI I1 103 i (jn (if mE m i = true then 0 else 99))), ?_, rfl, jag_up ha rfl, ?_, fun s h => ?_⟩
      · cases he : mE m i with
        | true => simp (disch := omega) only [zM_measures_l2_b, zM_measures_33, jRN_S hN1, jRN_E hN1, jq_bit1, jq_jb, he, ir_let, jn_lt, jn_le, jn_in, jn_inj, jn_ne_m, jm_ne_n, jm_eq_m, jm_lt, jm_le, jn_lt_m, jn_le_m, jn_add, jn_mul, jn_clamp, jo_some, jn_min, jn_max, ↓jlm, jl0, jl1, jl2, jl3, jl4, jl5, jl6, jl7, jl8, jl9, jl10, jl11, jl12, jl13, jl14, jl15, jl16, jl20, jl24, jl32, jl39, jl40, jl41, jl60, jl61, jl80, jl96, jl97, jl99, jl100, jl122, jl126, jl199, jl200, jl205, jl206, jl255, jl256, jl410, jl700, jl950, jl1000, jl1000000, jl4000, jl8240, jl32767, if_pos, if_neg, ↓reduceIte, Option.bind_some, not_true_eq_false, not_false_eq_true, Nat.not_lt, Nat.not_le]
        | false => simp (disch := omega) only [zM_measures_l2_b, zM_measures_33, jRN_S hN1, jRN_E hN1, jq_bit1, jq_jb, he, ir_let, jn_lt, jn_le, jn_in, jn_inj, jn_ne_m, jm_ne_n, jm_eq_m, jm_lt, jm_le, jn_lt_m, jn_le_m, jn_add, jn_mul, jn_clamp, jo_some, jn_min, jn_max, ↓jlm, jl0, jl1, jl2, jl3, jl4, jl5, jl6, jl7, jl8, jl9, jl10, jl11, jl12, jl13, jl14, jl15, jl16, jl20, jl24, jl32, jl39, jl40, jl41, jl60, jl61, jl80, jl96, jl97, jl99, jl100, jl122, jl126, jl199, jl200, jl205, jl206, jl255, jl256, jl410, jl700, jl950, jl1000, jl1000000, jl4000, jl8240, jl32767, if_pos, if_neg, ↓reduceIte, Option.bind_some, not_true_eq_false, not_false_eq_true, Nat.not_lt, Nat.not_le, Bool.false_eq_true]
      · dsimp only; rw [up_nk (by decide)]; exact h0
      · dsimp only
        by_cases q : s = i
        · subst q; rw [up_eq]
        · rw [up_ni q]; exact h2 s (by omega)
    · rintro ⟨x, I1⟩ ⟨hv, ha, h0, h2⟩
      simp only at hv ha h0 h2
      subst hv
      have hN1 := jRN_ag hN ha
      refine ⟨I1, ?_, ha, h0, h2⟩
      simp (disch := omega) only [zM_measures_l2_b, jRN_S hN1, ir_let, jn_lt, jn_le, jn_in, jn_inj, jn_ne_m, jm_ne_n, jm_eq_m, jm_lt, jm_le, jn_lt_m, jn_le_m, jn_add, jn_mul, jn_clamp, jo_some, jn_min, jn_max, ↓jlm, jl0, jl1, jl2, jl3, jl4, jl5, jl6, jl7, jl8, jl9, jl10, jl11, jl12, jl13, jl14, jl15, jl16, jl20, jl24, jl32, jl39, jl40, jl41, jl60, jl61, jl80, jl96, jl97, jl99, jl100, jl122, jl126, jl199, jl200, jl205, jl206, jl255, jl256, jl410, jl700, jl950, jl1000, jl1000000, jl4000, jl8240, jl32767, if_pos, if_neg, ↓reduceIte, Option.bind_some, not_true_eq_false, not_false_eq_true, Nat.not_lt, Nat.not_le]
  have S0 : bfS m fun s => if mE m s = true then 0 else 99 := fun s hs => by
    cases he : mE m s with
    | true => simp only [he, if_true]; exact ⟨by omega, fun _ => he⟩
    | false => simp [he]
  have C0 : ∀ s, s < mS m → bfC m 0 (fun s => if mE m s = true then 0 else 99) s := fun s hs j hj hn => by
    have : j = 0 := by omega
    subst this
    have hn : mE m s = true := hn
    simp [hn]
  obtain ⟨I2, e2, a2, t2, V, hV, hS, hC⟩ : ∃ I', zM_measures_l42 ir_F (jn 0, I1) = some I' ∧ jag I1 I' ∧ I' 76 0 = I1 76 0 ∧ ∃ V, jV103 I' m V ∧ bfS m V ∧ (∀ s, s < mS m → bfC m (mS m) V s) := by
    refine js_inv (fun i v => v.1 = jn i ∧ jag I1 v.2 ∧ v.2 76 0 = I1 76 0 ∧ ∃ V, jV103 v.2 m V ∧ bfS m V ∧ (∀ s, s < mS m → bfC m i V s)) (mS m) _ ?_ ?_ (mS m) 0 (jn 0, I1) ir_F (by omega) ⟨rfl, jag_rf I1, rfl, _, h1, S0, C0⟩ (by unfold ir_F; omega)
    · rintro i ⟨x, I2⟩ hi ⟨hv, ha, h0, V, hV, hS, hC⟩
      simp only at hv ha h0 hV
      subst hv
      have hN2 := jRN_ag hN (jag_tr a1 ha)
      obtain ⟨I3, e3, a3, t3, W, hW, hSW, hCW⟩ := jm_bf52 (x1 := jn i) hm hN2 hV hS hC
      refine ⟨(jn (i + 1), I3), ?_, rfl, jag_tr ha a3, t3.trans h0, W, hW, hSW, hCW⟩
      simp only [jn0] at e3
      simp (disch := omega) only [zM_measures_l42_b, jRN_S hN2, jn_le, if_neg, e3, Option.bind_some, jl1, jn_add]
    · rintro ⟨x, I2⟩ ⟨hv, ha, h0, V, hV, hS, hC⟩
      simp only at hv ha h0 hV
      subst hv
      have hN2 := jRN_ag hN (jag_tr a1 ha)
      refine ⟨I2, ?_, ha, h0, V, hV, hS, hC⟩
      simp (disch := omega) only [zM_measures_l42_b, jRN_S hN2, ir_let, jn_lt, jn_le, jn_in, jn_inj, jn_ne_m, jm_ne_n, jm_eq_m, jm_lt, jm_le, jn_lt_m, jn_le_m, jn_add, jn_mul, jn_clamp, jo_some, jn_min, jn_max, ↓jlm, jl0, jl1, jl2, jl3, jl4, jl5, jl6, jl7, jl8, jl9, jl10, jl11, jl12, jl13, jl14, jl15, jl16, jl20, jl24, jl32, jl39, jl40, jl41, jl60, jl61, jl80, jl96, jl97, jl99, jl100, jl122, jl126, jl199, jl200, jl205, jl206, jl255, jl256, jl410, jl700, jl950, jl1000, jl1000000, jl4000, jl8240, jl32767, if_pos, if_neg, ↓reduceIte, Option.bind_some, not_true_eq_false, not_false_eq_true, Nat.not_lt, Nat.not_le]
  refine ⟨I2, ?_, jag_tr a1 a2, t2.trans t1, fun s hs => ?_⟩
  · simp only [jn0] at e1 e2
    simp only [zM_measures, e1, e2, ir_let, iq_sm, ir_sm, jzE, j10, Option.bind_some, ↓reduceIte, not_true_eq_false, not_false_eq_true]
  · rw [hV s hs]
    congr 1
    obtain ⟨q1, q2⟩ := hS s hs
    cases h : sDs m s with
    | none =>
      have hn := sDs_none hs h
      by_cases q : V s < 99
      · have := q2 q
        rw [hn] at this; cases this
      · show V s = 99
        omega
    | some d =>
      obtain ⟨p1, p2, p3⟩ := sDs_some h
      have h4 := hC s hs d (by omega) p2
      show V s = d
      by_cases q : V s < d
      · have := q2 (by omega)
        rw [p3 _ q] at this; cases this
      · omega
