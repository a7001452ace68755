/-! ===== costs ===== -/
def cMn (f : Nat → Nat) : Nat → Nat
  | 0 => 1000000
  | k + 1 => min (cMn f k) (f k)
theorem cMn_le1 {f : Nat → Nat} : ∀ k, cMn f k ≤ 1000000
  | 0 => Nat.le_refl _
  | k + 1 => by have := cMn_le1 (f := f) k; unfold cMn; omega
theorem cMn_iff {f : Nat → Nat} {x : Nat} : ∀ {n : Nat}, cMn f n ≤ x ↔ 1000000 ≤ x ∨ ∃ k, k < n ∧ f k ≤ x
  | 0 => ⟨fun h => Or.inl h, fun h => by
    rcases h with h | ⟨k, h, _⟩
    · exact h
    · omega⟩
  | n + 1 => by
    show min (cMn f n) (f n) ≤ x ↔ _
    have ih := cMn_iff (f := f) (x := x) (n := n)
    constructor
    · intro h
      by_cases h1 : cMn f n ≤ x
      · rcases ih.mp h1 with h2 | ⟨k, h2, h3⟩
        · exact Or.inl h2
        · exact Or.inr ⟨k, by omega, h3⟩
      · exact Or.inr ⟨n, by omega, by omega⟩
    · rintro (h | ⟨k, h1, h2⟩)
      · have := ih.mpr (Or.inl h); omega
      · by_cases e : k = n
        · subst e; omega
        · have := ih.mpr (Or.inr ⟨k, by omega, h2⟩); omega
def cO (f : Nat → Nat) : Option Nat → Nat
  | none => 1000000
  | some t => f t
/-- what the cheapest row of n words costs from s -/
def cG (m : jMu) (D : Nat → Nat) (s k : Nat) : Nat := if mTold m k = true then mP m k + cO D (mR m s k) else 1000000
def cL (m : jMu) : Nat → Nat → Nat
  | 0 => fun _ => 0
  | n + 1 => fun s => cMn (cG m (cL m n) s) 8
def cFw (m : jMu) (n s w : Nat) : Nat := mP m (mK m w) + cO (cL m n) (mLd m s w)
theorem cL_w {m : jMu} (hm : mOk m) (n s : Nat) : cL m (n + 1) s = cMn (cFw m n s) (mW m) := by
  have : ∀ x, cL m (n + 1) s ≤ x ↔ cMn (cFw m n s) (mW m) ≤ x := by
    intro x
    show cMn _ 8 ≤ x ↔ _
    rw [cMn_iff, cMn_iff]
    constructor
    · rintro (h | ⟨k, h1, h2⟩)
      · exact Or.inl h
      · unfold cG at h2
        by_cases ht : mTold m k = true
        · rw [if_pos ht] at h2
          obtain ⟨w, hw, he⟩ := jex_iff.mp ht
          have he := of_decide_eq_true he
          refine Or.inr ⟨w, hw, ?_⟩
          unfold cFw mLd
          rw [he]; exact h2
        · rw [if_neg ht] at h2; exact Or.inl h2
    · rintro (h | ⟨w, h1, h2⟩)
      · exact Or.inl h
      · refine Or.inr ⟨mK m w, (hm.2.2.1 w h1).2.2, ?_⟩
        have ht : mTold m (mK m w) = true := jex_iff.mpr ⟨w, h1, decide_eq_true rfl⟩
        unfold cG
        rw [if_pos ht]
        exact h2
  exact Nat.le_antisymm ((this _).mpr (Nat.le_refl _)) ((this _).mp (Nat.le_refl _))
theorem cL_le (m : jMu) : ∀ n s, cL m n s ≤ 1000000
  | 0, s => Nat.zero_le _
  | n + 1, s => cMn_le1 8
theorem cO_le (m : jMu) (n : Nat) (o : Option Nat) : cO (cL m n) o ≤ 1000000 := by
  cases o with
  | none => exact Nat.le_refl _
  | some t => exact cL_le m n t
def jT66 (I : iq_I) (m : jMu) (i : Nat) : Prop := ∀ n s, n < i → s < mS m → I 66 (n * 10 + s) = jn (cL m n s)
theorem jc_leastCost {I : iq_I} {m : jMu} {i n : Nat} (hm : mOk m) (hU : jRU I m) (hT : jT66 I m i) (hn : n < i) (h40 : n ≤ 40) {o : Option Nat} (ho : ∀ t, o = some t → t < mS m) : zP_leastCost (jo o) (jn n) I = some (jn (cO (cL m n) o)) := by
  have h10 := hm.1
  cases o with
  | none => simp (disch := omega) only [zP_leastCost, ir_let, jn_lt, jn_le, jn_in, jn_inj, jn_ne_m, jm_ne_n, jm_eq_m, jm_lt, jm_le, jn_lt_m, jn_le_m, jn_add, jn_mul, jn_clamp, jo_some, jn_min, jn_max, ↓jlm, jl0, jl1, jl2, jl3, jl4, jl5, jl6, jl7, jl8, jl9, jl10, jl11, jl12, jl13, jl14, jl15, jl16, jl20, jl24, jl32, jl39, jl40, jl41, jl60, jl61, jl80, jl96, jl97, jl99, jl100, jl122, jl126, jl199, jl200, jl205, jl206, jl255, jl256, jl410, jl700, jl950, jl1000, jl1000000, jl4000, jl8240, jl32767, if_pos, if_neg, ↓reduceIte, Option.bind_some, not_true_eq_false, not_false_eq_true, Nat.not_lt, Nat.not_le, cO]
  | some t =>
    have ht := ho t rfl
    simp (disch := omega) only [zP_leastCost, jRU_S hU, hT n t hn ht, ir_let, jn_lt, jn_le, jn_in, jn_inj, jn_ne_m, jm_ne_n, jm_eq_m, jm_lt, jm_le, jn_lt_m, jn_le_m, jn_add, jn_mul, jn_clamp, jo_some, jn_min, jn_max, ↓jlm, jl0, jl1, jl2, jl3, jl4, jl5, jl6, jl7, jl8, jl9, jl10, jl11, jl12, jl13, jl14, jl15, jl16, jl20, jl24, jl32, jl39, jl40, jl41, jl60, jl61, jl80, jl96, jl97, jl99, jl100, jl122, jl126, jl199, jl200, jl205, jl206, jl255, jl256, jl410, jl700, jl950, jl1000, jl1000000, jl4000, jl8240, jl32767, if_pos, if_neg, ↓reduceIte, Option.bind_some, not_true_eq_false, not_false_eq_true, Nat.not_lt, Nat.not_le, cO]
theorem jc_cheap {I : iq_I} {m : jMu} {i n s : Nat} (hm : mOk m) (hU : jRU I m) (hT : jT66 I m i) (hn : n < i) (h40 : n < 40) (hs : s < mS m) : zP_cheapestBehind (jn s) (jn (n + 1)) I = some (jn (cL m (n + 1) s)) := by
  have key : zP_cheapestBehind_l6 (jn s) (jn (n + 1)) I ir_F (jn 1000000, jn 0) = some (jn (cL m (n + 1) s)) := by
    refine js_seq (fun k => (jn (cMn (cG m (cL m n) s) k), jn k)) 8 _ (fun k hk => ?_) ?_ 8 0 ir_F (by omega) (by unfold ir_F; omega)
    · have b1 := cMn_le1 (f := cG m (cL m n) s) k
      have b2 := cO_le m n (mR m s k)
      have b3 := hm.2.2.2.2.1 k hk
      have lc := jc_leastCost hm hU hT hn (by omega) (o := mR m s k) (fun t ht => hm.2.2.2.1 s k t hs hk ht)
      cases ht : mTold m k with
      | true =>
        have e : cMn (cG m (cL m n) s) (k + 1) = min (cMn (cG m (cL m n) s) k) (mP m k + cO (cL m n) (mR m s k)) := by
          show min _ (cG m (cL m n) s k) = _
          unfold cG
          rw [if_pos ht]
        rw [e]
        simp (disch := omega) only [zP_cheapestBehind_l6_b, jRU_t hU, jq_bit, jq_jb, ht, jc_leadsBy hm hU hs hk, jc_priceOf hm hU hk, ir_let, jn_lt, jn_le, jn_in, jn_inj, jn_ne_m, jm_ne_n, jm_eq_m, jm_lt, jm_le, jn_lt_m, jn_le_m, jn_add, jn_mul, jn_clamp, jo_some, jn_min, jn_max, ↓jlm, jl0, jl1, jl2, jl3, jl4, jl5, jl6, jl7, jl8, jl9, jl10, jl11, jl12, jl13, jl14, jl15, jl16, jl20, jl24, jl32, jl39, jl40, jl41, jl60, jl61, jl80, jl96, jl97, jl99, jl100, jl122, jl126, jl199, jl200, jl205, jl206, jl255, jl256, jl410, jl700, jl950, jl1000, jl1000000, jl4000, jl8240, jl32767, if_pos, if_neg, ↓reduceIte, Option.bind_some, not_true_eq_false, not_false_eq_true, Nat.not_lt, Nat.not_le, Bool.true_eq_false, jn_sub, Nat.add_sub_cancel, lc]
      | false =>
        have e : cMn (cG m (cL m n) s) (k + 1) = cMn (cG m (cL m n) s) k := by
          show min _ (cG m (cL m n) s k) = _
          have e0 : cG m (cL m n) s k = 1000000 := by
            unfold cG
            rw [if_neg (by simp [ht])]
          rw [e0]; omega
        rw [e]
        simp (disch := omega) only [zP_cheapestBehind_l6_b, jRU_t hU, jq_bit, jq_jb, ht, ir_let, jn_lt, jn_le, jn_in, jn_inj, jn_ne_m, jm_ne_n, jm_eq_m, jm_lt, jm_le, jn_lt_m, jn_le_m, jn_add, jn_mul, jn_clamp, jo_some, jn_min, jn_max, ↓jlm, jl0, jl1, jl2, jl3, jl4, jl5, jl6, jl7, jl8, jl9, jl10, jl11, jl12, jl13, jl14, jl15, jl16, jl20, jl24, jl32, jl39, jl40, jl41, jl60, jl61, jl80, jl96, jl97, jl99, jl100, jl122, jl126, jl199, jl200, jl205, jl206, jl255, jl256, jl410, jl700, jl950, jl1000, jl1000000, jl4000, jl8240, jl32767, if_pos, if_neg, ↓reduceIte, Option.bind_some, not_true_eq_false, not_false_eq_true, Nat.not_lt, Nat.not_le]
    · simp (disch := omega) only [zP_cheapestBehind_l6_b, ir_let, jn_lt, jn_le, jn_in, jn_inj, jn_ne_m, jm_ne_n, jm_eq_m, jm_lt, jm_le, jn_lt_m, jn_le_m, jn_add, jn_mul, jn_clamp, jo_some, jn_min, jn_max, ↓jlm, jl0, jl1, jl2, jl3, jl4, jl5, jl6, jl7, jl8, jl9, jl10, jl11, jl12, jl13, jl14, jl15, jl16, jl20, jl24, jl32, jl39, jl40, jl41, jl60, jl61, jl80, jl96, jl97, jl99, jl100, jl122, jl126, jl199, jl200, jl205, jl206, jl255, jl256, jl410, jl700, jl950, jl1000, jl1000000, jl4000, jl8240, jl32767, if_pos, if_neg, ↓reduceIte, Option.bind_some, not_true_eq_false, not_false_eq_true, Nat.not_lt, Nat.not_le]
      rfl
  have key' : zP_cheapestBehind_l6 (jn s) (jn (n + 1)) I ir_F ((1000000 : Int32), (0 : Int32)) = some (jn (cL m (n + 1) s)) := key
  simp only [zP_cheapestBehind, key', ir_let, iq_sm, ir_sm, jzE, j10, Option.bind_some, ↓reduceIte, not_true_eq_false, not_false_eq_true]
theorem jc_priceRows {I : iq_I} {m : jMu} (hm : mOk m) (hU : jRU I m) : ∃ I', zP_priceRows I = some I' ∧ jag I I' ∧ jT66 I' m 41 := by
  have h10 := hm.1
  obtain ⟨I1, e1, a1, h1⟩ : ∃ I', zP_priceRows_l2 ir_F (jn 0, I) = some I' ∧ jag I I' ∧ jT66 I' m 1 := by
    refine js_inv (fun i v => v.1 = jn i ∧ jag I v.2 ∧ ∀ s, s < i → v.2 66 s = jn 0) 10 _ ?_ ?_ 10 0 (jn 0, I) ir_F (by omega) ⟨rfl, jag_rf I, fun s h => by omega⟩ (by unfold ir_F; omega)
    · rintro i ⟨x, I1⟩ hi ⟨hv, ha, h2⟩
      simp only at hv ha h2
      subst hv
      refine ⟨(jn (i + 1), iq_upI I1 66 i (jn 0)), ?_, rfl, jag_up ha rfl, fun s h => ?_⟩
      · simp (disch := omega) only [zP_priceRows_l2_b, ir_let, jn_lt, jn_le, jn_in, jn_inj, jn_ne_m, jm_ne_n, jm_eq_m, jm_lt, jm_le, jn_lt_m, jn_le_m, jn_add, jn_mul, jn_clamp, jo_some, jn_min, jn_max, ↓jlm, jl0, jl1, jl2, jl3, jl4, jl5, jl6, jl7, jl8, jl9, jl10, jl11, jl12, jl13, jl14, jl15, jl16, jl20, jl24, jl32, jl39, jl40, jl41, jl60, jl61, jl80, jl96, jl97, jl99, jl100, jl122, jl126, jl199, jl200, jl205, jl206, jl255, jl256, jl410, jl700, jl950, jl1000, jl1000000, jl4000, jl8240, jl32767, if_pos, if_neg, ↓reduceIte, Option.bind_some, not_true_eq_false, not_false_eq_true, Nat.not_lt, Nat.not_le]
      · dsimp only
        by_cases q : s = i
        · subst q; rw [up_eq]
        · rw [up_ni q]; exact h2 s (by omega)
    · rintro ⟨x, I1⟩ ⟨hv, ha, h2⟩
      simp only at hv ha h2
      subst hv
      refine ⟨I1, ?_, ha, fun n s hn hs => ?_⟩
      · simp (disch := omega) only [zP_priceRows_l2_b, ir_let, jn_lt, jn_le, jn_in, jn_inj, jn_ne_m, jm_ne_n, jm_eq_m, jm_lt, jm_le, jn_lt_m, jn_le_m, jn_add, jn_mul, jn_clamp, jo_some, jn_min, jn_max, ↓jlm, jl0, jl1, jl2, jl3, jl4, jl5, jl6, jl7, jl8, jl9, jl10, jl11, jl12, jl13, jl14, jl15, jl16, jl20, jl24, jl32, jl39, jl40, jl41, jl60, jl61, jl80, jl96, jl97, jl99, jl100, jl122, jl126, jl199, jl200, jl205, jl206, jl255, jl256, jl410, jl700, jl950, jl1000, jl1000000, jl4000, jl8240, jl32767, if_pos, if_neg, ↓reduceIte, Option.bind_some, not_true_eq_false, not_false_eq_true, Nat.not_lt, Nat.not_le]
      · have : n = 0 := by omega
        subst this
        rw [Nat.zero_mul, Nat.zero_add]
        exact h2 s (by omega)
  obtain ⟨I2, e2, a2, h2⟩ : ∃ I', zP_priceRows_l23 ir_F (jn 1, I1) = some I' ∧ jag I1 I' ∧ jT66 I' m 41 := by
    refine js_inv (fun i v => v.1 = jn (i + 1) ∧ jag I1 v.2 ∧ jT66 v.2 m (i + 1)) 40 _ ?_ ?_ 40 0 (jn 1, I1) ir_F (by omega) ⟨rfl, jag_rf I1, h1⟩ (by unfold ir_F; omega)
    · rintro i ⟨x, I2⟩ hi ⟨hv, ha, h2⟩
      simp only at hv ha h2
      subst hv
      obtain ⟨I3, e3, a3, h3⟩ : ∃ I', zP_priceRows_l31 (jn (i + 1)) ir_F (jn 0, I2) = some I' ∧ jag I2 I' ∧ jT66 I' m (i + 2) := by
        refine js_inv (fun s v => v.1 = jn s ∧ jag I2 v.2 ∧ jT66 v.2 m (i + 1) ∧ ∀ s', s' < s → v.2 66 ((i + 1) * 10 + s') = jn (cL m (i + 1) s')) (mS m) _ ?_ ?_ (mS m) 0 (jn 0, I2) ir_F (by omega) ⟨rfl, jag_rf I2, h2, fun s h => by omega⟩ (by unfold ir_F; omega)
        · rintro s ⟨x, I3⟩ hs ⟨hv, hb, h3, h4⟩
          simp only at hv hb h3 h4
          subst hv
          have hU3 := jRU_ag hU (jag_tr a1 (jag_tr ha hb))
          refine ⟨(jn (s + 1), iq_upI I3 66 ((i + 1) * 10 + s) (jn (cL m (i + 1) s))), ?_, rfl, jag_up hb rfl, fun n s' hn hs' => ?_, fun s' h => ?_⟩
          · simp (disch := omega) only [zP_priceRows_l31_b, jRU_S hU3, jc_cheap hm hU3 h3 (show i < i + 1 by omega) hi hs, ir_let, jn_lt, jn_le, jn_in, jn_inj, jn_ne_m, jm_ne_n, jm_eq_m, jm_lt, jm_le, jn_lt_m, jn_le_m, jn_add, jn_mul, jn_clamp, jo_some, jn_min, jn_max, ↓jlm, jl0, jl1, jl2, jl3, jl4, jl5, jl6, jl7, jl8, jl9, jl10, jl11, jl12, jl13, jl14, jl15, jl16, jl20, jl24, jl32, jl39, jl40, jl41, jl60, jl61, jl80, jl96, jl97, jl99, jl100, jl122, jl126, jl199, jl200, jl205, jl206, jl255, jl256, jl410, jl700, jl950, jl1000, jl1000000, jl4000, jl8240, jl32767, if_pos, if_neg, ↓reduceIte, Option.bind_some, not_true_eq_false, not_false_eq_true, Nat.not_lt, Nat.not_le]
          · dsimp only; rw [up_ni (by omega)]; exact h3 n s' hn hs'
          · dsimp only
            by_cases q : s' = s
            · subst q; rw [up_eq]
            · rw [up_ni (by omega)]; exact h4 s' (by omega)
        · rintro ⟨x, I3⟩ ⟨hv, hb, h3, h4⟩
          simp only at hv hb h3 h4
          subst hv
          have hU3 := jRU_ag hU (jag_tr a1 (jag_tr ha hb))
          refine ⟨I3, ?_, hb, fun n s hn hs => ?_⟩
          · simp (disch := omega) only [zP_priceRows_l31_b, jRU_S hU3, ir_let, jn_lt, jn_le, jn_in, jn_inj, jn_ne_m, jm_ne_n, jm_eq_m, jm_lt, jm_le, jn_lt_m, jn_le_m, jn_add, jn_mul, jn_clamp, jo_some, jn_min, jn_max, ↓jlm, jl0, jl1, jl2, jl3, jl4, jl5, jl6, jl7, jl8, jl9, jl10, jl11, jl12, jl13, jl14, jl15, jl16, jl20, jl24, jl32, jl39, jl40, jl41, jl60, jl61, jl80, jl96, jl97, jl99, jl100, jl122, jl126, jl199, jl200, jl205, jl206, jl255, jl256, jl410, jl700, jl950, jl1000, jl1000000, jl4000, jl8240, jl32767, if_pos, if_neg, ↓reduceIte, Option.bind_some, not_true_eq_false, not_false_eq_true, Nat.not_lt, Nat.not_le]
          · by_cases q : n = i + 1
            · subst q; exact h4 s hs
            · exact h3 n s (by omega) hs
      refine ⟨(jn (i + 1 + 1), I3), ?_, rfl, jag_tr ha a3, h3⟩
      simp (disch := omega) only [zP_priceRows_l23_b, ir_let, jn_lt, jn_le, jn_in, jn_inj, jn_ne_m, jm_ne_n, jm_eq_m, jm_lt, jm_le, jn_lt_m, jn_le_m, jn_add, jn_mul, jn_clamp, jo_some, jn_min, jn_max, ↓jlm, jl0, jl1, jl2, jl3, jl4, jl5, jl6, jl7, jl8, jl9, jl10, jl11, jl12, jl13, jl14, jl15, jl16, jl20, jl24, jl32, jl39, jl40, jl41, jl60, jl61, jl80, jl96, jl97, jl99, jl100, jl122, jl126, jl199, jl200, jl205, jl206, jl255, jl256, jl410, jl700, jl950, jl1000, jl1000000, jl4000, jl8240, jl32767, if_pos, if_neg, ↓reduceIte, Option.bind_some, not_true_eq_false, not_false_eq_true, Nat.not_lt, Nat.not_le, e3]
    · rintro ⟨x, I2⟩ ⟨hv, ha, h2⟩
      simp only at hv ha h2
      subst hv
      refine ⟨I2, ?_, ha, h2⟩
      simp (disch := omega) only [zP_priceRows_l23_b, ir_let, jn_lt, jn_le, jn_in, jn_inj, jn_ne_m, jm_ne_n, jm_eq_m, jm_lt, jm_le, jn_lt_m, jn_le_m, jn_add, jn_mul, jn_clamp, jo_some, jn_min, jn_max, ↓jlm, jl0, jl1, jl2, jl3, jl4, jl5, jl6, jl7, jl8, jl9, jl10, jl11, jl12, jl13, jl14, jl15, jl16, jl20, jl24, jl32, jl39, jl40, jl41, jl60, jl61, jl80, jl96, jl97, jl99, jl100, jl122, jl126, jl199, jl200, jl205, jl206, jl255, jl256, jl410, jl700, jl950, jl1000, jl1000000, jl4000, jl8240, jl32767, if_pos, if_neg, ↓reduceIte, Option.bind_some, not_true_eq_false, not_false_eq_true, Nat.not_lt, Nat.not_le]
  refine ⟨I2, ?_, jag_tr a1 a2, h2⟩
  simp only [jn0] at e1
  simp only [jn1] at e2
  simp only [zP_priceRows, e1, e2, ir_let, iq_sm, ir_sm, jzE, j10, Option.bind_some, ↓reduceIte, not_true_eq_false, not_false_eq_true]
/-- the most words for so much -/
def cMo (m : jMu) (s x : Nat) : Nat → Nat
  | 0 => 0
  | k + 1 => if cL m (k + 1) s ≤ x then k + 1 else cMo m s x k
theorem cMo_le (m : jMu) (s x : Nat) : ∀ k, cMo m s x k ≤ k
  | 0 => Nat.le_refl _
  | k + 1 => by have := cMo_le m s x k; unfold cMo; split <;> omega
theorem cMo_ok (m : jMu) (s x : Nat) : ∀ k, cL m (cMo m s x k) s ≤ x
  | 0 => Nat.zero_le _
  | k + 1 => by
    unfold cMo
    by_cases h : cL m (k + 1) s ≤ x
    · rw [if_pos h]; exact h
    · rw [if_neg h]; exact cMo_ok m s x k
theorem jc_longestFor {I : iq_I} {m : jMu} {s x : Nat} (hm : mOk m) (hU : jRU I m) (hT : jT66 I m 41) (hs : s < mS m) (hx : x ≤ 60) : zP_longestFor (jn s) (jn x) I = some (jn (cMo m s x 40)) := by
  have h10 := hm.1
  have key : ∀ k n, k ≤ 40 → k < n → zP_longestFor_l3 (jn s) (jn x) I n (jn k) = some (if cMo m s x k = 0 then .inl () else .inr (jn (cMo m s x k))) := by
    intro k
    induction k with
    | zero =>
      intro n _ hn
      obtain ⟨n, rfl⟩ : ∃ n', n = n' + 1 := ⟨n - 1, by omega⟩
      have e0 : cMo m s x 0 = 0 := rfl
      rw [if_pos e0]
      refine js_0 ?_
      simp (disch := omega) only [zP_longestFor_l3_b, jl0, jn_le, if_pos]
    | succ k ih =>
      intro n hk hn
      obtain ⟨n, rfl⟩ : ∃ n', n = n' + 1 := ⟨n - 1, by omega⟩
      have lc := jc_leastCost hm hU hT (n := k + 1) (by omega) hk (o := some s) (fun t ht => by cases ht; exact hs)
      have b := cL_le m (k + 1) s
      rw [jo_some] at lc
      by_cases h : cL m (k + 1) s ≤ x
      · have e : cMo m s x (k + 1) = k + 1 := if_pos h
        rw [e, if_neg (by omega)]
        refine js_0 ?_
        simp (disch := omega) only [zP_longestFor_l3_b, lc, ir_let, jn_lt, jn_le, jn_in, jn_inj, jn_ne_m, jm_ne_n, jm_eq_m, jm_lt, jm_le, jn_lt_m, jn_le_m, jn_add, jn_mul, jn_clamp, jo_some, jn_min, jn_max, ↓jlm, jl0, jl1, jl2, jl3, jl4, jl5, jl6, jl7, jl8, jl9, jl10, jl11, jl12, jl13, jl14, jl15, jl16, jl20, jl24, jl32, jl39, jl40, jl41, jl60, jl61, jl80, jl96, jl97, jl99, jl100, jl122, jl126, jl199, jl200, jl205, jl206, jl255, jl256, jl410, jl700, jl950, jl1000, jl1000000, jl4000, jl8240, jl32767, if_pos, if_neg, ↓reduceIte, Option.bind_some, not_true_eq_false, not_false_eq_true, Nat.not_lt, Nat.not_le, cO]
      · have e : cMo m s x (k + 1) = cMo m s x k := if_neg h
        rw [e]
        refine (js_1 (v' := jn k) ?_).trans (ih n (by omega) (by omega))
        simp (disch := omega) only [zP_longestFor_l3_b, lc, ir_let, jn_lt, jn_le, jn_in, jn_inj, jn_ne_m, jm_ne_n, jm_eq_m, jm_lt, jm_le, jn_lt_m, jn_le_m, jn_add, jn_mul, jn_clamp, jo_some, jn_min, jn_max, ↓jlm, jl0, jl1, jl2, jl3, jl4, jl5, jl6, jl7, jl8, jl9, jl10, jl11, jl12, jl13, jl14, jl15, jl16, jl20, jl24, jl32, jl39, jl40, jl41, jl60, jl61, jl80, jl96, jl97, jl99, jl100, jl122, jl126, jl199, jl200, jl205, jl206, jl255, jl256, jl410, jl700, jl950, jl1000, jl1000000, jl4000, jl8240, jl32767, if_pos, if_neg, ↓reduceIte, Option.bind_some, not_true_eq_false, not_false_eq_true, Nat.not_lt, Nat.not_le, cO, jn_pred, Nat.add_sub_cancel]
  have k40 := key 40 ir_F (by omega) (by unfold ir_F; omega)
  have k40' : zP_longestFor_l3 (jn s) (jn x) I ir_F (40 : Int32) = some (if cMo m s x 40 = 0 then .inl () else .inr (jn (cMo m s x 40))) := k40
  simp only [zP_longestFor, k40', Option.bind_some]
  by_cases h : cMo m s x 40 = 0
  · rw [if_pos h, h]; rfl
  · rw [if_neg h]; rfl
def cPk (m : jMu) (n s x : Nat) : Option Nat := gFst (fun w => decide (cFw m n s w ≤ x)) (mW m) 0
theorem cPk_ok {m : jMu} (hm : mOk m) {n s x : Nat} (hx : x ≤ 60) (h : cL m (n + 1) s ≤ x) : ∃ w t, cPk m n s x = some w ∧ w < mW m ∧ mLd m s w = some t ∧ cFw m n s w ≤ x ∧ cL m n t ≤ x - mP m (mK m w) ∧ mP m (mK m w) ≤ x ∧ ∀ j, j < w → ¬ cFw m n s j ≤ x := by
  rw [cL_w hm, cMn_iff] at h
  rcases h with h | ⟨w0, hw0, hf0⟩
  · omega
  · unfold cPk
    rcases gFst_sp (P := fun w => decide (cFw m n s w ≤ x)) (c := mW m) (i := 0) with ⟨h1, h2⟩ | ⟨e, h1, _, h3, h4, h5⟩
    · have := of_decide_eq_false (h2 w0 (by omega) (by omega))
      omega
    · have h4 := of_decide_eq_true h4
      have h6 := h4
      unfold cFw at h6
      cases h7 : mLd m s e with
      | none => rw [h7] at h6; simp only [cO] at h6; omega
      | some t =>
        rw [h7] at h6
        simp only [cO] at h6
        exact ⟨e, t, h1, by omega, h7, h4, by omega, by omega, fun j hj => of_decide_eq_false (h5 j (by omega) hj)⟩
theorem jc_firstFor {I : iq_I} {m : jMu} {n s x : Nat} (hm : mOk m) (hU : jRU I m) (hT : jT66 I m 41) (hn : n < 40) (hs : s < mS m) (hx : x ≤ 60) (h : cL m (n + 1) s ≤ x) : zP_firstFor (jn s) (jn x) (jn (n + 1)) I = some (jo (cPk m n s x)) := by
  have h14 := hm.2.1
  obtain ⟨w, t, p1, p2, p3, p4, p5, p6, p7⟩ := cPk_ok hm hx h
  rw [p1]
  have body : ∀ k, k < mW m → zP_firstFor_l3_b (jn s) (jn x) (jn (n + 1)) I (jn k) = some (if cFw m n s k ≤ x then .inr (.inr (jn k)) else .inl (jn (k + 1))) := fun k hk => by
    have hk8 := (hm.2.2.1 k hk).2.2
    have b3 := hm.2.2.2.2.1 _ hk8
    have b2 := cO_le m n (mLd m s k)
    have lc := jc_leastCost hm hU hT (n := n) (by omega) (by omega) (o := mLd m s k) (fun t ht => mLd_lt hm hs hk ht)
    have e : cFw m n s k = mP m (mK m k) + cO (cL m n) (mLd m s k) := rfl
    by_cases q : mP m (mK m k) + cO (cL m n) (mLd m s k) ≤ x
    · rw [e, if_pos q]
      simp (disch := omega) only [zP_firstFor_l3_b, jRU_W hU, jc_kindOf hm hU hk, jc_priceOf hm hU hk8, jc_leadsTo hm hU hs hk, ir_let, jn_lt, jn_le, jn_in, jn_inj, jn_ne_m, jm_ne_n, jm_eq_m, jm_lt, jm_le, jn_lt_m, jn_le_m, jn_add, jn_mul, jn_clamp, jo_some, jn_min, jn_max, ↓jlm, jl0, jl1, jl2, jl3, jl4, jl5, jl6, jl7, jl8, jl9, jl10, jl11, jl12, jl13, jl14, jl15, jl16, jl20, jl24, jl32, jl39, jl40, jl41, jl60, jl61, jl80, jl96, jl97, jl99, jl100, jl122, jl126, jl199, jl200, jl205, jl206, jl255, jl256, jl410, jl700, jl950, jl1000, jl1000000, jl4000, jl8240, jl32767, if_pos, if_neg, ↓reduceIte, Option.bind_some, not_true_eq_false, not_false_eq_true, Nat.not_lt, Nat.not_le, jn_sub, Nat.add_sub_cancel, lc]
    · rw [e, if_neg q]
      simp (disch := omega) only [zP_firstFor_l3_b, jRU_W hU, jc_kindOf hm hU hk, jc_priceOf hm hU hk8, jc_leadsTo hm hU hs hk, ir_let, jn_lt, jn_le, jn_in, jn_inj, jn_ne_m, jm_ne_n, jm_eq_m, jm_lt, jm_le, jn_lt_m, jn_le_m, jn_add, jn_mul, jn_clamp, jo_some, jn_min, jn_max, ↓jlm, jl0, jl1, jl2, jl3, jl4, jl5, jl6, jl7, jl8, jl9, jl10, jl11, jl12, jl13, jl14, jl15, jl16, jl20, jl24, jl32, jl39, jl40, jl41, jl60, jl61, jl80, jl96, jl97, jl99, jl100, jl122, jl126, jl199, jl200, jl205, jl206, jl255, jl256, jl410, jl700, jl950, jl1000, jl1000000, jl4000, jl8240, jl32767, if_pos, if_neg, ↓reduceIte, Option.bind_some, not_true_eq_false, not_false_eq_true, Nat.not_lt, Nat.not_le, jn_sub, Nat.add_sub_cancel, lc]
  have key : zP_firstFor_l3 (jn s) (jn x) (jn (n + 1)) I ir_F (jn 0) = some (.inr (jn w)) := by
    refine js_seq (fun k => jn k) w _ (fun k hk => ?_) ?_ w 0 ir_F (by omega) (by unfold ir_F; omega)
    · have := body k (by omega)
      rw [if_neg (p7 k hk)] at this
      exact this
    · have := body w p2
      rw [if_pos p4] at this
      exact this
  simp only [jn0] at key
  simp only [zP_firstFor, key, ir_let, iq_sm, ir_sm, jzE, j10, Option.bind_some, ↓reduceIte, not_true_eq_false, not_false_eq_true, jo_some]
