/-! ===== acts: the reference's rows, what both keep ===== -/
theorem jRR_cg2 {m : jMu} {r r' : Nat → Int32} {g : jGa} (hg : gOk m g) (h : jRR r g) (e : ∀ j, j < 206 → r' j = r j) : jRR r' g := by
  have h5 := hg.1
  refine ⟨by rw [e 5 (by omega), h.1], fun s hs => by rw [e s (by omega), h.2.1 s hs], fun s i hs hi => ?_⟩
  have h40 := hg.2.2.1 s hs
  rw [e _ (by omega), h.2.2 s i hs hi]
theorem jm_putsL {I : iq_I} {a b L : Nat} {x4 : Int32} (ha : a < 5) (hb : b ≤ L) (h4 : L < 40) :
    ∃ I', zM_puts0_76_98_l5 (jn a) (jn b) x4 ir_F (jn L, I) = some I' ∧ (∀ k j, ¬ k = 98 → I' k j = I k j) ∧ (∀ j, j < 6 + 40 * a + b + 1 ∨ 6 + 40 * a + L < j → I' 98 j = I 98 j) ∧ (∀ j, b < j → j ≤ L → I' 98 (6 + 40 * a + j) = I 98 (6 + 40 * a + (j - 1))) := by
  refine js_inv (fun t v => v.1 = jn (L - t) ∧ (∀ k j, ¬ k = 98 → v.2 k j = I k j) ∧ (∀ j, j < 6 + 40 * a + (L - t) + 1 ∨ 6 + 40 * a + L < j → v.2 98 j = I 98 j) ∧ (∀ j, L - t < j → j ≤ L → v.2 98 (6 + 40 * a + j) = I 98 (6 + 40 * a + (j - 1)))) (L - b) _ ?_ ?_ (L - b) 0 (jn L, I) ir_F (by omega) ⟨rfl, fun _ _ _ => rfl, fun _ _ => rfl, fun j h1 h2 => by omega⟩ (by unfold ir_F; omega)
  · rintro t ⟨x, K⟩ ht ⟨h1, h2, h3, h5⟩
    simp only at h1 h2 h3 h5
    subst h1
    refine ⟨(jn (L - (t + 1)), iq_upI K 98 (6 + 40 * a + (L - t)) (K 98 (6 + 40 * a + (L - t) - 1))), ?_, rfl, fun k j hk => ?_, fun j hj => ?_, fun j q1 q2 => ?_⟩
    · dsimp only
      simp (disch := omega) only [zM_puts0_76_98_l5_b, jn_sub, jn_pred, ir_let, jn_lt, jn_le, jn_in, jn_inj, jn_ne_m, jm_ne_n, jm_eq_m, jm_lt, jm_le, jn_lt_m, jn_le_m, jn_add, jn_mul, jn_clamp, jo_some, jn_min, jn_max, ↓jlm, jl0, jl1, jl2, jl3, jl4, jl5, jl6, jl7, jl8, jl9, jl10, jl11, jl12, jl13, jl14, jl15, jl16, jl20, jl24, jl32, jl39, jl40, jl41, jl60, jl61, jl80, jl96, jl97, jl99, jl100, jl122, jl126, jl199, jl200, jl205, jl206, jl255, jl256, jl410, jl700, jl950, jl1000, jl1000000, jl4000, jl8240, jl32767, if_pos, if_neg, ↓reduceIte, Option.bind_some, not_true_eq_false, not_false_eq_true, Nat.not_lt, Nat.not_le]
      rw [show L - t - 1 = L - (t + 1) by omega]
    · show iq_upI K 98 _ _ k j = _
      rw [up_nk hk, h2 k j hk]
    · show iq_upI K 98 _ _ 98 j = _
      rw [up_ni (by omega), h3 j (by omega)]
    · show iq_upI K 98 _ _ 98 _ = _
      by_cases e : j = L - t
      · subst e
        rw [up_eq, h3 _ (by omega), show 6 + 40 * a + (L - t) - 1 = 6 + 40 * a + (L - t - 1) by omega]
      · rw [up_ni (by omega), h5 j (by omega) q2]
  · rintro ⟨x, K⟩ ⟨h1, h2, h3, h5⟩
    simp only at h1 h2 h3 h5
    subst h1
    refine ⟨K, ?_, h2, fun j hj => h3 j (by omega), fun j q1 q2 => h5 j (by omega) q2⟩
    dsimp only
    simp (disch := omega) only [zM_puts0_76_98_l5_b, ir_let, jn_lt, jn_le, jn_in, jn_inj, jn_ne_m, jm_ne_n, jm_eq_m, jm_lt, jm_le, jn_lt_m, jn_le_m, jn_add, jn_mul, jn_clamp, jo_some, jn_min, jn_max, ↓jlm, jl0, jl1, jl2, jl3, jl4, jl5, jl6, jl7, jl8, jl9, jl10, jl11, jl12, jl13, jl14, jl15, jl16, jl20, jl24, jl32, jl39, jl40, jl41, jl60, jl61, jl80, jl96, jl97, jl99, jl100, jl122, jl126, jl199, jl200, jl205, jl206, jl255, jl256, jl410, jl700, jl950, jl1000, jl1000000, jl4000, jl8240, jl32767, if_pos, if_neg, ↓reduceIte, Option.bind_some, not_true_eq_false, not_false_eq_true, Nat.not_lt, Nat.not_le]
theorem jm_puts0 {I : iq_I} {m : jMu} {g : jGa} (hg : gOk m g) (hR : jRR (I 98) g) {a b c : Nat} (ha : a < gY g) (hb : b ≤ (gS g a).length) (h4 : (gS g a).length < 40) :
    ∃ I', zM_puts0_76_98 (jn a) (jn b) (jn c) I = some I' ∧ (∀ k j, ¬ k = 98 → I' k j = I k j) ∧ jRR (I' 98) (gRp g a ((gS g a).insertIdx b c)) := by
  have h5 := hg.1
  obtain ⟨K, e, k1, k2, k3⟩ := jm_putsL (I := I) (x4 := jn c) (show a < 5 by omega) hb h4
  refine ⟨iq_upI (iq_upI K 98 (6 + 40 * a + b) (jn c)) 98 a (jn ((gS g a).length + 1)), ?_, fun k j hk => by rw [up_nk hk, up_nk hk, k1 k j hk], ?_, fun s hs => ?_, fun s i hs hi => ?_⟩
  · simp (disch := omega) only [zM_puts0_76_98, jRR_L hR, ir_let, jn_lt, jn_le, jn_in, jn_inj, jn_ne_m, jm_ne_n, jm_eq_m, jm_lt, jm_le, jn_lt_m, jn_le_m, jn_add, jn_mul, jn_clamp, jo_some, jn_min, jn_max, ↓jlm, jl0, jl1, jl2, jl3, jl4, jl5, jl6, jl7, jl8, jl9, jl10, jl11, jl12, jl13, jl14, jl15, jl16, jl20, jl24, jl32, jl39, jl40, jl41, jl60, jl61, jl80, jl96, jl97, jl99, jl100, jl122, jl126, jl199, jl200, jl205, jl206, jl255, jl256, jl410, jl700, jl950, jl1000, jl1000000, jl4000, jl8240, jl32767, if_pos, if_neg, ↓reduceIte, Option.bind_some, not_true_eq_false, not_false_eq_true, Nat.not_lt, Nat.not_le]
    rw [e, Option.bind_some]
    simp (disch := omega) only [up_nix a (6 + 40 * a + b) (by omega), k2, jRR_L hR, ir_let, jn_lt, jn_le, jn_in, jn_inj, jn_ne_m, jm_ne_n, jm_eq_m, jm_lt, jm_le, jn_lt_m, jn_le_m, jn_add, jn_mul, jn_clamp, jo_some, jn_min, jn_max, ↓jlm, jl0, jl1, jl2, jl3, jl4, jl5, jl6, jl7, jl8, jl9, jl10, jl11, jl12, jl13, jl14, jl15, jl16, jl20, jl24, jl32, jl39, jl40, jl41, jl60, jl61, jl80, jl96, jl97, jl99, jl100, jl122, jl126, jl199, jl200, jl205, jl206, jl255, jl256, jl410, jl700, jl950, jl1000, jl1000000, jl4000, jl8240, jl32767, if_pos, if_neg, ↓reduceIte, Option.bind_some, not_true_eq_false, not_false_eq_true, Nat.not_lt, Nat.not_le]
  · rw [up_ni (by omega), up_ni (by omega), k2 5 (by omega), jRR_D hR]; rfl
  · have hs' : s < gY g := hs
    by_cases q : s = a
    · subst q; rw [up_eq, gRp_S, jl_insl hb]
    · rw [up_ni q, up_ni (by omega), k2 s (by omega), gRp_T q, jRR_L hR s hs]
  · have hs' : s < gY g := hs
    rw [up_ni (by omega)]
    by_cases q : s = a
    · subst q
      rw [gRp_S, jl_insl hb] at hi
      rw [gRp_S, jl_ins hb]
      by_cases q1 : i < b
      · rw [if_pos q1, up_ni (by omega), k2 _ (by omega), jRR_W hR s i hs' (by omega)]
      · rw [if_neg q1]
        by_cases q2 : i = b
        · subst q2; rw [if_pos rfl, up_eq]
        · rw [if_neg q2, up_ni (by omega), k3 i (by omega) (by omega), jRR_W hR s (i - 1) hs' (by omega)]
    · rw [gRp_T q] at hi ⊢
      have h40 := hg.2.2.1 s hs'
      rw [up_ni (by omega), k2 _ (by omega), jRR_W hR s i hs' hi]
theorem jm_takeL {I : iq_I} {a b L : Nat} {x3 : Int32} (ha : a < 5) (hb : b < L) (h4 : L ≤ 40) (hL : I 98 a = jn (L - 1)) :
    ∃ I', zM_take_l63 (jn a) x3 ir_F (jn b, I) = some I' ∧ (∀ k j, ¬ k = 98 → I' k j = I k j) ∧ (∀ j, j < 6 + 40 * a + b ∨ 6 + 40 * a + (L - 1) ≤ j → I' 98 j = I 98 j) ∧ (∀ j, b ≤ j → j < L - 1 → I' 98 (6 + 40 * a + j) = I 98 (6 + 40 * a + (j + 1))) := by
  refine js_inv (fun t v => v.1 = jn (b + t) ∧ (∀ k j, ¬ k = 98 → v.2 k j = I k j) ∧ (∀ j, j < 6 + 40 * a + b ∨ 6 + 40 * a + (b + t) ≤ j → v.2 98 j = I 98 j) ∧ (∀ j, b ≤ j → j < b + t → v.2 98 (6 + 40 * a + j) = I 98 (6 + 40 * a + (j + 1)))) (L - 1 - b) _ ?_ ?_ (L - 1 - b) 0 (jn b, I) ir_F (by omega) ⟨rfl, fun _ _ _ => rfl, fun _ _ => rfl, fun j h1 h2 => by omega⟩ (by unfold ir_F; omega)
  · rintro t ⟨x, K⟩ ht ⟨h1, h2, h3, h5⟩
    simp only at h1 h2 h3 h5
    subst h1
    have kL : K 98 a = jn (L - 1) := by rw [h3 a (by omega), hL]
    refine ⟨(jn (b + (t + 1)), iq_upI K 98 (6 + 40 * a + (b + t)) (K 98 (6 + 40 * a + (b + t) + 1))), ?_, rfl, fun k j hk => ?_, fun j hj => ?_, fun j q1 q2 => ?_⟩
    · dsimp only
      simp (disch := omega) only [zM_take_l63_b, kL, ir_let, jn_lt, jn_le, jn_in, jn_inj, jn_ne_m, jm_ne_n, jm_eq_m, jm_lt, jm_le, jn_lt_m, jn_le_m, jn_add, jn_mul, jn_clamp, jo_some, jn_min, jn_max, ↓jlm, jl0, jl1, jl2, jl3, jl4, jl5, jl6, jl7, jl8, jl9, jl10, jl11, jl12, jl13, jl14, jl15, jl16, jl20, jl24, jl32, jl39, jl40, jl41, jl60, jl61, jl80, jl96, jl97, jl99, jl100, jl122, jl126, jl199, jl200, jl205, jl206, jl255, jl256, jl410, jl700, jl950, jl1000, jl1000000, jl4000, jl8240, jl32767, if_pos, if_neg, ↓reduceIte, Option.bind_some, not_true_eq_false, not_false_eq_true, Nat.not_lt, Nat.not_le]
      rw [show b + t + 1 = b + (t + 1) by omega]
    · show iq_upI K 98 _ _ k j = _
      rw [up_nk hk, h2 k j hk]
    · show iq_upI K 98 _ _ 98 j = _
      rw [up_ni (by omega), h3 j (by omega)]
    · show iq_upI K 98 _ _ 98 _ = _
      by_cases e : j = b + t
      · subst e
        rw [up_eq, h3 _ (by omega), show 6 + 40 * a + (b + t) + 1 = 6 + 40 * a + (b + t + 1) by omega]
      · rw [up_ni (by omega), h5 j q1 (by omega)]
  · rintro ⟨x, K⟩ ⟨h1, h2, h3, h5⟩
    simp only at h1 h2 h3 h5
    subst h1
    have kL : K 98 a = jn (L - 1) := by rw [h3 a (by omega), hL]
    refine ⟨K, ?_, h2, fun j hj => h3 j (by omega), fun j q1 q2 => h5 j q1 (by omega)⟩
    dsimp only
    simp (disch := omega) only [zM_take_l63_b, kL, ir_let, jn_lt, jn_le, jn_in, jn_inj, jn_ne_m, jm_ne_n, jm_eq_m, jm_lt, jm_le, jn_lt_m, jn_le_m, jn_add, jn_mul, jn_clamp, jo_some, jn_min, jn_max, ↓jlm, jl0, jl1, jl2, jl3, jl4, jl5, jl6, jl7, jl8, jl9, jl10, jl11, jl12, jl13, jl14, jl15, jl16, jl20, jl24, jl32, jl39, jl40, jl41, jl60, jl61, jl80, jl96, jl97, jl99, jl100, jl122, jl126, jl199, jl200, jl205, jl206, jl255, jl256, jl410, jl700, jl950, jl1000, jl1000000, jl4000, jl8240, jl32767, if_pos, if_neg, ↓reduceIte, Option.bind_some, not_true_eq_false, not_false_eq_true, Nat.not_lt, Nat.not_le]
/-- what is left of the acts when one more is kept: at most 39 -/
def jb39 (a : Nat) : Nat := if a < 40 then a else 39
theorem jm_keeps52 {I : iq_I} {a : Nat} (ha : a ≤ 39) (hI : I 76 54 = jn a) :
    ∃ I', zM_keeps_52 I = some I' ∧ (∀ k j, ¬ k = 100 → ¬ (k = 76 ∧ j = 54) → I' k j = I k j) ∧ I' 76 54 = jn (a + 1) ∧ (∀ j, j < 206 * a → I' 100 j = I 100 j) ∧ (∀ j, j < 206 → I' 100 (206 * a + j) = I 98 j) := by
  obtain ⟨K, e, k1, k2, k3⟩ : ∃ K, zM_keeps_l54 ir_F ((0 : Int32), I) = some K ∧ (∀ k j, ¬ k = 100 → K k j = I k j) ∧ (∀ j, j < 206 * a → K 100 j = I 100 j) ∧ (∀ j, j < 206 → K 100 (206 * a + j) = I 98 j) := by
    refine js_inv (fun t v => v.1 = jn t ∧ (∀ k j, ¬ k = 100 → v.2 k j = I k j) ∧ (∀ j, j < 206 * a → v.2 100 j = I 100 j) ∧ (∀ j, j < t → v.2 100 (206 * a + j) = I 98 j)) 206 _ ?_ ?_ 206 0 ((0 : Int32), I) ir_F (by omega) ⟨rfl, fun _ _ _ => rfl, fun _ _ => rfl, fun j h1 => by omega⟩ (by unfold ir_F; omega)
    · rintro t ⟨x, K⟩ ht ⟨h1, h2, h3, h5⟩
      simp only at h1 h2 h3 h5
      subst h1
      have kA : K 76 54 = jn a := by rw [h2 76 54 (by decide), hI]
      refine ⟨(jn (t + 1), iq_upI K 100 (206 * a + t) (K 98 t)), ?_, rfl, fun k j hk => ?_, fun j hj => ?_, fun j q1 => ?_⟩
      · dsimp only
        simp (disch := omega) only [zM_keeps_l54_b, kA, ir_let, jn_lt, jn_le, jn_in, jn_inj, jn_ne_m, jm_ne_n, jm_eq_m, jm_lt, jm_le, jn_lt_m, jn_le_m, jn_add, jn_mul, jn_clamp, jo_some, jn_min, jn_max, ↓jlm, jl0, jl1, jl2, jl3, jl4, jl5, jl6, jl7, jl8, jl9, jl10, jl11, jl12, jl13, jl14, jl15, jl16, jl20, jl24, jl32, jl39, jl40, jl41, jl60, jl61, jl80, jl96, jl97, jl99, jl100, jl122, jl126, jl199, jl200, jl205, jl206, jl255, jl256, jl410, jl700, jl950, jl1000, jl1000000, jl4000, jl8240, jl32767, if_pos, if_neg, ↓reduceIte, Option.bind_some, not_true_eq_false, not_false_eq_true, Nat.not_lt, Nat.not_le]
      · show iq_upI K 100 _ _ k j = _
        rw [up_nk hk, h2 k j hk]
      · show iq_upI K 100 _ _ 100 j = _
        rw [up_ni (by omega), h3 j hj]
      · show iq_upI K 100 _ _ 100 _ = _
        by_cases e : j = t
        · subst e; rw [up_eq, h2 98 _ (by decide)]
        · rw [up_ni (by omega), h5 j (by omega)]
    · rintro ⟨x, K⟩ ⟨h1, h2, h3, h5⟩
      simp only at h1 h2 h3 h5
      subst h1
      refine ⟨K, ?_, h2, h3, h5⟩
      dsimp only
      simp (disch := omega) only [zM_keeps_l54_b, ir_let, jn_lt, jn_le, jn_in, jn_inj, jn_ne_m, jm_ne_n, jm_eq_m, jm_lt, jm_le, jn_lt_m, jn_le_m, jn_add, jn_mul, jn_clamp, jo_some, jn_min, jn_max, ↓jlm, jl0, jl1, jl2, jl3, jl4, jl5, jl6, jl7, jl8, jl9, jl10, jl11, jl12, jl13, jl14, jl15, jl16, jl20, jl24, jl32, jl39, jl40, jl41, jl60, jl61, jl80, jl96, jl97, jl99, jl100, jl122, jl126, jl199, jl200, jl205, jl206, jl255, jl256, jl410, jl700, jl950, jl1000, jl1000000, jl4000, jl8240, jl32767, if_pos, if_neg, ↓reduceIte, Option.bind_some, not_true_eq_false, not_false_eq_true, Nat.not_lt, Nat.not_le]
  refine ⟨iq_upI K 76 54 (jn (a + 1)), ?_, fun k j hk hj => ?_, up_eq, fun j hj => by rw [up_nk (by decide), k2 j hj], fun j hj => by rw [up_nk (by decide), k3 j hj]⟩
  · unfold zM_keeps_52
    rw [e, Option.bind_some, ir_let, k1 76 54 (by decide), hI, show (1 : Int32) = jn 1 from rfl, jn_add]
  · by_cases q : k = 76
    · subst q; rw [up_ni (fun h => hj ⟨rfl, h⟩), k1 _ _ hk]
    · rw [up_nk q, k1 k j hk]
theorem jm_keeps {I : iq_I} {a : Nat} (ha : a ≤ 40) (hI : I 76 54 = jn a) :
    ∃ I', zM_keeps I = some I' ∧ (∀ k j, ¬ k = 100 → ¬ (k = 76 ∧ j = 54) → I' k j = I k j) ∧ I' 76 54 = jn (jb39 a + 1) ∧ (∀ k j, k < jb39 a → j < 206 → I' 100 (206 * k + j) = I 100 (206 * (k + (a - jb39 a)) + j)) ∧ (∀ j, j < 206 → I' 100 (206 * jb39 a + j) = I 98 j) := by
  unfold zM_keeps
  by_cases h : a < 40
  · have eb : jb39 a = a := if_pos h
    obtain ⟨K, e, k1, k2, k3, k4⟩ := jm_keeps52 (I := I) (a := a) (by omega) hI
    rw [if_pos (by rw [hI, jl40, jn_inj (by omega) (by omega)]; omega), eb]
    refine ⟨K, e, k1, k2, fun k j hk hj => ?_, k4⟩
    rw [k3 _ (by omega), Nat.sub_self, Nat.add_zero]
  · have eb : jb39 a = 39 := if_neg h
    have ea : a = 40 := by omega
    subst ea
    rw [if_neg (by rw [hI]; exact fun h => h rfl), eb]
    obtain ⟨K, e, k1, k2⟩ : ∃ K, zM_keeps_l13 ir_F ((206 : Int32), I) = some K ∧ (∀ k j, ¬ k = 100 → K k j = I k j) ∧ (∀ j, j < 8034 → K 100 j = I 100 (206 + j)) := by
      refine js_inv (fun t v => v.1 = jn (206 + t) ∧ (∀ k j, ¬ k = 100 → v.2 k j = I k j) ∧ (∀ j, t ≤ j → v.2 100 j = I 100 j) ∧ (∀ j, j < t → v.2 100 j = I 100 (206 + j))) 8034 _ ?_ ?_ 8034 0 ((206 : Int32), I) ir_F (by omega) ⟨rfl, fun _ _ _ => rfl, fun _ _ => rfl, fun j h1 => by omega⟩ (by unfold ir_F; omega)
      · rintro t ⟨x, K⟩ ht ⟨h1, h2, h3, h5⟩
        simp only at h1 h2 h3 h5
        subst h1
        refine ⟨(jn (206 + (t + 1)), iq_upI K 100 t (K 100 (206 + t))), ?_, rfl, fun k j hk => ?_, fun j hj => ?_, fun j q1 => ?_⟩
        · dsimp only
          simp (disch := omega) only [zM_keeps_l13_b, jn_sub, ir_let, jn_lt, jn_le, jn_in, jn_inj, jn_ne_m, jm_ne_n, jm_eq_m, jm_lt, jm_le, jn_lt_m, jn_le_m, jn_add, jn_mul, jn_clamp, jo_some, jn_min, jn_max, ↓jlm, jl0, jl1, jl2, jl3, jl4, jl5, jl6, jl7, jl8, jl9, jl10, jl11, jl12, jl13, jl14, jl15, jl16, jl20, jl24, jl32, jl39, jl40, jl41, jl60, jl61, jl80, jl96, jl97, jl99, jl100, jl122, jl126, jl199, jl200, jl205, jl206, jl255, jl256, jl410, jl700, jl950, jl1000, jl1000000, jl4000, jl8240, jl32767, if_pos, if_neg, ↓reduceIte, Option.bind_some, not_true_eq_false, not_false_eq_true, Nat.not_lt, Nat.not_le]
          rw [show 206 + t - 206 = t by omega, show 206 + t + 1 = 206 + (t + 1) by omega]
        · show iq_upI K 100 _ _ k j = _
          rw [up_nk hk, h2 k j hk]
        · show iq_upI K 100 _ _ 100 j = _
          rw [up_ni (by omega), h3 j (by omega)]
        · show iq_upI K 100 _ _ 100 _ = _
          by_cases e : j = t
          · subst e; rw [up_eq, h3 _ (by omega)]
          · rw [up_ni (by omega), h5 j (by omega)]
      · rintro ⟨x, K⟩ ⟨h1, h2, h3, h5⟩
        simp only at h1 h2 h3 h5
        subst h1
        refine ⟨K, ?_, h2, h5⟩
        dsimp only
        simp (disch := omega) only [zM_keeps_l13_b, ir_let, jn_lt, jn_le, jn_in, jn_inj, jn_ne_m, jm_ne_n, jm_eq_m, jm_lt, jm_le, jn_lt_m, jn_le_m, jn_add, jn_mul, jn_clamp, jo_some, jn_min, jn_max, ↓jlm, jl0, jl1, jl2, jl3, jl4, jl5, jl6, jl7, jl8, jl9, jl10, jl11, jl12, jl13, jl14, jl15, jl16, jl20, jl24, jl32, jl39, jl40, jl41, jl60, jl61, jl80, jl96, jl97, jl99, jl100, jl122, jl126, jl199, jl200, jl205, jl206, jl255, jl256, jl410, jl700, jl950, jl1000, jl1000000, jl4000, jl8240, jl32767, if_pos, if_neg, ↓reduceIte, Option.bind_some, not_true_eq_false, not_false_eq_true, Nat.not_lt, Nat.not_le]
    rw [e, Option.bind_some, ir_let, k1 76 54 (by decide), hI, show jn 40 - (1 : Int32) = jn 39 from rfl]
    obtain ⟨K2, e2, q1, q2, q3, q4⟩ := jm_keeps52 (I := iq_upI K 76 54 (jn 39)) (a := 39) (by omega) up_eq
    refine ⟨K2, e2, fun k j hk hj => ?_, q2, fun k j hk hj => ?_, fun j hj => ?_⟩
    · rw [q1 k j hk hj]
      by_cases q : k = 76
      · subst q; rw [up_ni (fun h => hj ⟨rfl, h⟩), k1 _ _ hk]
      · rw [up_nk q, k1 k j hk]
    · rw [q3 _ (by omega), up_nk (by decide), k2 _ (by omega), show 206 + (206 * k + j) = 206 * (k + (40 - 39)) + j by omega]
    · rw [q4 j hj, up_nk (by decide), k1 98 j (by decide)]
def jKp (I : iq_I) (a : Nat) (d s p w : Int32) : iq_I := iq_upI (iq_upI (iq_upI (iq_upI (iq_upI I 20 a d) 21 a s) 22 a p) 23 a w) 19 0 (jn (a + 1))
theorem jc_keep13 {I : iq_I} {a : Nat} {d s p w : Int32} (ha : a ≤ 39) (hI : I 19 0 = jn a) : zA_keep_13 d s p w I = some (jKp I a d s p w) := by
  simp (disch := omega) only [zA_keep_13, up_nkx 19 20 (by decide), up_nkx 19 21 (by decide), up_nkx 19 22 (by decide), up_nkx 19 23 (by decide), hI, ir_let, jn_lt, jn_le, jn_in, jn_inj, jn_ne_m, jm_ne_n, jm_eq_m, jm_lt, jm_le, jn_lt_m, jn_le_m, jn_add, jn_mul, jn_clamp, jo_some, jn_min, jn_max, ↓jlm, jl0, jl1, jl2, jl3, jl4, jl5, jl6, jl7, jl8, jl9, jl10, jl11, jl12, jl13, jl14, jl15, jl16, jl20, jl24, jl32, jl39, jl40, jl41, jl60, jl61, jl80, jl96, jl97, jl99, jl100, jl122, jl126, jl199, jl200, jl205, jl206, jl255, jl256, jl410, jl700, jl950, jl1000, jl1000000, jl4000, jl8240, jl32767, if_pos, if_neg, ↓reduceIte, Option.bind_some, not_true_eq_false, not_false_eq_true, Nat.not_lt, Nat.not_le]
  rfl
theorem jKp_nk {I : iq_I} {a : Nat} {d s p w : Int32} {k j : Nat} (h : k < 19 ∨ 23 < k) : jKp I a d s p w k j = I k j := by
  unfold jKp
  rw [up_nk (by omega), up_nk (by omega), up_nk (by omega), up_nk (by omega), up_nk (by omega)]
theorem jKp_19 {I : iq_I} {a : Nat} {d s p w : Int32} : jKp I a d s p w 19 0 = jn (a + 1) := up_eq
theorem jKp_20 {I : iq_I} {a : Nat} {d s p w : Int32} : jKp I a d s p w 20 a = d := by
  unfold jKp
  rw [up_nk (by decide), up_nk (by decide), up_nk (by decide), up_nk (by decide), up_eq]
theorem jKp_21 {I : iq_I} {a : Nat} {d s p w : Int32} : jKp I a d s p w 21 a = s := by
  unfold jKp
  rw [up_nk (by decide), up_nk (by decide), up_nk (by decide), up_eq]
theorem jKp_22 {I : iq_I} {a : Nat} {d s p w : Int32} : jKp I a d s p w 22 a = p := by
  unfold jKp
  rw [up_nk (by decide), up_nk (by decide), up_eq]
theorem jKp_23 {I : iq_I} {a : Nat} {d s p w : Int32} : jKp I a d s p w 23 a = w := by
  unfold jKp
  rw [up_nk (by decide), up_eq]
theorem jKp_o {I : iq_I} {a : Nat} {d s p w : Int32} {k j : Nat} (hk : ¬ k = 19) (h : ¬ j = a) : jKp I a d s p w k j = I k j := by
  unfold jKp
  rw [up_nk hk]
  by_cases e : k = 23
  · subst e; rw [up_ni h, up_nk (by decide), up_nk (by decide), up_nk (by decide)]
  · rw [up_nk e]
    by_cases e : k = 22
    · subst e; rw [up_ni h, up_nk (by decide), up_nk (by decide)]
    · rw [up_nk e]
      by_cases e : k = 21
      · subst e; rw [up_ni h, up_nk (by decide)]
      · rw [up_nk e]
        by_cases e : k = 20
        · subst e; rw [up_ni h]
        · rw [up_nk e]
theorem jc_keep {I : iq_I} {a : Nat} {d s p w : Int32} (ha : a ≤ 40) (hI : I 19 0 = jn a) :
    ∃ I', zA_keep d s p w I = some I' ∧ (∀ k j, k < 19 ∨ 23 < k → I' k j = I k j) ∧ I' 19 0 = jn (jb39 a + 1) ∧ (∀ k j, 20 ≤ k → k ≤ 23 → j < jb39 a → I' k j = I k (j + (a - jb39 a))) ∧ I' 20 (jb39 a) = d ∧ I' 21 (jb39 a) = s ∧ I' 22 (jb39 a) = p ∧ I' 23 (jb39 a) = w := by
  unfold zA_keep
  by_cases h : a < 40
  · have eb : jb39 a = a := if_pos h
    rw [if_pos (by rw [hI, jl40, jn_lt (by omega) (by omega)]; exact h), eb, jc_keep13 (by omega) hI]
    exact ⟨_, rfl, fun k j hk => jKp_nk hk, jKp_19, fun k j h1 h2 h3 => by rw [jKp_o (by omega) (by omega), Nat.sub_self, Nat.add_zero], jKp_20, jKp_21, jKp_22, jKp_23⟩
  · have eb : jb39 a = 39 := if_neg h
    have ea : a = 40 := by omega
    subst ea
    have e : zA_forgetOldest I = some (iq_cpI (iq_cpI (iq_cpI (iq_cpI (iq_upI I 19 0 (39 : Int32)) 20 20 1 0 39) 21 21 1 0 39) 22 22 1 0 39) 23 23 1 0 39) := by
      unfold zA_forgetOldest
      rw [ir_let, if_pos (by rw [up_eq]; decide), up_eq, ir_let, if_pos (by rw [cp_nk (by decide), up_eq]; decide), cp_nk (by decide), up_eq, ir_let, if_pos (by rw [cp_nk (by decide), cp_nk (by decide), up_eq]; decide), cp_nk (by decide), cp_nk (by decide), up_eq, ir_let, if_pos (by rw [cp_nk (by decide), cp_nk (by decide), cp_nk (by decide), up_eq]; decide), cp_nk (by decide), cp_nk (by decide), cp_nk (by decide), up_eq, ir_let]
      rfl
    rw [if_neg (by rw [hI, jl40, jn_lt (by omega) (by omega)]; omega), eb, e, Option.bind_some, jc_keep13 (a := 39) (by omega) (by rw [cp_nk (by decide), cp_nk (by decide), cp_nk (by decide), cp_nk (by decide), up_eq]; rfl)]
    refine ⟨_, rfl, fun k j hk => ?_, jKp_19, fun k j h1 h2 h3 => ?_, jKp_20, jKp_21, jKp_22, jKp_23⟩
    · rw [jKp_nk hk, cp_nk (by omega), cp_nk (by omega), cp_nk (by omega), cp_nk (by omega), up_nk (by omega)]
    · rw [jKp_o (by omega) (by omega)]
      have q : k = 20 ∨ k = 21 ∨ k = 22 ∨ k = 23 := by omega
      rcases q with rfl | rfl | rfl | rfl
      · rw [cp_nk (by decide), cp_nk (by decide), cp_nk (by decide), cp_eq, pk_cpy_in (by omega) (by omega), up_nk (by decide), show 1 + (j - 0) = j + (40 - 39) by omega]
      · rw [cp_nk (by decide), cp_nk (by decide), cp_eq, pk_cpy_in (by omega) (by omega), cp_nk (by decide), up_nk (by decide), show 1 + (j - 0) = j + (40 - 39) by omega]
      · rw [cp_nk (by decide), cp_eq, pk_cpy_in (by omega) (by omega), cp_nk (by decide), cp_nk (by decide), up_nk (by decide), show 1 + (j - 0) = j + (40 - 39) by omega]
      · rw [cp_eq, pk_cpy_in (by omega) (by omega), cp_nk (by decide), cp_nk (by decide), cp_nk (by decide), up_nk (by decide), show 1 + (j - 0) = j + (40 - 39) by omega]
