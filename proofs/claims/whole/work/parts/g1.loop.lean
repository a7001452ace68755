/-! ===== the law's loop ===== -/
theorem jl_if {x4 : Int32} {X : iq_X} {c : Prop} [Decidable c] {a b : Option ((Int32 × iq_I × iq_J × iq_X) ⊕ ((iq_I × iq_J × iq_X) ⊕ (Int32 × iq_I × iq_J × iq_X)))} (ha : jLw x4 X a) (hb : jLw x4 X b) : jLw x4 X (if c then a else b) := by
  by_cases h : c
  · rw [if_pos h]; exact ha
  · rw [if_neg h]; exact hb
theorem jl_lt {l i : Nat} (hl : l ≤ 3072) (hi : i ≤ 4000) : (Int32.ofNat l - (6 : Int32)) < jn i ↔ l < i + 6 := by
  have e : (Int32.ofNat l - (6 : Int32)).toInt = (l : Int) - 6 := by
    rw [Int32.toInt_sub, show (Int32.ofNat l).toInt = (l : Int) from jn_toInt (by omega), show (6 : Int32).toInt = 6 from rfl]
    exact Int.bmod_eq_of_le (by omega) (by omega)
  rw [Int32.lt_iff_toInt_lt, e, jn_toInt (by omega)]
  omega
theorem jl_bd {l i : Nat} (hl : l ≤ 3072) (hi : i + 6 ≤ l) {I : iq_I} {J : iq_J} {X : iq_X} (hI : jInv I) : jLw (jn i) X (zL_law_l23_b l (jn i) I J X) := by
  have hr : jR5 (jn i) l := by
    refine ⟨?_, ?_, ?_, ?_, ?_⟩
    · rw [jl1, jn_add, jn_in (by omega)]; omega
    · rw [jl2, jn_add, jn_in (by omega)]; omega
    · rw [jl3, jn_add, jn_in (by omega)]; omega
    · rw [jl4, jn_add, jn_in (by omega)]; omega
    · rw [jl5, jn_add, jn_in (by omega)]; omega
  have hn : ¬ (Int32.ofNat l - (6 : Int32)) < jn i := fun h => by
    have := (jl_lt hl (by omega)).mp h
    omega
  have hin : iq_in (jn i) l := by rw [jn_in (by omega)]; omega
  unfold zL_law_l23_b
  rw [if_neg hn, if_pos hin]
  exact jl_if (jl_feed hI hr) (jl_if (jl_museum hI hr) (jl_if (jl_fault hI hr) (jl_if (jl_count hI hr) (jl_if (jl_letter hI hr) (jl_if (jl_kind hI hr) (jl_if (jl_arc hI hr) (jl_if (jl_saying hI hr) (jl_if (jl_may hI hr) (jl_if (jl_add hI hr) (jl_if (jl_fly hI hr) (jl_if (jl_take hI hr) (jl_if (jl_day hI hr) (jl_if (jl_undo hI hr) (jl_if (jl_open hI hr) (jl_if (jl_soonest hI hr) (jl_if (jl_must hI hr) (jl_if (jl_ways hI hr) (jl_if (jl_turn hI hr) (jl_if (jl_costs hI hr) (jl_if (jl_closed hI hr) (jl_if (jl_odds hI hr) (jl_if (jl_see hI hr) (jl_if (jl_forget hI hr) (jl_if (jl_who hI hr) (jl_if (jl_begun hI hr) (jl_if (jl_alike hI hr) (jl_if (jl_nearest hI hr) (jl_if (jl_culprit hI hr) (jl_if (jl_season hI hr) (jl_if (jl_crimes hI hr) (jl_if (jl_doors hI hr) (jl_if (jl_far hI hr) (jl_if (jl_days hI hr) (jl_if (jl_mend hI hr) (jl_if (jl_shared hI hr) (jl_if (jl_about hI hr) (jl_if (jl_often hI hr) (jl_if (jl_cost hI hr) (jl_if (jl_image hI hr) (jl_if (jl_restore hI hr) (⟨I, J, X, rfl, hI, Or.inl rfl⟩)))))))))))))))))))))))))))))))))))))))))
theorem jl_lp {l : Nat} (hl : l ≤ 3072) : ∀ (k n i : Nat) (I : iq_I) (J : iq_J) (X : iq_X), jInv I → i ≤ l → l < i + 6 * k + 6 → k < n → ∃ I' J' X', zL_law_l23 l n (jn i, I, J, X) = some (.inl (I', J', X')) ∧ X'.1 ≤ X.1 + k ∧ X'.2.1 ≤ X.2.1 + 6 * k
  | k, 0, i, I, J, X, hI, hi, hk, hn => by omega
  | k, n + 1, i, I, J, X, hI, hi, hk, hn => by
    by_cases hc : l < i + 6
    · refine ⟨I, J, X, ?_, by omega, by omega⟩
      unfold zL_law_l23 iq_lp
      have e : zL_law_l23_b l (jn i) I J X = some (.inr (.inl (I, J, X))) := by
        unfold zL_law_l23_b
        rw [if_pos ((jl_lt hl (by omega)).mpr hc)]
      simp only [e]
    · obtain ⟨I1, J1, X1, e, hI1, hx⟩ := jl_bd (J := J) (X := X) hl (show i + 6 ≤ l by omega) hI
      cases k with
      | zero => omega
      | succ k =>
        obtain ⟨I2, J2, X2, e2, a1, a2⟩ := jl_lp hl k n (i + 6) I1 J1 X1 hI1 (by omega) (by omega) (by omega)
        have b : X1.1 ≤ X.1 + 1 ∧ X1.2.1 ≤ X.2.1 + 6 := by
          rcases hx with rfl | rfl
          · exact ⟨by omega, by omega⟩
          · exact ⟨Nat.le_refl _, Nat.le_refl _⟩
        refine ⟨I2, J2, X2, ?_, by omega, by omega⟩
        rw [← e2]
        rw [jl6, jn_add] at e
        unfold zL_law_l23
        conv => lhs; unfold iq_lp
        simp only [e]
theorem jl_law {l : Nat} (hl : l ≤ 3072) {I : iq_I} {J : iq_J} {X : iq_X} (hI : jInv I) : ∃ I' J' X', zL_law l 0 I J X = some (1, I', J', X') ∧ X'.1 ≤ X.1 + 512 ∧ X'.2.1 ≤ X.2.1 + 3072 := by
  obtain ⟨I', J', X', e, a1, a2⟩ := jl_lp hl 512 ir_F 0 I J X hI (by omega) (by omega) (by show 512 < 20000; omega)
  refine ⟨I', J', X', ?_, a1, a2⟩
  unfold zL_law
  rw [jl0, e]
  rfl
