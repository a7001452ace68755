/-! ===== the law's cases ===== -/
theorem jlgc (x : Int64) : lg_cmp x x = 0 := by
  unfold lg_cmp
  simp

def jLw (x4 : Int32) (X : iq_X) (r : Option ((Int32 × iq_I × iq_J × iq_X) ⊕ ((iq_I × iq_J × iq_X) ⊕ (Int32 × iq_I × iq_J × iq_X)))) : Prop := ∃ I' J' X', r = some (.inl (x4 + (6 : Int32), I', J', X')) ∧ jInv I' ∧ jXo X X'
def jR5 (x4 : Int32) (l : Nat) : Prop := iq_in (x4 + (1 : Int32)) l ∧ iq_in (x4 + (2 : Int32)) l ∧ iq_in (x4 + (3 : Int32)) l ∧ iq_in (x4 + (4 : Int32)) l ∧ iq_in (x4 + (5 : Int32)) l
theorem jl_far {l : Nat} {x4 : Int32} {I : iq_I} {J : iq_J} {X : iq_X} (hI : jInv I) (hr : jR5 x4 l) : jLw x4 X (zL_law_2036 l x4 I J X) := by
  obtain ⟨h1, h2, h3, h4, h5⟩ := hr
  obtain ⟨r, I1, X1, b, I2, e1, e2, a1, a2, hx, an⟩ := jq_far hI (I 0 (Int32.toNatClampNeg (x4 + (1 : Int32)))) (I 0 (Int32.toNatClampNeg (x4 + (2 : Int32)))) X
  have s0 : ∀ j, I1 0 j = I 0 j := fun j => a1 0 j rfl
  rcases an with ⟨v, rfl, rfl, t0⟩ | ⟨rfl, t0⟩
  · refine ⟨I2, iq_upJ J 114 0 (Int32.toInt64 b), X1, ?_, jInv_ag hI a2, hx⟩
    simp only [zL_law_2036, zL_far, if_pos h1, if_pos h2, e1, s0, e2, t0, Option.bind_some, iq_sm, ir_let, zM_thrown, upJ_eq, jlgc, ↓reduceIte, not_true_eq_false, not_false_eq_true]
  · refine ⟨I2, J, X1, ?_, jInv_ag hI a2, hx⟩
    simp only [zL_law_2036, zL_far, if_pos h1, if_pos h2, e1, s0, e2, t0, Option.bind_some, iq_sm, ir_let, zM_thrown, upJ_eq, jlgc, ↓reduceIte, not_true_eq_false, not_false_eq_true, show ((1 : Int32) = 0) = False from eq_false (by decide), show ((2 : Int32) = 0) = False from eq_false (by decide), show ((1 : Nat) = 0) = False from eq_false (by decide)]
theorem jl_doors {l : Nat} {x4 : Int32} {I : iq_I} {J : iq_J} {X : iq_X} (hI : jInv I) (hr : jR5 x4 l) : jLw x4 X (zL_law_1980 l x4 I J X) := by
  obtain ⟨h1, h2, h3, h4, h5⟩ := hr
  obtain ⟨r, I1, X1, b, I2, e1, e2, a1, a2, hx, an⟩ := jq_doors hI (I 0 (Int32.toNatClampNeg (x4 + (1 : Int32)))) X
  have s0 : ∀ j, I1 0 j = I 0 j := fun j => a1 0 j rfl
  rcases an with ⟨v, rfl, rfl, t0⟩ | ⟨rfl, t0⟩
  · refine ⟨I2, iq_upJ J 114 0 (Int32.toInt64 b), X1, ?_, jInv_ag hI a2, hx⟩
    simp only [zL_law_1980, zL_doors, if_pos h1, e1, s0, e2, t0, Option.bind_some, iq_sm, ir_let, zM_thrown, upJ_eq, jlgc, ↓reduceIte, not_true_eq_false, not_false_eq_true]
  · refine ⟨I2, J, X1, ?_, jInv_ag hI a2, hx⟩
    simp only [zL_law_1980, zL_doors, if_pos h1, e1, s0, e2, t0, Option.bind_some, iq_sm, ir_let, zM_thrown, upJ_eq, jlgc, ↓reduceIte, not_true_eq_false, not_false_eq_true, show ((1 : Int32) = 0) = False from eq_false (by decide), show ((2 : Int32) = 0) = False from eq_false (by decide), show ((1 : Nat) = 0) = False from eq_false (by decide)]
theorem jl_open {l : Nat} {x4 : Int32} {I : iq_I} {J : iq_J} {X : iq_X} (hI : jInv I) (hr : jR5 x4 l) : jLw x4 X (zL_law_976 l x4 I J X) := by
  obtain ⟨h1, h2, h3, h4, h5⟩ := hr
  obtain ⟨r, I1, X1, b, I2, e1, e2, a1, a2, hx, an⟩ := jq_open hI (I 0 (Int32.toNatClampNeg (x4 + (1 : Int32)))) X
  have s0 : ∀ j, I1 0 j = I 0 j := fun j => a1 0 j rfl
  rcases an with ⟨v, rfl, rfl, t0⟩ | ⟨rfl, t0⟩
  · refine ⟨I2, iq_upJ J 114 0 (Int32.toInt64 b), X1, ?_, jInv_ag hI a2, hx⟩
    simp only [zL_law_976, zL_open, if_pos h1, e1, s0, e2, t0, Option.bind_some, iq_sm, ir_let, zM_thrown, upJ_eq, jlgc, ↓reduceIte, not_true_eq_false, not_false_eq_true]
  · refine ⟨I2, J, X1, ?_, jInv_ag hI a2, hx⟩
    simp only [zL_law_976, zL_open, if_pos h1, e1, s0, e2, t0, Option.bind_some, iq_sm, ir_let, zM_thrown, upJ_eq, jlgc, ↓reduceIte, not_true_eq_false, not_false_eq_true, show ((1 : Int32) = 0) = False from eq_false (by decide), show ((2 : Int32) = 0) = False from eq_false (by decide), show ((1 : Nat) = 0) = False from eq_false (by decide)]
theorem jl_must {l : Nat} {x4 : Int32} {I : iq_I} {J : iq_J} {X : iq_X} (hI : jInv I) (hr : jR5 x4 l) : jLw x4 X (zL_law_1100 l x4 I J X) := by
  obtain ⟨h1, h2, h3, h4, h5⟩ := hr
  obtain ⟨r, I1, X1, b, I2, e1, e2, a1, a2, hx, an⟩ := jq_must hI (I 0 (Int32.toNatClampNeg (x4 + (1 : Int32)))) X
  have s0 : ∀ j, I1 0 j = I 0 j := fun j => a1 0 j rfl
  rcases an with ⟨v, rfl, rfl, t0⟩ | ⟨rfl, t0⟩
  · refine ⟨I2, iq_upJ J 114 0 (Int32.toInt64 b), X1, ?_, jInv_ag hI a2, hx⟩
    simp only [zL_law_1100, zL_must, if_pos h1, e1, s0, e2, t0, Option.bind_some, iq_sm, ir_let, zM_thrown, upJ_eq, jlgc, ↓reduceIte, not_true_eq_false, not_false_eq_true]
  · refine ⟨I2, J, X1, ?_, jInv_ag hI a2, hx⟩
    simp only [zL_law_1100, zL_must, if_pos h1, e1, s0, e2, t0, Option.bind_some, iq_sm, ir_let, zM_thrown, upJ_eq, jlgc, ↓reduceIte, not_true_eq_false, not_false_eq_true, show ((1 : Int32) = 0) = False from eq_false (by decide), show ((2 : Int32) = 0) = False from eq_false (by decide), show ((1 : Nat) = 0) = False from eq_false (by decide)]
theorem jl_alike {l : Nat} {x4 : Int32} {I : iq_I} {J : iq_J} {X : iq_X} (hI : jInv I) (hr : jR5 x4 l) : jLw x4 X (zL_law_1695 l x4 I J X) := by
  obtain ⟨h1, h2, h3, h4, h5⟩ := hr
  obtain ⟨r, I1, X1, b, I2, e1, e2, a1, a2, hx, an⟩ := jq_alike hI (I 0 (Int32.toNatClampNeg (x4 + (1 : Int32)))) (I 0 (Int32.toNatClampNeg (x4 + (2 : Int32)))) X
  have s0 : ∀ j, I1 0 j = I 0 j := fun j => a1 0 j rfl
  rcases an with ⟨v, rfl, rfl, t0⟩ | ⟨rfl, t0⟩
  · refine ⟨I2, iq_upJ J 114 0 (Int32.toInt64 b), X1, ?_, jInv_ag hI a2, hx⟩
    simp only [zL_law_1695, zL_alike, if_pos h1, if_pos h2, e1, s0, e2, t0, Option.bind_some, iq_sm, ir_let, zM_thrown, upJ_eq, jlgc, ↓reduceIte, not_true_eq_false, not_false_eq_true]
  · refine ⟨I2, J, X1, ?_, jInv_ag hI a2, hx⟩
    simp only [zL_law_1695, zL_alike, if_pos h1, if_pos h2, e1, s0, e2, t0, Option.bind_some, iq_sm, ir_let, zM_thrown, upJ_eq, jlgc, ↓reduceIte, not_true_eq_false, not_false_eq_true, show ((1 : Int32) = 0) = False from eq_false (by decide), show ((2 : Int32) = 0) = False from eq_false (by decide), show ((1 : Nat) = 0) = False from eq_false (by decide)]
theorem jl_mend {l : Nat} {x4 : Int32} {I : iq_I} {J : iq_J} {X : iq_X} (hI : jInv I) (hr : jR5 x4 l) : jLw x4 X (zL_law_2172 l x4 I J X) := by
  obtain ⟨h1, h2, h3, h4, h5⟩ := hr
  obtain ⟨r, I1, X1, b, I2, e1, e2, a1, a2, hx, an⟩ := jq_mend hI (I 0 (Int32.toNatClampNeg (x4 + (1 : Int32)))) (I 0 (Int32.toNatClampNeg (x4 + (2 : Int32)))) X
  have s0 : ∀ j, I1 0 j = I 0 j := fun j => a1 0 j rfl
  rcases an with ⟨v, rfl, rfl, t0⟩ | ⟨rfl, t0⟩
  · refine ⟨I2, iq_upJ J 114 0 (Int32.toInt64 b), X1, ?_, jInv_ag hI a2, hx⟩
    simp only [zL_law_2172, zL_mend, if_pos h1, if_pos h2, e1, s0, e2, t0, Option.bind_some, iq_sm, ir_let, zM_thrown, upJ_eq, jlgc, ↓reduceIte, not_true_eq_false, not_false_eq_true]
  · refine ⟨I2, J, X1, ?_, jInv_ag hI a2, hx⟩
    simp only [zL_law_2172, zL_mend, if_pos h1, if_pos h2, e1, s0, e2, t0, Option.bind_some, iq_sm, ir_let, zM_thrown, upJ_eq, jlgc, ↓reduceIte, not_true_eq_false, not_false_eq_true, show ((1 : Int32) = 0) = False from eq_false (by decide), show ((2 : Int32) = 0) = False from eq_false (by decide), show ((1 : Nat) = 0) = False from eq_false (by decide)]
theorem jl_costs {l : Nat} {x4 : Int32} {I : iq_I} {J : iq_J} {X : iq_X} (hI : jInv I) (hr : jR5 x4 l) : jLw x4 X (zL_law_1319 l x4 I J X) := by
  obtain ⟨h1, h2, h3, h4, h5⟩ := hr
  obtain ⟨r, I1, X1, b, I2, e1, e2, a1, a2, hx, an⟩ := jq_costs hI (I 0 (Int32.toNatClampNeg (x4 + (1 : Int32)))) (I 0 (Int32.toNatClampNeg (x4 + (2 : Int32)))) (I 0 (Int32.toNatClampNeg (x4 + (3 : Int32)))) X
  have s0 : ∀ j, I1 0 j = I 0 j := fun j => a1 0 j rfl
  rcases an with ⟨v, rfl, rfl, t0⟩ | ⟨rfl, t0⟩ | ⟨rfl, t0⟩
  · refine ⟨I2, iq_upJ J 114 0 (Int32.toInt64 b), X1, ?_, jInv_ag hI a2, hx⟩
    simp only [zL_law_1319, zL_costs, if_pos h1, if_pos h2, if_pos h3, e1, s0, e2, t0, Option.bind_some, iq_sm, ir_let, zM_thrown, upJ_eq, jlgc, ↓reduceIte, not_true_eq_false, not_false_eq_true]
  · refine ⟨I2, J, X1, ?_, jInv_ag hI a2, hx⟩
    simp only [zL_law_1319, zL_costs, if_pos h1, if_pos h2, if_pos h3, e1, s0, e2, t0, Option.bind_some, iq_sm, ir_let, zM_thrown, upJ_eq, jlgc, ↓reduceIte, not_true_eq_false, not_false_eq_true, show ((1 : Int32) = 0) = False from eq_false (by decide), show ((2 : Int32) = 0) = False from eq_false (by decide), show ((1 : Nat) = 0) = False from eq_false (by decide)]
  · refine ⟨I2, J, X1, ?_, jInv_ag hI a2, hx⟩
    simp only [zL_law_1319, zL_costs, if_pos h1, if_pos h2, if_pos h3, e1, s0, e2, t0, Option.bind_some, iq_sm, ir_let, zM_thrown, upJ_eq, jlgc, ↓reduceIte, not_true_eq_false, not_false_eq_true, show ((1 : Int32) = 0) = False from eq_false (by decide), show ((2 : Int32) = 0) = False from eq_false (by decide), show ((1 : Nat) = 0) = False from eq_false (by decide)]
theorem jl_soonest {l : Nat} {x4 : Int32} {I : iq_I} {J : iq_J} {X : iq_X} (hI : jInv I) (hr : jR5 x4 l) : jLw x4 X (zL_law_1032 l x4 I J X) := by
  obtain ⟨h1, h2, h3, h4, h5⟩ := hr
  obtain ⟨r, I1, X1, b, I2, e1, e2, a1, a2, hx, an⟩ := jq_soonest hI (I 0 (Int32.toNatClampNeg (x4 + (1 : Int32)))) (I 0 (Int32.toNatClampNeg (x4 + (2 : Int32)))) X
  have s0 : ∀ j, I1 0 j = I 0 j := fun j => a1 0 j rfl
  rcases an with ⟨v, rfl, rfl, t0⟩ | ⟨rfl, t0⟩
  · refine ⟨I2, iq_upJ J 114 0 (Int32.toInt64 b), X1, ?_, jInv_ag hI a2, hx⟩
    simp only [zL_law_1032, zL_soonest, if_pos h1, if_pos h2, e1, s0, e2, t0, Option.bind_some, iq_sm, ir_let, zM_thrown, upJ_eq, jlgc, ↓reduceIte, not_true_eq_false, not_false_eq_true]
  · refine ⟨I2, J, X1, ?_, jInv_ag hI a2, hx⟩
    simp only [zL_law_1032, zL_soonest, if_pos h1, if_pos h2, e1, s0, e2, t0, Option.bind_some, iq_sm, ir_let, zM_thrown, upJ_eq, jlgc, ↓reduceIte, not_true_eq_false, not_false_eq_true, show ((1 : Int32) = 0) = False from eq_false (by decide), show ((2 : Int32) = 0) = False from eq_false (by decide), show ((1 : Nat) = 0) = False from eq_false (by decide)]
theorem jl_turn {l : Nat} {x4 : Int32} {I : iq_I} {J : iq_J} {X : iq_X} (hI : jInv I) (hr : jR5 x4 l) : jLw x4 X (zL_law_1251 l x4 I J X) := by
  obtain ⟨h1, h2, h3, h4, h5⟩ := hr
  obtain ⟨r, I1, X1, b, I2, e1, e2, a1, a2, hx, an⟩ := jq_turn hI (I 0 (Int32.toNatClampNeg (x4 + (1 : Int32)))) (I 0 (Int32.toNatClampNeg (x4 + (2 : Int32)))) X
  have s0 : ∀ j, I1 0 j = I 0 j := fun j => a1 0 j rfl
  rcases an with ⟨v, rfl, rfl, t0⟩ | ⟨rfl, t0⟩
  · refine ⟨I2, iq_upJ J 114 0 (Int32.toInt64 b), X1, ?_, jInv_ag hI a2, hx⟩
    simp only [zL_law_1251, zL_turn, if_pos h1, if_pos h2, e1, s0, e2, t0, Option.bind_some, iq_sm, ir_let, zM_thrown, upJ_eq, jlgc, ↓reduceIte, not_true_eq_false, not_false_eq_true]
  · refine ⟨I2, J, X1, ?_, jInv_ag hI a2, hx⟩
    simp only [zL_law_1251, zL_turn, if_pos h1, if_pos h2, e1, s0, e2, t0, Option.bind_some, iq_sm, ir_let, zM_thrown, upJ_eq, jlgc, ↓reduceIte, not_true_eq_false, not_false_eq_true, show ((1 : Int32) = 0) = False from eq_false (by decide), show ((2 : Int32) = 0) = False from eq_false (by decide), show ((1 : Nat) = 0) = False from eq_false (by decide)]
theorem jl_shared {l : Nat} {x4 : Int32} {I : iq_I} {J : iq_J} {X : iq_X} (hI : jInv I) (hr : jR5 x4 l) : jLw x4 X (zL_law_2240 l x4 I J X) := by
  obtain ⟨h1, h2, h3, h4, h5⟩ := hr
  obtain ⟨r, I1, X1, b, I2, e1, e2, a1, a2, hx, an⟩ := jq_shared hI (I 0 (Int32.toNatClampNeg (x4 + (1 : Int32)))) (I 0 (Int32.toNatClampNeg (x4 + (2 : Int32)))) (I 0 (Int32.toNatClampNeg (x4 + (3 : Int32)))) X
  have s0 : ∀ j, I1 0 j = I 0 j := fun j => a1 0 j rfl
  rcases an with ⟨v, rfl, rfl, t0⟩ | ⟨rfl, t0⟩
  · refine ⟨I2, iq_upJ J 114 0 (Int32.toInt64 b), X1, ?_, jInv_ag hI a2, hx⟩
    simp only [zL_law_2240, zL_shared, if_pos h1, if_pos h2, if_pos h3, e1, s0, e2, t0, Option.bind_some, iq_sm, ir_let, zM_thrown, upJ_eq, jlgc, ↓reduceIte, not_true_eq_false, not_false_eq_true]
  · refine ⟨I2, J, X1, ?_, jInv_ag hI a2, hx⟩
    simp only [zL_law_2240, zL_shared, if_pos h1, if_pos h2, if_pos h3, e1, s0, e2, t0, Option.bind_some, iq_sm, ir_let, zM_thrown, upJ_eq, jlgc, ↓reduceIte, not_true_eq_false, not_false_eq_true, show ((1 : Int32) = 0) = False from eq_false (by decide), show ((2 : Int32) = 0) = False from eq_false (by decide), show ((1 : Nat) = 0) = False from eq_false (by decide)]
theorem jl_may {l : Nat} {x4 : Int32} {I : iq_I} {J : iq_J} {X : iq_X} (hI : jInv I) (hr : jR5 x4 l) : jLw x4 X (zL_law_678 l x4 I J X) := by
  obtain ⟨h1, h2, h3, h4, h5⟩ := hr
  obtain ⟨r, I1, X1, b, I2, e1, e2, a1, a2, hx, an⟩ := jq_may hI (I 0 (Int32.toNatClampNeg (x4 + (1 : Int32)))) X
  have s0 : ∀ j, I1 0 j = I 0 j := fun j => a1 0 j rfl
  rcases an with ⟨v, rfl, rfl, t0⟩ | ⟨rfl, t0⟩
  · refine ⟨I2, iq_upJ J 114 0 (Int32.toInt64 b), X1, ?_, jInv_ag hI a2, hx⟩
    simp only [zL_law_678, zL_may, if_pos h1, e1, s0, e2, t0, Option.bind_some, iq_sm, ir_let, zM_thrown, upJ_eq, jlgc, ↓reduceIte, not_true_eq_false, not_false_eq_true]
  · refine ⟨I2, J, X1, ?_, jInv_ag hI a2, hx⟩
    simp only [zL_law_678, zL_may, if_pos h1, e1, s0, e2, t0, Option.bind_some, iq_sm, ir_let, zM_thrown, upJ_eq, jlgc, ↓reduceIte, not_true_eq_false, not_false_eq_true, show ((1 : Int32) = 0) = False from eq_false (by decide), show ((2 : Int32) = 0) = False from eq_false (by decide), show ((1 : Nat) = 0) = False from eq_false (by decide)]
theorem jl_days {l : Nat} {x4 : Int32} {I : iq_I} {J : iq_J} {X : iq_X} (hI : jInv I) (hr : jR5 x4 l) : jLw x4 X (zL_law_2104 l x4 I J X) := by
  obtain ⟨h1, h2, h3, h4, h5⟩ := hr
  obtain ⟨r, I1, X1, b, I2, e1, e2, a1, a2, hx, an⟩ := jq_days hI (I 0 (Int32.toNatClampNeg (x4 + (1 : Int32)))) (I 0 (Int32.toNatClampNeg (x4 + (2 : Int32)))) X
  have s0 : ∀ j, I1 0 j = I 0 j := fun j => a1 0 j rfl
  rcases an with ⟨v, rfl, rfl, t0⟩ | ⟨rfl, t0⟩
  · refine ⟨I2, iq_upJ J 114 0 (Int32.toInt64 b), X1, ?_, jInv_ag hI a2, hx⟩
    simp only [zL_law_2104, zL_days, if_pos h1, if_pos h2, e1, s0, e2, t0, Option.bind_some, iq_sm, ir_let, zM_thrown, upJ_eq, jlgc, ↓reduceIte, not_true_eq_false, not_false_eq_true]
  · refine ⟨I2, J, X1, ?_, jInv_ag hI a2, hx⟩
    simp only [zL_law_2104, zL_days, if_pos h1, if_pos h2, e1, s0, e2, t0, Option.bind_some, iq_sm, ir_let, zM_thrown, upJ_eq, jlgc, ↓reduceIte, not_true_eq_false, not_false_eq_true, show ((1 : Int32) = 0) = False from eq_false (by decide), show ((2 : Int32) = 0) = False from eq_false (by decide), show ((1 : Nat) = 0) = False from eq_false (by decide)]
theorem jl_odds {l : Nat} {x4 : Int32} {I : iq_I} {J : iq_J} {X : iq_X} (hI : jInv I) (hr : jR5 x4 l) : jLw x4 X (zL_law_1412 l x4 I J X) := by
  obtain ⟨h1, h2, h3, h4, h5⟩ := hr
  obtain ⟨r, I1, X1, b, I2, e1, e2, a1, a2, hx, an⟩ := jq_odds hI (I 0 (Int32.toNatClampNeg (x4 + (1 : Int32)))) (I 0 (Int32.toNatClampNeg (x4 + (2 : Int32)))) (I 0 (Int32.toNatClampNeg (x4 + (3 : Int32)))) (I 0 (Int32.toNatClampNeg (x4 + (4 : Int32)))) X
  have s0 : ∀ j, I1 0 j = I 0 j := fun j => a1 0 j rfl
  rcases an with ⟨v, rfl, rfl, t0⟩ | ⟨rfl, t0⟩
  · refine ⟨I2, iq_upJ J 114 0 (Int32.toInt64 b), X1, ?_, jInv_ag hI a2, hx⟩
    simp only [zL_law_1412, zL_odds, if_pos h1, if_pos h2, if_pos h3, if_pos h4, e1, s0, e2, t0, Option.bind_some, iq_sm, ir_let, zM_thrown, upJ_eq, jlgc, ↓reduceIte, not_true_eq_false, not_false_eq_true]
  · refine ⟨I2, J, X1, ?_, jInv_ag hI a2, hx⟩
    simp only [zL_law_1412, zL_odds, if_pos h1, if_pos h2, if_pos h3, if_pos h4, e1, s0, e2, t0, Option.bind_some, iq_sm, ir_let, zM_thrown, upJ_eq, jlgc, ↓reduceIte, not_true_eq_false, not_false_eq_true, show ((1 : Int32) = 0) = False from eq_false (by decide), show ((2 : Int32) = 0) = False from eq_false (by decide), show ((1 : Nat) = 0) = False from eq_false (by decide)]
theorem jl_season {l : Nat} {x4 : Int32} {I : iq_I} {J : iq_J} {X : iq_X} (hI : jInv I) (hr : jR5 x4 l) : jLw x4 X (zL_law_1844 l x4 I J X) := by
  obtain ⟨h1, h2, h3, h4, h5⟩ := hr
  obtain ⟨r, I1, X1, b, I2, e1, e2, a1, a2, hx, an⟩ := jq_season hI (I 0 (Int32.toNatClampNeg (x4 + (1 : Int32)))) (I 0 (Int32.toNatClampNeg (x4 + (2 : Int32)))) (I 0 (Int32.toNatClampNeg (x4 + (3 : Int32)))) X
  have s0 : ∀ j, I1 0 j = I 0 j := fun j => a1 0 j rfl
  rcases an with ⟨v, rfl, rfl, t0⟩ | ⟨rfl, t0⟩ | ⟨rfl, t0⟩
  · refine ⟨I2, iq_upJ J 114 0 (Int32.toInt64 b), X1, ?_, jInv_ag hI a2, hx⟩
    simp only [zL_law_1844, zL_season, if_pos h1, if_pos h2, if_pos h3, e1, s0, e2, t0, Option.bind_some, iq_sm, ir_let, zM_thrown, upJ_eq, jlgc, ↓reduceIte, not_true_eq_false, not_false_eq_true]
  · refine ⟨I2, J, X1, ?_, jInv_ag hI a2, hx⟩
    simp only [zL_law_1844, zL_season, if_pos h1, if_pos h2, if_pos h3, e1, s0, e2, t0, Option.bind_some, iq_sm, ir_let, zM_thrown, upJ_eq, jlgc, ↓reduceIte, not_true_eq_false, not_false_eq_true, show ((1 : Int32) = 0) = False from eq_false (by decide), show ((2 : Int32) = 0) = False from eq_false (by decide), show ((1 : Nat) = 0) = False from eq_false (by decide)]
  · refine ⟨I2, J, X1, ?_, jInv_ag hI a2, hx⟩
    simp only [zL_law_1844, zL_season, if_pos h1, if_pos h2, if_pos h3, e1, s0, e2, t0, Option.bind_some, iq_sm, ir_let, zM_thrown, upJ_eq, jlgc, ↓reduceIte, not_true_eq_false, not_false_eq_true, show ((1 : Int32) = 0) = False from eq_false (by decide), show ((2 : Int32) = 0) = False from eq_false (by decide), show ((1 : Nat) = 0) = False from eq_false (by decide)]
theorem jl_who {l : Nat} {x4 : Int32} {I : iq_I} {J : iq_J} {X : iq_X} (hI : jInv I) (hr : jR5 x4 l) : jLw x4 X (zL_law_1583 l x4 I J X) := by
  obtain ⟨h1, h2, h3, h4, h5⟩ := hr
  obtain ⟨r, I1, J1, X1, b, I2, e1, e2, a1, a2, hx, an⟩ := jq_who hI (I 0 (Int32.toNatClampNeg (x4 + (1 : Int32)))) J X
  have s0 : ∀ j, I1 0 j = I 0 j := fun j => a1 0 j rfl
  rcases an with ⟨v, rfl, rfl, t0⟩ | ⟨rfl, t0⟩
  · refine ⟨I2, iq_upJ J1 114 0 (Int32.toInt64 b), X1, ?_, jInv_ag hI a2, hx⟩
    simp only [zL_law_1583, zL_who, if_pos h1, e1, s0, e2, t0, Option.bind_some, iq_sm, ir_let, zM_thrown, upJ_eq, jlgc, ↓reduceIte, not_true_eq_false, not_false_eq_true]
  · refine ⟨I2, J1, X1, ?_, jInv_ag hI a2, hx⟩
    simp only [zL_law_1583, zL_who, if_pos h1, e1, s0, e2, t0, Option.bind_some, iq_sm, ir_let, zM_thrown, upJ_eq, jlgc, ↓reduceIte, not_true_eq_false, not_false_eq_true, show ((1 : Int32) = 0) = False from eq_false (by decide), show ((2 : Int32) = 0) = False from eq_false (by decide), show ((1 : Nat) = 0) = False from eq_false (by decide)]
theorem jl_kind {l : Nat} {x4 : Int32} {I : iq_I} {J : iq_J} {X : iq_X} (hI : jInv I) (hr : jR5 x4 l) : jLw x4 X (zL_law_486 l x4 I J X) := by
  obtain ⟨h1, h2, h3, h4, h5⟩ := hr
  obtain ⟨r, X1, b, I2, e1, e2, a2, hx, an⟩ := jq_kind hI (I 0 (Int32.toNatClampNeg (x4 + (1 : Int32)))) X
  rcases an with ⟨v, rfl, rfl, t0⟩ | ⟨rfl, t0⟩
  · refine ⟨I2, iq_upJ J 114 0 (Int32.toInt64 b), X1, ?_, jInv_ag hI a2, hx⟩
    simp only [zL_law_486, zL_kind, if_pos h1, e1, e2, t0, Option.bind_some, iq_sm, ir_let, zM_thrown, upJ_eq, jlgc, ↓reduceIte, not_true_eq_false, not_false_eq_true]
  · refine ⟨I2, J, X1, ?_, jInv_ag hI a2, hx⟩
    simp only [zL_law_486, zL_kind, if_pos h1, e1, e2, t0, Option.bind_some, iq_sm, ir_let, zM_thrown, upJ_eq, jlgc, ↓reduceIte, not_true_eq_false, not_false_eq_true, show ((1 : Int32) = 0) = False from eq_false (by decide), show ((2 : Int32) = 0) = False from eq_false (by decide), show ((1 : Nat) = 0) = False from eq_false (by decide)]
theorem jl_arc {l : Nat} {x4 : Int32} {I : iq_I} {J : iq_J} {X : iq_X} (hI : jInv I) (hr : jR5 x4 l) : jLw x4 X (zL_law_542 l x4 I J X) := by
  obtain ⟨h1, h2, h3, h4, h5⟩ := hr
  obtain ⟨r, X1, b, I2, e1, e2, a2, hx, an⟩ := jq_arc hI (I 0 (Int32.toNatClampNeg (x4 + (1 : Int32)))) (I 0 (Int32.toNatClampNeg (x4 + (2 : Int32)))) X
  rcases an with ⟨v, rfl, rfl, t0⟩ | ⟨rfl, t0⟩
  · refine ⟨I2, iq_upJ J 114 0 (Int32.toInt64 b), X1, ?_, jInv_ag hI a2, hx⟩
    simp only [zL_law_542, zL_arc, if_pos h1, if_pos h2, e1, e2, t0, Option.bind_some, iq_sm, ir_let, zM_thrown, upJ_eq, jlgc, ↓reduceIte, not_true_eq_false, not_false_eq_true]
  · refine ⟨I2, J, X1, ?_, jInv_ag hI a2, hx⟩
    simp only [zL_law_542, zL_arc, if_pos h1, if_pos h2, e1, e2, t0, Option.bind_some, iq_sm, ir_let, zM_thrown, upJ_eq, jlgc, ↓reduceIte, not_true_eq_false, not_false_eq_true, show ((1 : Int32) = 0) = False from eq_false (by decide), show ((2 : Int32) = 0) = False from eq_false (by decide), show ((1 : Nat) = 0) = False from eq_false (by decide)]
theorem jl_crimes {l : Nat} {x4 : Int32} {I : iq_I} {J : iq_J} {X : iq_X} (hI : jInv I) (hr : jR5 x4 l) : jLw x4 X (zL_law_1924 l x4 I J X) := by
  obtain ⟨h1, h2, h3, h4, h5⟩ := hr
  obtain ⟨r, X1, b, I2, e1, e2, a2, hx, an⟩ := jq_crimes hI (I 0 (Int32.toNatClampNeg (x4 + (1 : Int32)))) X
  rcases an with ⟨v, rfl, rfl, t0⟩ | ⟨rfl, t0⟩
  · refine ⟨I2, iq_upJ J 114 0 (Int32.toInt64 b), X1, ?_, jInv_ag hI a2, hx⟩
    simp only [zL_law_1924, zL_crimes, if_pos h1, e1, e2, t0, Option.bind_some, iq_sm, ir_let, zM_thrown, upJ_eq, jlgc, ↓reduceIte, not_true_eq_false, not_false_eq_true]
  · refine ⟨I2, J, X1, ?_, jInv_ag hI a2, hx⟩
    simp only [zL_law_1924, zL_crimes, if_pos h1, e1, e2, t0, Option.bind_some, iq_sm, ir_let, zM_thrown, upJ_eq, jlgc, ↓reduceIte, not_true_eq_false, not_false_eq_true, show ((1 : Int32) = 0) = False from eq_false (by decide), show ((2 : Int32) = 0) = False from eq_false (by decide), show ((1 : Nat) = 0) = False from eq_false (by decide)]
theorem jl_begun {l : Nat} {x4 : Int32} {I : iq_I} {J : iq_J} {X : iq_X} (hI : jInv I) (hr : jR5 x4 l) : jLw x4 X (zL_law_1639 l x4 I J X) := by
  obtain ⟨h1, h2, h3, h4, h5⟩ := hr
  obtain ⟨r, X1, b, I2, e1, e2, a2, hx, an⟩ := jq_begun hI (I 0 (Int32.toNatClampNeg (x4 + (1 : Int32)))) X
  rcases an with ⟨v, rfl, rfl, t0⟩ | ⟨rfl, t0⟩
  · refine ⟨I2, iq_upJ J 114 0 (Int32.toInt64 b), X1, ?_, jInv_ag hI a2, hx⟩
    simp only [zL_law_1639, zL_begun, if_pos h1, e1, e2, t0, Option.bind_some, iq_sm, ir_let, zM_thrown, upJ_eq, jlgc, ↓reduceIte, not_true_eq_false, not_false_eq_true]
  · refine ⟨I2, J, X1, ?_, jInv_ag hI a2, hx⟩
    simp only [zL_law_1639, zL_begun, if_pos h1, e1, e2, t0, Option.bind_some, iq_sm, ir_let, zM_thrown, upJ_eq, jlgc, ↓reduceIte, not_true_eq_false, not_false_eq_true, show ((1 : Int32) = 0) = False from eq_false (by decide), show ((2 : Int32) = 0) = False from eq_false (by decide), show ((1 : Nat) = 0) = False from eq_false (by decide)]
theorem jl_cost {l : Nat} {x4 : Int32} {I : iq_I} {J : iq_J} {X : iq_X} (hI : jInv I) (hr : jR5 x4 l) : jLw x4 X (zL_law_2444 l x4 I J X) := by
  obtain ⟨h1, h2, h3, h4, h5⟩ := hr
  obtain ⟨r, X1, b, I2, e1, e2, a2, hx, an⟩ := jq_cost hI (I 0 (Int32.toNatClampNeg (x4 + (1 : Int32)))) X
  rcases an with ⟨v, rfl, rfl, t0⟩ | ⟨rfl, t0⟩
  · refine ⟨I2, iq_upJ J 114 0 (Int32.toInt64 b), X1, ?_, jInv_ag hI a2, hx⟩
    simp only [zL_law_2444, zL_cost, if_pos h1, e1, e2, t0, Option.bind_some, iq_sm, ir_let, zM_thrown, upJ_eq, jlgc, ↓reduceIte, not_true_eq_false, not_false_eq_true]
  · refine ⟨I2, J, X1, ?_, jInv_ag hI a2, hx⟩
    simp only [zL_law_2444, zL_cost, if_pos h1, e1, e2, t0, Option.bind_some, iq_sm, ir_let, zM_thrown, upJ_eq, jlgc, ↓reduceIte, not_true_eq_false, not_false_eq_true, show ((1 : Int32) = 0) = False from eq_false (by decide), show ((2 : Int32) = 0) = False from eq_false (by decide), show ((1 : Nat) = 0) = False from eq_false (by decide)]
theorem jl_often {l : Nat} {x4 : Int32} {I : iq_I} {J : iq_J} {X : iq_X} (hI : jInv I) (hr : jR5 x4 l) : jLw x4 X (zL_law_2376 l x4 I J X) := by
  obtain ⟨h1, h2, h3, h4, h5⟩ := hr
  obtain ⟨r, X1, b, I2, e1, e2, a2, hx, an⟩ := jq_often hI (I 0 (Int32.toNatClampNeg (x4 + (1 : Int32)))) (I 0 (Int32.toNatClampNeg (x4 + (2 : Int32)))) X
  rcases an with ⟨v, rfl, rfl, t0⟩ | ⟨rfl, t0⟩
  · refine ⟨I2, iq_upJ J 114 0 (Int32.toInt64 b), X1, ?_, jInv_ag hI a2, hx⟩
    simp only [zL_law_2376, zL_often, if_pos h1, if_pos h2, e1, e2, t0, Option.bind_some, iq_sm, ir_let, zM_thrown, upJ_eq, jlgc, ↓reduceIte, not_true_eq_false, not_false_eq_true]
  · refine ⟨I2, J, X1, ?_, jInv_ag hI a2, hx⟩
    simp only [zL_law_2376, zL_often, if_pos h1, if_pos h2, e1, e2, t0, Option.bind_some, iq_sm, ir_let, zM_thrown, upJ_eq, jlgc, ↓reduceIte, not_true_eq_false, not_false_eq_true, show ((1 : Int32) = 0) = False from eq_false (by decide), show ((2 : Int32) = 0) = False from eq_false (by decide), show ((1 : Nat) = 0) = False from eq_false (by decide)]
theorem jl_about {l : Nat} {x4 : Int32} {I : iq_I} {J : iq_J} {X : iq_X} (hI : jInv I) (hr : jR5 x4 l) : jLw x4 X (zL_law_2320 l x4 I J X) := by
  obtain ⟨h1, h2, h3, h4, h5⟩ := hr
  obtain ⟨r, X1, b, I2, e1, e2, a2, hx, an⟩ := jq_about hI (I 0 (Int32.toNatClampNeg (x4 + (1 : Int32)))) X
  rcases an with ⟨v, rfl, rfl, t0⟩ | ⟨rfl, t0⟩
  · refine ⟨I2, iq_upJ J 114 0 (Int32.toInt64 b), X1, ?_, jInv_ag hI a2, hx⟩
    simp only [zL_law_2320, zL_about, if_pos h1, e1, e2, t0, Option.bind_some, iq_sm, ir_let, zM_thrown, upJ_eq, jlgc, ↓reduceIte, not_true_eq_false, not_false_eq_true]
  · refine ⟨I2, J, X1, ?_, jInv_ag hI a2, hx⟩
    simp only [zL_law_2320, zL_about, if_pos h1, e1, e2, t0, Option.bind_some, iq_sm, ir_let, zM_thrown, upJ_eq, jlgc, ↓reduceIte, not_true_eq_false, not_false_eq_true, show ((1 : Int32) = 0) = False from eq_false (by decide), show ((2 : Int32) = 0) = False from eq_false (by decide), show ((1 : Nat) = 0) = False from eq_false (by decide)]
theorem jl_letter {l : Nat} {x4 : Int32} {I : iq_I} {J : iq_J} {X : iq_X} (hI : jInv I) (hr : jR5 x4 l) : jLw x4 X (zL_law_418 l x4 I J X) := by
  obtain ⟨h1, h2, h3, h4, h5⟩ := hr
  obtain ⟨r, X1, b, I2, e1, e2, a2, hx, an⟩ := jq_letter hI (I 0 (Int32.toNatClampNeg (x4 + (1 : Int32)))) (I 0 (Int32.toNatClampNeg (x4 + (2 : Int32)))) X
  rcases an with ⟨v, rfl, rfl, t0⟩ | ⟨rfl, t0⟩
  · refine ⟨I2, iq_upJ J 114 0 (Int32.toInt64 b), X1, ?_, jInv_ag hI a2, hx⟩
    simp only [zL_law_418, zL_letter, if_pos h1, if_pos h2, e1, e2, t0, Option.bind_some, iq_sm, ir_let, zM_thrown, upJ_eq, jlgc, ↓reduceIte, not_true_eq_false, not_false_eq_true]
  · refine ⟨I2, J, X1, ?_, jInv_ag hI a2, hx⟩
    simp only [zL_law_418, zL_letter, if_pos h1, if_pos h2, e1, e2, t0, Option.bind_some, iq_sm, ir_let, zM_thrown, upJ_eq, jlgc, ↓reduceIte, not_true_eq_false, not_false_eq_true, show ((1 : Int32) = 0) = False from eq_false (by decide), show ((2 : Int32) = 0) = False from eq_false (by decide), show ((1 : Nat) = 0) = False from eq_false (by decide)]
theorem jl_saying {l : Nat} {x4 : Int32} {I : iq_I} {J : iq_J} {X : iq_X} (hI : jInv I) (hr : jR5 x4 l) : jLw x4 X (zL_law_610 l x4 I J X) := by
  obtain ⟨h1, h2, h3, h4, h5⟩ := hr
  obtain ⟨r, X1, b, I2, e1, e2, a2, hx, an⟩ := jq_saying hI (I 0 (Int32.toNatClampNeg (x4 + (1 : Int32)))) (I 0 (Int32.toNatClampNeg (x4 + (2 : Int32)))) X
  rcases an with ⟨v, rfl, rfl, t0⟩ | ⟨rfl, t0⟩
  · refine ⟨I2, iq_upJ J 114 0 (Int32.toInt64 b), X1, ?_, jInv_ag hI a2, hx⟩
    simp only [zL_law_610, zL_saying, if_pos h1, if_pos h2, e1, e2, t0, Option.bind_some, iq_sm, ir_let, zM_thrown, upJ_eq, jlgc, ↓reduceIte, not_true_eq_false, not_false_eq_true]
  · refine ⟨I2, J, X1, ?_, jInv_ag hI a2, hx⟩
    simp only [zL_law_610, zL_saying, if_pos h1, if_pos h2, e1, e2, t0, Option.bind_some, iq_sm, ir_let, zM_thrown, upJ_eq, jlgc, ↓reduceIte, not_true_eq_false, not_false_eq_true, show ((1 : Int32) = 0) = False from eq_false (by decide), show ((2 : Int32) = 0) = False from eq_false (by decide), show ((1 : Nat) = 0) = False from eq_false (by decide)]
theorem jl_count {l : Nat} {x4 : Int32} {I : iq_I} {J : iq_J} {X : iq_X} (hI : jInv I) (hr : jR5 x4 l) : jLw x4 X (zL_law_362 l x4 I J X) := by
  obtain ⟨h1, h2, h3, h4, h5⟩ := hr
  obtain ⟨r, X1, b, I2, e1, e2, a2, hx, an⟩ := jq_count hI (I 0 (Int32.toNatClampNeg (x4 + (1 : Int32)))) X
  rcases an with ⟨v, rfl, rfl, t0⟩ | ⟨rfl, t0⟩
  · refine ⟨I2, iq_upJ J 114 0 (Int32.toInt64 b), X1, ?_, jInv_ag hI a2, hx⟩
    simp only [zL_law_362, zL_count, if_pos h1, e1, e2, t0, Option.bind_some, iq_sm, ir_let, zM_thrown, upJ_eq, jlgc, ↓reduceIte, not_true_eq_false, not_false_eq_true]
  · refine ⟨I2, J, X1, ?_, jInv_ag hI a2, hx⟩
    simp only [zL_law_362, zL_count, if_pos h1, e1, e2, t0, Option.bind_some, iq_sm, ir_let, zM_thrown, upJ_eq, jlgc, ↓reduceIte, not_true_eq_false, not_false_eq_true, show ((1 : Int32) = 0) = False from eq_false (by decide), show ((2 : Int32) = 0) = False from eq_false (by decide), show ((1 : Nat) = 0) = False from eq_false (by decide)]
theorem jl_culprit {l : Nat} {x4 : Int32} {I : iq_I} {J : iq_J} {X : iq_X} (hI : jInv I) (hr : jR5 x4 l) : jLw x4 X (zL_law_1776 l x4 I J X) := by
  obtain ⟨h1, h2, h3, h4, h5⟩ := hr
  obtain ⟨r, X1, b, I2, e1, e2, a2, hx, an⟩ := jq_culprit hI (I 0 (Int32.toNatClampNeg (x4 + (1 : Int32)))) (I 0 (Int32.toNatClampNeg (x4 + (2 : Int32)))) X
  rcases an with ⟨v, rfl, rfl, t0⟩ | ⟨rfl, t0⟩
  · refine ⟨I2, iq_upJ J 114 0 (Int32.toInt64 b), X1, ?_, jInv_ag hI a2, hx⟩
    simp only [zL_law_1776, zL_culprit, if_pos h1, if_pos h2, e1, e2, t0, Option.bind_some, iq_sm, ir_let, zM_thrown, upJ_eq, jlgc, ↓reduceIte, not_true_eq_false, not_false_eq_true]
  · refine ⟨I2, J, X1, ?_, jInv_ag hI a2, hx⟩
    simp only [zL_law_1776, zL_culprit, if_pos h1, if_pos h2, e1, e2, t0, Option.bind_some, iq_sm, ir_let, zM_thrown, upJ_eq, jlgc, ↓reduceIte, not_true_eq_false, not_false_eq_true, show ((1 : Int32) = 0) = False from eq_false (by decide), show ((2 : Int32) = 0) = False from eq_false (by decide), show ((1 : Nat) = 0) = False from eq_false (by decide)]
theorem jl_fly {l : Nat} {x4 : Int32} {I : iq_I} {J : iq_J} {X : iq_X} (hI : jInv I) (hr : jR5 x4 l) : jLw x4 X (zL_law_802 l x4 I J X) := by
  obtain ⟨h1, h2, h3, h4, h5⟩ := hr
  obtain ⟨r, I1, X1, b, I2, e1, e2, a2, hx, an, s0⟩ := jq_fly hI (I 0 (Int32.toNatClampNeg (x4 + (1 : Int32)))) (I 0 (Int32.toNatClampNeg (x4 + (2 : Int32)))) (I 0 (Int32.toNatClampNeg (x4 + (3 : Int32)))) X
  rcases an with ⟨v, rfl, rfl, t0⟩ | ⟨rfl, t0⟩
  · refine ⟨I2, iq_upJ J 114 0 (Int32.toInt64 b), X1, ?_, a2, hx⟩
    simp only [zL_law_802, zL_fly, if_pos h1, if_pos h2, if_pos h3, e1, s0, e2, t0, Option.bind_some, iq_sm, ir_let, zM_thrown, upJ_eq, jlgc, ↓reduceIte, not_true_eq_false, not_false_eq_true]
  · refine ⟨I2, J, X1, ?_, a2, hx⟩
    simp only [zL_law_802, zL_fly, if_pos h1, if_pos h2, if_pos h3, e1, s0, e2, t0, Option.bind_some, iq_sm, ir_let, zM_thrown, upJ_eq, jlgc, ↓reduceIte, not_true_eq_false, not_false_eq_true, show ((1 : Int32) = 0) = False from eq_false (by decide), show ((2 : Int32) = 0) = False from eq_false (by decide), show ((1 : Nat) = 0) = False from eq_false (by decide)]
theorem jl_add {l : Nat} {x4 : Int32} {I : iq_I} {J : iq_J} {X : iq_X} (hI : jInv I) (hr : jR5 x4 l) : jLw x4 X (zL_law_734 l x4 I J X) := by
  obtain ⟨h1, h2, h3, h4, h5⟩ := hr
  obtain ⟨r, I1, X1, b, I2, e1, e2, a2, hx, an, s0⟩ := jq_add hI (I 0 (Int32.toNatClampNeg (x4 + (1 : Int32)))) (I 0 (Int32.toNatClampNeg (x4 + (2 : Int32)))) X
  rcases an with ⟨v, rfl, rfl, t0⟩ | ⟨rfl, t0⟩
  · refine ⟨I2, iq_upJ J 114 0 (Int32.toInt64 b), X1, ?_, a2, hx⟩
    simp only [zL_law_734, zL_add, if_pos h1, if_pos h2, e1, s0, e2, t0, Option.bind_some, iq_sm, ir_let, zM_thrown, upJ_eq, jlgc, ↓reduceIte, not_true_eq_false, not_false_eq_true]
  · refine ⟨I2, J, X1, ?_, a2, hx⟩
    simp only [zL_law_734, zL_add, if_pos h1, if_pos h2, e1, s0, e2, t0, Option.bind_some, iq_sm, ir_let, zM_thrown, upJ_eq, jlgc, ↓reduceIte, not_true_eq_false, not_false_eq_true, show ((1 : Int32) = 0) = False from eq_false (by decide), show ((2 : Int32) = 0) = False from eq_false (by decide), show ((1 : Nat) = 0) = False from eq_false (by decide)]
theorem jl_take {l : Nat} {x4 : Int32} {I : iq_I} {J : iq_J} {X : iq_X} (hI : jInv I) (hr : jR5 x4 l) : jLw x4 X (zL_law_882 l x4 I J X) := by
  obtain ⟨h1, h2, h3, h4, h5⟩ := hr
  obtain ⟨r, I1, X1, b, I2, e1, e2, a2, hx, an, s0⟩ := jq_take hI (I 0 (Int32.toNatClampNeg (x4 + (1 : Int32)))) (I 0 (Int32.toNatClampNeg (x4 + (2 : Int32)))) X
  rcases an with ⟨v, rfl, rfl, t0⟩ | ⟨rfl, t0⟩
  · refine ⟨I2, iq_upJ J 114 0 (Int32.toInt64 b), X1, ?_, a2, hx⟩
    simp only [zL_law_882, zL_take, if_pos h1, if_pos h2, e1, s0, e2, t0, Option.bind_some, iq_sm, ir_let, zM_thrown, upJ_eq, jlgc, ↓reduceIte, not_true_eq_false, not_false_eq_true]
  · refine ⟨I2, J, X1, ?_, a2, hx⟩
    simp only [zL_law_882, zL_take, if_pos h1, if_pos h2, e1, s0, e2, t0, Option.bind_some, iq_sm, ir_let, zM_thrown, upJ_eq, jlgc, ↓reduceIte, not_true_eq_false, not_false_eq_true, show ((1 : Int32) = 0) = False from eq_false (by decide), show ((2 : Int32) = 0) = False from eq_false (by decide), show ((1 : Nat) = 0) = False from eq_false (by decide)]
theorem jl_see {l : Nat} {x4 : Int32} {I : iq_I} {J : iq_J} {X : iq_X} (hI : jInv I) (hr : jR5 x4 l) : jLw x4 X (zL_law_1504 l x4 I J X) := by
  obtain ⟨h1, h2, h3, h4, h5⟩ := hr
  obtain ⟨r, I1, X1, b, I2, e1, e2, a2, hx, an, s0⟩ := jq_see hI (I 0 (Int32.toNatClampNeg (x4 + (1 : Int32)))) (I 0 (Int32.toNatClampNeg (x4 + (2 : Int32)))) X
  rcases an with ⟨v, rfl, rfl, t0⟩ | ⟨rfl, t0⟩
  · refine ⟨I2, iq_upJ J 114 0 (Int32.toInt64 b), X1, ?_, a2, hx⟩
    simp only [zL_law_1504, zL_see, if_pos h1, if_pos h2, e1, s0, e2, t0, Option.bind_some, iq_sm, ir_let, zM_thrown, upJ_eq, jlgc, ↓reduceIte, not_true_eq_false, not_false_eq_true]
  · refine ⟨I2, J, X1, ?_, a2, hx⟩
    simp only [zL_law_1504, zL_see, if_pos h1, if_pos h2, e1, s0, e2, t0, Option.bind_some, iq_sm, ir_let, zM_thrown, upJ_eq, jlgc, ↓reduceIte, not_true_eq_false, not_false_eq_true, show ((1 : Int32) = 0) = False from eq_false (by decide), show ((2 : Int32) = 0) = False from eq_false (by decide), show ((1 : Nat) = 0) = False from eq_false (by decide)]
theorem jl_day {l : Nat} {x4 : Int32} {I : iq_I} {J : iq_J} {X : iq_X} (hI : jInv I) (hr : jR5 x4 l) : jLw x4 X (zL_law_950 l x4 I J X) := by
  obtain ⟨v, I1, I2, e1, e2, a2⟩ := jq_day hI
  refine ⟨I2, J, X, ?_, a2, Or.inl rfl⟩
  simp only [zL_law_950, e1, e2, Option.bind_some, iq_sm, ir_let, zM_thrown, upJ_eq, jlgc, ↓reduceIte, not_true_eq_false, not_false_eq_true]
theorem jl_undo {l : Nat} {x4 : Int32} {I : iq_I} {J : iq_J} {X : iq_X} (hI : jInv I) (hr : jR5 x4 l) : jLw x4 X (zL_law_963 l x4 I J X) := by
  obtain ⟨v, I1, I2, e1, e2, a2⟩ := jq_undo hI
  refine ⟨I2, J, X, ?_, a2, Or.inl rfl⟩
  simp only [zL_law_963, e1, e2, Option.bind_some, iq_sm, ir_let, zM_thrown, upJ_eq, jlgc, ↓reduceIte, not_true_eq_false, not_false_eq_true]
theorem jl_restore {l : Nat} {x4 : Int32} {I : iq_I} {J : iq_J} {X : iq_X} (hI : jInv I) (hr : jR5 x4 l) : jLw x4 X (zL_law_2511 l x4 I J X) := by
  obtain ⟨v, I1, I2, e1, e2, a2⟩ := jq_restore hI
  refine ⟨I2, J, X, ?_, a2, Or.inl rfl⟩
  simp only [zL_law_2511, e1, e2, Option.bind_some, iq_sm, ir_let, zM_thrown, upJ_eq, jlgc, ↓reduceIte, not_true_eq_false, not_false_eq_true]
theorem jl_closed {l : Nat} {x4 : Int32} {I : iq_I} {J : iq_J} {X : iq_X} (hI : jInv I) (hr : jR5 x4 l) : jLw x4 X (zL_law_1399 l x4 I J X) := by
  obtain ⟨v, I1, I2, e1, e2, a1, a2⟩ := jq_closed hI
  refine ⟨I2, J, X, ?_, jInv_ag hI a2, Or.inl rfl⟩
  simp only [zL_law_1399, e1, e2, Option.bind_some, iq_sm, ir_let, zM_thrown, upJ_eq, jlgc, ↓reduceIte, not_true_eq_false, not_false_eq_true]
theorem jl_nearest {l : Nat} {x4 : Int32} {I : iq_I} {J : iq_J} {X : iq_X} (hI : jInv I) (hr : jR5 x4 l) : jLw x4 X (zL_law_1763 l x4 I J X) := by
  obtain ⟨v, I1, I2, e1, e2, a1, a2⟩ := jq_nearest hI
  refine ⟨I2, J, X, ?_, jInv_ag hI a2, Or.inl rfl⟩
  simp only [zL_law_1763, e1, e2, Option.bind_some, iq_sm, ir_let, zM_thrown, upJ_eq, jlgc, ↓reduceIte, not_true_eq_false, not_false_eq_true]
theorem jl_fault {l : Nat} {x4 : Int32} {I : iq_I} {J : iq_J} {X : iq_X} (hI : jInv I) (hr : jR5 x4 l) : jLw x4 X (zL_law_349 l x4 I J X) := by
  obtain ⟨v, I2, e1, e2, a2⟩ := jq_fault hI
  refine ⟨I2, J, X, ?_, jInv_ag hI a2, Or.inl rfl⟩
  simp only [zL_law_349, e1, e2, Option.bind_some, iq_sm, ir_let, zM_thrown, upJ_eq, jlgc, ↓reduceIte, not_true_eq_false, not_false_eq_true]
theorem jl_forget {l : Nat} {x4 : Int32} {I : iq_I} {J : iq_J} {X : iq_X} (hI : jInv I) (hr : jR5 x4 l) : jLw x4 X (zL_law_1572 l x4 I J X) := by
  obtain ⟨I1, I2, e1, e2, a2⟩ := jq_forget hI
  refine ⟨I2, J, X, ?_, a2, Or.inl rfl⟩
  simp only [zL_law_1572, e1, e2, Option.bind_some, iq_sm, ir_let, zM_thrown, upJ_eq, jlgc, ↓reduceIte, not_true_eq_false, not_false_eq_true]
theorem jl_image {l : Nat} {x4 : Int32} {I : iq_I} {J : iq_J} {X : iq_X} (hI : jInv I) (hr : jR5 x4 l) : jLw x4 X (zL_law_2500 l x4 I J X) := by
  obtain ⟨I1, I2, e1, e2, a2⟩ := jq_image hI
  refine ⟨I2, J, X, ?_, a2, Or.inl rfl⟩
  simp only [zL_law_2500, e1, e2, Option.bind_some, iq_sm, ir_let, zM_thrown, upJ_eq, jlgc, ↓reduceIte, not_true_eq_false, not_false_eq_true]
theorem jl_feed {l : Nat} {x4 : Int32} {I : iq_I} {J : iq_J} {X : iq_X} (hI : jInv I) (hr : jR5 x4 l) : jLw x4 X (zL_law_220 l x4 I J X) := by
  obtain ⟨h1, h2, h3, h4, h5⟩ := hr
  obtain ⟨v, I1, I2, e1, e2, a2, s0⟩ := jq_feed hI (I 0 (Int32.toNatClampNeg (x4 + (1 : Int32)))) (I 0 (Int32.toNatClampNeg (x4 + (2 : Int32)))) (I 0 (Int32.toNatClampNeg (x4 + (3 : Int32)))) (I 0 (Int32.toNatClampNeg (x4 + (4 : Int32)))) (I 0 (Int32.toNatClampNeg (x4 + (5 : Int32))))
  refine ⟨I2, J, X, ?_, a2, Or.inl rfl⟩
  simp only [zL_law_220, if_pos h1, if_pos h2, if_pos h3, if_pos h4, if_pos h5, e1, s0, e2, Option.bind_some, iq_sm, ir_let, zM_thrown, upJ_eq, jlgc, ↓reduceIte, not_true_eq_false, not_false_eq_true]
theorem jl_museum {l : Nat} {x4 : Int32} {I : iq_I} {J : iq_J} {X : iq_X} (hI : jInv I) (hr : jR5 x4 l) : jLw x4 X (zL_law_293 l x4 I J X) := by
  obtain ⟨h1, h2, h3, h4, h5⟩ := hr
  obtain ⟨r, I1, X1, e1, hx, s0, q⟩ := jq_museum hI (I 0 (Int32.toNatClampNeg (x4 + (1 : Int32)))) X
  rcases r with v | k
  · obtain ⟨b, I2, J2, e2, j2, a2, an⟩ := q (iq_upJ J 114 0 (Int32.toInt64 v))
    rcases an with ⟨w, ew, eb, t0⟩ | ⟨ew, t0⟩
    · cases ew
      rw [eb] at e2
      have jj : J2 114 0 = Int32.toInt64 v := by rw [j2 _ _ (by decide), upJ_eq]
      refine ⟨I2, J2, X1, ?_, a2, hx⟩
      simp only [zL_law_293, zL_museum, if_pos h1, e1, s0, e2, t0, jj, Option.bind_some, iq_sm, ir_let, zM_thrown, upJ_eq, jlgc, ↓reduceIte, not_true_eq_false, not_false_eq_true]
    · cases ew
  · obtain ⟨b, I2, J2, e2, j2, a2, an⟩ := q J
    rcases an with ⟨w, ew, rfl, t0⟩ | ⟨ew, t0⟩
    · cases ew
    · cases ew
      refine ⟨I2, J2, X1, ?_, a2, hx⟩
      simp only [zL_law_293, zL_museum, if_pos h1, e1, s0, e2, t0, Option.bind_some, iq_sm, ir_let, zM_thrown, upJ_eq, jlgc, ↓reduceIte, not_true_eq_false, not_false_eq_true, show ((1 : Int32) = 0) = False from eq_false (by decide), show ((2 : Int32) = 0) = False from eq_false (by decide), show ((1 : Nat) = 0) = False from eq_false (by decide)]
theorem jl_ways1 {l : Nat} {x4 x y e : Int32} {I : iq_I} {J : iq_J} {X : iq_X} (hI : jInv I) : ∃ r J1 X1, zL_ways x y e I J X = some (r, J1, X1) ∧ jLw x4 X (zL_law_1216 l x4 r x y e I J1 X1) := by
  obtain ⟨r, J1, X1, b, I2, e1, e2, a2, hx, an⟩ := jq_ways hI x y e J X
  rcases an with ⟨v, rfl, rfl, t0⟩ | ⟨rfl, t0⟩ | ⟨rfl, t0⟩
  · obtain ⟨J2, e3, j3⟩ := e2 (iq_upJ J1 114 0 b)
    rw [upJ_eq] at j3
    refine ⟨0, iq_upJ J1 114 0 b, X1, ?_, I2, J2, X1, ?_, jInv_ag hI a2, hx⟩
    · simp only [zL_ways, e1, Option.bind_some, iq_sm, ir_let, zM_thrown, upJ_eq, jlgc, ↓reduceIte, not_true_eq_false, not_false_eq_true]
    · simp only [zL_law_1216, e3, t0, j3, Option.bind_some, iq_sm, ir_let, zM_thrown, upJ_eq, jlgc, ↓reduceIte, not_true_eq_false, not_false_eq_true]
  · obtain ⟨J2, e3, j3⟩ := e2 J1
    refine ⟨1, J1, X1, ?_, I2, J2, X1, ?_, jInv_ag hI a2, hx⟩
    · simp only [zL_ways, e1, Option.bind_some, iq_sm, ir_let, zM_thrown, upJ_eq, jlgc, ↓reduceIte, not_true_eq_false, not_false_eq_true]
    · simp only [zL_law_1216, e3, t0, Option.bind_some, iq_sm, ir_let, zM_thrown, upJ_eq, jlgc, ↓reduceIte, not_true_eq_false, not_false_eq_true, show ((1 : Int32) = 0) = False from eq_false (by decide), show ((2 : Int32) = 0) = False from eq_false (by decide), show ((1 : Nat) = 0) = False from eq_false (by decide)]
  · obtain ⟨J2, e3, j3⟩ := e2 J1
    refine ⟨2, J1, X1, ?_, I2, J2, X1, ?_, jInv_ag hI a2, hx⟩
    · simp only [zL_ways, e1, Option.bind_some, iq_sm, ir_let, zM_thrown, upJ_eq, jlgc, ↓reduceIte, not_true_eq_false, not_false_eq_true, show ((1 : Int32) = 0) = False from eq_false (by decide), show ((2 : Int32) = 0) = False from eq_false (by decide), show ((1 : Nat) = 0) = False from eq_false (by decide)]
    · simp only [zL_law_1216, e3, t0, Option.bind_some, iq_sm, ir_let, zM_thrown, upJ_eq, jlgc, ↓reduceIte, not_true_eq_false, not_false_eq_true, show ((1 : Int32) = 0) = False from eq_false (by decide), show ((2 : Int32) = 0) = False from eq_false (by decide), show ((1 : Nat) = 0) = False from eq_false (by decide)]
theorem jl_ways {l : Nat} {x4 : Int32} {I : iq_I} {J : iq_J} {X : iq_X} (hI : jInv I) (hr : jR5 x4 l) : jLw x4 X (zL_law_1156 l x4 I J X) := by
  obtain ⟨h1, h2, h3, h4, h5⟩ := hr
  by_cases q : I 0 (Int32.toNatClampNeg (x4 + (3 : Int32))) = 0
  · obtain ⟨r, J1, X1, e1, e2⟩ := jl_ways1 (l := l) (x4 := x4) (x := I 0 (Int32.toNatClampNeg (x4 + (1 : Int32)))) (y := I 0 (Int32.toNatClampNeg (x4 + (2 : Int32)))) (e := 0) (J := J) (X := X) hI
    simp only [zL_law_1156, zL_law_1183, if_pos h1, if_pos h2, if_pos h3, q, e1, Option.bind_some, ↓reduceIte]
    exact e2
  · obtain ⟨r, J1, X1, e1, e2⟩ := jl_ways1 (l := l) (x4 := x4) (x := I 0 (Int32.toNatClampNeg (x4 + (1 : Int32)))) (y := I 0 (Int32.toNatClampNeg (x4 + (2 : Int32)))) (e := 1) (J := J) (X := X) hI
    simp only [zL_law_1156, zL_law_1183, if_pos h1, if_pos h2, if_pos h3, if_neg q, e1, Option.bind_some]
    exact e2
