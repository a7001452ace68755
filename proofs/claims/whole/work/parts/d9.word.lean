/-! ===== lines: word ===== -/
/-- is the token at a .. z the told word k -/
def smW (m : jMu) (f : Nat → Nat) (a z k : Nat) : Bool := decide (mL m k = z - a) && decide (∀ i, i < mL m k → mT m k i = jn (f (a + i) - 96))
theorem smW_iff {m : jMu} {f : Nat → Nat} {a z k : Nat} : smW m f a z k = true ↔ mL m k = z - a ∧ ∀ i, i < mL m k → mT m k i = jn (f (a + i) - 96) := by
  unfold smW
  rw [Bool.and_eq_true, decide_eq_true_iff, decide_eq_true_iff]
theorem smW_f {m : jMu} {f : Nat → Nat} {a z k : Nat} (h : ¬ (mL m k = z - a ∧ ∀ i, i < mL m k → mT m k i = jn (f (a + i) - 96))) : smW m f a z k = false := by
  cases e : smW m f a z k with
  | false => rfl
  | true => exact absurd (smW_iff.mp e) h
theorem tw_le {f : Nat → Nat} {n p : Nat} (hp : p ≤ n) (t : tt f n p = 1) : ∀ j, j < tz f n p - ta f n p → 97 ≤ f (ta f n p + j) ∧ f (ta f n p + j) ≤ 122 := by
  have a := tt_n (f := f) (n := n) (p := p) (by omega)
  have t' := t
  unfold tt at t'
  rw [if_pos a] at t'
  by_cases l : isLe (f (ta f n p)) = true
  · have ez : tz f n p = skp (fun i => isLe (f i)) (n - ta f n p) (ta f n p) := by unfold tz; rw [if_pos a, if_pos l]
    obtain ⟨s1, s2, s3, s4⟩ := skp_sp (fun i => isLe (f i)) (n - ta f n p) (ta f n p)
    intro j hj
    have := s3 (ta f n p + j) (by omega) (by omega)
    unfold isLe at this
    simp at this
    exact this
  · rw [if_neg l] at t'
    split at t'
    · cases t'
    · split at t' <;> cases t'
theorem jc_letterNumber {I : iq_I} {f : Nat → Nat} {n p : Nat} (h : CL I f n p) (t : tt f n p = 1) {i : Nat} (hi : i < tz f n p - ta f n p) : zT_letterNumber (jn i) I = some (jn (f (ta f n p + i) - 96)) := by
  have hn := h.1.1
  have tz1 := tz_sp (f := f) h.2.1
  have l := tw_le h.2.1 t i hi
  unfold zT_letterNumber
  rw [if_neg (by rw [jl0, jn_lt (by omega) (by omega)]; omega), h.2.2.2.1, h.2.2.2.2.2, jn_sub tz1.1, if_pos (by rw [jn_lt (by omega) (by omega)]; exact hi), jn_add, if_pos (by rw [jn_in (by omega)]; omega), jn_clamp (by omega), (h.1.2 _ (by omega)).2, jl97, jn_sub (by omega), show jn (f (ta f n p + i) - 97) + (1 : Int32) = jn (f (ta f n p + i) - 97 + 1) from jn_add _ 1, show f (ta f n p + i) - 97 + 1 = f (ta f n p + i) - 96 by omega]
theorem jc_isRowOf {I : iq_I} {f : Nat → Nat} {n p : Nat} {m : jMu} {C : Nat → Bool} {g : jGa} {sz k : Nat} (hm : mOk m) (h : DC I f n p m C g sz) (t : tt f n p = 1) (hk : k < mW m) : zR_isRowOf (jn k) I = some (jB (smW m f (ta f n p) (tz f n p) k)) := by
  obtain ⟨hC, hU, -⟩ := h
  have hn := hC.1.1
  have h14 := hm.2.1
  have tz1 := tz_sp (f := f) hC.2.1
  have l9 := (hm.2.2.1 k hk).1
  have e1 : zU_lengthOf_38 (jn k) I = some (jn (mL m k)) := by
    unfold zU_lengthOf_38
    rw [if_neg (by rw [jl0, jn_lt (by omega) (by omega)]; omega), hU.2.2.1, if_pos (by rw [jn_lt (by omega) (by omega)]; exact hk), if_pos (by rw [jn_in (by omega)]; omega), jn_clamp (by omega), hU.2.2.2.2.2.2.1 k hk]
  have e2 : zT_size I = some (jn (tz f n p - ta f n p)) := by
    unfold zT_size
    rw [hC.2.2.2.1, hC.2.2.2.2.2, jn_sub tz1.1]
  unfold zR_isRowOf
  rw [e1, Option.bind_some, e2, Option.bind_some]
  by_cases le : mL m k = tz f n p - ta f n p
  · rw [if_pos (by rw [le])]
    have at1 : ∀ i, i < mL m k → zU_letterAt_38 (jn k) (jn i) I = some (mT m k i) := fun i hi => by
      unfold zU_letterAt_38
      rw [if_neg (by rw [jl0, jn_lt (by omega) (by omega)]; omega), if_neg (by rw [jl14, jn_le (by omega) (by omega)]; omega), if_neg (by rw [jl0, jn_lt (by omega) (by omega)]; omega), if_pos (by rw [jl9, jn_lt (by omega) (by omega)]; omega), jl9, jn_mul, jn_add, if_pos (by rw [jn_in (by omega)]; omega), jn_clamp (by omega), hU.2.2.2.2.2.2.2.2.2.1 k i hk hi]
    have st : ∀ i, i < mL m k → mT m k i = jn (f (ta f n p + i) - 96) → zR_isRowOf_l24_b (jn k) (jn (mL m k)) I (jn i) = some (.inl (jn (i + 1))) := fun i hi he => by
      unfold zR_isRowOf_l24_b
      rw [if_neg (by rw [jn_le (by omega) (by omega)]; omega), at1 i hi, Option.bind_some, jc_letterNumber hC t (by omega), Option.bind_some, if_pos he, show jn i + (1 : Int32) = jn (i + 1) from jn_add _ 1]
    rcases gFst_sp (P := fun i => decide (¬ mT m k i = jn (f (ta f n p + i) - 96))) (c := mL m k) (i := 0) with ⟨g1, g2⟩ | ⟨e, g1, _, g3, g4, g5⟩
    · have al : ∀ i, i < mL m k → mT m k i = jn (f (ta f n p + i) - 96) := fun i hi => by
        have := of_decide_eq_false (g2 i (by omega) (by omega))
        exact Classical.byContradiction this
      have key : zR_isRowOf_l24 (jn k) (jn (mL m k)) I ir_F (jn 0) = some (.inl ()) := by
        refine js_seq (fun i => jn i) (mL m k) _ (fun i hi => st i hi (al i hi)) ?_ (mL m k) 0 ir_F (by omega) (by unfold ir_F; omega)
        unfold zR_isRowOf_l24_b
        rw [if_pos (by rw [jn_le (by omega) (by omega)]; omega)]
      rw [show (0 : Int32) = jn 0 from rfl, key, Option.bind_some, smW_iff.mpr ⟨le, al⟩]
      rfl
    · have key : zR_isRowOf_l24 (jn k) (jn (mL m k)) I ir_F (jn 0) = some (.inr 0) := by
        refine js_seq (fun i => jn i) e _ (fun i hi => st i (by omega) (by have := of_decide_eq_false (g5 i (by omega) hi); exact Classical.byContradiction this)) ?_ e 0 ir_F (by omega) (by unfold ir_F; omega)
        unfold zR_isRowOf_l24_b
        rw [if_neg (by rw [jn_le (by omega) (by omega)]; omega), at1 e (by omega), Option.bind_some, jc_letterNumber hC t (by omega), Option.bind_some, if_neg (of_decide_eq_true g4)]
      rw [show (0 : Int32) = jn 0 from rfl, key, Option.bind_some, smW_f (fun q => of_decide_eq_true g4 (q.2 e (by omega)))]
      rfl
  · rw [if_neg (by rw [jn_inj (by omega) (by omega)]; exact le), smW_f (fun q => le q.1)]
    rfl
def tdW (m : jMu) (f : Nat → Nat) (n p : Nat) : Option Nat := gFst (fun k => smW m f (ta f n p) (tz f n p) k) (mW m) 0
theorem jc_isToldRow {I : iq_I} {f : Nat → Nat} {n p : Nat} {m : jMu} {C : Nat → Bool} {g : jGa} {sz : Nat} (hm : mOk m) (h : DC I f n p m C g sz) (t : tt f n p = 1) : zR_isToldRow I = some (jB (tdW m f n p).isSome) := by
  have h14 := hm.2.1
  have st : ∀ i, i < mW m → smW m f (ta f n p) (tz f n p) i = false → zR_isToldRow_l2_b I (jn i) = some (.inl (jn (i + 1))) := fun i hi he => by
    unfold zR_isToldRow_l2_b
    rw [h.2.1.2.2.1, if_neg (by rw [jn_le (by omega) (by omega)]; omega), jc_isRowOf hm h t hi, he, Option.bind_some, if_pos (show jB false = 0 from rfl), show jn i + (1 : Int32) = jn (i + 1) from jn_add _ 1]
  unfold tdW zR_isToldRow
  rcases gFst_sp (P := fun k => smW m f (ta f n p) (tz f n p) k) (c := mW m) (i := 0) with ⟨g1, g2⟩ | ⟨e, g1, _, g3, g4, g5⟩
  · have key : zR_isToldRow_l2 I ir_F (jn 0) = some (.inl ()) := by
      refine js_seq (fun i => jn i) (mW m) _ (fun i hi => st i hi (g2 i (by omega) (by omega))) ?_ (mW m) 0 ir_F (by omega) (by unfold ir_F; omega)
      unfold zR_isToldRow_l2_b
      rw [h.2.1.2.2.1, if_pos (by rw [jn_le (by omega) (by omega)]; omega)]
    rw [g1, show (0 : Int32) = jn 0 from rfl, key, Option.bind_some]
    rfl
  · have key : zR_isToldRow_l2 I ir_F (jn 0) = some (.inr 1) := by
      refine js_seq (fun i => jn i) e _ (fun i hi => st i (by omega) (g5 i (by omega) hi)) ?_ e 0 ir_F (by omega) (by unfold ir_F; omega)
      unfold zR_isToldRow_l2_b
      rw [h.2.1.2.2.1, if_neg (by rw [jn_le (by omega) (by omega)]; omega), jc_isRowOf hm h t (by omega), g4, Option.bind_some, if_neg (by decide)]
    rw [g1, show (0 : Int32) = jn 0 from rfl, key, Option.bind_some]
    rfl
theorem jm_isRowOf {I : iq_I} {J : iq_J} {f : Nat → Nat} {n p : Nat} {m : jMu} {C : Nat → Bool} {g : jGa} {tp k : Nat} (hm : mOk m) (hM : ML I J f n p) (hN : dN I m C tp) (t : tt f n p = 1) (hk : k < mW m) : zM_isRowOf (jn k) I = some (jB (smW m f (ta f n p) (tz f n p) k)) := by
  have hn := hM.1.1
  have h14 := hm.2.1
  have tz1 := tz_sp (f := f) hM.2.1
  have l9 := (hm.2.2.1 k hk).1
  unfold zM_isRowOf
  rw [if_pos (by rw [jn_in (by omega)]; omega), jn_clamp (by omega), hN.2.2.2.2.2.1 k hk, hM.2.2.2.2.2.2.1]
  by_cases le : mL m k = tz f n p - ta f n p
  · rw [if_pos (by rw [le])]
    have by1 : ∀ i, i < mL m k → zM_byteAt (I 76 24 + jn i) I = some (jn (f (ta f n p + i))) ∧ jn (f (ta f n p + i)) - (96 : Int32) = jn (f (ta f n p + i) - 96) := fun i hi => by
      have l := tw_le hM.2.1 t i (by omega)
      rw [hM.2.2.2.2.2.1, jn_add, jm_byteAt hM.1 hM.2.2.1 (by omega), if_pos (by omega), jl96, jn_sub (by omega)]
      exact ⟨rfl, rfl⟩
    have ix : ∀ i, i < mL m k → iq_in ((9 : Int32) * jn k + jn i) 126 ∧ ((9 : Int32) * jn k + jn i).toNatClampNeg = 9 * k + i := fun i hi => by
      rw [jl9, jn_mul, jn_add]
      exact ⟨by rw [jn_in (by omega)]; omega, jn_clamp (by omega)⟩
    have st : ∀ i, i < mL m k → mT m k i = jn (f (ta f n p + i) - 96) → zM_isRowOf_l17_b (jn k) I (jn i) = some (.inl (jn (i + 1))) := fun i hi he => by
      unfold zM_isRowOf_l17_b
      rw [hM.2.2.2.2.2.2.1, if_neg (by rw [jn_le (by omega) (by omega)]; omega), if_pos (ix i hi).1, (ix i hi).2, (by1 i hi).1, Option.bind_some, hN.2.2.2.2.2.2.2.1 k i hk hi, (by1 i hi).2, if_pos he, show jn i + (1 : Int32) = jn (i + 1) from jn_add _ 1]
    rcases gFst_sp (P := fun i => decide (¬ mT m k i = jn (f (ta f n p + i) - 96))) (c := mL m k) (i := 0) with ⟨g1, g2⟩ | ⟨e, g1, _, g3, g4, g5⟩
    · have al : ∀ i, i < mL m k → mT m k i = jn (f (ta f n p + i) - 96) := fun i hi => by
        have := of_decide_eq_false (g2 i (by omega) (by omega))
        exact Classical.byContradiction this
      have key : zM_isRowOf_l17 (jn k) I ir_F (jn 0) = some (.inl ()) := by
        refine js_seq (fun i => jn i) (mL m k) _ (fun i hi => st i hi (al i hi)) ?_ (mL m k) 0 ir_F (by omega) (by unfold ir_F; omega)
        unfold zM_isRowOf_l17_b
        rw [hM.2.2.2.2.2.2.1, if_pos (by rw [jn_le (by omega) (by omega)]; omega)]
      rw [show (0 : Int32) = jn 0 from rfl, key, Option.bind_some, smW_iff.mpr ⟨le, al⟩]
      rfl
    · have key : zM_isRowOf_l17 (jn k) I ir_F (jn 0) = some (.inr 0) := by
        refine js_seq (fun i => jn i) e _ (fun i hi => st i (by omega) (by have := of_decide_eq_false (g5 i (by omega) hi); exact Classical.byContradiction this)) ?_ e 0 ir_F (by omega) (by unfold ir_F; omega)
        unfold zM_isRowOf_l17_b
        rw [hM.2.2.2.2.2.2.1, if_neg (by rw [jn_le (by omega) (by omega)]; omega), if_pos (ix e (by omega)).1, (ix e (by omega)).2, (by1 e (by omega)).1, Option.bind_some, hN.2.2.2.2.2.2.2.1 k e hk (by omega), (by1 e (by omega)).2, if_neg (of_decide_eq_true g4)]
      rw [show (0 : Int32) = jn 0 from rfl, key, Option.bind_some, smW_f (fun q => of_decide_eq_true g4 (q.2 e (by omega)))]
      rfl
  · rw [if_neg (by rw [jn_inj (by omega) (by omega)]; exact le), smW_f (fun q => le q.1)]
    rfl
/-- the reference looks for the word among those told -/
theorem jm_toldRow {I : iq_I} {J J' : iq_J} {f : Nat → Nat} {n p : Nat} {m : jMu} {C : Nat → Bool} {g : jGa} {tp : Nat} (hm : mOk m) (h : DM I J f n p m C g tp) (t : tt f n p = 1) : (tdW m f n p = none → zM_readsWord_l63 (jn (mW m)) J' ir_F ((0 : Int32), I) = some I) ∧ (¬ tdW m f n p = none → ∃ I2, zM_readsWord_l63 (jn (mW m)) J' ir_F ((0 : Int32), I) = some I2 ∧ (¬ I2 76 18 = 0) ∧ Flt 4 (ta f n p) I J (I2, J)) := by
  have h14 := hm.2.1
  have st : ∀ i, i < mW m → smW m f (ta f n p) (tz f n p) i = false → zM_readsWord_l63_b (jn (mW m)) J' (jn i) I = some (.inl (jn (i + 1), I)) := fun i hi he => by
    unfold zM_readsWord_l63_b
    rw [if_neg (by rw [jn_le (by omega) (by omega)]; omega), jm_good h.2.1, Option.bind_some, if_neg (by decide), jm_isRowOf (g := g) hm h.1 h.2.2.1 t hi, he, Option.bind_some, if_pos (show jB false = 0 from rfl), show jn i + (1 : Int32) = jn (i + 1) from jn_add _ 1]
  unfold tdW
  rcases gFst_sp (P := fun k => smW m f (ta f n p) (tz f n p) k) (c := mW m) (i := 0) with ⟨g1, g2⟩ | ⟨e, g1, _, g3, g4, g5⟩
  · refine ⟨fun _ => ?_, fun h => absurd g1 h⟩
    refine js_seq (body := fun v => zM_readsWord_l63_b (jn (mW m)) J' v.1 v.2) (fun i => (jn i, I)) (mW m) _ (fun i hi => st i hi (g2 i (by omega) (by omega))) ?_ (mW m) 0 ir_F (by omega) (by unfold ir_F; omega)
    dsimp only
    unfold zM_readsWord_l63_b
    rw [if_pos (by rw [jn_le (by omega) (by omega)]; omega)]
  · refine ⟨(fun h => by rw [g1] at h; cases h), fun _ => ?_⟩
    obtain ⟨I2, e2, b2, fl, -⟩ := jm_fl (J := J) h.1 h.2.1 (kd := 4) (by decide) (by decide)
    have e2 : zM_wrong (4 : Int32) I = some I2 := e2
    refine ⟨I2, ?_, b2, fl⟩
    have := js_seq (body := fun v => zM_readsWord_l63_b (jn (mW m)) J' v.1 v.2) (fun i => if i ≤ e then (jn i, I) else (jn i, I2)) (e + 1) I2 (fun i hi => ?_) ?_ (e + 1) 0 ir_F (by omega) (by unfold ir_F; omega)
    · rw [if_pos (Nat.zero_le _)] at this
      exact this
    · rw [if_pos (by omega)]
      by_cases q : i = e
      · subst q
        rw [if_neg (by omega)]
        dsimp only
        unfold zM_readsWord_l63_b
        rw [if_neg (by rw [jn_le (by omega) (by omega)]; omega), jm_good h.2.1, Option.bind_some, if_neg (by decide), jm_isRowOf (g := g) hm h.1 h.2.2.1 t (by omega), g4, Option.bind_some, if_neg (by decide), e2, Option.bind_some, show jn i + (1 : Int32) = jn (i + 1) from jn_add _ 1]
      · rw [if_pos (by omega)]
        exact st i (by omega) (g5 i (by omega) (by omega))
    · rw [if_neg (by omega)]
      dsimp only
      unfold zM_readsWord_l63_b
      by_cases q : mW m ≤ e + 1
      · rw [if_pos (by rw [jn_le (by omega) (by omega)]; exact q)]
      · rw [if_neg (by rw [jn_le (by omega) (by omega)]; exact q), jm_bad b2, Option.bind_some, if_pos rfl]
