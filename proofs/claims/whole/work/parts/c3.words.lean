/-! ===== known words, signs, numbers ===== -/
def wl : Nat → List Nat
  | 0 => [107, 105, 110, 100]
  | 1 => [108, 101, 116, 116, 101, 114, 115]
  | 2 => [119, 111, 114, 100]
  | 3 => [100, 97, 121]
  | 4 => [108, 111, 110, 103]
  | 5 => [115, 97, 109, 101]
  | 6 => [114, 104, 121, 109, 101, 115]
  | 7 => [115, 116, 97, 116, 101]
  | 8 => [101, 110, 100]
  | 9 => [97, 114, 99]
  | 10 => [99, 111, 115, 116]
  | 11 => [115, 97, 121, 105, 110, 103]
  | 12 => [104, 97, 98, 105, 116]
  | 13 => [108, 97, 119]
  | 14 => [97, 110, 100]
  | 15 => [111, 114]
  | 16 => [110, 111, 116]
  | _ => []
def wEq (f : Nat → Nat) (a z k : Nat) : Bool := decide (z - a = (wl k).length) && decide (∀ i, i < (wl k).length → f (a + i) = (wl k).getD i 0)
/-- the known word that the token at p is -/
def kw (f : Nat → Nat) (n p : Nat) : Option Nat := if tt f n p = 1 then gFst (fun k => wEq f (ta f n p) (tz f n p) k) 17 0 else none
theorem wl_d : ∀ k k' : Fin 17, k.val ≠ k'.val → (wl k.val).length = (wl k'.val).length → ∃ i, i < (wl k.val).length ∧ (wl k.val).getD i 0 ≠ (wl k'.val).getD i 0 := by decide +kernel
theorem wl_l : ∀ k : Fin 17, (wl k.val).length ≤ 7 ∧ 2 ≤ (wl k.val).length ∧ ∀ i, i < (wl k.val).length → 97 ≤ (wl k.val).getD i 0 ∧ (wl k.val).getD i 0 ≤ 122 := by decide +kernel
theorem wl_b {k i : Nat} (hk : k < 17) (hi : i < (wl k).length) : (wl k).getD i 0 < 256 := Nat.lt_of_le_of_lt ((wl_l ⟨k, hk⟩).2.2 i hi).2 (by decide)
theorem wEq_iff {f : Nat → Nat} {a z k : Nat} : wEq f a z k = true ↔ z - a = (wl k).length ∧ ∀ i, i < (wl k).length → f (a + i) = (wl k).getD i 0 := by
  unfold wEq
  rw [Bool.and_eq_true, decide_eq_true_iff, decide_eq_true_iff]
theorem wEq_u {f : Nat → Nat} {a z k k' : Nat} (hk : k < 17) (hk' : k' < 17) (h : wEq f a z k = true) (h' : wEq f a z k' = true) : k = k' := by
  apply Classical.byContradiction
  intro hne
  obtain ⟨h1, h2⟩ := wEq_iff.mp h
  obtain ⟨h3, h4⟩ := wEq_iff.mp h'
  obtain ⟨i, hi, hd⟩ := wl_d ⟨k, hk⟩ ⟨k', hk'⟩ hne (by show (wl k).length = (wl k').length; omega)
  have hi : i < (wl k).length := hi
  exact hd (by show (wl k).getD i 0 = (wl k').getD i 0; rw [← h2 i hi, ← h4 i (by omega)])
theorem kw_iff {f : Nat → Nat} {n p k : Nat} (hk : k < 17) : kw f n p = some k ↔ tt f n p = 1 ∧ wEq f (ta f n p) (tz f n p) k = true := by
  unfold kw
  by_cases t : tt f n p = 1
  · rw [if_pos t]
    rcases gFst_sp (P := fun k => wEq f (ta f n p) (tz f n p) k) (c := 17) (i := 0) with ⟨h1, h2⟩ | ⟨e, h1, _, h3, h4, h5⟩
    · rw [h1]
      exact ⟨(fun h => by cases h), fun h => by have := h2 k (by omega) (by omega); rw [h.2] at this; cases this⟩
    · rw [h1]
      constructor
      · intro h; cases h; exact ⟨t, h4⟩
      · intro h; rw [wEq_u (by omega) hk h4 h.2]
  · rw [if_neg t]
    exact ⟨(fun h => by cases h), fun h => absurd h.1 t⟩
theorem kw_lt {f : Nat → Nat} {n p k : Nat} (h : kw f n p = some k) : k < 17 ∧ tt f n p = 1 := by
  unfold kw at h
  by_cases t : tt f n p = 1
  · rw [if_pos t] at h
    rcases gFst_sp (P := fun k => wEq f (ta f n p) (tz f n p) k) (c := 17) (i := 0) with ⟨h1, h2⟩ | ⟨e, h1, _, h3, h4, h5⟩
    · rw [h1] at h; cases h
    · rw [h1] at h; cases h; exact ⟨by omega, t⟩
  · rw [if_neg t] at h; cases h
theorem jc_ch_5010 (I : iq_I) : ∀ i, i < 4 → zS_J0_charAt_5068e_5010 (jn i) I = some (jn ((wl 0).getD i 0)) := fun i hi => by
  rcases (show i = 0 ∨ i = 1 ∨ i = 2 ∨ i = 3 by omega) with rfl | rfl | rfl | rfl <;> rfl
theorem jc_isW_5010 {I : iq_I} {f : Nat → Nat} {n p : Nat} (h : CL I f n p) : zT_isWord_62_5010 I = some (jB (decide (kw f n p = some 0))) := by
  obtain ⟨⟨hn, hx⟩, hp, h0, h1, h3, h4⟩ := h
  have tz1 := tz_sp (f := f) hp
  have t4 := tt_le (f := f) (n := n) (p := p)
  have lh : zS_J0_length_8abf5_5010 I = some (4 : Int32) := rfl
  unfold zT_isWord_62_5010
  rw [h0, h1, h4]
  by_cases t : tt f n p = 1
  · rw [if_neg (by rw [t]; exact fun h => h rfl), lh, Option.bind_some, jn_sub tz1.1]
    by_cases l : tz f n p - ta f n p = 4
    · rw [if_pos (by rw [l]; rfl)]
      have ft : ∀ i, i < 4 → iq_in (jn (ta f n p) + jn i) 700 ∧ (jn (ta f n p) + jn i).toNatClampNeg = ta f n p + i ∧ I 2 (ta f n p + i) = jn (f (ta f n p + i)) ∧ f (ta f n p + i) < 256 := fun i hi => by
        rw [jn_add]
        exact ⟨by rw [jn_in (by omega)]; omega, jn_clamp (by omega), (hx _ (by omega)).2, (hx _ (by omega)).1⟩
      have wb : ∀ i, i < 4 → (wl 0).getD i 0 < 256 := fun i hi => wl_b (k := 0) (by decide) hi
      have st : ∀ i, i < 4 → f (ta f n p + i) = (wl 0).getD i 0 → zT_isWord_62_5010_l28_b I (jn i) = some (.inl (jn (i + 1))) := fun i hi he => by
        obtain ⟨q1, q2, q3, q4⟩ := ft i hi
        unfold zT_isWord_62_5010_l28_b
        rw [lh, Option.bind_some, if_neg (by rw [show (4 : Int32) = jn 4 from rfl, jn_le (by omega) (by omega)]; omega), h1, if_pos q1, jc_ch_5010 I i hi, Option.bind_some, q2, q3, if_pos (by rw [he]), show jn i + (1 : Int32) = jn (i + 1) from jn_add i 1]
      rcases gFst_sp (P := fun i => decide (¬ f (ta f n p + i) = (wl 0).getD i 0)) (c := 4) (i := 0) with ⟨g1, g2⟩ | ⟨e, g1, _, g3, g4, g5⟩
      · have key : zT_isWord_62_5010_l28 I ir_F (jn 0) = some (.inl ()) := js_seq (fun i => jn i) 4 _ (fun i hi => st i hi (by have := of_decide_eq_false (g2 i (by omega) (by omega)); exact Classical.byContradiction this)) rfl 4 0 ir_F (by omega) (by unfold ir_F; omega)
        rw [show (0 : Int32) = jn 0 from rfl, key, Option.bind_some, decide_eq_true ((kw_iff (k := 0) (by decide)).mpr ⟨t, wEq_iff.mpr ⟨l, fun i hi => by have hi : i < 4 := hi; have := of_decide_eq_false (g2 i (by omega) (by omega)); exact Classical.byContradiction this⟩⟩)]
        rfl
      · have key : zT_isWord_62_5010_l28 I ir_F (jn 0) = some (.inr 0) := by
          refine js_seq (fun i => jn i) e _ (fun i hi => st i (by omega) (by have := of_decide_eq_false (g5 i (by omega) hi); exact Classical.byContradiction this)) ?_ e 0 ir_F (by omega) (by unfold ir_F; omega)
          obtain ⟨q1, q2, q3, q4⟩ := ft e (by omega)
          have we := wb e (by omega)
          unfold zT_isWord_62_5010_l28_b
          rw [lh, Option.bind_some, if_neg (by rw [show (4 : Int32) = jn 4 from rfl, jn_le (by omega) (by omega)]; omega), h1, if_pos q1, jc_ch_5010 I e (by omega), Option.bind_some, q2, q3, if_neg (by rw [jn_inj (by omega) (by omega)]; exact of_decide_eq_true g4)]
        rw [show (0 : Int32) = jn 0 from rfl, key, Option.bind_some, decide_eq_false (fun h => of_decide_eq_true g4 ((wEq_iff.mp ((kw_iff (k := 0) (by decide)).mp h).2).2 e (by show e < 4; omega)))]
        rfl
    · rw [if_neg (by rw [show (4 : Int32) = jn 4 from rfl, jn_inj (by omega) (by omega)]; exact l), decide_eq_false (fun h => l (wEq_iff.mp ((kw_iff (k := 0) (by decide)).mp h).2).1)]
      rfl
  · rw [if_pos (by rw [jl1, jn_inj (by omega) (by omega)]; exact t), decide_eq_false (fun h => t ((kw_iff (k := 0) (by decide)).mp h).1)]
    rfl
theorem jc_ch_5011 (I : iq_I) : ∀ i, i < 7 → zS_J0_charAt_5068e_5011 (jn i) I = some (jn ((wl 1).getD i 0)) := fun i hi => by
  rcases (show i = 0 ∨ i = 1 ∨ i = 2 ∨ i = 3 ∨ i = 4 ∨ i = 5 ∨ i = 6 by omega) with rfl | rfl | rfl | rfl | rfl | rfl | rfl <;> rfl
theorem jc_isW_5011 {I : iq_I} {f : Nat → Nat} {n p : Nat} (h : CL I f n p) : zT_isWord_62_5011 I = some (jB (decide (kw f n p = some 1))) := by
  obtain ⟨⟨hn, hx⟩, hp, h0, h1, h3, h4⟩ := h
  have tz1 := tz_sp (f := f) hp
  have t4 := tt_le (f := f) (n := n) (p := p)
  have lh : zS_J0_length_8abf5_5011 I = some (7 : Int32) := rfl
  unfold zT_isWord_62_5011
  rw [h0, h1, h4]
  by_cases t : tt f n p = 1
  · rw [if_neg (by rw [t]; exact fun h => h rfl), lh, Option.bind_some, jn_sub tz1.1]
    by_cases l : tz f n p - ta f n p = 7
    · rw [if_pos (by rw [l]; rfl)]
      have ft : ∀ i, i < 7 → iq_in (jn (ta f n p) + jn i) 700 ∧ (jn (ta f n p) + jn i).toNatClampNeg = ta f n p + i ∧ I 2 (ta f n p + i) = jn (f (ta f n p + i)) ∧ f (ta f n p + i) < 256 := fun i hi => by
        rw [jn_add]
        exact ⟨by rw [jn_in (by omega)]; omega, jn_clamp (by omega), (hx _ (by omega)).2, (hx _ (by omega)).1⟩
      have wb : ∀ i, i < 7 → (wl 1).getD i 0 < 256 := fun i hi => wl_b (k := 1) (by decide) hi
      have st : ∀ i, i < 7 → f (ta f n p + i) = (wl 1).getD i 0 → zT_isWord_62_5011_l28_b I (jn i) = some (.inl (jn (i + 1))) := fun i hi he => by
        obtain ⟨q1, q2, q3, q4⟩ := ft i hi
        unfold zT_isWord_62_5011_l28_b
        rw [lh, Option.bind_some, if_neg (by rw [show (7 : Int32) = jn 7 from rfl, jn_le (by omega) (by omega)]; omega), h1, if_pos q1, jc_ch_5011 I i hi, Option.bind_some, q2, q3, if_pos (by rw [he]), show jn i + (1 : Int32) = jn (i + 1) from jn_add i 1]
      rcases gFst_sp (P := fun i => decide (¬ f (ta f n p + i) = (wl 1).getD i 0)) (c := 7) (i := 0) with ⟨g1, g2⟩ | ⟨e, g1, _, g3, g4, g5⟩
      · have key : zT_isWord_62_5011_l28 I ir_F (jn 0) = some (.inl ()) := js_seq (fun i => jn i) 7 _ (fun i hi => st i hi (by have := of_decide_eq_false (g2 i (by omega) (by omega)); exact Classical.byContradiction this)) rfl 7 0 ir_F (by omega) (by unfold ir_F; omega)
        rw [show (0 : Int32) = jn 0 from rfl, key, Option.bind_some, decide_eq_true ((kw_iff (k := 1) (by decide)).mpr ⟨t, wEq_iff.mpr ⟨l, fun i hi => by have hi : i < 7 := hi; have := of_decide_eq_false (g2 i (by omega) (by omega)); exact Classical.byContradiction this⟩⟩)]
        rfl
      · have key : zT_isWord_62_5011_l28 I ir_F (jn 0) = some (.inr 0) := by
          refine js_seq (fun i => jn i) e _ (fun i hi => st i (by omega) (by have := of_decide_eq_false (g5 i (by omega) hi); exact Classical.byContradiction this)) ?_ e 0 ir_F (by omega) (by unfold ir_F; omega)
          obtain ⟨q1, q2, q3, q4⟩ := ft e (by omega)
          have we := wb e (by omega)
          unfold zT_isWord_62_5011_l28_b
          rw [lh, Option.bind_some, if_neg (by rw [show (7 : Int32) = jn 7 from rfl, jn_le (by omega) (by omega)]; omega), h1, if_pos q1, jc_ch_5011 I e (by omega), Option.bind_some, q2, q3, if_neg (by rw [jn_inj (by omega) (by omega)]; exact of_decide_eq_true g4)]
        rw [show (0 : Int32) = jn 0 from rfl, key, Option.bind_some, decide_eq_false (fun h => of_decide_eq_true g4 ((wEq_iff.mp ((kw_iff (k := 1) (by decide)).mp h).2).2 e (by show e < 7; omega)))]
        rfl
    · rw [if_neg (by rw [show (7 : Int32) = jn 7 from rfl, jn_inj (by omega) (by omega)]; exact l), decide_eq_false (fun h => l (wEq_iff.mp ((kw_iff (k := 1) (by decide)).mp h).2).1)]
      rfl
  · rw [if_pos (by rw [jl1, jn_inj (by omega) (by omega)]; exact t), decide_eq_false (fun h => t ((kw_iff (k := 1) (by decide)).mp h).1)]
    rfl
theorem jc_ch_5004 (I : iq_I) : ∀ i, i < 4 → zS_J0_charAt_5068e_5004 (jn i) I = some (jn ((wl 2).getD i 0)) := fun i hi => by
  rcases (show i = 0 ∨ i = 1 ∨ i = 2 ∨ i = 3 by omega) with rfl | rfl | rfl | rfl <;> rfl
theorem jc_isW_5004 {I : iq_I} {f : Nat → Nat} {n p : Nat} (h : CL I f n p) : zT_isWord_62_5004 I = some (jB (decide (kw f n p = some 2))) := by
  obtain ⟨⟨hn, hx⟩, hp, h0, h1, h3, h4⟩ := h
  have tz1 := tz_sp (f := f) hp
  have t4 := tt_le (f := f) (n := n) (p := p)
  have lh : zS_J0_length_8abf5_5004 I = some (4 : Int32) := rfl
  unfold zT_isWord_62_5004
  rw [h0, h1, h4]
  by_cases t : tt f n p = 1
  · rw [if_neg (by rw [t]; exact fun h => h rfl), lh, Option.bind_some, jn_sub tz1.1]
    by_cases l : tz f n p - ta f n p = 4
    · rw [if_pos (by rw [l]; rfl)]
      have ft : ∀ i, i < 4 → iq_in (jn (ta f n p) + jn i) 700 ∧ (jn (ta f n p) + jn i).toNatClampNeg = ta f n p + i ∧ I 2 (ta f n p + i) = jn (f (ta f n p + i)) ∧ f (ta f n p + i) < 256 := fun i hi => by
        rw [jn_add]
        exact ⟨by rw [jn_in (by omega)]; omega, jn_clamp (by omega), (hx _ (by omega)).2, (hx _ (by omega)).1⟩
      have wb : ∀ i, i < 4 → (wl 2).getD i 0 < 256 := fun i hi => wl_b (k := 2) (by decide) hi
      have st : ∀ i, i < 4 → f (ta f n p + i) = (wl 2).getD i 0 → zT_isWord_62_5004_l28_b I (jn i) = some (.inl (jn (i + 1))) := fun i hi he => by
        obtain ⟨q1, q2, q3, q4⟩ := ft i hi
        unfold zT_isWord_62_5004_l28_b
        rw [lh, Option.bind_some, if_neg (by rw [show (4 : Int32) = jn 4 from rfl, jn_le (by omega) (by omega)]; omega), h1, if_pos q1, jc_ch_5004 I i hi, Option.bind_some, q2, q3, if_pos (by rw [he]), show jn i + (1 : Int32) = jn (i + 1) from jn_add i 1]
      rcases gFst_sp (P := fun i => decide (¬ f (ta f n p + i) = (wl 2).getD i 0)) (c := 4) (i := 0) with ⟨g1, g2⟩ | ⟨e, g1, _, g3, g4, g5⟩
      · have key : zT_isWord_62_5004_l28 I ir_F (jn 0) = some (.inl ()) := js_seq (fun i => jn i) 4 _ (fun i hi => st i hi (by have := of_decide_eq_false (g2 i (by omega) (by omega)); exact Classical.byContradiction this)) rfl 4 0 ir_F (by omega) (by unfold ir_F; omega)
        rw [show (0 : Int32) = jn 0 from rfl, key, Option.bind_some, decide_eq_true ((kw_iff (k := 2) (by decide)).mpr ⟨t, wEq_iff.mpr ⟨l, fun i hi => by have hi : i < 4 := hi; have := of_decide_eq_false (g2 i (by omega) (by omega)); exact Classical.byContradiction this⟩⟩)]
        rfl
      · have key : zT_isWord_62_5004_l28 I ir_F (jn 0) = some (.inr 0) := by
          refine js_seq (fun i => jn i) e _ (fun i hi => st i (by omega) (by have := of_decide_eq_false (g5 i (by omega) hi); exact Classical.byContradiction this)) ?_ e 0 ir_F (by omega) (by unfold ir_F; omega)
          obtain ⟨q1, q2, q3, q4⟩ := ft e (by omega)
          have we := wb e (by omega)
          unfold zT_isWord_62_5004_l28_b
          rw [lh, Option.bind_some, if_neg (by rw [show (4 : Int32) = jn 4 from rfl, jn_le (by omega) (by omega)]; omega), h1, if_pos q1, jc_ch_5004 I e (by omega), Option.bind_some, q2, q3, if_neg (by rw [jn_inj (by omega) (by omega)]; exact of_decide_eq_true g4)]
        rw [show (0 : Int32) = jn 0 from rfl, key, Option.bind_some, decide_eq_false (fun h => of_decide_eq_true g4 ((wEq_iff.mp ((kw_iff (k := 2) (by decide)).mp h).2).2 e (by show e < 4; omega)))]
        rfl
    · rw [if_neg (by rw [show (4 : Int32) = jn 4 from rfl, jn_inj (by omega) (by omega)]; exact l), decide_eq_false (fun h => l (wEq_iff.mp ((kw_iff (k := 2) (by decide)).mp h).2).1)]
      rfl
  · rw [if_pos (by rw [jl1, jn_inj (by omega) (by omega)]; exact t), decide_eq_false (fun h => t ((kw_iff (k := 2) (by decide)).mp h).1)]
    rfl
theorem jc_ch_5012 (I : iq_I) : ∀ i, i < 3 → zS_J0_charAt_5068e_5012 (jn i) I = some (jn ((wl 3).getD i 0)) := fun i hi => by
  rcases (show i = 0 ∨ i = 1 ∨ i = 2 by omega) with rfl | rfl | rfl <;> rfl
theorem jc_isW_5012 {I : iq_I} {f : Nat → Nat} {n p : Nat} (h : CL I f n p) : zT_isWord_62_5012 I = some (jB (decide (kw f n p = some 3))) := by
  obtain ⟨⟨hn, hx⟩, hp, h0, h1, h3, h4⟩ := h
  have tz1 := tz_sp (f := f) hp
  have t4 := tt_le (f := f) (n := n) (p := p)
  have lh : zS_J0_length_8abf5_5012 I = some (3 : Int32) := rfl
  unfold zT_isWord_62_5012
  rw [h0, h1, h4]
  by_cases t : tt f n p = 1
  · rw [if_neg (by rw [t]; exact fun h => h rfl), lh, Option.bind_some, jn_sub tz1.1]
    by_cases l : tz f n p - ta f n p = 3
    · rw [if_pos (by rw [l]; rfl)]
      have ft : ∀ i, i < 3 → iq_in (jn (ta f n p) + jn i) 700 ∧ (jn (ta f n p) + jn i).toNatClampNeg = ta f n p + i ∧ I 2 (ta f n p + i) = jn (f (ta f n p + i)) ∧ f (ta f n p + i) < 256 := fun i hi => by
        rw [jn_add]
        exact ⟨by rw [jn_in (by omega)]; omega, jn_clamp (by omega), (hx _ (by omega)).2, (hx _ (by omega)).1⟩
      have wb : ∀ i, i < 3 → (wl 3).getD i 0 < 256 := fun i hi => wl_b (k := 3) (by decide) hi
      have st : ∀ i, i < 3 → f (ta f n p + i) = (wl 3).getD i 0 → zT_isWord_62_5012_l28_b I (jn i) = some (.inl (jn (i + 1))) := fun i hi he => by
        obtain ⟨q1, q2, q3, q4⟩ := ft i hi
        unfold zT_isWord_62_5012_l28_b
        rw [lh, Option.bind_some, if_neg (by rw [show (3 : Int32) = jn 3 from rfl, jn_le (by omega) (by omega)]; omega), h1, if_pos q1, jc_ch_5012 I i hi, Option.bind_some, q2, q3, if_pos (by rw [he]), show jn i + (1 : Int32) = jn (i + 1) from jn_add i 1]
      rcases gFst_sp (P := fun i => decide (¬ f (ta f n p + i) = (wl 3).getD i 0)) (c := 3) (i := 0) with ⟨g1, g2⟩ | ⟨e, g1, _, g3, g4, g5⟩
      · have key : zT_isWord_62_5012_l28 I ir_F (jn 0) = some (.inl ()) := js_seq (fun i => jn i) 3 _ (fun i hi => st i hi (by have := of_decide_eq_false (g2 i (by omega) (by omega)); exact Classical.byContradiction this)) rfl 3 0 ir_F (by omega) (by unfold ir_F; omega)
        rw [show (0 : Int32) = jn 0 from rfl, key, Option.bind_some, decide_eq_true ((kw_iff (k := 3) (by decide)).mpr ⟨t, wEq_iff.mpr ⟨l, fun i hi => by have hi : i < 3 := hi; have := of_decide_eq_false (g2 i (by omega) (by omega)); exact Classical.byContradiction this⟩⟩)]
        rfl
      · have key : zT_isWord_62_5012_l28 I ir_F (jn 0) = some (.inr 0) := by
          refine js_seq (fun i => jn i) e _ (fun i hi => st i (by omega) (by have := of_decide_eq_false (g5 i (by omega) hi); exact Classical.byContradiction this)) ?_ e 0 ir_F (by omega) (by unfold ir_F; omega)
          obtain ⟨q1, q2, q3, q4⟩ := ft e (by omega)
          have we := wb e (by omega)
          unfold zT_isWord_62_5012_l28_b
          rw [lh, Option.bind_some, if_neg (by rw [show (3 : Int32) = jn 3 from rfl, jn_le (by omega) (by omega)]; omega), h1, if_pos q1, jc_ch_5012 I e (by omega), Option.bind_some, q2, q3, if_neg (by rw [jn_inj (by omega) (by omega)]; exact of_decide_eq_true g4)]
        rw [show (0 : Int32) = jn 0 from rfl, key, Option.bind_some, decide_eq_false (fun h => of_decide_eq_true g4 ((wEq_iff.mp ((kw_iff (k := 3) (by decide)).mp h).2).2 e (by show e < 3; omega)))]
        rfl
    · rw [if_neg (by rw [show (3 : Int32) = jn 3 from rfl, jn_inj (by omega) (by omega)]; exact l), decide_eq_false (fun h => l (wEq_iff.mp ((kw_iff (k := 3) (by decide)).mp h).2).1)]
      rfl
  · rw [if_pos (by rw [jl1, jn_inj (by omega) (by omega)]; exact t), decide_eq_false (fun h => t ((kw_iff (k := 3) (by decide)).mp h).1)]
    rfl
theorem jc_ch_5013 (I : iq_I) : ∀ i, i < 4 → zS_J0_charAt_5068e_5013 (jn i) I = some (jn ((wl 4).getD i 0)) := fun i hi => by
  rcases (show i = 0 ∨ i = 1 ∨ i = 2 ∨ i = 3 by omega) with rfl | rfl | rfl | rfl <;> rfl
theorem jc_isW_5013 {I : iq_I} {f : Nat → Nat} {n p : Nat} (h : CL I f n p) : zT_isWord_62_5013 I = some (jB (decide (kw f n p = some 4))) := by
  obtain ⟨⟨hn, hx⟩, hp, h0, h1, h3, h4⟩ := h
  have tz1 := tz_sp (f := f) hp
  have t4 := tt_le (f := f) (n := n) (p := p)
  have lh : zS_J0_length_8abf5_5013 I = some (4 : Int32) := rfl
  unfold zT_isWord_62_5013
  rw [h0, h1, h4]
  by_cases t : tt f n p = 1
  · rw [if_neg (by rw [t]; exact fun h => h rfl), lh, Option.bind_some, jn_sub tz1.1]
    by_cases l : tz f n p - ta f n p = 4
    · rw [if_pos (by rw [l]; rfl)]
      have ft : ∀ i, i < 4 → iq_in (jn (ta f n p) + jn i) 700 ∧ (jn (ta f n p) + jn i).toNatClampNeg = ta f n p + i ∧ I 2 (ta f n p + i) = jn (f (ta f n p + i)) ∧ f (ta f n p + i) < 256 := fun i hi => by
        rw [jn_add]
        exact ⟨by rw [jn_in (by omega)]; omega, jn_clamp (by omega), (hx _ (by omega)).2, (hx _ (by omega)).1⟩
      have wb : ∀ i, i < 4 → (wl 4).getD i 0 < 256 := fun i hi => wl_b (k := 4) (by decide) hi
      have st : ∀ i, i < 4 → f (ta f n p + i) = (wl 4).getD i 0 → zT_isWord_62_5013_l28_b I (jn i) = some (.inl (jn (i + 1))) := fun i hi he => by
        obtain ⟨q1, q2, q3, q4⟩ := ft i hi
        unfold zT_isWord_62_5013_l28_b
        rw [lh, Option.bind_some, if_neg (by rw [show (4 : Int32) = jn 4 from rfl, jn_le (by omega) (by omega)]; omega), h1, if_pos q1, jc_ch_5013 I i hi, Option.bind_some, q2, q3, if_pos (by rw [he]), show jn i + (1 : Int32) = jn (i + 1) from jn_add i 1]
      rcases gFst_sp (P := fun i => decide (¬ f (ta f n p + i) = (wl 4).getD i 0)) (c := 4) (i := 0) with ⟨g1, g2⟩ | ⟨e, g1, _, g3, g4, g5⟩
      · have key : zT_isWord_62_5013_l28 I ir_F (jn 0) = some (.inl ()) := js_seq (fun i => jn i) 4 _ (fun i hi => st i hi (by have := of_decide_eq_false (g2 i (by omega) (by omega)); exact Classical.byContradiction this)) rfl 4 0 ir_F (by omega) (by unfold ir_F; omega)
        rw [show (0 : Int32) = jn 0 from rfl, key, Option.bind_some, decide_eq_true ((kw_iff (k := 4) (by decide)).mpr ⟨t, wEq_iff.mpr ⟨l, fun i hi => by have hi : i < 4 := hi; have := of_decide_eq_false (g2 i (by omega) (by omega)); exact Classical.byContradiction this⟩⟩)]
        rfl
      · have key : zT_isWord_62_5013_l28 I ir_F (jn 0) = some (.inr 0) := by
          refine js_seq (fun i => jn i) e _ (fun i hi => st i (by omega) (by have := of_decide_eq_false (g5 i (by omega) hi); exact Classical.byContradiction this)) ?_ e 0 ir_F (by omega) (by unfold ir_F; omega)
          obtain ⟨q1, q2, q3, q4⟩ := ft e (by omega)
          have we := wb e (by omega)
          unfold zT_isWord_62_5013_l28_b
          rw [lh, Option.bind_some, if_neg (by rw [show (4 : Int32) = jn 4 from rfl, jn_le (by omega) (by omega)]; omega), h1, if_pos q1, jc_ch_5013 I e (by omega), Option.bind_some, q2, q3, if_neg (by rw [jn_inj (by omega) (by omega)]; exact of_decide_eq_true g4)]
        rw [show (0 : Int32) = jn 0 from rfl, key, Option.bind_some, decide_eq_false (fun h => of_decide_eq_true g4 ((wEq_iff.mp ((kw_iff (k := 4) (by decide)).mp h).2).2 e (by show e < 4; omega)))]
        rfl
    · rw [if_neg (by rw [show (4 : Int32) = jn 4 from rfl, jn_inj (by omega) (by omega)]; exact l), decide_eq_false (fun h => l (wEq_iff.mp ((kw_iff (k := 4) (by decide)).mp h).2).1)]
      rfl
  · rw [if_pos (by rw [jl1, jn_inj (by omega) (by omega)]; exact t), decide_eq_false (fun h => t ((kw_iff (k := 4) (by decide)).mp h).1)]
    rfl
theorem jc_ch_5014 (I : iq_I) : ∀ i, i < 4 → zS_J0_charAt_5068e_5014 (jn i) I = some (jn ((wl 5).getD i 0)) := fun i hi => by
  rcases (show i = 0 ∨ i = 1 ∨ i = 2 ∨ i = 3 by omega) with rfl | rfl | rfl | rfl <;> rfl
theorem jc_isW_5014 {I : iq_I} {f : Nat → Nat} {n p : Nat} (h : CL I f n p) : zT_isWord_62_5014 I = some (jB (decide (kw f n p = some 5))) := by
  obtain ⟨⟨hn, hx⟩, hp, h0, h1, h3, h4⟩ := h
  have tz1 := tz_sp (f := f) hp
  have t4 := tt_le (f := f) (n := n) (p := p)
  have lh : zS_J0_length_8abf5_5014 I = some (4 : Int32) := rfl
  unfold zT_isWord_62_5014
  rw [h0, h1, h4]
  by_cases t : tt f n p = 1
  · rw [if_neg (by rw [t]; exact fun h => h rfl), lh, Option.bind_some, jn_sub tz1.1]
    by_cases l : tz f n p - ta f n p = 4
    · rw [if_pos (by rw [l]; rfl)]
      have ft : ∀ i, i < 4 → iq_in (jn (ta f n p) + jn i) 700 ∧ (jn (ta f n p) + jn i).toNatClampNeg = ta f n p + i ∧ I 2 (ta f n p + i) = jn (f (ta f n p + i)) ∧ f (ta f n p + i) < 256 := fun i hi => by
        rw [jn_add]
        exact ⟨by rw [jn_in (by omega)]; omega, jn_clamp (by omega), (hx _ (by omega)).2, (hx _ (by omega)).1⟩
      have wb : ∀ i, i < 4 → (wl 5).getD i 0 < 256 := fun i hi => wl_b (k := 5) (by decide) hi
      have st : ∀ i, i < 4 → f (ta f n p + i) = (wl 5).getD i 0 → zT_isWord_62_5014_l28_b I (jn i) = some (.inl (jn (i + 1))) := fun i hi he => by
        obtain ⟨q1, q2, q3, q4⟩ := ft i hi
        unfold zT_isWord_62_5014_l28_b
        rw [lh, Option.bind_some, if_neg (by rw [show (4 : Int32) = jn 4 from rfl, jn_le (by omega) (by omega)]; omega), h1, if_pos q1, jc_ch_5014 I i hi, Option.bind_some, q2, q3, if_pos (by rw [he]), show jn i + (1 : Int32) = jn (i + 1) from jn_add i 1]
      rcases gFst_sp (P := fun i => decide (¬ f (ta f n p + i) = (wl 5).getD i 0)) (c := 4) (i := 0) with ⟨g1, g2⟩ | ⟨e, g1, _, g3, g4, g5⟩
      · have key : zT_isWord_62_5014_l28 I ir_F (jn 0) = some (.inl ()) := js_seq (fun i => jn i) 4 _ (fun i hi => st i hi (by have := of_decide_eq_false (g2 i (by omega) (by omega)); exact Classical.byContradiction this)) rfl 4 0 ir_F (by omega) (by unfold ir_F; omega)
        rw [show (0 : Int32) = jn 0 from rfl, key, Option.bind_some, decide_eq_true ((kw_iff (k := 5) (by decide)).mpr ⟨t, wEq_iff.mpr ⟨l, fun i hi => by have hi : i < 4 := hi; have := of_decide_eq_false (g2 i (by omega) (by omega)); exact Classical.byContradiction this⟩⟩)]
        rfl
      · have key : zT_isWord_62_5014_l28 I ir_F (jn 0) = some (.inr 0) := by
          refine js_seq (fun i => jn i) e _ (fun i hi => st i (by omega) (by have := of_decide_eq_false (g5 i (by omega) hi); exact Classical.byContradiction this)) ?_ e 0 ir_F (by omega) (by unfold ir_F; omega)
          obtain ⟨q1, q2, q3, q4⟩ := ft e (by omega)
          have we := wb e (by omega)
          unfold zT_isWord_62_5014_l28_b
          rw [lh, Option.bind_some, if_neg (by rw [show (4 : Int32) = jn 4 from rfl, jn_le (by omega) (by omega)]; omega), h1, if_pos q1, jc_ch_5014 I e (by omega), Option.bind_some, q2, q3, if_neg (by rw [jn_inj (by omega) (by omega)]; exact of_decide_eq_true g4)]
        rw [show (0 : Int32) = jn 0 from rfl, key, Option.bind_some, decide_eq_false (fun h => of_decide_eq_true g4 ((wEq_iff.mp ((kw_iff (k := 5) (by decide)).mp h).2).2 e (by show e < 4; omega)))]
        rfl
    · rw [if_neg (by rw [show (4 : Int32) = jn 4 from rfl, jn_inj (by omega) (by omega)]; exact l), decide_eq_false (fun h => l (wEq_iff.mp ((kw_iff (k := 5) (by decide)).mp h).2).1)]
      rfl
  · rw [if_pos (by rw [jl1, jn_inj (by omega) (by omega)]; exact t), decide_eq_false (fun h => t ((kw_iff (k := 5) (by decide)).mp h).1)]
    rfl
theorem jc_ch_5015 (I : iq_I) : ∀ i, i < 6 → zS_J0_charAt_5068e_5015 (jn i) I = some (jn ((wl 6).getD i 0)) := fun i hi => by
  rcases (show i = 0 ∨ i = 1 ∨ i = 2 ∨ i = 3 ∨ i = 4 ∨ i = 5 by omega) with rfl | rfl | rfl | rfl | rfl | rfl <;> rfl
theorem jc_isW_5015 {I : iq_I} {f : Nat → Nat} {n p : Nat} (h : CL I f n p) : zT_isWord_62_5015 I = some (jB (decide (kw f n p = some 6))) := by
  obtain ⟨⟨hn, hx⟩, hp, h0, h1, h3, h4⟩ := h
  have tz1 := tz_sp (f := f) hp
  have t4 := tt_le (f := f) (n := n) (p := p)
  have lh : zS_J0_length_8abf5_5015 I = some (6 : Int32) := rfl
  unfold zT_isWord_62_5015
  rw [h0, h1, h4]
  by_cases t : tt f n p = 1
  · rw [if_neg (by rw [t]; exact fun h => h rfl), lh, Option.bind_some, jn_sub tz1.1]
    by_cases l : tz f n p - ta f n p = 6
    · rw [if_pos (by rw [l]; rfl)]
      have ft : ∀ i, i < 6 → iq_in (jn (ta f n p) + jn i) 700 ∧ (jn (ta f n p) + jn i).toNatClampNeg = ta f n p + i ∧ I 2 (ta f n p + i) = jn (f (ta f n p + i)) ∧ f (ta f n p + i) < 256 := fun i hi => by
        rw [jn_add]
        exact ⟨by rw [jn_in (by omega)]; omega, jn_clamp (by omega), (hx _ (by omega)).2, (hx _ (by omega)).1⟩
      have wb : ∀ i, i < 6 → (wl 6).getD i 0 < 256 := fun i hi => wl_b (k := 6) (by decide) hi
      have st : ∀ i, i < 6 → f (ta f n p + i) = (wl 6).getD i 0 → zT_isWord_62_5015_l28_b I (jn i) = some (.inl (jn (i + 1))) := fun i hi he => by
        obtain ⟨q1, q2, q3, q4⟩ := ft i hi
        unfold zT_isWord_62_5015_l28_b
        rw [lh, Option.bind_some, if_neg (by rw [show (6 : Int32) = jn 6 from rfl, jn_le (by omega) (by omega)]; omega), h1, if_pos q1, jc_ch_5015 I i hi, Option.bind_some, q2, q3, if_pos (by rw [he]), show jn i + (1 : Int32) = jn (i + 1) from jn_add i 1]
      rcases gFst_sp (P := fun i => decide (¬ f (ta f n p + i) = (wl 6).getD i 0)) (c := 6) (i := 0) with ⟨g1, g2⟩ | ⟨e, g1, _, g3, g4, g5⟩
      · have key : zT_isWord_62_5015_l28 I ir_F (jn 0) = some (.inl ()) := js_seq (fun i => jn i) 6 _ (fun i hi => st i hi (by have := of_decide_eq_false (g2 i (by omega) (by omega)); exact Classical.byContradiction this)) rfl 6 0 ir_F (by omega) (by unfold ir_F; omega)
        rw [show (0 : Int32) = jn 0 from rfl, key, Option.bind_some, decide_eq_true ((kw_iff (k := 6) (by decide)).mpr ⟨t, wEq_iff.mpr ⟨l, fun i hi => by have hi : i < 6 := hi; have := of_decide_eq_false (g2 i (by omega) (by omega)); exact Classical.byContradiction this⟩⟩)]
        rfl
      · have key : zT_isWord_62_5015_l28 I ir_F (jn 0) = some (.inr 0) := by
          refine js_seq (fun i => jn i) e _ (fun i hi => st i (by omega) (by have := of_decide_eq_false (g5 i (by omega) hi); exact Classical.byContradiction this)) ?_ e 0 ir_F (by omega) (by unfold ir_F; omega)
          obtain ⟨q1, q2, q3, q4⟩ := ft e (by omega)
          have we := wb e (by omega)
          unfold zT_isWord_62_5015_l28_b
          rw [lh, Option.bind_some, if_neg (by rw [show (6 : Int32) = jn 6 from rfl, jn_le (by omega) (by omega)]; omega), h1, if_pos q1, jc_ch_5015 I e (by omega), Option.bind_some, q2, q3, if_neg (by rw [jn_inj (by omega) (by omega)]; exact of_decide_eq_true g4)]
        rw [show (0 : Int32) = jn 0 from rfl, key, Option.bind_some, decide_eq_false (fun h => of_decide_eq_true g4 ((wEq_iff.mp ((kw_iff (k := 6) (by decide)).mp h).2).2 e (by show e < 6; omega)))]
        rfl
    · rw [if_neg (by rw [show (6 : Int32) = jn 6 from rfl, jn_inj (by omega) (by omega)]; exact l), decide_eq_false (fun h => l (wEq_iff.mp ((kw_iff (k := 6) (by decide)).mp h).2).1)]
      rfl
  · rw [if_pos (by rw [jl1, jn_inj (by omega) (by omega)]; exact t), decide_eq_false (fun h => t ((kw_iff (k := 6) (by decide)).mp h).1)]
    rfl
theorem jc_ch_5002 (I : iq_I) : ∀ i, i < 5 → zS_J0_charAt_5068e_5002 (jn i) I = some (jn ((wl 7).getD i 0)) := fun i hi => by
  rcases (show i = 0 ∨ i = 1 ∨ i = 2 ∨ i = 3 ∨ i = 4 by omega) with rfl | rfl | rfl | rfl | rfl <;> rfl
theorem jc_isW_5002 {I : iq_I} {f : Nat → Nat} {n p : Nat} (h : CL I f n p) : zT_isWord_62_5002 I = some (jB (decide (kw f n p = some 7))) := by
  obtain ⟨⟨hn, hx⟩, hp, h0, h1, h3, h4⟩ := h
  have tz1 := tz_sp (f := f) hp
  have t4 := tt_le (f := f) (n := n) (p := p)
  have lh : zS_J0_length_8abf5_5002 I = some (5 : Int32) := rfl
  unfold zT_isWord_62_5002
  rw [h0, h1, h4]
  by_cases t : tt f n p = 1
  · rw [if_neg (by rw [t]; exact fun h => h rfl), lh, Option.bind_some, jn_sub tz1.1]
    by_cases l : tz f n p - ta f n p = 5
    · rw [if_pos (by rw [l]; rfl)]
      have ft : ∀ i, i < 5 → iq_in (jn (ta f n p) + jn i) 700 ∧ (jn (ta f n p) + jn i).toNatClampNeg = ta f n p + i ∧ I 2 (ta f n p + i) = jn (f (ta f n p + i)) ∧ f (ta f n p + i) < 256 := fun i hi => by
        rw [jn_add]
        exact ⟨by rw [jn_in (by omega)]; omega, jn_clamp (by omega), (hx _ (by omega)).2, (hx _ (by omega)).1⟩
      have wb : ∀ i, i < 5 → (wl 7).getD i 0 < 256 := fun i hi => wl_b (k := 7) (by decide) hi
      have st : ∀ i, i < 5 → f (ta f n p + i) = (wl 7).getD i 0 → zT_isWord_62_5002_l28_b I (jn i) = some (.inl (jn (i + 1))) := fun i hi he => by
        obtain ⟨q1, q2, q3, q4⟩ := ft i hi
        unfold zT_isWord_62_5002_l28_b
        rw [lh, Option.bind_some, if_neg (by rw [show (5 : Int32) = jn 5 from rfl, jn_le (by omega) (by omega)]; omega), h1, if_pos q1, jc_ch_5002 I i hi, Option.bind_some, q2, q3, if_pos (by rw [he]), show jn i + (1 : Int32) = jn (i + 1) from jn_add i 1]
      rcases gFst_sp (P := fun i => decide (¬ f (ta f n p + i) = (wl 7).getD i 0)) (c := 5) (i := 0) with ⟨g1, g2⟩ | ⟨e, g1, _, g3, g4, g5⟩
      · have key : zT_isWord_62_5002_l28 I ir_F (jn 0) = some (.inl ()) := js_seq (fun i => jn i) 5 _ (fun i hi => st i hi (by have := of_decide_eq_false (g2 i (by omega) (by omega)); exact Classical.byContradiction this)) rfl 5 0 ir_F (by omega) (by unfold ir_F; omega)
        rw [show (0 : Int32) = jn 0 from rfl, key, Option.bind_some, decide_eq_true ((kw_iff (k := 7) (by decide)).mpr ⟨t, wEq_iff.mpr ⟨l, fun i hi => by have hi : i < 5 := hi; have := of_decide_eq_false (g2 i (by omega) (by omega)); exact Classical.byContradiction this⟩⟩)]
        rfl
      · have key : zT_isWord_62_5002_l28 I ir_F (jn 0) = some (.inr 0) := by
          refine js_seq (fun i => jn i) e _ (fun i hi => st i (by omega) (by have := of_decide_eq_false (g5 i (by omega) hi); exact Classical.byContradiction this)) ?_ e 0 ir_F (by omega) (by unfold ir_F; omega)
          obtain ⟨q1, q2, q3, q4⟩ := ft e (by omega)
          have we := wb e (by omega)
          unfold zT_isWord_62_5002_l28_b
          rw [lh, Option.bind_some, if_neg (by rw [show (5 : Int32) = jn 5 from rfl, jn_le (by omega) (by omega)]; omega), h1, if_pos q1, jc_ch_5002 I e (by omega), Option.bind_some, q2, q3, if_neg (by rw [jn_inj (by omega) (by omega)]; exact of_decide_eq_true g4)]
        rw [show (0 : Int32) = jn 0 from rfl, key, Option.bind_some, decide_eq_false (fun h => of_decide_eq_true g4 ((wEq_iff.mp ((kw_iff (k := 7) (by decide)).mp h).2).2 e (by show e < 5; omega)))]
        rfl
    · rw [if_neg (by rw [show (5 : Int32) = jn 5 from rfl, jn_inj (by omega) (by omega)]; exact l), decide_eq_false (fun h => l (wEq_iff.mp ((kw_iff (k := 7) (by decide)).mp h).2).1)]
      rfl
  · rw [if_pos (by rw [jl1, jn_inj (by omega) (by omega)]; exact t), decide_eq_false (fun h => t ((kw_iff (k := 7) (by decide)).mp h).1)]
    rfl
theorem jc_ch_5003 (I : iq_I) : ∀ i, i < 3 → zS_J0_charAt_5068e_5003 (jn i) I = some (jn ((wl 8).getD i 0)) := fun i hi => by
  rcases (show i = 0 ∨ i = 1 ∨ i = 2 by omega) with rfl | rfl | rfl <;> rfl
theorem jc_isW_5003 {I : iq_I} {f : Nat → Nat} {n p : Nat} (h : CL I f n p) : zT_isWord_62_5003 I = some (jB (decide (kw f n p = some 8))) := by
  obtain ⟨⟨hn, hx⟩, hp, h0, h1, h3, h4⟩ := h
  have tz1 := tz_sp (f := f) hp
  have t4 := tt_le (f := f) (n := n) (p := p)
  have lh : zS_J0_length_8abf5_5003 I = some (3 : Int32) := rfl
  unfold zT_isWord_62_5003
  rw [h0, h1, h4]
  by_cases t : tt f n p = 1
  · rw [if_neg (by rw [t]; exact fun h => h rfl), lh, Option.bind_some, jn_sub tz1.1]
    by_cases l : tz f n p - ta f n p = 3
    · rw [if_pos (by rw [l]; rfl)]
      have ft : ∀ i, i < 3 → iq_in (jn (ta f n p) + jn i) 700 ∧ (jn (ta f n p) + jn i).toNatClampNeg = ta f n p + i ∧ I 2 (ta f n p + i) = jn (f (ta f n p + i)) ∧ f (ta f n p + i) < 256 := fun i hi => by
        rw [jn_add]
        exact ⟨by rw [jn_in (by omega)]; omega, jn_clamp (by omega), (hx _ (by omega)).2, (hx _ (by omega)).1⟩
      have wb : ∀ i, i < 3 → (wl 8).getD i 0 < 256 := fun i hi => wl_b (k := 8) (by decide) hi
      have st : ∀ i, i < 3 → f (ta f n p + i) = (wl 8).getD i 0 → zT_isWord_62_5003_l28_b I (jn i) = some (.inl (jn (i + 1))) := fun i hi he => by
        obtain ⟨q1, q2, q3, q4⟩ := ft i hi
        unfold zT_isWord_62_5003_l28_b
        rw [lh, Option.bind_some, if_neg (by rw [show (3 : Int32) = jn 3 from rfl, jn_le (by omega) (by omega)]; omega), h1, if_pos q1, jc_ch_5003 I i hi, Option.bind_some, q2, q3, if_pos (by rw [he]), show jn i + (1 : Int32) = jn (i + 1) from jn_add i 1]
      rcases gFst_sp (P := fun i => decide (¬ f (ta f n p + i) = (wl 8).getD i 0)) (c := 3) (i := 0) with ⟨g1, g2⟩ | ⟨e, g1, _, g3, g4, g5⟩
      · have key : zT_isWord_62_5003_l28 I ir_F (jn 0) = some (.inl ()) := js_seq (fun i => jn i) 3 _ (fun i hi => st i hi (by have := of_decide_eq_false (g2 i (by omega) (by omega)); exact Classical.byContradiction this)) rfl 3 0 ir_F (by omega) (by unfold ir_F; omega)
        rw [show (0 : Int32) = jn 0 from rfl, key, Option.bind_some, decide_eq_true ((kw_iff (k := 8) (by decide)).mpr ⟨t, wEq_iff.mpr ⟨l, fun i hi => by have hi : i < 3 := hi; have := of_decide_eq_false (g2 i (by omega) (by omega)); exact Classical.byContradiction this⟩⟩)]
        rfl
      · have key : zT_isWord_62_5003_l28 I ir_F (jn 0) = some (.inr 0) := by
          refine js_seq (fun i => jn i) e _ (fun i hi => st i (by omega) (by have := of_decide_eq_false (g5 i (by omega) hi); exact Classical.byContradiction this)) ?_ e 0 ir_F (by omega) (by unfold ir_F; omega)
          obtain ⟨q1, q2, q3, q4⟩ := ft e (by omega)
          have we := wb e (by omega)
          unfold zT_isWord_62_5003_l28_b
          rw [lh, Option.bind_some, if_neg (by rw [show (3 : Int32) = jn 3 from rfl, jn_le (by omega) (by omega)]; omega), h1, if_pos q1, jc_ch_5003 I e (by omega), Option.bind_some, q2, q3, if_neg (by rw [jn_inj (by omega) (by omega)]; exact of_decide_eq_true g4)]
        rw [show (0 : Int32) = jn 0 from rfl, key, Option.bind_some, decide_eq_false (fun h => of_decide_eq_true g4 ((wEq_iff.mp ((kw_iff (k := 8) (by decide)).mp h).2).2 e (by show e < 3; omega)))]
        rfl
    · rw [if_neg (by rw [show (3 : Int32) = jn 3 from rfl, jn_inj (by omega) (by omega)]; exact l), decide_eq_false (fun h => l (wEq_iff.mp ((kw_iff (k := 8) (by decide)).mp h).2).1)]
      rfl
  · rw [if_pos (by rw [jl1, jn_inj (by omega) (by omega)]; exact t), decide_eq_false (fun h => t ((kw_iff (k := 8) (by decide)).mp h).1)]
    rfl
theorem jc_ch_5005 (I : iq_I) : ∀ i, i < 3 → zS_J0_charAt_5068e_5005 (jn i) I = some (jn ((wl 9).getD i 0)) := fun i hi => by
  rcases (show i = 0 ∨ i = 1 ∨ i = 2 by omega) with rfl | rfl | rfl <;> rfl
theorem jc_isW_5005 {I : iq_I} {f : Nat → Nat} {n p : Nat} (h : CL I f n p) : zT_isWord_62_5005 I = some (jB (decide (kw f n p = some 9))) := by
  obtain ⟨⟨hn, hx⟩, hp, h0, h1, h3, h4⟩ := h
  have tz1 := tz_sp (f := f) hp
  have t4 := tt_le (f := f) (n := n) (p := p)
  have lh : zS_J0_length_8abf5_5005 I = some (3 : Int32) := rfl
  unfold zT_isWord_62_5005
  rw [h0, h1, h4]
  by_cases t : tt f n p = 1
  · rw [if_neg (by rw [t]; exact fun h => h rfl), lh, Option.bind_some, jn_sub tz1.1]
    by_cases l : tz f n p - ta f n p = 3
    · rw [if_pos (by rw [l]; rfl)]
      have ft : ∀ i, i < 3 → iq_in (jn (ta f n p) + jn i) 700 ∧ (jn (ta f n p) + jn i).toNatClampNeg = ta f n p + i ∧ I 2 (ta f n p + i) = jn (f (ta f n p + i)) ∧ f (ta f n p + i) < 256 := fun i hi => by
        rw [jn_add]
        exact ⟨by rw [jn_in (by omega)]; omega, jn_clamp (by omega), (hx _ (by omega)).2, (hx _ (by omega)).1⟩
      have wb : ∀ i, i < 3 → (wl 9).getD i 0 < 256 := fun i hi => wl_b (k := 9) (by decide) hi
      have st : ∀ i, i < 3 → f (ta f n p + i) = (wl 9).getD i 0 → zT_isWord_62_5005_l28_b I (jn i) = some (.inl (jn (i + 1))) := fun i hi he => by
        obtain ⟨q1, q2, q3, q4⟩ := ft i hi
        unfold zT_isWord_62_5005_l28_b
        rw [lh, Option.bind_some, if_neg (by rw [show (3 : Int32) = jn 3 from rfl, jn_le (by omega) (by omega)]; omega), h1, if_pos q1, jc_ch_5005 I i hi, Option.bind_some, q2, q3, if_pos (by rw [he]), show jn i + (1 : Int32) = jn (i + 1) from jn_add i 1]
      rcases gFst_sp (P := fun i => decide (¬ f (ta f n p + i) = (wl 9).getD i 0)) (c := 3) (i := 0) with ⟨g1, g2⟩ | ⟨e, g1, _, g3, g4, g5⟩
      · have key : zT_isWord_62_5005_l28 I ir_F (jn 0) = some (.inl ()) := js_seq (fun i => jn i) 3 _ (fun i hi => st i hi (by have := of_decide_eq_false (g2 i (by omega) (by omega)); exact Classical.byContradiction this)) rfl 3 0 ir_F (by omega) (by unfold ir_F; omega)
        rw [show (0 : Int32) = jn 0 from rfl, key, Option.bind_some, decide_eq_true ((kw_iff (k := 9) (by decide)).mpr ⟨t, wEq_iff.mpr ⟨l, fun i hi => by have hi : i < 3 := hi; have := of_decide_eq_false (g2 i (by omega) (by omega)); exact Classical.byContradiction this⟩⟩)]
        rfl
      · have key : zT_isWord_62_5005_l28 I ir_F (jn 0) = some (.inr 0) := by
          refine js_seq (fun i => jn i) e _ (fun i hi => st i (by omega) (by have := of_decide_eq_false (g5 i (by omega) hi); exact Classical.byContradiction this)) ?_ e 0 ir_F (by omega) (by unfold ir_F; omega)
          obtain ⟨q1, q2, q3, q4⟩ := ft e (by omega)
          have we := wb e (by omega)
          unfold zT_isWord_62_5005_l28_b
          rw [lh, Option.bind_some, if_neg (by rw [show (3 : Int32) = jn 3 from rfl, jn_le (by omega) (by omega)]; omega), h1, if_pos q1, jc_ch_5005 I e (by omega), Option.bind_some, q2, q3, if_neg (by rw [jn_inj (by omega) (by omega)]; exact of_decide_eq_true g4)]
        rw [show (0 : Int32) = jn 0 from rfl, key, Option.bind_some, decide_eq_false (fun h => of_decide_eq_true g4 ((wEq_iff.mp ((kw_iff (k := 9) (by decide)).mp h).2).2 e (by show e < 3; omega)))]
        rfl
    · rw [if_neg (by rw [show (3 : Int32) = jn 3 from rfl, jn_inj (by omega) (by omega)]; exact l), decide_eq_false (fun h => l (wEq_iff.mp ((kw_iff (k := 9) (by decide)).mp h).2).1)]
      rfl
  · rw [if_pos (by rw [jl1, jn_inj (by omega) (by omega)]; exact t), decide_eq_false (fun h => t ((kw_iff (k := 9) (by decide)).mp h).1)]
    rfl
theorem jc_ch_5006 (I : iq_I) : ∀ i, i < 4 → zS_J0_charAt_5068e_5006 (jn i) I = some (jn ((wl 10).getD i 0)) := fun i hi => by
  rcases (show i = 0 ∨ i = 1 ∨ i = 2 ∨ i = 3 by omega) with rfl | rfl | rfl | rfl <;> rfl
theorem jc_isW_5006 {I : iq_I} {f : Nat → Nat} {n p : Nat} (h : CL I f n p) : zT_isWord_62_5006 I = some (jB (decide (kw f n p = some 10))) := by
  obtain ⟨⟨hn, hx⟩, hp, h0, h1, h3, h4⟩ := h
  have tz1 := tz_sp (f := f) hp
  have t4 := tt_le (f := f) (n := n) (p := p)
  have lh : zS_J0_length_8abf5_5006 I = some (4 : Int32) := rfl
  unfold zT_isWord_62_5006
  rw [h0, h1, h4]
  by_cases t : tt f n p = 1
  · rw [if_neg (by rw [t]; exact fun h => h rfl), lh, Option.bind_some, jn_sub tz1.1]
    by_cases l : tz f n p - ta f n p = 4
    · rw [if_pos (by rw [l]; rfl)]
      have ft : ∀ i, i < 4 → iq_in (jn (ta f n p) + jn i) 700 ∧ (jn (ta f n p) + jn i).toNatClampNeg = ta f n p + i ∧ I 2 (ta f n p + i) = jn (f (ta f n p + i)) ∧ f (ta f n p + i) < 256 := fun i hi => by
        rw [jn_add]
        exact ⟨by rw [jn_in (by omega)]; omega, jn_clamp (by omega), (hx _ (by omega)).2, (hx _ (by omega)).1⟩
      have wb : ∀ i, i < 4 → (wl 10).getD i 0 < 256 := fun i hi => wl_b (k := 10) (by decide) hi
      have st : ∀ i, i < 4 → f (ta f n p + i) = (wl 10).getD i 0 → zT_isWord_62_5006_l28_b I (jn i) = some (.inl (jn (i + 1))) := fun i hi he => by
        obtain ⟨q1, q2, q3, q4⟩ := ft i hi
        unfold zT_isWord_62_5006_l28_b
        rw [lh, Option.bind_some, if_neg (by rw [show (4 : Int32) = jn 4 from rfl, jn_le (by omega) (by omega)]; omega), h1, if_pos q1, jc_ch_5006 I i hi, Option.bind_some, q2, q3, if_pos (by rw [he]), show jn i + (1 : Int32) = jn (i + 1) from jn_add i 1]
      rcases gFst_sp (P := fun i => decide (¬ f (ta f n p + i) = (wl 10).getD i 0)) (c := 4) (i := 0) with ⟨g1, g2⟩ | ⟨e, g1, _, g3, g4, g5⟩
      · have key : zT_isWord_62_5006_l28 I ir_F (jn 0) = some (.inl ()) := js_seq (fun i => jn i) 4 _ (fun i hi => st i hi (by have := of_decide_eq_false (g2 i (by omega) (by omega)); exact Classical.byContradiction this)) rfl 4 0 ir_F (by omega) (by unfold ir_F; omega)
        rw [show (0 : Int32) = jn 0 from rfl, key, Option.bind_some, decide_eq_true ((kw_iff (k := 10) (by decide)).mpr ⟨t, wEq_iff.mpr ⟨l, fun i hi => by have hi : i < 4 := hi; have := of_decide_eq_false (g2 i (by omega) (by omega)); exact Classical.byContradiction this⟩⟩)]
        rfl
      · have key : zT_isWord_62_5006_l28 I ir_F (jn 0) = some (.inr 0) := by
          refine js_seq (fun i => jn i) e _ (fun i hi => st i (by omega) (by have := of_decide_eq_false (g5 i (by omega) hi); exact Classical.byContradiction this)) ?_ e 0 ir_F (by omega) (by unfold ir_F; omega)
          obtain ⟨q1, q2, q3, q4⟩ := ft e (by omega)
          have we := wb e (by omega)
          unfold zT_isWord_62_5006_l28_b
          rw [lh, Option.bind_some, if_neg (by rw [show (4 : Int32) = jn 4 from rfl, jn_le (by omega) (by omega)]; omega), h1, if_pos q1, jc_ch_5006 I e (by omega), Option.bind_some, q2, q3, if_neg (by rw [jn_inj (by omega) (by omega)]; exact of_decide_eq_true g4)]
        rw [show (0 : Int32) = jn 0 from rfl, key, Option.bind_some, decide_eq_false (fun h => of_decide_eq_true g4 ((wEq_iff.mp ((kw_iff (k := 10) (by decide)).mp h).2).2 e (by show e < 4; omega)))]
        rfl
    · rw [if_neg (by rw [show (4 : Int32) = jn 4 from rfl, jn_inj (by omega) (by omega)]; exact l), decide_eq_false (fun h => l (wEq_iff.mp ((kw_iff (k := 10) (by decide)).mp h).2).1)]
      rfl
  · rw [if_pos (by rw [jl1, jn_inj (by omega) (by omega)]; exact t), decide_eq_false (fun h => t ((kw_iff (k := 10) (by decide)).mp h).1)]
    rfl
theorem jc_ch_5007 (I : iq_I) : ∀ i, i < 6 → zS_J0_charAt_5068e_5007 (jn i) I = some (jn ((wl 11).getD i 0)) := fun i hi => by
  rcases (show i = 0 ∨ i = 1 ∨ i = 2 ∨ i = 3 ∨ i = 4 ∨ i = 5 by omega) with rfl | rfl | rfl | rfl | rfl | rfl <;> rfl
theorem jc_isW_5007 {I : iq_I} {f : Nat → Nat} {n p : Nat} (h : CL I f n p) : zT_isWord_62_5007 I = some (jB (decide (kw f n p = some 11))) := by
  obtain ⟨⟨hn, hx⟩, hp, h0, h1, h3, h4⟩ := h
  have tz1 := tz_sp (f := f) hp
  have t4 := tt_le (f := f) (n := n) (p := p)
  have lh : zS_J0_length_8abf5_5007 I = some (6 : Int32) := rfl
  unfold zT_isWord_62_5007
  rw [h0, h1, h4]
  by_cases t : tt f n p = 1
  · rw [if_neg (by rw [t]; exact fun h => h rfl), lh, Option.bind_some, jn_sub tz1.1]
    by_cases l : tz f n p - ta f n p = 6
    · rw [if_pos (by rw [l]; rfl)]
      have ft : ∀ i, i < 6 → iq_in (jn (ta f n p) + jn i) 700 ∧ (jn (ta f n p) + jn i).toNatClampNeg = ta f n p + i ∧ I 2 (ta f n p + i) = jn (f (ta f n p + i)) ∧ f (ta f n p + i) < 256 := fun i hi => by
        rw [jn_add]
        exact ⟨by rw [jn_in (by omega)]; omega, jn_clamp (by omega), (hx _ (by omega)).2, (hx _ (by omega)).1⟩
      have wb : ∀ i, i < 6 → (wl 11).getD i 0 < 256 := fun i hi => wl_b (k := 11) (by decide) hi
      have st : ∀ i, i < 6 → f (ta f n p + i) = (wl 11).getD i 0 → zT_isWord_62_5007_l28_b I (jn i) = some (.inl (jn (i + 1))) := fun i hi he => by
        obtain ⟨q1, q2, q3, q4⟩ := ft i hi
        unfold zT_isWord_62_5007_l28_b
        rw [lh, Option.bind_some, if_neg (by rw [show (6 : Int32) = jn 6 from rfl, jn_le (by omega) (by omega)]; omega), h1, if_pos q1, jc_ch_5007 I i hi, Option.bind_some, q2, q3, if_pos (by rw [he]), show jn i + (1 : Int32) = jn (i + 1) from jn_add i 1]
      rcases gFst_sp (P := fun i => decide (¬ f (ta f n p + i) = (wl 11).getD i 0)) (c := 6) (i := 0) with ⟨g1, g2⟩ | ⟨e, g1, _, g3, g4, g5⟩
      · have key : zT_isWord_62_5007_l28 I ir_F (jn 0) = some (.inl ()) := js_seq (fun i => jn i) 6 _ (fun i hi => st i hi (by have := of_decide_eq_false (g2 i (by omega) (by omega)); exact Classical.byContradiction this)) rfl 6 0 ir_F (by omega) (by unfold ir_F; omega)
        rw [show (0 : Int32) = jn 0 from rfl, key, Option.bind_some, decide_eq_true ((kw_iff (k := 11) (by decide)).mpr ⟨t, wEq_iff.mpr ⟨l, fun i hi => by have hi : i < 6 := hi; have := of_decide_eq_false (g2 i (by omega) (by omega)); exact Classical.byContradiction this⟩⟩)]
        rfl
      · have key : zT_isWord_62_5007_l28 I ir_F (jn 0) = some (.inr 0) := by
          refine js_seq (fun i => jn i) e _ (fun i hi => st i (by omega) (by have := of_decide_eq_false (g5 i (by omega) hi); exact Classical.byContradiction this)) ?_ e 0 ir_F (by omega) (by unfold ir_F; omega)
          obtain ⟨q1, q2, q3, q4⟩ := ft e (by omega)
          have we := wb e (by omega)
          unfold zT_isWord_62_5007_l28_b
          rw [lh, Option.bind_some, if_neg (by rw [show (6 : Int32) = jn 6 from rfl, jn_le (by omega) (by omega)]; omega), h1, if_pos q1, jc_ch_5007 I e (by omega), Option.bind_some, q2, q3, if_neg (by rw [jn_inj (by omega) (by omega)]; exact of_decide_eq_true g4)]
        rw [show (0 : Int32) = jn 0 from rfl, key, Option.bind_some, decide_eq_false (fun h => of_decide_eq_true g4 ((wEq_iff.mp ((kw_iff (k := 11) (by decide)).mp h).2).2 e (by show e < 6; omega)))]
        rfl
    · rw [if_neg (by rw [show (6 : Int32) = jn 6 from rfl, jn_inj (by omega) (by omega)]; exact l), decide_eq_false (fun h => l (wEq_iff.mp ((kw_iff (k := 11) (by decide)).mp h).2).1)]
      rfl
  · rw [if_pos (by rw [jl1, jn_inj (by omega) (by omega)]; exact t), decide_eq_false (fun h => t ((kw_iff (k := 11) (by decide)).mp h).1)]
    rfl
theorem jc_ch_5008 (I : iq_I) : ∀ i, i < 5 → zS_J0_charAt_5068e_5008 (jn i) I = some (jn ((wl 12).getD i 0)) := fun i hi => by
  rcases (show i = 0 ∨ i = 1 ∨ i = 2 ∨ i = 3 ∨ i = 4 by omega) with rfl | rfl | rfl | rfl | rfl <;> rfl
theorem jc_isW_5008 {I : iq_I} {f : Nat → Nat} {n p : Nat} (h : CL I f n p) : zT_isWord_62_5008 I = some (jB (decide (kw f n p = some 12))) := by
  obtain ⟨⟨hn, hx⟩, hp, h0, h1, h3, h4⟩ := h
  have tz1 := tz_sp (f := f) hp
  have t4 := tt_le (f := f) (n := n) (p := p)
  have lh : zS_J0_length_8abf5_5008 I = some (5 : Int32) := rfl
  unfold zT_isWord_62_5008
  rw [h0, h1, h4]
  by_cases t : tt f n p = 1
  · rw [if_neg (by rw [t]; exact fun h => h rfl), lh, Option.bind_some, jn_sub tz1.1]
    by_cases l : tz f n p - ta f n p = 5
    · rw [if_pos (by rw [l]; rfl)]
      have ft : ∀ i, i < 5 → iq_in (jn (ta f n p) + jn i) 700 ∧ (jn (ta f n p) + jn i).toNatClampNeg = ta f n p + i ∧ I 2 (ta f n p + i) = jn (f (ta f n p + i)) ∧ f (ta f n p + i) < 256 := fun i hi => by
        rw [jn_add]
        exact ⟨by rw [jn_in (by omega)]; omega, jn_clamp (by omega), (hx _ (by omega)).2, (hx _ (by omega)).1⟩
      have wb : ∀ i, i < 5 → (wl 12).getD i 0 < 256 := fun i hi => wl_b (k := 12) (by decide) hi
      have st : ∀ i, i < 5 → f (ta f n p + i) = (wl 12).getD i 0 → zT_isWord_62_5008_l28_b I (jn i) = some (.inl (jn (i + 1))) := fun i hi he => by
        obtain ⟨q1, q2, q3, q4⟩ := ft i hi
        unfold zT_isWord_62_5008_l28_b
        rw [lh, Option.bind_some, if_neg (by rw [show (5 : Int32) = jn 5 from rfl, jn_le (by omega) (by omega)]; omega), h1, if_pos q1, jc_ch_5008 I i hi, Option.bind_some, q2, q3, if_pos (by rw [he]), show jn i + (1 : Int32) = jn (i + 1) from jn_add i 1]
      rcases gFst_sp (P := fun i => decide (¬ f (ta f n p + i) = (wl 12).getD i 0)) (c := 5) (i := 0) with ⟨g1, g2⟩ | ⟨e, g1, _, g3, g4, g5⟩
      · have key : zT_isWord_62_5008_l28 I ir_F (jn 0) = some (.inl ()) := js_seq (fun i => jn i) 5 _ (fun i hi => st i hi (by have := of_decide_eq_false (g2 i (by omega) (by omega)); exact Classical.byContradiction this)) rfl 5 0 ir_F (by omega) (by unfold ir_F; omega)
        rw [show (0 : Int32) = jn 0 from rfl, key, Option.bind_some, decide_eq_true ((kw_iff (k := 12) (by decide)).mpr ⟨t, wEq_iff.mpr ⟨l, fun i hi => by have hi : i < 5 := hi; have := of_decide_eq_false (g2 i (by omega) (by omega)); exact Classical.byContradiction this⟩⟩)]
        rfl
      · have key : zT_isWord_62_5008_l28 I ir_F (jn 0) = some (.inr 0) := by
          refine js_seq (fun i => jn i) e _ (fun i hi => st i (by omega) (by have := of_decide_eq_false (g5 i (by omega) hi); exact Classical.byContradiction this)) ?_ e 0 ir_F (by omega) (by unfold ir_F; omega)
          obtain ⟨q1, q2, q3, q4⟩ := ft e (by omega)
          have we := wb e (by omega)
          unfold zT_isWord_62_5008_l28_b
          rw [lh, Option.bind_some, if_neg (by rw [show (5 : Int32) = jn 5 from rfl, jn_le (by omega) (by omega)]; omega), h1, if_pos q1, jc_ch_5008 I e (by omega), Option.bind_some, q2, q3, if_neg (by rw [jn_inj (by omega) (by omega)]; exact of_decide_eq_true g4)]
        rw [show (0 : Int32) = jn 0 from rfl, key, Option.bind_some, decide_eq_false (fun h => of_decide_eq_true g4 ((wEq_iff.mp ((kw_iff (k := 12) (by decide)).mp h).2).2 e (by show e < 5; omega)))]
        rfl
    · rw [if_neg (by rw [show (5 : Int32) = jn 5 from rfl, jn_inj (by omega) (by omega)]; exact l), decide_eq_false (fun h => l (wEq_iff.mp ((kw_iff (k := 12) (by decide)).mp h).2).1)]
      rfl
  · rw [if_pos (by rw [jl1, jn_inj (by omega) (by omega)]; exact t), decide_eq_false (fun h => t ((kw_iff (k := 12) (by decide)).mp h).1)]
    rfl
theorem jc_ch_5018 (I : iq_I) : ∀ i, i < 3 → zS_J0_charAt_5068e_5018 (jn i) I = some (jn ((wl 13).getD i 0)) := fun i hi => by
  rcases (show i = 0 ∨ i = 1 ∨ i = 2 by omega) with rfl | rfl | rfl <;> rfl
theorem jc_isW_5018 {I : iq_I} {f : Nat → Nat} {n p : Nat} (h : CL I f n p) : zT_isWord_62_5018 I = some (jB (decide (kw f n p = some 13))) := by
  obtain ⟨⟨hn, hx⟩, hp, h0, h1, h3, h4⟩ := h
  have tz1 := tz_sp (f := f) hp
  have t4 := tt_le (f := f) (n := n) (p := p)
  have lh : zS_J0_length_8abf5_5018 I = some (3 : Int32) := rfl
  unfold zT_isWord_62_5018
  rw [h0, h1, h4]
  by_cases t : tt f n p = 1
  · rw [if_neg (by rw [t]; exact fun h => h rfl), lh, Option.bind_some, jn_sub tz1.1]
    by_cases l : tz f n p - ta f n p = 3
    · rw [if_pos (by rw [l]; rfl)]
      have ft : ∀ i, i < 3 → iq_in (jn (ta f n p) + jn i) 700 ∧ (jn (ta f n p) + jn i).toNatClampNeg = ta f n p + i ∧ I 2 (ta f n p + i) = jn (f (ta f n p + i)) ∧ f (ta f n p + i) < 256 := fun i hi => by
        rw [jn_add]
        exact ⟨by rw [jn_in (by omega)]; omega, jn_clamp (by omega), (hx _ (by omega)).2, (hx _ (by omega)).1⟩
      have wb : ∀ i, i < 3 → (wl 13).getD i 0 < 256 := fun i hi => wl_b (k := 13) (by decide) hi
      have st : ∀ i, i < 3 → f (ta f n p + i) = (wl 13).getD i 0 → zT_isWord_62_5018_l28_b I (jn i) = some (.inl (jn (i + 1))) := fun i hi he => by
        obtain ⟨q1, q2, q3, q4⟩ := ft i hi
        unfold zT_isWord_62_5018_l28_b
        rw [lh, Option.bind_some, if_neg (by rw [show (3 : Int32) = jn 3 from rfl, jn_le (by omega) (by omega)]; omega), h1, if_pos q1, jc_ch_5018 I i hi, Option.bind_some, q2, q3, if_pos (by rw [he]), show jn i + (1 : Int32) = jn (i + 1) from jn_add i 1]
      rcases gFst_sp (P := fun i => decide (¬ f (ta f n p + i) = (wl 13).getD i 0)) (c := 3) (i := 0) with ⟨g1, g2⟩ | ⟨e, g1, _, g3, g4, g5⟩
      · have key : zT_isWord_62_5018_l28 I ir_F (jn 0) = some (.inl ()) := js_seq (fun i => jn i) 3 _ (fun i hi => st i hi (by have := of_decide_eq_false (g2 i (by omega) (by omega)); exact Classical.byContradiction this)) rfl 3 0 ir_F (by omega) (by unfold ir_F; omega)
        rw [show (0 : Int32) = jn 0 from rfl, key, Option.bind_some, decide_eq_true ((kw_iff (k := 13) (by decide)).mpr ⟨t, wEq_iff.mpr ⟨l, fun i hi => by have hi : i < 3 := hi; have := of_decide_eq_false (g2 i (by omega) (by omega)); exact Classical.byContradiction this⟩⟩)]
        rfl
      · have key : zT_isWord_62_5018_l28 I ir_F (jn 0) = some (.inr 0) := by
          refine js_seq (fun i => jn i) e _ (fun i hi => st i (by omega) (by have := of_decide_eq_false (g5 i (by omega) hi); exact Classical.byContradiction this)) ?_ e 0 ir_F (by omega) (by unfold ir_F; omega)
          obtain ⟨q1, q2, q3, q4⟩ := ft e (by omega)
          have we := wb e (by omega)
          unfold zT_isWord_62_5018_l28_b
          rw [lh, Option.bind_some, if_neg (by rw [show (3 : Int32) = jn 3 from rfl, jn_le (by omega) (by omega)]; omega), h1, if_pos q1, jc_ch_5018 I e (by omega), Option.bind_some, q2, q3, if_neg (by rw [jn_inj (by omega) (by omega)]; exact of_decide_eq_true g4)]
        rw [show (0 : Int32) = jn 0 from rfl, key, Option.bind_some, decide_eq_false (fun h => of_decide_eq_true g4 ((wEq_iff.mp ((kw_iff (k := 13) (by decide)).mp h).2).2 e (by show e < 3; omega)))]
        rfl
    · rw [if_neg (by rw [show (3 : Int32) = jn 3 from rfl, jn_inj (by omega) (by omega)]; exact l), decide_eq_false (fun h => l (wEq_iff.mp ((kw_iff (k := 13) (by decide)).mp h).2).1)]
      rfl
  · rw [if_pos (by rw [jl1, jn_inj (by omega) (by omega)]; exact t), decide_eq_false (fun h => t ((kw_iff (k := 13) (by decide)).mp h).1)]
    rfl
theorem jc_ch_5016 (I : iq_I) : ∀ i, i < 3 → zS_J0_charAt_5068e_5016 (jn i) I = some (jn ((wl 14).getD i 0)) := fun i hi => by
  rcases (show i = 0 ∨ i = 1 ∨ i = 2 by omega) with rfl | rfl | rfl <;> rfl
theorem jc_isW_5016 {I : iq_I} {f : Nat → Nat} {n p : Nat} (h : CL I f n p) : zT_isWord_62_5016 I = some (jB (decide (kw f n p = some 14))) := by
  obtain ⟨⟨hn, hx⟩, hp, h0, h1, h3, h4⟩ := h
  have tz1 := tz_sp (f := f) hp
  have t4 := tt_le (f := f) (n := n) (p := p)
  have lh : zS_J0_length_8abf5_5016 I = some (3 : Int32) := rfl
  unfold zT_isWord_62_5016
  rw [h0, h1, h4]
  by_cases t : tt f n p = 1
  · rw [if_neg (by rw [t]; exact fun h => h rfl), lh, Option.bind_some, jn_sub tz1.1]
    by_cases l : tz f n p - ta f n p = 3
    · rw [if_pos (by rw [l]; rfl)]
      have ft : ∀ i, i < 3 → iq_in (jn (ta f n p) + jn i) 700 ∧ (jn (ta f n p) + jn i).toNatClampNeg = ta f n p + i ∧ I 2 (ta f n p + i) = jn (f (ta f n p + i)) ∧ f (ta f n p + i) < 256 := fun i hi => by
        rw [jn_add]
        exact ⟨by rw [jn_in (by omega)]; omega, jn_clamp (by omega), (hx _ (by omega)).2, (hx _ (by omega)).1⟩
      have wb : ∀ i, i < 3 → (wl 14).getD i 0 < 256 := fun i hi => wl_b (k := 14) (by decide) hi
      have st : ∀ i, i < 3 → f (ta f n p + i) = (wl 14).getD i 0 → zT_isWord_62_5016_l28_b I (jn i) = some (.inl (jn (i + 1))) := fun i hi he => by
        obtain ⟨q1, q2, q3, q4⟩ := ft i hi
        unfold zT_isWord_62_5016_l28_b
        rw [lh, Option.bind_some, if_neg (by rw [show (3 : Int32) = jn 3 from rfl, jn_le (by omega) (by omega)]; omega), h1, if_pos q1, jc_ch_5016 I i hi, Option.bind_some, q2, q3, if_pos (by rw [he]), show jn i + (1 : Int32) = jn (i + 1) from jn_add i 1]
      rcases gFst_sp (P := fun i => decide (¬ f (ta f n p + i) = (wl 14).getD i 0)) (c := 3) (i := 0) with ⟨g1, g2⟩ | ⟨e, g1, _, g3, g4, g5⟩
      · have key : zT_isWord_62_5016_l28 I ir_F (jn 0) = some (.inl ()) := js_seq (fun i => jn i) 3 _ (fun i hi => st i hi (by have := of_decide_eq_false (g2 i (by omega) (by omega)); exact Classical.byContradiction this)) rfl 3 0 ir_F (by omega) (by unfold ir_F; omega)
        rw [show (0 : Int32) = jn 0 from rfl, key, Option.bind_some, decide_eq_true ((kw_iff (k := 14) (by decide)).mpr ⟨t, wEq_iff.mpr ⟨l, fun i hi => by have hi : i < 3 := hi; have := of_decide_eq_false (g2 i (by omega) (by omega)); exact Classical.byContradiction this⟩⟩)]
        rfl
      · have key : zT_isWord_62_5016_l28 I ir_F (jn 0) = some (.inr 0) := by
          refine js_seq (fun i => jn i) e _ (fun i hi => st i (by omega) (by have := of_decide_eq_false (g5 i (by omega) hi); exact Classical.byContradiction this)) ?_ e 0 ir_F (by omega) (by unfold ir_F; omega)
          obtain ⟨q1, q2, q3, q4⟩ := ft e (by omega)
          have we := wb e (by omega)
          unfold zT_isWord_62_5016_l28_b
          rw [lh, Option.bind_some, if_neg (by rw [show (3 : Int32) = jn 3 from rfl, jn_le (by omega) (by omega)]; omega), h1, if_pos q1, jc_ch_5016 I e (by omega), Option.bind_some, q2, q3, if_neg (by rw [jn_inj (by omega) (by omega)]; exact of_decide_eq_true g4)]
        rw [show (0 : Int32) = jn 0 from rfl, key, Option.bind_some, decide_eq_false (fun h => of_decide_eq_true g4 ((wEq_iff.mp ((kw_iff (k := 14) (by decide)).mp h).2).2 e (by show e < 3; omega)))]
        rfl
    · rw [if_neg (by rw [show (3 : Int32) = jn 3 from rfl, jn_inj (by omega) (by omega)]; exact l), decide_eq_false (fun h => l (wEq_iff.mp ((kw_iff (k := 14) (by decide)).mp h).2).1)]
      rfl
  · rw [if_pos (by rw [jl1, jn_inj (by omega) (by omega)]; exact t), decide_eq_false (fun h => t ((kw_iff (k := 14) (by decide)).mp h).1)]
    rfl
theorem jc_ch_5017 (I : iq_I) : ∀ i, i < 2 → zS_J0_charAt_5068e_5017 (jn i) I = some (jn ((wl 15).getD i 0)) := fun i hi => by
  rcases (show i = 0 ∨ i = 1 by omega) with rfl | rfl <;> rfl
theorem jc_isW_5017 {I : iq_I} {f : Nat → Nat} {n p : Nat} (h : CL I f n p) : zT_isWord_62_5017 I = some (jB (decide (kw f n p = some 15))) := by
  obtain ⟨⟨hn, hx⟩, hp, h0, h1, h3, h4⟩ := h
  have tz1 := tz_sp (f := f) hp
  have t4 := tt_le (f := f) (n := n) (p := p)
  have lh : zS_J0_length_8abf5_5017 I = some (2 : Int32) := rfl
  unfold zT_isWord_62_5017
  rw [h0, h1, h4]
  by_cases t : tt f n p = 1
  · rw [if_neg (by rw [t]; exact fun h => h rfl), lh, Option.bind_some, jn_sub tz1.1]
    by_cases l : tz f n p - ta f n p = 2
    · rw [if_pos (by rw [l]; rfl)]
      have ft : ∀ i, i < 2 → iq_in (jn (ta f n p) + jn i) 700 ∧ (jn (ta f n p) + jn i).toNatClampNeg = ta f n p + i ∧ I 2 (ta f n p + i) = jn (f (ta f n p + i)) ∧ f (ta f n p + i) < 256 := fun i hi => by
        rw [jn_add]
        exact ⟨by rw [jn_in (by omega)]; omega, jn_clamp (by omega), (hx _ (by omega)).2, (hx _ (by omega)).1⟩
      have wb : ∀ i, i < 2 → (wl 15).getD i 0 < 256 := fun i hi => wl_b (k := 15) (by decide) hi
      have st : ∀ i, i < 2 → f (ta f n p + i) = (wl 15).getD i 0 → zT_isWord_62_5017_l28_b I (jn i) = some (.inl (jn (i + 1))) := fun i hi he => by
        obtain ⟨q1, q2, q3, q4⟩ := ft i hi
        unfold zT_isWord_62_5017_l28_b
        rw [lh, Option.bind_some, if_neg (by rw [show (2 : Int32) = jn 2 from rfl, jn_le (by omega) (by omega)]; omega), h1, if_pos q1, jc_ch_5017 I i hi, Option.bind_some, q2, q3, if_pos (by rw [he]), show jn i + (1 : Int32) = jn (i + 1) from jn_add i 1]
      rcases gFst_sp (P := fun i => decide (¬ f (ta f n p + i) = (wl 15).getD i 0)) (c := 2) (i := 0) with ⟨g1, g2⟩ | ⟨e, g1, _, g3, g4, g5⟩
      · have key : zT_isWord_62_5017_l28 I ir_F (jn 0) = some (.inl ()) := js_seq (fun i => jn i) 2 _ (fun i hi => st i hi (by have := of_decide_eq_false (g2 i (by omega) (by omega)); exact Classical.byContradiction this)) rfl 2 0 ir_F (by omega) (by unfold ir_F; omega)
        rw [show (0 : Int32) = jn 0 from rfl, key, Option.bind_some, decide_eq_true ((kw_iff (k := 15) (by decide)).mpr ⟨t, wEq_iff.mpr ⟨l, fun i hi => by have hi : i < 2 := hi; have := of_decide_eq_false (g2 i (by omega) (by omega)); exact Classical.byContradiction this⟩⟩)]
        rfl
      · have key : zT_isWord_62_5017_l28 I ir_F (jn 0) = some (.inr 0) := by
          refine js_seq (fun i => jn i) e _ (fun i hi => st i (by omega) (by have := of_decide_eq_false (g5 i (by omega) hi); exact Classical.byContradiction this)) ?_ e 0 ir_F (by omega) (by unfold ir_F; omega)
          obtain ⟨q1, q2, q3, q4⟩ := ft e (by omega)
          have we := wb e (by omega)
          unfold zT_isWord_62_5017_l28_b
          rw [lh, Option.bind_some, if_neg (by rw [show (2 : Int32) = jn 2 from rfl, jn_le (by omega) (by omega)]; omega), h1, if_pos q1, jc_ch_5017 I e (by omega), Option.bind_some, q2, q3, if_neg (by rw [jn_inj (by omega) (by omega)]; exact of_decide_eq_true g4)]
        rw [show (0 : Int32) = jn 0 from rfl, key, Option.bind_some, decide_eq_false (fun h => of_decide_eq_true g4 ((wEq_iff.mp ((kw_iff (k := 15) (by decide)).mp h).2).2 e (by show e < 2; omega)))]
        rfl
    · rw [if_neg (by rw [show (2 : Int32) = jn 2 from rfl, jn_inj (by omega) (by omega)]; exact l), decide_eq_false (fun h => l (wEq_iff.mp ((kw_iff (k := 15) (by decide)).mp h).2).1)]
      rfl
  · rw [if_pos (by rw [jl1, jn_inj (by omega) (by omega)]; exact t), decide_eq_false (fun h => t ((kw_iff (k := 15) (by decide)).mp h).1)]
    rfl
theorem jc_ch_5009 (I : iq_I) : ∀ i, i < 3 → zS_J0_charAt_5068e_5009 (jn i) I = some (jn ((wl 16).getD i 0)) := fun i hi => by
  rcases (show i = 0 ∨ i = 1 ∨ i = 2 by omega) with rfl | rfl | rfl <;> rfl
theorem jc_isW_5009 {I : iq_I} {f : Nat → Nat} {n p : Nat} (h : CL I f n p) : zT_isWord_62_5009 I = some (jB (decide (kw f n p = some 16))) := by
  obtain ⟨⟨hn, hx⟩, hp, h0, h1, h3, h4⟩ := h
  have tz1 := tz_sp (f := f) hp
  have t4 := tt_le (f := f) (n := n) (p := p)
  have lh : zS_J0_length_8abf5_5009 I = some (3 : Int32) := rfl
  unfold zT_isWord_62_5009
  rw [h0, h1, h4]
  by_cases t : tt f n p = 1
  · rw [if_neg (by rw [t]; exact fun h => h rfl), lh, Option.bind_some, jn_sub tz1.1]
    by_cases l : tz f n p - ta f n p = 3
    · rw [if_pos (by rw [l]; rfl)]
      have ft : ∀ i, i < 3 → iq_in (jn (ta f n p) + jn i) 700 ∧ (jn (ta f n p) + jn i).toNatClampNeg = ta f n p + i ∧ I 2 (ta f n p + i) = jn (f (ta f n p + i)) ∧ f (ta f n p + i) < 256 := fun i hi => by
        rw [jn_add]
        exact ⟨by rw [jn_in (by omega)]; omega, jn_clamp (by omega), (hx _ (by omega)).2, (hx _ (by omega)).1⟩
      have wb : ∀ i, i < 3 → (wl 16).getD i 0 < 256 := fun i hi => wl_b (k := 16) (by decide) hi
      have st : ∀ i, i < 3 → f (ta f n p + i) = (wl 16).getD i 0 → zT_isWord_62_5009_l28_b I (jn i) = some (.inl (jn (i + 1))) := fun i hi he => by
        obtain ⟨q1, q2, q3, q4⟩ := ft i hi
        unfold zT_isWord_62_5009_l28_b
        rw [lh, Option.bind_some, if_neg (by rw [show (3 : Int32) = jn 3 from rfl, jn_le (by omega) (by omega)]; omega), h1, if_pos q1, jc_ch_5009 I i hi, Option.bind_some, q2, q3, if_pos (by rw [he]), show jn i + (1 : Int32) = jn (i + 1) from jn_add i 1]
      rcases gFst_sp (P := fun i => decide (¬ f (ta f n p + i) = (wl 16).getD i 0)) (c := 3) (i := 0) with ⟨g1, g2⟩ | ⟨e, g1, _, g3, g4, g5⟩
      · have key : zT_isWord_62_5009_l28 I ir_F (jn 0) = some (.inl ()) := js_seq (fun i => jn i) 3 _ (fun i hi => st i hi (by have := of_decide_eq_false (g2 i (by omega) (by omega)); exact Classical.byContradiction this)) rfl 3 0 ir_F (by omega) (by unfold ir_F; omega)
        rw [show (0 : Int32) = jn 0 from rfl, key, Option.bind_some, decide_eq_true ((kw_iff (k := 16) (by decide)).mpr ⟨t, wEq_iff.mpr ⟨l, fun i hi => by have hi : i < 3 := hi; have := of_decide_eq_false (g2 i (by omega) (by omega)); exact Classical.byContradiction this⟩⟩)]
        rfl
      · have key : zT_isWord_62_5009_l28 I ir_F (jn 0) = some (.inr 0) := by
          refine js_seq (fun i => jn i) e _ (fun i hi => st i (by omega) (by have := of_decide_eq_false (g5 i (by omega) hi); exact Classical.byContradiction this)) ?_ e 0 ir_F (by omega) (by unfold ir_F; omega)
          obtain ⟨q1, q2, q3, q4⟩ := ft e (by omega)
          have we := wb e (by omega)
          unfold zT_isWord_62_5009_l28_b
          rw [lh, Option.bind_some, if_neg (by rw [show (3 : Int32) = jn 3 from rfl, jn_le (by omega) (by omega)]; omega), h1, if_pos q1, jc_ch_5009 I e (by omega), Option.bind_some, q2, q3, if_neg (by rw [jn_inj (by omega) (by omega)]; exact of_decide_eq_true g4)]
        rw [show (0 : Int32) = jn 0 from rfl, key, Option.bind_some, decide_eq_false (fun h => of_decide_eq_true g4 ((wEq_iff.mp ((kw_iff (k := 16) (by decide)).mp h).2).2 e (by show e < 3; omega)))]
        rfl
    · rw [if_neg (by rw [show (3 : Int32) = jn 3 from rfl, jn_inj (by omega) (by omega)]; exact l), decide_eq_false (fun h => l (wEq_iff.mp ((kw_iff (k := 16) (by decide)).mp h).2).1)]
      rfl
  · rw [if_pos (by rw [jl1, jn_inj (by omega) (by omega)]; exact t), decide_eq_false (fun h => t ((kw_iff (k := 16) (by decide)).mp h).1)]
    rfl
theorem cdw_inj {f g : Nat → Nat} {a b : Nat} : ∀ {i k : Nat}, (∀ j, j < i → 97 ≤ f (a + j) ∧ f (a + j) ≤ 122) → (∀ j, j < k → 97 ≤ g (b + j) ∧ g (b + j) ≤ 122) → cdw f a i = cdw g b k → i = k ∧ ∀ j, j < i → f (a + j) = g (b + j)
  | 0, 0, _, _, _ => ⟨rfl, fun j hj => by omega⟩
  | 0, k + 1, _, h2, h => by
    have := h2 k (by omega)
    unfold cdw at h
    omega
  | i + 1, 0, h1, _, h => by
    have := h1 i (by omega)
    unfold cdw at h
    omega
  | i + 1, k + 1, h1, h2, h => by
    have q1 := h1 i (by omega)
    have q2 := h2 k (by omega)
    have h' : cdw f a i * 32 + (f (a + i) - 96) = cdw g b k * 32 + (g (b + k) - 96) := h
    obtain ⟨e1, e2⟩ := cdw_inj (f := f) (g := g) (a := a) (b := b) (i := i) (k := k) (fun j hj => h1 j (by omega)) (fun j hj => h2 j (by omega)) (by omega)
    subst e1
    refine ⟨rfl, fun j hj => ?_⟩
    by_cases e : j = i
    · subst e; omega
    · exact e2 j (by omega)
def wcd (k : Nat) : Nat := cdw (fun i => (wl k).getD i 0) 0 (wl k).length
theorem wcd_lt : ∀ k : Fin 17, wcd k.val < 34359738368 := by decide +kernel
theorem jm_letters (I : iq_I) : ∀ k, k < 17 → zM_letters (jn k) I = some (jlg (wcd k)) := fun k hk => by
  rcases (show k = 0 ∨ k = 1 ∨ k = 2 ∨ k = 3 ∨ k = 4 ∨ k = 5 ∨ k = 6 ∨ k = 7 ∨ k = 8 ∨ k = 9 ∨ k = 10 ∨ k = 11 ∨ k = 12 ∨ k = 13 ∨ k = 14 ∨ k = 15 ∨ k = 16 by omega) with rfl | rfl | rfl | rfl | rfl | rfl | rfl | rfl | rfl | rfl | rfl | rfl | rfl | rfl | rfl | rfl | rfl <;> rfl
theorem jlg_e {a b : Nat} (ha : a < 9223372036854775808) (hb : b < 9223372036854775808) : (lg_cmp (jlg a) (jlg b) = 0) = (a = b) := propext ⟨fun h => by
  have q := (lg_cmp_le (jlg a) (jlg b)).mp (by rw [h]; decide)
  have q2 := (lg_cmp_ge (jlg a) (jlg b)).mp (by rw [h]; decide)
  have := (Int64.ofNat_le_iff_le ha hb).mp q
  have := (Int64.ofNat_le_iff_le hb ha).mp q2
  omega, fun h => by subst h; unfold lg_cmp; rw [if_neg (fun h => absurd h (Int64.lt_irrefl)), if_pos rfl]⟩
theorem jm_knownWord {I : iq_I} {J : iq_J} {f : Nat → Nat} {n p : Nat} (h : ML I J f n p) : zM_knownWord I J = some (jo (kw f n p)) := by
  obtain ⟨⟨hn, hx⟩, hp, h1, h2, h3, h4, h5, h6, h7, h8⟩ := h
  have tz1 := tz_sp (f := f) hp
  have t4 := tt_le (f := f) (n := n) (p := p)
  unfold zM_knownWord
  rw [h3, h5]
  by_cases t : tt f n p = 1
  · rw [if_neg (by rw [t]; exact fun h => h rfl)]
    have hz : ta f n p < n ∧ isLe (f (ta f n p)) = true := by
      unfold tt at t
      by_cases a : ta f n p < n
      · rw [if_pos a] at t
        by_cases l : isLe (f (ta f n p)) = true
        · exact ⟨a, l⟩
        · rw [if_neg l] at t
          split at t
          · cases t
          · split at t <;> cases t
      · rw [if_neg a] at t; cases t
    have ez : tz f n p = skp (fun i => isLe (f i)) (n - ta f n p) (ta f n p) := by unfold tz; rw [if_pos hz.1, if_pos hz.2]
    obtain ⟨s1, s2, s3, s4⟩ := skp_sp (fun i => isLe (f i)) (n - ta f n p) (ta f n p)
    have ls : ∀ j, j < tz f n p - ta f n p → 97 ≤ f (ta f n p + j) ∧ f (ta f n p + j) ≤ 122 := fun j hj => by
      have := s3 (ta f n p + j) (by omega) (by omega)
      unfold isLe at this
      simp at this
      exact this
    by_cases l : tz f n p - ta f n p ≤ 7
    · rw [if_pos (by rw [jl7, jn_le (by omega) (by omega)]; exact l)]
      have J28 := h8 t
      rw [Nat.min_eq_right l] at J28
      have cb : cdw f (ta f n p) (tz f n p - ta f n p) < 34359738368 := by
        have q := cdw_lt (f := f) (a := ta f n p) (i := tz f n p - ta f n p) (fun j hj => by have := ls j hj; unfold isLe; simp; exact this)
        have q2 : 32 ^ (tz f n p - ta f n p) ≤ 32 ^ 7 := Nat.pow_le_pow_right (by decide) l
        exact Nat.lt_of_lt_of_le q (Nat.le_trans q2 (by decide))
      have ce : ∀ k, k < 17 → (lg_cmp (jlg (wcd k)) (J 76 28) = 0) = (wEq f (ta f n p) (tz f n p) k = true) := fun k hk => by
        have wb := wcd_lt ⟨k, hk⟩
        simp only at wb
        rw [J28, jlg_e (by omega) (by omega)]
        refine propext ⟨fun h => ?_, fun h => ?_⟩
        · obtain ⟨e1, e2⟩ := cdw_inj (f := fun i => (wl k).getD i 0) (g := f) (a := 0) (b := ta f n p) (fun j hj => by rw [Nat.zero_add]; exact (wl_l ⟨k, hk⟩).2.2 j hj) ls h
          refine wEq_iff.mpr ⟨e1.symm, fun i hi => ?_⟩
          have := e2 i hi
          rw [Nat.zero_add] at this
          exact this.symm
        · obtain ⟨e1, e2⟩ := wEq_iff.mp h
          unfold wcd
          rw [e1]
          have : ∀ m, m ≤ (wl k).length → cdw (fun i => (wl k).getD i 0) 0 m = cdw f (ta f n p) m := by
            intro m
            induction m with
            | zero => intro _; rfl
            | succ m ih =>
              intro hm
              unfold cdw
              rw [ih (by omega), e2 m (by omega), Nat.zero_add]
          exact this _ (Nat.le_refl _)
      have st : ∀ k, k < 17 → wEq f (ta f n p) (tz f n p) k = false → zM_knownWord_l21_b I J (jn k) = some (.inl (jn (k + 1))) := fun k hk hw => by
        unfold zM_knownWord_l21_b
        rw [if_neg (by rw [show (17 : Int32) = jn 17 from rfl, jn_le (by omega) (by omega)]; omega), jm_letters I k hk, Option.bind_some, if_pos (by rw [ce k hk, hw]; decide), show jn k + (1 : Int32) = jn (k + 1) from jn_add k 1]
      unfold kw
      rw [if_pos t]
      rcases gFst_sp (P := fun k => wEq f (ta f n p) (tz f n p) k) (c := 17) (i := 0) with ⟨g1, g2⟩ | ⟨e, g1, _, g3, g4, g5⟩
      · have key : zM_knownWord_l21 I J ir_F (jn 0) = some (.inl ()) := js_seq (fun i => jn i) 17 _ (fun i hi => st i hi (g2 i (by omega) (by omega))) rfl 17 0 ir_F (by omega) (by unfold ir_F; omega)
        rw [g1, show (0 : Int32) = jn 0 from rfl, key, Option.bind_some]
        rfl
      · have key : zM_knownWord_l21 I J ir_F (jn 0) = some (.inr (jn e)) := by
          refine js_seq (fun i => jn i) e _ (fun i hi => st i (by omega) (g5 i (by omega) hi)) ?_ e 0 ir_F (by omega) (by unfold ir_F; omega)
          unfold zM_knownWord_l21_b
          rw [if_neg (by rw [show (17 : Int32) = jn 17 from rfl, jn_le (by omega) (by omega)]; omega), jm_letters I e (by omega), Option.bind_some, if_neg (by rw [ce e (by omega), g4]; exact fun h => h rfl)]
        rw [g1, show (0 : Int32) = jn 0 from rfl, key, Option.bind_some]
        rfl
    · rw [if_neg (by rw [jl7, jn_le (by omega) (by omega)]; exact l)]
      have : kw f n p = none := by
        cases q : kw f n p with
        | none => rfl
        | some k =>
          obtain ⟨k1, -⟩ := kw_lt q
          have := (wEq_iff.mp ((kw_iff k1).mp q).2).1
          have l7 := (wl_l ⟨k, k1⟩).1
          simp only at l7
          omega
      rw [this]
      rfl
  · rw [if_pos (by rw [jl1, jn_inj (by omega) (by omega)]; exact t)]
    unfold kw
    rw [if_neg t]
    rfl
/-- is the token at p this sign -/
def sgn (f : Nat → Nat) (n p c : Nat) : Bool := decide (tt f n p = 3 ∧ f (ta f n p) = c)
theorem tt_n {f : Nat → Nat} {n p : Nat} (h : ¬ tt f n p = 0) : ta f n p < n := by
  apply Classical.byContradiction
  intro hn
  exact h (by unfold tt; rw [if_neg hn])
theorem jc_isSign {I : iq_I} {f : Nat → Nat} {n p : Nat} (h : CL I f n p) {c : Nat} (hc : c < 256) : zT_isSign (jn c) I = some (jB (sgn f n p c)) := by
  obtain ⟨⟨hn, hx⟩, hp, h0, h1, h3, h4⟩ := h
  have t4 := tt_le (f := f) (n := n) (p := p)
  unfold zT_isSign sgn
  rw [h0]
  by_cases t : tt f n p = 3
  · have a := tt_n (f := f) (n := n) (p := p) (by omega)
    have b := hx _ a
    rw [if_neg (by rw [t]; exact fun h => h rfl), h1, h3, if_neg (by rw [jn_le (by omega) (by omega)]; omega), if_pos (by rw [jn_in (by omega)]; omega), jn_clamp (by omega), b.2]
    by_cases e : f (ta f n p) = c
    · rw [if_neg (by rw [e]; exact fun h => h rfl), decide_eq_true ⟨t, e⟩]; rfl
    · rw [if_pos (by rw [jn_inj (by omega) (by omega)]; exact e), decide_eq_false (fun h => e h.2)]; rfl
  · rw [if_pos (by rw [jl3, jn_inj (by omega) (by omega)]; exact t), decide_eq_false (fun h => t h.1)]; rfl
theorem jm_isSign {I : iq_I} {J : iq_J} {f : Nat → Nat} {n p : Nat} (h : ML I J f n p) {c : Nat} (hc : c < 256) : zM_isSign (jn c) I = some (jB (sgn f n p c)) := by
  obtain ⟨⟨hn, hx⟩, hp, h1, h2, h3, h4, h5, h6, h7, h8⟩ := h
  have t4 := tt_le (f := f) (n := n) (p := p)
  unfold zM_isSign sgn
  rw [h3, h7]
  by_cases t : tt f n p = 3
  · have a := tt_n (f := f) (n := n) (p := p) (by omega)
    have b := hx _ a
    rw [if_neg (by rw [t]; exact fun h => h rfl)]
    simp only [if_pos a]
    by_cases e : f (ta f n p) = c
    · rw [if_neg (by rw [e]; exact fun h => h rfl), decide_eq_true ⟨t, e⟩]; rfl
    · rw [if_pos (by rw [jn_inj (by omega) (by omega)]; exact e), decide_eq_false (fun h => e h.2)]; rfl
  · rw [if_pos (by rw [jl3, jn_inj (by omega) (by omega)]; exact t), decide_eq_false (fun h => t h.1)]; rfl
/-- the number at p, and whether it is short enough -/
def tn (f : Nat → Nat) (n p : Nat) : Nat := nv f (ta f n p) (tz f n p - ta f n p)
theorem tn_di {f : Nat → Nat} {n p : Nat} (hp : p ≤ n) (t : tt f n p = 2) : ∀ j, j < tz f n p - ta f n p → isDi (f (ta f n p + j)) = true := by
  have a := tt_n (f := f) (n := n) (p := p) (by omega)
  have t' := t
  unfold tt at t'
  rw [if_pos a] at t'
  by_cases l : isLe (f (ta f n p)) = true
  · rw [if_pos l] at t'; cases t'
  · rw [if_neg l] at t'
    by_cases d : isDi (f (ta f n p)) = true
    · have ez : tz f n p = skp (fun i => isDi (f i)) (n - ta f n p) (ta f n p) := by unfold tz; rw [if_pos a, if_neg l, if_pos d]
      obtain ⟨s1, s2, s3, s4⟩ := skp_sp (fun i => isDi (f i)) (n - ta f n p) (ta f n p)
      exact fun j hj => s3 (ta f n p + j) (by omega) (by omega)
    · rw [if_neg d] at t'
      split at t' <;> cases t'
theorem tn_lt {f : Nat → Nat} {n p : Nat} (hp : p ≤ n) (t : tt f n p = 2) (l : tz f n p - ta f n p ≤ 4) : tn f n p < 10000 := by
  have q := nv_lt (f := f) (a := ta f n p) (tn_di hp t)
  have q2 : 10 ^ (tz f n p - ta f n p) ≤ 10 ^ 4 := Nat.pow_le_pow_right (by decide) l
  exact Nat.lt_of_lt_of_le q q2
theorem jc_number {I : iq_I} {f : Nat → Nat} {n p : Nat} (h : CL I f n p) (t : tt f n p = 2) (l : tz f n p - ta f n p ≤ 4) : zT_number I = some (jn (tn f n p)) := by
  obtain ⟨⟨hn, hx⟩, hp, h0, h1, h3, h4⟩ := h
  have tz1 := tz_sp (f := f) hp
  have dg := tn_di hp t
  have key : zT_number_l7 I ir_F (jn 0, jn (ta f n p)) = some (jn (tn f n p)) := by
    refine js_seq (fun i => (jn (nv f (ta f n p) i), jn (ta f n p + i))) (tz f n p - ta f n p) _ (fun i hi => ?_) ?_ (tz f n p - ta f n p) 0 ir_F (by omega) (by unfold ir_F; omega)
    · have d := dg i hi
      unfold isDi at d
      simp at d
      have lt := nv_lt (f := f) (a := ta f n p) (i := i) fun j hj => dg j (by omega)
      have l4 : 10 ^ i ≤ 1000 := by
        rcases (show i = 0 ∨ i = 1 ∨ i = 2 ∨ i = 3 by omega) with rfl | rfl | rfl | rfl <;> decide
      have b := hx (ta f n p + i) (by omega)
      dsimp only
      unfold zT_number_l7_b
      rw [h4, if_neg (by rw [jn_le (by omega) (by omega)]; omega), h3, if_neg (by rw [jn_le (by omega) (by omega)]; omega), if_pos (by rw [jn_in (by omega)]; omega), jn_clamp (by omega), b.2, jl10, jn_mul, jn_add, jl48, jn_sub (by omega), show jn (ta f n p + i) + (1 : Int32) = jn (ta f n p + (i + 1)) from jn_add _ 1, show nv f (ta f n p) i * 10 + f (ta f n p + i) - 48 = nv f (ta f n p) (i + 1) by (show _ = 10 * nv f (ta f n p) i + (f (ta f n p + i) - 48); omega)]
    · dsimp only
      unfold zT_number_l7_b
      rw [h4, if_pos (by rw [jn_le (by omega) (by omega)]; omega)]
      rfl
  unfold zT_number
  rw [h1, show (0 : Int32) = jn 0 from rfl, key, Option.bind_some]
theorem jm_value {I : iq_I} {J : iq_J} {f : Nat → Nat} {n p : Nat} (h : ML I J f n p) (t : tt f n p = 2) (l : tz f n p - ta f n p ≤ 4) : I 76 26 = jn (tn f n p) := by
  rw [h.2.2.2.2.2.2.2.1 t, Nat.min_eq_right l]; rfl
