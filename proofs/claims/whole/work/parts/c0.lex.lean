/-! ===== the tokens of a text: what both lexers find ===== -/
def isBl (b : Nat) : Bool := decide (b = 32) || decide (b = 10)
def isLe (b : Nat) : Bool := decide (97 ≤ b) && decide (b ≤ 122)
def isDi (b : Nat) : Bool := decide (48 ≤ b) && decide (b ≤ 57)
def isSg (b : Nat) : Bool := decide (b ∈ [59, 40, 41, 43, 45, 42, 47, 60, 61])
def skp (P : Nat → Bool) (c p : Nat) : Nat := (gFst (fun i => !P i) c p).getD (p + c)
theorem skp_sp (P : Nat → Bool) (c p : Nat) : p ≤ skp P c p ∧ skp P c p ≤ p + c ∧ (∀ i, p ≤ i → i < skp P c p → P i = true) ∧ (skp P c p < p + c → P (skp P c p) = false) := by
  unfold skp
  rcases gFst_sp (P := fun i => !P i) (c := c) (i := p) with ⟨h1, h2⟩ | ⟨e, h1, h2, h3, h4, h5⟩
  · rw [h1]
    refine ⟨by show p ≤ p + c; omega, Nat.le_refl _, fun i hi hj => ?_, fun h => absurd h (Nat.lt_irrefl _)⟩
    have := h2 i hi hj
    simpa using this
  · rw [h1]
    refine ⟨h2, by show e ≤ p + c; omega, fun i hi hj => ?_, fun _ => ?_⟩
    · have := h5 i hi hj
      simpa using this
    · show P e = false
      simpa using h4
/-- the token at p: where it starts, its type, where it stops -/
def ta (f : Nat → Nat) (n p : Nat) : Nat := skp (fun i => isBl (f i)) (n - p) p
def tt (f : Nat → Nat) (n p : Nat) : Nat := if ta f n p < n then (if isLe (f (ta f n p)) = true then 1 else if isDi (f (ta f n p)) = true then 2 else if isSg (f (ta f n p)) = true then 3 else 4) else 0
def tz (f : Nat → Nat) (n p : Nat) : Nat := if ta f n p < n then (if isLe (f (ta f n p)) = true then skp (fun i => isLe (f i)) (n - ta f n p) (ta f n p) else if isDi (f (ta f n p)) = true then skp (fun i => isDi (f i)) (n - ta f n p) (ta f n p) else ta f n p + 1) else ta f n p
theorem ta_sp {f : Nat → Nat} {n p : Nat} (hp : p ≤ n) : p ≤ ta f n p ∧ ta f n p ≤ n ∧ (∀ i, p ≤ i → i < ta f n p → isBl (f i) = true) ∧ (ta f n p < n → isBl (f (ta f n p)) = false) := by
  obtain ⟨h1, h2, h3, h4⟩ := skp_sp (fun i => isBl (f i)) (n - p) p
  exact ⟨h1, by unfold ta; omega, h3, fun h => h4 (by unfold ta at h; omega)⟩
theorem skp_lt {P : Nat → Bool} {c p : Nat} (hc : 0 < c) (h : P p = true) : p < skp P c p := by
  obtain ⟨h1, h2, h3, h4⟩ := skp_sp P c p
  apply Classical.byContradiction
  intro hn
  have e : skp P c p = p := by omega
  rw [e] at h4
  rw [h4 (by omega)] at h
  cases h
theorem tz_sp {f : Nat → Nat} {n p : Nat} (hp : p ≤ n) : ta f n p ≤ tz f n p ∧ tz f n p ≤ n ∧ (¬ tt f n p = 0 → ta f n p < tz f n p) ∧ (tt f n p = 0 → ta f n p = n ∧ tz f n p = n) := by
  obtain ⟨h1, h2, h3, h4⟩ := ta_sp (f := f) hp
  unfold tz tt
  by_cases a : ta f n p < n
  · rw [if_pos a, if_pos a]
    by_cases l : isLe (f (ta f n p)) = true
    · rw [if_pos l, if_pos l]
      obtain ⟨s1, s2, s3, s4⟩ := skp_sp (fun i => isLe (f i)) (n - ta f n p) (ta f n p)
      exact ⟨s1, by omega, fun _ => skp_lt (by omega) l, fun h => by cases h⟩
    · rw [if_neg l, if_neg l]
      by_cases d : isDi (f (ta f n p)) = true
      · rw [if_pos d, if_pos d]
        obtain ⟨s1, s2, s3, s4⟩ := skp_sp (fun i => isDi (f i)) (n - ta f n p) (ta f n p)
        exact ⟨s1, by omega, fun _ => skp_lt (by omega) d, fun h => by cases h⟩
      · rw [if_neg d, if_neg d]
        refine ⟨by omega, by omega, fun _ => by omega, fun h => ?_⟩
        split at h <;> cases h
  · rw [if_neg a, if_neg a]
    exact ⟨Nat.le_refl _, h2, fun h => absurd rfl h, fun _ => by omega⟩
theorem tt_le {f : Nat → Nat} {n p : Nat} : tt f n p ≤ 4 := by
  unfold tt
  split
  · split
    · omega
    · split
      · omega
      · split <;> omega
  · omega
/-- the class's text and tokens -/
def jTx (I : iq_I) (c : Nat) (f : Nat → Nat) (n : Nat) : Prop := n ≤ 700 ∧ ∀ i, i < n → f i < 256 ∧ I c i = jn (f i)
def CL (I : iq_I) (f : Nat → Nat) (n p : Nat) : Prop := jTx I 2 f n ∧ p ≤ n ∧ I 62 0 = jn (tt f n p) ∧ I 62 1 = jn (ta f n p) ∧ I 62 3 = jn n ∧ I 62 4 = jn (tz f n p)
theorem jc_isBlank {b : Nat} (hb : b < 256) {I : iq_I} : zT_isBlank (jn b) I = some (jB (isBl b)) := by
  unfold zT_isBlank isBl
  by_cases h : b = 32
  · subst h; rfl
  · rw [if_neg (by rw [jl32, jn_inj (by omega) (by omega)]; exact h), decide_eq_false h]
    by_cases h2 : b = 10
    · subst h2; rfl
    · rw [if_pos (by rw [jl10, jn_inj (by omega) (by omega)]; exact h2), decide_eq_false h2]; rfl
theorem jc_isLetter {b : Nat} (hb : b < 256) {I : iq_I} : zT_isLetter (jn b) I = some (jB (isLe b)) := by
  unfold zT_isLetter isLe
  by_cases h : b < 97
  · rw [if_pos (by rw [jl97, jn_lt (by omega) (by omega)]; exact h), decide_eq_false (by omega)]; rfl
  · rw [if_neg (by rw [jl97, jn_lt (by omega) (by omega)]; exact h), decide_eq_true (by omega)]
    by_cases h2 : 122 < b
    · rw [if_pos (by rw [jl122, jn_lt (by omega) (by omega)]; exact h2), decide_eq_false (by omega)]; rfl
    · rw [if_neg (by rw [jl122, jn_lt (by omega) (by omega)]; exact h2), decide_eq_true (by omega)]; rfl
theorem jl48 : (48 : Int32) = jn 48 := rfl
theorem jl57 : (57 : Int32) = jn 57 := rfl
theorem jc_isDigit {b : Nat} (hb : b < 256) {I : iq_I} : zT_isDigit (jn b) I = some (jB (isDi b)) := by
  unfold zT_isDigit isDi
  by_cases h : b < 48
  · rw [if_pos (by rw [jl48, jn_lt (by omega) (by omega)]; exact h), decide_eq_false (by omega)]; rfl
  · rw [if_neg (by rw [jl48, jn_lt (by omega) (by omega)]; exact h), decide_eq_true (by omega)]
    by_cases h2 : 57 < b
    · rw [if_pos (by rw [jl57, jn_lt (by omega) (by omega)]; exact h2), decide_eq_false (by omega)]; rfl
    · rw [if_neg (by rw [jl57, jn_lt (by omega) (by omega)]; exact h2), decide_eq_true (by omega)]; rfl
theorem jm_isLetter {b : Nat} (hb : b < 256) {I : iq_I} : zM_isLetter (jn b) I = some (jB (isLe b)) := jc_isLetter (I := I) hb
theorem jm_isDigit {b : Nat} (hb : b < 256) {I : iq_I} : zM_isDigit (jn b) I = some (jB (isDi b)) := jc_isDigit (I := I) hb
theorem jc_chr : ∀ b : Fin 256, (Int32.toUInt32 (jn b.val) % 65536).toInt32 = jn b.val := by decide +kernel
theorem jc_by8 : ∀ b : Fin 256, ∀ i : Fin 9, (ir_chr 1 i.val = (Int32.toInt8 (jn b.val)).toInt32) = ([59, 40, 41, 43, 45, 42, 47, 60, 61].getD i.val 0 = b.val) := fun b i => propext (by
  revert b i; decide +kernel)
theorem jc_indexOf {b : Nat} (hb : b < 256) {I : iq_I} : ∃ q, zS_J0_indexOf_0f7a4 (jn b) I = some q ∧ (q < 0) = (isSg b = false) := by
  have key : ∃ w, zS_J1_indexOfChar_4cfef_l7 (9 : Int32) ((Int32.toInt8 (jn b)).toInt32) I ir_F (jn 0) = some w ∧ ((w = .inl () ∧ isSg b = false) ∨ (∃ e, e < 9 ∧ w = .inr (jn e) ∧ isSg b = true)) := by
    have c8 : ∀ i, i < 9 → (ir_chr 1 i = (Int32.toInt8 (jn b)).toInt32) = ([59, 40, 41, 43, 45, 42, 47, 60, 61].getD i 0 = b) := fun i hi => jc_by8 ⟨b, hb⟩ ⟨i, hi⟩
    have st : ∀ i, i < 9 → ¬ [59, 40, 41, 43, 45, 42, 47, 60, 61].getD i 0 = b → zS_J1_indexOfChar_4cfef_l7_b (9 : Int32) ((Int32.toInt8 (jn b)).toInt32) I (jn i) = some (.inl (jn (i + 1))) := fun i hi hne => by
      unfold zS_J1_indexOfChar_4cfef_l7_b
      rw [if_neg (by rw [jl9, jn_le (by omega) (by omega)]; omega), if_pos (by rw [jn_in (by omega)]; exact hi), jn_clamp (by omega), if_pos (by rw [c8 i hi]; exact hne), show jn i + (1 : Int32) = jn (i + 1) from jn_add i 1]
    rcases gFst_sp (P := fun i => decide ([59, 40, 41, 43, 45, 42, 47, 60, 61].getD i 0 = b)) (c := 9) (i := 0) with ⟨h1, h2⟩ | ⟨e, h1, _, h3, h4, h5⟩
    · refine ⟨.inl (), ?_, Or.inl ⟨rfl, ?_⟩⟩
      · refine js_seq (fun i => jn i) 9 _ (fun i hi => st i hi (of_decide_eq_false (h2 i (by omega) (by omega)))) ?_ 9 0 ir_F (by omega) (by unfold ir_F; omega)
        rfl
      · refine decide_eq_false fun hm => ?_
        obtain ⟨i, hi, e⟩ := List.getElem_of_mem hm
        have := of_decide_eq_false (h2 i (by omega) (by simpa using hi))
        exact this (by rw [List.getD_eq_getElem?_getD, List.getElem?_eq_getElem hi, e]; rfl)
    · have h4 := of_decide_eq_true h4
      refine ⟨.inr (jn e), ?_, Or.inr ⟨e, by omega, rfl, ?_⟩⟩
      · refine js_seq (fun i => jn i) e _ (fun i hi => st i (by omega) (of_decide_eq_false (h5 i (by omega) hi))) ?_ e 0 ir_F (by omega) (by unfold ir_F; omega)
        unfold zS_J1_indexOfChar_4cfef_l7_b
        rw [if_neg (by rw [jl9, jn_le (by omega) (by omega)]; omega), if_pos (by rw [jn_in (by omega)]; omega), jn_clamp (by omega), if_neg (by rw [c8 e (by omega)]; exact fun h => h h4)]
      · refine decide_eq_true ?_
        rw [← h4, List.getD_eq_getElem?_getD, List.getElem?_eq_getElem (show e < 9 by omega)]
        exact List.getElem_mem _
  obtain ⟨w, e1, hw⟩ := key
  have e1 : zS_J1_indexOfChar_4cfef_l7 (9 : Int32) ((Int32.toInt8 (jn b)).toInt32) I ir_F (0 : Int32) = some w := e1
  have ce : zS_J1_canEncode_9a6ad (jn b) I = some 1 := by
    unfold zS_J1_canEncode_9a6ad
    rw [if_neg (by rw [jl0, jn_lt (by omega) (by omega)]; omega), if_neg (by rw [jl255, jn_lt (by omega) (by omega)]; omega)]
  have st : zS_J0_indexOf_0f7a4 (jn b) I = (ir_sm w (fun _ => some (-1 : Int32)) (fun b3 => some b3)) := by
    unfold zS_J0_indexOf_0f7a4 zS_J0_indexOf_7cf53 zS_J0_isLatin1_aae02_5001 zS_J0_length_8abf5_5001 zS_J0_coder_7d493_5001 zS_J1_indexOf_4cfef
    rw [Option.bind_some, if_neg (by decide), Option.bind_some, Option.bind_some, ce, Option.bind_some, if_pos (by decide), if_pos (by decide)]
    unfold zS_J1_indexOfChar_4cfef
    rw [show ir_max (0 : Int32) (0 : Int32) = 0 from by decide, show ir_min ((9 : Int32) >>> ((0 : Int32) &&& 31)) (9 : Int32) = 9 from by decide, e1, Option.bind_some]
    cases w <;> rfl
  rcases hw with ⟨rfl, h⟩ | ⟨e, he, rfl, h⟩
  · exact ⟨-1, st, by rw [h]; exact propext ⟨fun _ => rfl, fun _ => by decide⟩⟩
  · refine ⟨jn e, st, ?_⟩
    rw [h, jl0, jn_lt (by omega) (by omega)]
    exact propext ⟨fun h => absurd h (Nat.not_lt_zero _), fun h => by cases h⟩
