/-! ===== sets of small numbers as bits of an int ===== -/
def jt (x : Int32) (j : Nat) : Bool := x.toBitVec.getLsbD j
theorem jt_ext {x y : Int32} (h : ∀ j, j < 32 → jt x j = jt y j) : x = y := Int32.toBitVec.inj (BitVec.eq_of_getLsbD_eq fun j hj => h j hj)
theorem jt_or (x y : Int32) (j : Nat) : jt (x ||| y) j = (jt x j || jt y j) := by simp [jt]
theorem jt_and (x y : Int32) (j : Nat) : jt (x &&& y) j = (jt x j && jt y j) := by simp [jt]
theorem jt_xor (x y : Int32) (j : Nat) : jt (x ^^^ y) j = (jt x j ^^ jt y j) := by simp [jt]
theorem jt_zero (j : Nat) : jt 0 j = false := by simp [jt]
theorem jt_m {j : Nat} (h : j < 32) : jt (jo none) j = true := by
  have : ∀ j : Fin 32, jt (jo none) j = true := by decide
  exact this ⟨j, h⟩
theorem jt_big {x : Int32} {j : Nat} (h : 32 ≤ j) : jt x j = false := by
  unfold jt
  exact BitVec.getLsbD_of_ge _ _ h
theorem jt_sm : ∀ s : Fin 32, ((jn s.val &&& 31).toBitVec.smod 32) = BitVec.ofNat 32 s.val := by decide
theorem jt_sm' {s : Nat} (h : s < 32) : ((jn s &&& 31).toBitVec.smod 32) = BitVec.ofNat 32 s := jt_sm ⟨s, h⟩
theorem jt_one1 : ∀ (s j : Fin 32), jt ((1 : Int32) <<< (jn s.val &&& 31)) j.val = decide (j.val = s.val) := by decide
theorem jt_one {s j : Nat} (hs : s < 32) : jt ((1 : Int32) <<< (jn s &&& 31)) j = decide (j = s) := by
  by_cases hj : j < 32
  · exact jt_one1 ⟨s, hs⟩ ⟨j, hj⟩
  · rw [jt_big (by omega)]
    exact (decide_eq_false (by omega)).symm
theorem jt_1 (j : Nat) : jt 1 j = decide (j = 0) := by
  have := jt_one (s := 0) (j := j) (by omega)
  exact this
theorem jt_shr {x : Int32} {s : Nat} (hs : s < 32) : jt (x >>> (jn s &&& 31)) 0 = jt x s := by
  unfold jt
  rw [show (x >>> (jn s &&& 31)).toBitVec = BitVec.sshiftRight' x.toBitVec ((jn s &&& 31).toBitVec.smod 32) from rfl, jt_sm' hs, BitVec.getLsbD_sshiftRight']
  have e : (BitVec.ofNat 32 s).toNat = s := by simp; omega
  rw [e]
  simp [hs]
theorem jt_bit {x : Int32} {s : Nat} (hs : s < 32) : ((x >>> (jn s &&& 31)) &&& 1 = 0) = (jt x s = false) := propext ⟨fun h => by
  have := congrArg (fun z => jt z 0) h
  simp only [jt_and, jt_zero, jt_shr hs, jt_1] at this
  simpa using this, fun h => jt_ext fun j hj => by
  rw [jt_and, jt_1, jt_zero]
  by_cases e : j = 0
  · subst e
    rw [jt_shr hs, h]
    rfl
  · simp [e]⟩
theorem jt_bit1 {x : Int32} {s : Nat} (hs : s < 32) : ((x >>> (jn s &&& 31)) &&& 1 = 1) = (jt x s = true) := propext ⟨fun h => by
  have := congrArg (fun z => jt z 0) h
  simp only [jt_and, jt_shr hs, jt_1] at this
  simpa using this, fun h => jt_ext fun j hj => by
  rw [jt_and, jt_1]
  by_cases e : j = 0
  · subst e
    rw [jt_shr hs, h]
    rfl
  · simp [e]⟩
/-- the numbers below n of which P holds -/
def jb : Nat → (Nat → Bool) → Int32
  | 0, _ => 0
  | n + 1, P => if P n = true then jb n P ||| ((1 : Int32) <<< (jn n &&& 31)) else jb n P
theorem jt_jb : ∀ {n : Nat} {P : Nat → Bool} {j : Nat}, n ≤ 32 → jt (jb n P) j = (decide (j < n) && P j)
  | 0, P, j, _ => by simp [jb, jt_zero]
  | n + 1, P, j, h => by
    unfold jb
    have ih := jt_jb (n := n) (P := P) (j := j) (by omega)
    by_cases hp : P n = true
    · rw [if_pos hp, jt_or, ih, jt_one (by omega)]
      by_cases e : j = n
      · subst e; simp [hp]
      · have : decide (j < n + 1) = decide (j < n) := by
          by_cases h2 : j < n
          · simp [h2]; omega
          · simp [h2]; omega
        simp [e, this]
    · rw [if_neg hp, ih]
      by_cases e : j = n
      · subst e; simp [hp]
      · have : decide (j < n + 1) = decide (j < n) := by
          by_cases h2 : j < n
          · simp [h2]; omega
          · simp [h2]; omega
        simp [this]
theorem jb_ext {n : Nat} {P Q : Nat → Bool} (h : ∀ j, j < n → P j = Q j) : jb n P = jb n Q := by
  induction n with
  | zero => rfl
  | succ n ih =>
    unfold jb
    rw [h n (by omega), ih (fun j hj => h j (by omega))]
theorem jb_or {n : Nat} {P Q : Nat → Bool} (hn : n ≤ 32) : jb n P ||| jb n Q = jb n (fun j => P j || Q j) := jt_ext fun j _ => by
  rw [jt_or, jt_jb hn, jt_jb hn, jt_jb hn]
  cases decide (j < n) <;> simp
theorem jb_and {n : Nat} {P Q : Nat → Bool} (hn : n ≤ 32) : jb n P &&& jb n Q = jb n (fun j => P j && Q j) := jt_ext fun j _ => by
  rw [jt_and, jt_jb hn, jt_jb hn, jt_jb hn]
  cases decide (j < n) <;> simp
theorem jb_andn {n : Nat} {P Q : Nat → Bool} (hn : n ≤ 32) : jb n P &&& (jb n Q ^^^ jo none) = jb n (fun j => P j && !Q j) := jt_ext fun j hj => by
  rw [jt_and, jt_xor, jt_m hj, jt_jb hn, jt_jb hn, jt_jb hn]
  cases decide (j < n) <;> simp
theorem jb_one {n s : Nat} (hs : s < n) (hn : n ≤ 32) : (1 : Int32) <<< (jn s &&& 31) = jb n (fun j => decide (j = s)) := jt_ext fun j _ => by
  rw [jt_one (by omega), jt_jb hn]
  by_cases h : j = s
  · subst h; simp [hs]
  · simp [h]
theorem jb_zero {n : Nat} {P : Nat → Bool} (hn : n ≤ 32) : (jb n P = 0) = (∀ j, j < n → P j = false) := propext ⟨fun h j hj => by
  have := congrArg (fun z => jt z j) h
  simp only [jt_jb hn, jt_zero] at this
  simpa [hj] using this, fun h => jt_ext fun j _ => by
  rw [jt_jb hn, jt_zero]
  by_cases hj : j < n
  · simp [h j hj]
  · simp [hj]⟩
theorem jb_0 {n : Nat} (hn : n ≤ 32) : (0 : Int32) = jb n (fun _ => false) := by
  rw [eq_comm, jb_zero hn]; intros; rfl
theorem jb_all1 : ∀ n : Fin 16, ((1 : Int32) <<< (jn n.val &&& 31)) - 1 = jb n.val (fun _ => true) := by decide
theorem jb_all {n : Nat} (h : n < 16) : ((1 : Int32) <<< (jn n &&& 31)) - 1 = jb n (fun _ => true) := jb_all1 ⟨n, h⟩
/-- a loop that gathers bits -/
theorem jb_it (P : Nat → Bool) : ∀ n, js_it (fun i a => if P i = true then a ||| ((1 : Int32) <<< (jn i &&& 31)) else a) n 0 0 = jb n P
  | 0 => rfl
  | n + 1 => by
    rw [js_it_sn, jb_it P n, Nat.zero_add]
    rfl
theorem jb_lt {n : Nat} {P : Nat → Bool} (hn : n < 31) : ∃ k, k < 2147483648 ∧ jb n P = jn k := by
  rcases jx_cases (jb n P) with h | h
  · exfalso
    have h1 : jt (jb n P) 31 = true := by
      unfold jt
      have : (jb n P).toBitVec.toInt < 0 := by
        have := Int32.lt_iff_toInt_lt.mp h
        exact this
      have h2 : (jb n P).toBitVec.msb = true := by
        rw [BitVec.msb_eq_toInt]; simpa using this
      rw [BitVec.msb_eq_getLsbD_last] at h2
      exact h2
    rw [jt_jb (by omega)] at h1
    simp at h1
    omega
  · exact h
/-! counting, and chains of sets that stop growing -/
def jcn : Nat → (Nat → Bool) → Nat
  | 0, _ => 0
  | n + 1, P => jcn n P + (if P n = true then 1 else 0)
theorem jcn_le : ∀ {n : Nat} {P : Nat → Bool}, jcn n P ≤ n
  | 0, P => Nat.le_refl _
  | n + 1, P => by
    have := jcn_le (n := n) (P := P)
    unfold jcn
    split <;> omega
theorem jcn_mono : ∀ {n : Nat} {P Q : Nat → Bool}, (∀ j, j < n → P j = true → Q j = true) → jcn n P ≤ jcn n Q
  | 0, P, Q, h => Nat.le_refl _
  | n + 1, P, Q, h => by
    have ih := jcn_mono (n := n) (P := P) (Q := Q) (fun j hj => h j (by omega))
    unfold jcn
    by_cases hp : P n = true
    · rw [if_pos hp, if_pos (h n (by omega) hp)]; omega
    · rw [if_neg hp]; split <;> omega
theorem jcn_lt : ∀ {n : Nat} {P Q : Nat → Bool}, (∀ j, j < n → P j = true → Q j = true) → (∃ j, j < n ∧ Q j = true ∧ P j = false) → jcn n P < jcn n Q
  | 0, P, Q, h, ⟨j, hj, _⟩ => by omega
  | n + 1, P, Q, h, ⟨j, hj, h1, h2⟩ => by
    unfold jcn
    by_cases e : j = n
    · subst e
      have ih := jcn_mono (n := j) (P := P) (Q := Q) (fun i hi => h i (by omega))
      rw [if_pos h1, if_neg (by simp [h2])]
      omega
    · have ih := jcn_lt (n := n) (P := P) (Q := Q) (fun i hi => h i (by omega)) ⟨j, by omega, h1, h2⟩
      by_cases hp : P n = true
      · rw [if_pos hp, if_pos (h n (by omega) hp)]; omega
      · rw [if_neg hp]; split <;> omega
theorem jcn_pos : ∀ {n : Nat} {P : Nat → Bool}, (∃ j, j < n ∧ P j = true) → 0 < jcn n P := fun {n P} h => by
  obtain ⟨j, hj, hp⟩ := h
  have := jcn_lt (n := n) (P := fun _ => false) (Q := P) (fun _ _ h => by cases h) ⟨j, hj, hp, rfl⟩
  omega
theorem jst_up {n c : Nat} {X : Nat → Nat → Bool} (hu : ∀ k j, j < n → X k j = true → X (k + 1) j = true)
    (hs : ∀ k, (∀ j, j < n → X (k + 1) j = X k j) → ∀ j, j < n → X (k + 2) j = X (k + 1) j) (hc : c ≤ jcn n (X 0)) :
    ∀ {k m : Nat}, n ≤ c + k → k ≤ m → ∀ j, j < n → X m j = X k j := by
  have A : ∀ k, (∃ i, i ≤ k ∧ ∀ j, j < n → X (i + 1) j = X i j) ∨ c + k + 1 ≤ jcn n (X (k + 1)) := by
    intro k
    induction k with
    | zero =>
      by_cases h : ∀ j, j < n → X 1 j = X 0 j
      · exact Or.inl ⟨0, Nat.le_refl _, h⟩
      · refine Or.inr ?_
        have h2 : ∃ j, j < n ∧ X 1 j = true ∧ X 0 j = false := by
          apply Classical.byContradiction
          intro hn
          apply h
          intro j hj
          cases h0 : X 0 j with
          | true => exact hu 0 j hj h0
          | false =>
            cases h1 : X 1 j with
            | false => rfl
            | true => exact absurd ⟨j, hj, h1, h0⟩ hn
        have := jcn_lt (hu 0) h2
        omega
    | succ k ih =>
      rcases ih with ⟨i, hi, h⟩ | ih
      · exact Or.inl ⟨i, by omega, h⟩
      · by_cases h : ∀ j, j < n → X (k + 2) j = X (k + 1) j
        · exact Or.inl ⟨k + 1, Nat.le_refl _, h⟩
        · refine Or.inr ?_
          have h2 : ∃ j, j < n ∧ X (k + 2) j = true ∧ X (k + 1) j = false := by
            apply Classical.byContradiction
            intro hn
            apply h
            intro j hj
            cases h0 : X (k + 1) j with
            | true => exact hu (k + 1) j hj h0
            | false =>
              cases h1 : X (k + 2) j with
              | false => rfl
              | true => exact absurd ⟨j, hj, h1, h0⟩ hn
          have := jcn_lt (hu (k + 1)) h2
          omega
  intro k m hk hm
  rcases A k with ⟨i, hi, h⟩ | h
  · have B : ∀ d, ∀ j, j < n → X (i + d + 1) j = X (i + d) j := by
      intro d
      induction d with
      | zero => exact h
      | succ d ih => exact hs (i + d) ih
    have C : ∀ d, ∀ j, j < n → X (i + d) j = X i j := by
      intro d
      induction d with
      | zero => intros; rfl
      | succ d ih => intro j hj; rw [← ih j hj]; exact B d j hj
    intro j hj
    have e1 := C (m - i) j hj
    have e2 := C (k - i) j hj
    rw [show i + (m - i) = m by omega] at e1
    rw [show i + (k - i) = k by omega] at e2
    rw [e1, e2]
  · have := jcn_le (n := n) (P := X (k + 1))
    omega
theorem jst_dn {n : Nat} {X : Nat → Nat → Bool} (hu : ∀ k j, j < n → X (k + 1) j = true → X k j = true)
    (hs : ∀ k, (∀ j, j < n → X (k + 1) j = X k j) → ∀ j, j < n → X (k + 2) j = X (k + 1) j) :
    ∀ {k m : Nat}, n ≤ k → k ≤ m → ∀ j, j < n → X m j = X k j := by
  intro k m hk hm j hj
  have := jst_up (n := n) (c := 0) (X := fun k j => !X k j) (fun k j hj h => by
    cases h1 : X (k + 1) j with
    | false => rfl
    | true => rw [hu k j hj h1] at h; cases h) (fun k h j hj => by
    have := hs k (fun j hj => by have := h j hj; simpa using this) j hj
    simp [this]) (Nat.zero_le _) (k := k) (m := m) (by omega) hm j hj
  simpa using this
