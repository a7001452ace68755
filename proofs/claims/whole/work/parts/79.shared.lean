/-! ===== shared: the longest row that both have ===== -/
def sB (a b : Nat → Nat) (na nb p j n : Nat) : Prop := p + n ≤ na ∧ j + n ≤ nb ∧ ∀ k, k < n → a (p + k) = b (j + k)
def sR (B : Nat → Nat → Nat → Prop) (M : Nat) (P : Option Nat) : Prop := (∀ p j n, B p j n → n ≤ M) ∧ ((M = 0 ∧ P = none) ∨ (0 < M ∧ ∃ p, P = some p ∧ (∃ j, B p j M) ∧ ∀ p' j', B p' j' M → p ≤ p'))
theorem sR_step {B B' N : Nat → Nat → Nat → Prop} {M L p0 : Nat} {P : Option Nat} (h : sR B M P) (hB : ∀ p j n, B' p j n ↔ B p j n ∨ N p j n) (h1 : ∀ p j n, N p j n → n ≤ L) (h2 : 0 < L → ∃ j, N p0 j L) (h3 : ∀ p j, 0 < L → N p j L → p = p0) (h4 : ∀ p j q i, N p j M → B q i M → q ≤ p) :
    (M < L → sR B' L (some p0)) ∧ (¬ M < L → sR B' M P) := by
  obtain ⟨hm, hp⟩ := h
  constructor
  · intro hl
    refine ⟨fun p j n hb => ?_, Or.inr ⟨by omega, p0, rfl, ?_, fun p' j' hb => ?_⟩⟩
    · rcases (hB p j n).mp hb with q | q
      · have := hm p j n q; omega
      · exact h1 p j n q
    · obtain ⟨j, hj⟩ := h2 (by omega)
      exact ⟨j, (hB _ _ _).mpr (Or.inr hj)⟩
    · rcases (hB _ _ _).mp hb with q | q
      · have := hm _ _ _ q; omega
      · rw [h3 p' j' (by omega) q]; exact Nat.le_refl _
  · intro hl
    refine ⟨fun p j n hb => ?_, ?_⟩
    · rcases (hB p j n).mp hb with q | q
      · exact hm p j n q
      · have := h1 p j n q; omega
    · rcases hp with hp | ⟨h0, p, e, ⟨j, hj⟩, hle⟩
      · exact Or.inl hp
      · refine Or.inr ⟨h0, p, e, ⟨j, (hB _ _ _).mpr (Or.inl hj)⟩, fun p' j' hb => ?_⟩
        rcases (hB _ _ _).mp hb with q | q
        · exact hle p' j' q
        · exact h4 p' j' p j q hj
theorem sR_cg {B B' : Nat → Nat → Nat → Prop} {M : Nat} {P : Option Nat} (h : sR B M P) (hB : ∀ p j n, 0 < n → (B' p j n ↔ B p j n)) : sR B' M P := by
  obtain ⟨hm, hp⟩ := h
  refine ⟨fun p j n hb => ?_, ?_⟩
  · by_cases e : n = 0
    · omega
    · exact hm p j n ((hB p j n (by omega)).mp hb)
  · rcases hp with hp | ⟨h0, p, e, ⟨j, hj⟩, hle⟩
    · exact Or.inl hp
    · exact Or.inr ⟨h0, p, e, ⟨j, (hB _ _ _ h0).mpr hj⟩, fun p' j' hb => hle p' j' ((hB _ _ _ h0).mp hb)⟩
theorem sR_un {B : Nat → Nat → Nat → Prop} {M M' : Nat} {P P' : Option Nat} (h : sR B M P) (h' : sR B M' P') : M = M' ∧ P = P' := by
  obtain ⟨hm, hp⟩ := h
  obtain ⟨hm', hp'⟩ := h'
  rcases hp with ⟨h0, e⟩ | ⟨h0, p, e, ⟨j, hj⟩, hle⟩
  · rcases hp' with ⟨h0', e'⟩ | ⟨h0', p', e', ⟨j', hj'⟩, hle'⟩
    · exact ⟨by omega, by rw [e, e']⟩
    · have := hm _ _ _ hj'; omega
  · rcases hp' with ⟨h0', e'⟩ | ⟨h0', p', e', ⟨j', hj'⟩, hle'⟩
    · have := hm' _ _ _ hj; omega
    · have q1 := hm _ _ _ hj'
      have q2 := hm' _ _ _ hj
      have em : M = M' := by omega
      subst em
      have q3 := hle _ _ hj'
      have q4 := hle' _ _ hj
      exact ⟨rfl, by rw [e, e']; congr 1; omega⟩
/-- how far both are alike before i and j -/
def cS (a b : Nat → Nat) : Nat → Nat → Nat
  | 0 => fun _ => 0
  | i + 1 => fun j => match j with
    | 0 => 0
    | j + 1 => if a i = b j then cS a b i j + 1 else 0
theorem cS_le (a b : Nat → Nat) : ∀ i j, cS a b i j ≤ i ∧ cS a b i j ≤ j
  | 0, j => ⟨Nat.zero_le _, Nat.zero_le _⟩
  | i + 1, 0 => ⟨Nat.zero_le _, Nat.zero_le _⟩
  | i + 1, j + 1 => by
    have := cS_le a b i j
    show (if a i = b j then cS a b i j + 1 else 0) ≤ _ ∧ (if a i = b j then cS a b i j + 1 else 0) ≤ _
    split <;> omega
theorem cS_bl (a b : Nat → Nat) : ∀ i j k, k < cS a b i j → a (i - cS a b i j + k) = b (j - cS a b i j + k)
  | 0, j, k, h => by cases h
  | i + 1, 0, k, h => by cases h
  | i + 1, j + 1, k, h => by
    have e : cS a b (i + 1) (j + 1) = if a i = b j then cS a b i j + 1 else 0 := rfl
    by_cases q : a i = b j
    · rw [if_pos q] at e
      rw [e] at h ⊢
      have hl := cS_le a b i j
      by_cases qk : k = cS a b i j
      · subst qk
        rw [show i + 1 - (cS a b i j + 1) + cS a b i j = i by omega, show j + 1 - (cS a b i j + 1) + cS a b i j = j by omega]
        exact q
      · have := cS_bl a b i j k (by omega)
        rw [show i + 1 - (cS a b i j + 1) + k = i - cS a b i j + k by omega, show j + 1 - (cS a b i j + 1) + k = j - cS a b i j + k by omega]
        exact this
    · rw [if_neg q] at e
      rw [e] at h; omega
theorem cS_mx (a b : Nat → Nat) : ∀ n p j, (∀ k, k < n → a (p + k) = b (j + k)) → n ≤ cS a b (p + n) (j + n)
  | 0, p, j, _ => Nat.zero_le _
  | n + 1, p, j, h => by
    have ih := cS_mx a b n p j (fun k hk => h k (by omega))
    show n + 1 ≤ (if a (p + n) = b (j + n) then cS a b (p + n) (j + n) + 1 else 0)
    rw [if_pos (h n (by omega))]; omega
/-- the class's step at the ends i + 1 and j -/
theorem sC_step {a b : Nat → Nat} {na nb i j M : Nat} {P : Option Nat} (hi : i < na) (hj : j ≤ nb)
    (h : sR (fun p q n => sB a b na nb p q n ∧ (p + n ≤ i ∨ (p + n = i + 1 ∧ j < q + n))) M P) :
    (M < cS a b (i + 1) j → sR (fun p q n => sB a b na nb p q n ∧ (p + n ≤ i ∨ (p + n = i + 1 ∧ j ≤ q + n))) (cS a b (i + 1) j) (some (i + 1 - cS a b (i + 1) j))) ∧ (¬ M < cS a b (i + 1) j → sR (fun p q n => sB a b na nb p q n ∧ (p + n ≤ i ∨ (p + n = i + 1 ∧ j ≤ q + n))) M P) := by
  have hl := cS_le a b (i + 1) j
  refine sR_step (N := fun p q n => sB a b na nb p q n ∧ p + n = i + 1 ∧ q + n = j) h (fun p q n => ?_) (fun p q n hn => ?_) (fun h0 => ?_) (fun p q h0 hn => ?_) (fun p q x y hn hb => ?_)
  · constructor
    · rintro ⟨h1, h2 | ⟨h2, h3⟩⟩
      · exact Or.inl ⟨h1, Or.inl h2⟩
      · by_cases e : q + n = j
        · exact Or.inr ⟨h1, h2, e⟩
        · exact Or.inl ⟨h1, Or.inr ⟨h2, by omega⟩⟩
    · rintro (⟨h1, h2 | ⟨h2, h3⟩⟩ | ⟨h1, h2, h3⟩)
      · exact ⟨h1, Or.inl h2⟩
      · exact ⟨h1, Or.inr ⟨h2, by omega⟩⟩
      · exact ⟨h1, Or.inr ⟨h2, by omega⟩⟩
  · obtain ⟨⟨_, _, h3⟩, h4, h5⟩ := hn
    have := cS_mx a b n p q h3
    rw [h4, h5] at this
    exact this
  · refine ⟨j - cS a b (i + 1) j, ⟨by omega, by omega, fun k hk => cS_bl a b (i + 1) j k hk⟩, by omega, by omega⟩
  · obtain ⟨_, h4, _⟩ := hn
    omega
  · obtain ⟨_, h4, _⟩ := hn
    obtain ⟨_, h6⟩ := hb
    omega
/-- the reference's step at the beginnings i and j, both being alike for L words -/
theorem sM_step {a b : Nat → Nat} {na nb i j L M : Nat} {P : Option Nat} (hi : i < na) (hj : j < nb) (hL : sB a b na nb i j L) (hm : ∀ n, sB a b na nb i j n → n ≤ L)
    (h : sR (fun p q n => sB a b na nb p q n ∧ (p < i ∨ (p = i ∧ q < j))) M P) :
    (M < L → sR (fun p q n => sB a b na nb p q n ∧ (p < i ∨ (p = i ∧ q < j + 1))) L (some i)) ∧ (¬ M < L → sR (fun p q n => sB a b na nb p q n ∧ (p < i ∨ (p = i ∧ q < j + 1))) M P) := by
  refine sR_step (N := fun p q n => sB a b na nb p q n ∧ p = i ∧ q = j) h (fun p q n => ?_) (fun p q n hn => ?_) (fun h0 => ⟨j, hL, rfl, rfl⟩) (fun p q h0 hn => hn.2.1) (fun p q x y hn hb => ?_)
  · constructor
    · rintro ⟨h1, h2 | ⟨h2, h3⟩⟩
      · exact Or.inl ⟨h1, Or.inl h2⟩
      · by_cases e : q = j
        · exact Or.inr ⟨h1, h2, e⟩
        · exact Or.inl ⟨h1, Or.inr ⟨h2, by omega⟩⟩
    · rintro (⟨h1, h2 | ⟨h2, h3⟩⟩ | ⟨h1, h2, h3⟩)
      · exact ⟨h1, Or.inl h2⟩
      · exact ⟨h1, Or.inr ⟨h2, by omega⟩⟩
      · exact ⟨h1, Or.inr ⟨h2, by omega⟩⟩
  · obtain ⟨h1, rfl, rfl⟩ := hn
    exact hm n h1
  · obtain ⟨_, h4, _⟩ := hn
    obtain ⟨_, h6⟩ := hb
    omega
