/-! ===== walks in a grammar, sets of states ===== -/
theorem js_seq {V W : Type} {body : V → Option (V ⊕ W)} (st : Nat → V) (N : Nat) (w : W) (hs : ∀ i, i < N → body (st i) = some (.inl (st (i + 1)))) (he : body (st N) = some (.inr w)) :
    ∀ (k i n : Nat), i + k = N → k < n → iq_lp body n (st i) = some w
  | k, i, 0, _, h => by omega
  | 0, i, n + 1, h, _ => by
    have e : i = N := by omega
    subst e
    unfold iq_lp
    rw [he]
  | k + 1, i, n + 1, h, hn => by
    unfold iq_lp
    rw [hs i (by omega)]
    exact js_seq st N w hs he k (i + 1) n (by omega) (by omega)
def jex (n : Nat) (p : Nat → Bool) : Bool := decide (∃ k, k < n ∧ p k = true)
theorem jex_iff {n : Nat} {p : Nat → Bool} : jex n p = true ↔ ∃ k, k < n ∧ p k = true := decide_eq_true_iff
theorem jex_f {n : Nat} {p : Nat → Bool} : jex n p = false ↔ ∀ k, k < n → p k = false := by
  rw [← Bool.not_eq_true, jex_iff]
  constructor
  · intro h k hk
    cases e : p k with
    | false => rfl
    | true => exact absurd ⟨k, hk, e⟩ h
  · rintro h ⟨k, hk, e⟩
    rw [h k hk] at e; cases e
theorem jex_0 {p : Nat → Bool} : jex 0 p = false := jex_f.mpr fun k hk => by omega
theorem jex_s {n : Nat} {p : Nat → Bool} : jex (n + 1) p = (jex n p || p n) := by
  rw [Bool.eq_iff_iff, Bool.or_eq_true, jex_iff, jex_iff]
  constructor
  · rintro ⟨k, h1, h2⟩
    by_cases e : k = n
    · subst e; exact Or.inr h2
    · exact Or.inl ⟨k, by omega, h2⟩
  · rintro (⟨k, h1, h2⟩ | h)
    · exact ⟨k, by omega, h2⟩
    · exact ⟨n, by omega, h⟩
theorem jex_cg {n : Nat} {p q : Nat → Bool} (h : ∀ k, k < n → p k = q k) : jex n p = jex n q := by
  rw [Bool.eq_iff_iff, jex_iff, jex_iff]
  constructor
  · rintro ⟨k, h1, h2⟩; exact ⟨k, h1, by rw [← h k h1]; exact h2⟩
  · rintro ⟨k, h1, h2⟩; exact ⟨k, h1, by rw [h k h1]; exact h2⟩
def gIm (n : Nat) (E : Nat → Nat → Bool) (A F : Nat → Bool) : Nat → Bool := fun t => A t && jex n fun s => F s && E s t
def gPr (n : Nat) (E : Nat → Nat → Bool) (A B : Nat → Bool) : Nat → Bool := fun s => A s && jex n fun t => E s t && B t
def gIt (f : (Nat → Bool) → (Nat → Bool)) : Nat → (Nat → Bool) → (Nat → Bool)
  | 0, F => F
  | k + 1, F => f (gIt f k F)
theorem gIt_c (f : (Nat → Bool) → (Nat → Bool)) : ∀ (k : Nat) (F : Nat → Bool), gIt f (k + 1) F = gIt f k (f F)
  | 0, F => rfl
  | k + 1, F => by
    show f (gIt f (k + 1) F) = f (gIt f k (f F))
    rw [gIt_c f k F]
theorem gDual {n : Nat} {E : Nat → Nat → Bool} {A : Nat → Bool} : ∀ (k : Nat) (F : Nat → Bool), (∀ s, F s = true → A s = true) →
    ((∃ t, t < n ∧ gIt (gIm n E A) k F t = true) ↔ ∃ s, s < n ∧ F s = true ∧ gIt (gPr n E A) k A s = true)
  | 0, F, hF => ⟨fun ⟨t, h1, h2⟩ => ⟨t, h1, h2, hF t h2⟩, fun ⟨t, h1, h2, _⟩ => ⟨t, h1, h2⟩⟩
  | k + 1, F, hF => by
    rw [gIt_c, gDual k (gIm n E A F) (fun s h => by simp only [gIm, Bool.and_eq_true] at h; exact h.1)]
    constructor
    · rintro ⟨u, hu, h1, h2⟩
      simp only [gIm, Bool.and_eq_true, jex_iff] at h1
      obtain ⟨_, s, hs, hf, he⟩ := h1
      refine ⟨s, hs, hf, ?_⟩
      show gPr n E A (gIt (gPr n E A) k A) s = true
      simp only [gPr, Bool.and_eq_true, jex_iff]
      exact ⟨hF s hf, u, hu, he, h2⟩
    · rintro ⟨s, hs, hf, h⟩
      have h : gPr n E A (gIt (gPr n E A) k A) s = true := h
      simp only [gPr, Bool.and_eq_true, jex_iff] at h
      obtain ⟨_, u, hu, he, h2⟩ := h
      refine ⟨u, hu, ?_, h2⟩
      simp only [gIm, Bool.and_eq_true, jex_iff]
      refine ⟨?_, s, hs, hf, he⟩
      cases k with
      | zero => exact h2
      | succ k =>
        have h2 : gPr n E A (gIt (gPr n E A) k A) u = true := h2
        simp only [gPr, Bool.and_eq_true, jex_iff] at h2
        exact h2.1
theorem gPr_mono {n : Nat} {E : Nat → Nat → Bool} {A B C : Nat → Bool} (h : ∀ j, j < n → B j = true → C j = true) (s : Nat) (hs : gPr n E A B s = true) : gPr n E A C s = true := by
  simp only [gPr, Bool.and_eq_true, jex_iff] at hs ⊢
  obtain ⟨h1, t, h2, h3, h4⟩ := hs
  exact ⟨h1, t, h2, h3, h t h2 h4⟩
theorem gPr_cg {n : Nat} {E : Nat → Nat → Bool} {A B C : Nat → Bool} (h : ∀ j, j < n → B j = C j) (s : Nat) : gPr n E A B s = gPr n E A C s := by
  have a := gPr_mono (n := n) (E := E) (A := A) (B := B) (C := C) (fun j hj hb => by rw [← h j hj]; exact hb) s
  have b := gPr_mono (n := n) (E := E) (A := A) (B := C) (C := B) (fun j hj hb => by rw [h j hj]; exact hb) s
  cases h1 : gPr n E A B s with
  | true => rw [a h1]
  | false =>
    cases h2 : gPr n E A C s with
    | true => rw [b h2] at h1; cases h1
    | false => rfl
theorem gPr_dn {n : Nat} {E : Nat → Nat → Bool} {A : Nat → Bool} : ∀ (k j : Nat), gIt (gPr n E A) (k + 1) A j = true → gIt (gPr n E A) k A j = true
  | 0, j, h => by
    have h : gPr n E A A j = true := h
    simp only [gPr, Bool.and_eq_true, jex_iff] at h
    exact h.1
  | k + 1, j, h => gPr_mono (fun i _ hb => gPr_dn k i hb) j h
/-- a walk as long as there are states goes on for ever -/
theorem gPr_st {n : Nat} {E : Nat → Nat → Bool} {A : Nat → Bool} {k m : Nat} (hk : n ≤ k) (hm : k ≤ m) (j : Nat) (hj : j < n) : gIt (gPr n E A) m A j = gIt (gPr n E A) k A j :=
  jst_dn (X := fun k => gIt (gPr n E A) k A) (fun k j _ h => gPr_dn k j h) (fun k h j _ => gPr_cg h j) hk hm j hj
/-- the first of c numbers from i on -/
def gFst (P : Nat → Bool) : Nat → Nat → Option Nat
  | 0, _ => none
  | c + 1, i => if P i = true then some i else gFst P c (i + 1)
theorem gFst_cg {P Q : Nat → Bool} : ∀ {c i : Nat}, (∀ j, i ≤ j → j < i + c → P j = Q j) → gFst P c i = gFst Q c i
  | 0, i, h => rfl
  | c + 1, i, h => by
    unfold gFst
    rw [h i (by omega) (by omega), gFst_cg (c := c) (fun j h1 h2 => h j (by omega) (by omega))]
theorem gFst_none {P : Nat → Bool} : ∀ {c i : Nat}, (∀ j, i ≤ j → j < i + c → P j = false) → gFst P c i = none
  | 0, i, h => rfl
  | c + 1, i, h => by
    unfold gFst
    rw [h i (by omega) (by omega), if_neg (by simp)]
    exact gFst_none (fun j h1 h2 => h j (by omega) (by omega))
theorem gFst_sp {P : Nat → Bool} : ∀ {c i : Nat}, (gFst P c i = none ∧ ∀ j, i ≤ j → j < i + c → P j = false) ∨ ∃ k, gFst P c i = some k ∧ i ≤ k ∧ k < i + c ∧ P k = true ∧ ∀ j, i ≤ j → j < k → P j = false
  | 0, i => Or.inl ⟨rfl, fun j h1 h2 => by omega⟩
  | c + 1, i => by
    unfold gFst
    by_cases h : P i = true
    · exact Or.inr ⟨i, if_pos h, by omega, by omega, h, fun j h1 h2 => by omega⟩
    · rw [if_neg h]
      rcases gFst_sp (P := P) (c := c) (i := i + 1) with ⟨h1, h2⟩ | ⟨k, h1, h2, h3, h4, h5⟩
      · refine Or.inl ⟨h1, fun j h3 h4 => ?_⟩
        by_cases e : j = i
        · subst e; simpa using h
        · exact h2 j (by omega) (by omega)
      · refine Or.inr ⟨k, h1, by omega, by omega, h4, fun j h6 h7 => ?_⟩
        by_cases e : j = i
        · subst e; simpa using h
        · exact h5 j (by omega) h7
theorem gFst_ext {P : Nat → Bool} {c d i : Nat} (h : c ≤ d) (hp : ∀ j, i + c ≤ j → j < i + d → P j = true → ∃ j', i ≤ j' ∧ j' < i + c ∧ P j' = true) : gFst P d i = gFst P c i := by
  rcases gFst_sp (P := P) (c := c) (i := i) with ⟨h1, h2⟩ | ⟨k, h1, h2, h3, h4, h5⟩
  · rw [h1]
    refine gFst_none fun j h3 h4 => ?_
    by_cases e : j < i + c
    · exact h2 j h3 e
    · cases hj : P j with
      | false => rfl
      | true =>
        obtain ⟨j', p1, p2, p3⟩ := hp j (by omega) h4 hj
        rw [h2 j' p1 p2] at p3
        cases p3
  · rw [h1]
    rcases gFst_sp (P := P) (c := d) (i := i) with ⟨q1, q2⟩ | ⟨k', q1, q2, q3, q4, q5⟩
    · have := q2 k h2 (by omega)
      rw [h4] at this; cases this
    · rw [q1]
      by_cases e : k' < k
      · have := h5 k' q2 e
        rw [q4] at this; cases this
      · by_cases e2 : k < k'
        · have := q5 k h2 e2
          rw [h4] at this; cases this
        · have : k = k' := by omega
          rw [this]
/-! growing sets: what is come to within k steps -/
def gUp (n : Nat) (E : Nat → Nat → Bool) (F : Nat → Bool) : Nat → Bool := fun t => F t || jex n fun s => F s && E s t
theorem gUp_cg {n : Nat} {E : Nat → Nat → Bool} {F G : Nat → Bool} (h : ∀ j, j < n → F j = G j) (t : Nat) (ht : t < n) : gUp n E F t = gUp n E G t := by
  simp only [gUp]
  rw [h t ht, jex_cg (fun s hs => by rw [h s hs])]
theorem gUp_st {n c : Nat} {E : Nat → Nat → Bool} {F : Nat → Bool} (hc : c ≤ jcn n F) {k m : Nat} (hk : n ≤ c + k) (hm : k ≤ m) (j : Nat) (hj : j < n) : gIt (gUp n E) m F j = gIt (gUp n E) k F j :=
  jst_up (X := fun k => gIt (gUp n E) k F) (fun k j _ h => by
    show gUp n E (gIt (gUp n E) k F) j = true
    simp only [gUp]
    rw [h]; rfl) (fun k h j hj => gUp_cg h j hj) hc hk hm j hj
/-- within k steps: with exactly one of 0 .. k -/
theorem gUp_im {n : Nat} {E : Nat → Nat → Bool} {F : Nat → Bool} : ∀ (k t : Nat), gIt (gUp n E) k F t = true ↔ ∃ i, i ≤ k ∧ gIt (gIm n E fun _ => true) i F t = true
  | 0, t => ⟨fun h => ⟨0, Nat.le_refl _, h⟩, fun ⟨i, h1, h2⟩ => by
    have : i = 0 := by omega
    subst this; exact h2⟩
  | k + 1, t => by
    show gUp n E (gIt (gUp n E) k F) t = true ↔ _
    simp only [gUp, Bool.or_eq_true, Bool.and_eq_true, jex_iff]
    constructor
    · rintro (h | ⟨s, hs, h, he⟩)
      · obtain ⟨i, h1, h2⟩ := (gUp_im k t).mp h
        exact ⟨i, by omega, h2⟩
      · obtain ⟨i, h1, h2⟩ := (gUp_im k s).mp h
        refine ⟨i + 1, by omega, ?_⟩
        show gIm n E (fun _ => true) (gIt (gIm n E fun _ => true) i F) t = true
        simp only [gIm, Bool.and_eq_true, jex_iff]
        exact ⟨trivial, s, hs, h2, he⟩
    · rintro ⟨i, h1, h2⟩
      by_cases e : i ≤ k
      · exact Or.inl ((gUp_im k t).mpr ⟨i, e, h2⟩)
      · have e : i = k + 1 := by omega
        subst e
        have h2 : gIm n E (fun _ => true) (gIt (gIm n E fun _ => true) k F) t = true := h2
        simp only [gIm, Bool.and_eq_true, jex_iff] at h2
        obtain ⟨_, s, hs, hf, he⟩ := h2
        exact Or.inr ⟨s, hs, (gUp_im k s).mpr ⟨k, Nat.le_refl _, hf⟩, he⟩
