/-! ===== tools: loops, small numbers, sets as bits ===== -/
/-- a loop by invariant and measure -/
theorem js_lp {V W : Type} {body : V → Option (V ⊕ W)} (P : V → Prop) (μ : V → Nat) (Q : W → Prop)
    (h : ∀ v, P v → (∃ v', body v = some (.inl v') ∧ P v' ∧ μ v' < μ v) ∨ (∃ w, body v = some (.inr w) ∧ Q w)) :
    ∀ (n : Nat) (v : V), P v → μ v < n → ∃ w, iq_lp body n v = some w ∧ Q w
  | 0, v, _, hn => by omega
  | n + 1, v, hP, hn => by
    unfold iq_lp
    rcases h v hP with ⟨v', e, hP', hm⟩ | ⟨w, e, hQ⟩
    · rw [e]; exact js_lp P μ Q h n v' hP' (by omega)
    · rw [e]; exact ⟨w, rfl, hQ⟩
/-- k steps of f from i on -/
def js_it {A : Type} (f : Nat → A → A) : Nat → Nat → A → A
  | 0, _, a => a
  | k + 1, i, a => js_it f k (i + 1) (f i a)
theorem js_it_cg {A : Type} {f g : Nat → A → A} : ∀ {k i : Nat} {a : A}, (∀ j, i ≤ j → j < i + k → ∀ a, f j a = g j a) → js_it f k i a = js_it g k i a
  | 0, i, a, h => rfl
  | k + 1, i, a, h => by
    unfold js_it
    rw [h i (by omega) (by omega)]
    exact js_it_cg (fun j h1 h2 => h j (by omega) (by omega))
theorem js_it_sn {A : Type} (f : Nat → A → A) : ∀ (k i : Nat) (a : A), js_it f (k + 1) i a = f (i + k) (js_it f k i a)
  | 0, i, a => rfl
  | k + 1, i, a => by
    show js_it f (k + 1) (i + 1) (f i a) = f (i + (k + 1)) (js_it f k (i + 1) (f i a))
    rw [js_it_sn f k (i + 1), show i + 1 + k = i + (k + 1) by omega]
/-- for (i; i < N; i++): exact -/
theorem js_for {V W A : Type} {body : V → Option (V ⊕ W)} (enc : Nat → A → V) (f : Nat → A → A) (N : Nat) (out : A → W) (P : Nat → A → Prop)
    (hs : ∀ i a, i < N → P i a → body (enc i a) = some (.inl (enc (i + 1) (f i a))) ∧ P (i + 1) (f i a))
    (he : ∀ a, P N a → body (enc N a) = some (.inr (out a))) :
    ∀ (k i : Nat) (a : A) (n : Nat), i + k = N → P i a → k < n → iq_lp body n (enc i a) = some (out (js_it f k i a)) ∧ P N (js_it f k i a)
  | k, i, a, 0, _, _, h => by omega
  | 0, i, a, n + 1, h, hP, _ => by
    have e : i = N := by omega
    subst e
    unfold iq_lp
    rw [he a hP]
    exact ⟨rfl, hP⟩
  | k + 1, i, a, n + 1, h, hP, hn => by
    unfold iq_lp
    obtain ⟨h1, h2⟩ := hs i a (by omega) hP
    rw [h1]
    exact js_for enc f N out P hs he k (i + 1) (f i a) n (by omega) h2 (by omega)
/-- for with a way out: f goes on (inl) or leaves (inr) -/
def js_ix {A W : Type} (f : Nat → A → A ⊕ W) (out : A → W) : Nat → Nat → A → W
  | 0, _, a => out a
  | k + 1, i, a => match f i a with
    | .inl a' => js_ix f out k (i + 1) a'
    | .inr w => w
theorem js_forx {V W A : Type} {body : V → Option (V ⊕ W)} (enc : Nat → A → V) (f : Nat → A → A ⊕ W) (N : Nat) (out : A → W) (P : Nat → A → Prop)
    (hs : ∀ i a, i < N → P i a → (∃ a', f i a = .inl a' ∧ body (enc i a) = some (.inl (enc (i + 1) a')) ∧ P (i + 1) a') ∨ (∃ w, f i a = .inr w ∧ body (enc i a) = some (.inr w)))
    (he : ∀ a, P N a → body (enc N a) = some (.inr (out a))) :
    ∀ (k i : Nat) (a : A) (n : Nat), i + k = N → P i a → k < n → iq_lp body n (enc i a) = some (js_ix f out k i a)
  | k, i, a, 0, _, _, h => by omega
  | 0, i, a, n + 1, h, hP, _ => by
    have e : i = N := by omega
    subst e
    unfold iq_lp
    rw [he a hP]
    rfl
  | k + 1, i, a, n + 1, h, hP, hn => by
    unfold iq_lp js_ix
    rcases hs i a (by omega) hP with ⟨a', e1, e2, h2⟩ | ⟨w, e1, e2⟩
    · rw [e1, e2]
      exact js_forx enc f N out P hs he k (i + 1) a' n (by omega) h2 (by omega)
    · rw [e1, e2]
/-! small numbers -/
def jn (n : Nat) : Int32 := Int32.ofNat n
def jo : Option Nat → Int32
  | none => -1
  | some n => jn n
theorem jo_some (n : Nat) : jo (some n) = jn n := rfl
theorem jlm : (-1 : Int32) = jo none := rfl
theorem jn_add (a b : Nat) : jn a + jn b = jn (a + b) := (Int32.ofNat_add a b).symm
theorem jn_mul (a b : Nat) : jn a * jn b = jn (a * b) := (Int32.ofNat_mul a b).symm
theorem jn_sub {a b : Nat} (h : b ≤ a) : jn a - jn b = jn (a - b) := (Int32.ofNat_sub a b h).symm
theorem jn_lt {a b : Nat} (ha : a < 2147483648) (hb : b < 2147483648) : (jn a < jn b) = (a < b) := propext (Int32.ofNat_lt_iff_lt ha hb)
theorem jn_le {a b : Nat} (ha : a < 2147483648) (hb : b < 2147483648) : (jn a ≤ jn b) = (a ≤ b) := propext (Int32.ofNat_le_iff_le ha hb)
theorem jn_clamp {a : Nat} (ha : a < 2147483648) : (jn a).toNatClampNeg = a := Int32.toNatClampNeg_ofNat_of_lt ha
theorem jn_toInt {a : Nat} (ha : a < 2147483648) : (jn a).toInt = a := Int32.toInt_ofNat_of_lt ha
theorem jn_inj {a b : Nat} (ha : a < 2147483648) (hb : b < 2147483648) : (jn a = jn b) = (a = b) := propext ⟨fun h => by
  rw [← jn_clamp ha, ← jn_clamp hb, h], fun h => by rw [h]⟩
theorem jn_in {a n : Nat} (ha : a < 2147483648) : iq_in (jn a) n = (a < n) := propext ⟨fun h => by
  have := h.2; rwa [jn_clamp ha] at this, fun h => ⟨by rw [show (0 : Int32) = jn 0 from rfl, jn_le (by omega) ha]; omega, by rwa [jn_clamp ha]⟩⟩
theorem jm_toInt : (jo none).toInt = -1 := rfl
theorem jn_ne_m {a : Nat} (ha : a < 2147483648) : (jn a = jo none) = False := eq_false fun h => by
  have := congrArg Int32.toInt h
  rw [jn_toInt ha, jm_toInt] at this
  omega
theorem jm_ne_n {a : Nat} (ha : a < 2147483648) : (jo none = jn a) = False := eq_false fun h => by
  have := congrArg Int32.toInt h
  rw [jn_toInt ha, jm_toInt] at this
  omega
theorem jm_eq_m : (jo none = jo none) = True := eq_true rfl
theorem jm_lt {a : Nat} (ha : a < 2147483648) : (jo none < jn a) = True := eq_true (by
  rw [Int32.lt_iff_toInt_lt, jn_toInt ha, jm_toInt]; omega)
theorem jm_le {a : Nat} (ha : a < 2147483648) : (jo none ≤ jn a) = True := eq_true (by
  rw [Int32.le_iff_toInt_le, jn_toInt ha, jm_toInt]; omega)
theorem jn_lt_m {a : Nat} (ha : a < 2147483648) : (jn a < jo none) = False := eq_false (by
  rw [Int32.lt_iff_toInt_lt, jn_toInt ha, jm_toInt]; omega)
theorem jn_le_m {a : Nat} (ha : a < 2147483648) : (jn a ≤ jo none) = False := eq_false (by
  rw [Int32.le_iff_toInt_le, jn_toInt ha, jm_toInt]; omega)
theorem jo_m {o : Option Nat} (h : ∀ n, o = some n → n < 2147483648) : (jo o = jo none) = (o = none) := by
  cases o with
  | none => simp
  | some n => rw [jo_some, jn_ne_m (h n rfl)]; simp
theorem jo_inj {o p : Option Nat} (h : ∀ n, o = some n → n < 2147483648) (h' : ∀ n, p = some n → n < 2147483648) : (jo o = jo p) = (o = p) := by
  cases o with
  | none => cases p with
    | none => simp
    | some m => rw [jo_some, jm_ne_n (h' m rfl)]; simp
  | some n => cases p with
    | none => rw [jo_some, jn_ne_m (h n rfl)]; simp
    | some m => rw [jo_some, jo_some, jn_inj (h n rfl) (h' m rfl)]; simp
theorem jn_pred {a : Nat} (h : 0 < a) : jn a + jo none = jn (a - 1) := by
  have e : a = (a - 1) + 1 := by omega
  conv => lhs; rw [e]
  rw [← jn_add]
  show jn (a - 1) + jn 1 + (-1) = jn (a - 1)
  rw [Int32.add_assoc, show jn 1 + (-1) = 0 from rfl, Int32.add_zero]
theorem jn_pred0 : jn 0 + jo none = jo none := rfl
theorem jn_sub10 : jn 0 - jn 1 = jo none := rfl
theorem jn_min {a b : Nat} (ha : a < 2147483648) (hb : b < 2147483648) : ir_min (jn a) (jn b) = jn (min a b) := by
  unfold ir_min
  simp only [jn_lt hb ha]
  by_cases h : b < a
  · rw [if_pos h, Nat.min_eq_right (by omega)]
  · rw [if_neg h, Nat.min_eq_left (by omega)]
theorem jn_max {a b : Nat} (ha : a < 2147483648) (hb : b < 2147483648) : ir_max (jn a) (jn b) = jn (max a b) := by
  unfold ir_max
  simp only [jn_lt ha hb]
  by_cases h : a < b
  · rw [if_pos h, Nat.max_eq_right (by omega)]
  · rw [if_neg h, Nat.max_eq_left (by omega)]
theorem jx_pos {x : Int32} (h : 0 ≤ x) : x = jn x.toNatClampNeg := (Int32.ofNat_toNatClampNeg x h).symm
theorem jx_cases (x : Int32) : x < 0 ∨ ∃ n, n < 2147483648 ∧ x = jn n := by
  by_cases h : x < 0
  · exact Or.inl h
  · exact Or.inr ⟨x.toNatClampNeg, x.toNatClampNeg_lt, jx_pos (Int32.not_lt.mp h)⟩
theorem jl0 : (0 : Int32) = jn 0 := rfl
theorem jl1 : (1 : Int32) = jn 1 := rfl
theorem jl2 : (2 : Int32) = jn 2 := rfl
theorem jl3 : (3 : Int32) = jn 3 := rfl
theorem jl4 : (4 : Int32) = jn 4 := rfl
theorem jl5 : (5 : Int32) = jn 5 := rfl
theorem jl6 : (6 : Int32) = jn 6 := rfl
theorem jl7 : (7 : Int32) = jn 7 := rfl
theorem jl8 : (8 : Int32) = jn 8 := rfl
theorem jl9 : (9 : Int32) = jn 9 := rfl
theorem jl10 : (10 : Int32) = jn 10 := rfl
theorem jl11 : (11 : Int32) = jn 11 := rfl
theorem jl12 : (12 : Int32) = jn 12 := rfl
theorem jl13 : (13 : Int32) = jn 13 := rfl
theorem jl14 : (14 : Int32) = jn 14 := rfl
theorem jl15 : (15 : Int32) = jn 15 := rfl
theorem jl16 : (16 : Int32) = jn 16 := rfl
theorem jl20 : (20 : Int32) = jn 20 := rfl
theorem jl24 : (24 : Int32) = jn 24 := rfl
theorem jl32 : (32 : Int32) = jn 32 := rfl
theorem jl39 : (39 : Int32) = jn 39 := rfl
theorem jl40 : (40 : Int32) = jn 40 := rfl
theorem jl41 : (41 : Int32) = jn 41 := rfl
theorem jl60 : (60 : Int32) = jn 60 := rfl
theorem jl61 : (61 : Int32) = jn 61 := rfl
theorem jl80 : (80 : Int32) = jn 80 := rfl
theorem jl96 : (96 : Int32) = jn 96 := rfl
theorem jl97 : (97 : Int32) = jn 97 := rfl
theorem jl99 : (99 : Int32) = jn 99 := rfl
theorem jl100 : (100 : Int32) = jn 100 := rfl
theorem jl122 : (122 : Int32) = jn 122 := rfl
theorem jl126 : (126 : Int32) = jn 126 := rfl
theorem jl199 : (199 : Int32) = jn 199 := rfl
theorem jl200 : (200 : Int32) = jn 200 := rfl
theorem jl205 : (205 : Int32) = jn 205 := rfl
theorem jl206 : (206 : Int32) = jn 206 := rfl
theorem jl255 : (255 : Int32) = jn 255 := rfl
theorem jl256 : (256 : Int32) = jn 256 := rfl
theorem jl410 : (410 : Int32) = jn 410 := rfl
theorem jl700 : (700 : Int32) = jn 700 := rfl
theorem jl950 : (950 : Int32) = jn 950 := rfl
theorem jl1000 : (1000 : Int32) = jn 1000 := rfl
theorem jl1000000 : (1000000 : Int32) = jn 1000000 := rfl
theorem jl4000 : (4000 : Int32) = jn 4000 := rfl
theorem jl8240 : (8240 : Int32) = jn 8240 := rfl
theorem jl32767 : (32767 : Int32) = jn 32767 := rfl
