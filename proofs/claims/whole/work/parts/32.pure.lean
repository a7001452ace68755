/-! ===== what the pure functions are made of ===== -/
abbrev iq_I : Type := Nat → Nat → Int32
abbrev iq_J : Type := Nat → Nat → Int64
abbrev iq_X : Type := Nat × Nat × Bool
/-- the shapes of all cells, once the law has made its objects -/
def iq_sh (l : Nat) : List (Nat × List Nat) := (103, [l]) :: [
  (9, [5, 6, 7, 19, 30, 41, 53, 64, 66, 72, 75, 1, 1, 1]), (100, [700]), (100, [3]), (3, [1, 1, 1, 1, 1, 1, 8, 9, 10, 11, 16, 17, 18]),
  (100, [14]), (100, [14]), (100, [8]), (7, [1, 1, 1, 12, 13, 14, 15]),
  (100, [700]), (100, [5]), (100, [5]), (100, [64]),
  (100, [126]), (100, [80]), (100, [8]), (1, [1, 1, 1, 20, 21, 22, 27, 28, 29]),
  (100, [5]), (100, [5]), (0, [1, 23, 24, 25, 26]), (100, [40]),
  (100, [40]), (100, [40]), (100, [40]), (100, [200]),
  (100, [3]), (100, [3]), (1, [1, 1, 1, 31, 32, 33, 38, 39, 40]), (100, [5]),
  (100, [5]), (0, [1, 34, 35, 36, 37]), (100, [40]), (100, [40]),
  (100, [40]), (100, [40]), (100, [200]), (100, [3]),
  (100, [3]), (3, [1, 1, 1, 1, 1, 1, 42, 43, 44, 45, 50, 51, 52]), (100, [14]), (100, [14]),
  (100, [8]), (7, [1, 1, 1, 46, 47, 48, 49]), (100, [700]), (100, [5]),
  (100, [5]), (100, [64]), (100, [126]), (100, [80]),
  (100, [8]), (1, [1, 1, 1, 54, 55, 56, 61, 62, 63]), (100, [5]), (100, [5]),
  (0, [1, 57, 58, 59, 60]), (100, [40]), (100, [40]), (100, [40]),
  (100, [40]), (100, [200]), (100, [3]), (100, [3]),
  (5, [1, 1, 65, 41, 53]), (8, [1, 1, 5, 1, 1]), (4, [7, 67, 68, 69, 70, 71, 1, 1]), (100, [10]),
  (100, [10]), (100, [410]), (101, [10]), (101, [10]),
  (2, [7, 73, 74, 2, 2]), (100, [7]), (100, [14]), (6, [7, 76, 77, 78, 1, 1]),
  (100, [41]), (100, [41]), (100, [410]), (10, [1, 1, 1, 1, 1, 1, 1, 1, 80, 81, 82, 83, 84, 85, 86, 87, 88, 1, 1, 1, 89, 1, 1, 1, 1, 1, 1, 1, 2, 1, 1, 1, 1, 1, 1, 1, 1, 1, 1, 1, 90, 91, 92, 93, 94, 95, 96, 97, 98, 99, 100, 101, 102, 103, 1, 104, 105, 1, 106, 107, 108, 109, 110, 1, 111, 112, 113, 1, 1, 1, 1, 114, 115, 116]),
  (100, [126]), (100, [14]), (100, [14]), (100, [80]),
  (100, [8]), (100, [4]), (100, [5]), (100, [4000]),
  (100, [700]), (100, [3]), (100, [126]), (100, [14]),
  (100, [14]), (100, [80]), (100, [8]), (100, [4]),
  (100, [5]), (100, [206]), (100, [4000]), (100, [950]),
  (102, [9]), (100, [206]), (100, [206]), (100, [8240]),
  (100, [7]), (100, [950]), (100, [10]), (101, [10]),
  (101, [10]), (100, [10]), (100, [410]), (100, [6]),
  (100, [41]), (100, [410]), (100, [206]), (100, [8240]),
  (100, [6]), (101, [1])]
abbrev ir_F : Nat := 20000
abbrev ir_RD : Nat := 60
def ir_max (x y : Int32) : Int32 := if x < y then y else x
def ir_min (x y : Int32) : Int32 := if y < x then y else x
def ir_ushr (x y : Int32) : Int32 := (x.toUInt32 >>> (y.toUInt32 &&& Int32.toUInt32 31)).toInt32
def ir_chr (k i : Nat) : Int32 := match iq_tx k with
  | some t => t.getD i 0
  | none => 0
def ir_xx (X : iq_X) : iq_X := (X.1 + 1, X.2.1 + 6, true)
def ir_Ri : Int32 ⊕ Nat → iq_R
  | .inl a => .inl (some (.int a))
  | .inr k => .inr k
def ir_Rl : Int64 ⊕ Nat → iq_R
  | .inl a => .inl (some (.long a))
  | .inr k => .inr k
def ir_Rv : Unit ⊕ Nat → iq_R
  | .inl _ => .inl none
  | .inr k => .inr k
def ir_sm {α β γ : Type} (s : α ⊕ β) (f : α → γ) (g : β → γ) : γ := match s with
  | .inl a => f a
  | .inr b => g b
theorem ir_smL {α β γ : Type} {a : α} {f : α → γ} {g : β → γ} {r : γ} (h : ir_sm (.inl a) f g = r) : f a = r := h
theorem ir_smR {α β γ : Type} {b : β} {f : α → γ} {g : β → γ} {r : γ} (h : ir_sm (.inr b) f g = r) : g b = r := h
theorem ir_nti {α : Type} {c : Prop} [Decidable c] {a : Option α} {r : α} (h : (if c then none else a) = some r) : ¬ c ∧ a = some r := by
  rcases iq_ite h with ⟨_, h⟩ | h
  · cases h
  · exact h
theorem ir_swn {x c : Int32} {pc : Nat} {d lo o : Int} {os : List Int} {L : iq_L} {S : List Value} {M : iq_M} (n : ¬ x = c) (hc : Int32.ofInt lo = c) : iq_sw x pc d L S M lo (o :: os) = iq_sw x pc d L S M (lo + 1) os := by
  subst hc
  conv => lhs; unfold iq_sw
  rw [if_neg n]
theorem iq_G_sw {D mi pc : Nat} {x : Int32} {d lo : Int} {os : List Int} {L : iq_L} {S : List Value} {M : iq_M} {σ σ' : iq_S} {r : iq_R × iq_M} (h : ∀ K, iq_step K mi σ = iq_sw x pc d L S M lo os) (h2 : iq_sw x pc d L S M lo os = some (.inl σ')) (hg : iq_Gg D mi σ' r) : iq_Gg D mi σ r :=
  iq_G_st (fun n => ⟨n, Nat.le_refl _, by rw [h, h2]⟩) hg
def ir_let {α β : Type} (v : α) (f : α → β) : β := f v
theorem ir_letG {α β : Type} {v : α} {f : α → β} {r : β} (h : ir_let v f = r) : ∃ z, z = v ∧ f z = r := ⟨v, rfl, h⟩
