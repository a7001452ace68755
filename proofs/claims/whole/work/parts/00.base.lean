/-! ===== what the pure functions are made of ===== -/
def iq_tx : Nat → Option (List Int32)
  | 0 => some [116, 104, 101, 32, 116, 97, 112, 101, 32, 104, 97, 115, 32, 110, 111, 116, 32, 115, 111, 32, 109, 97, 110, 121, 32, 98, 121, 116, 101, 115]
  | 1 => some [59, 40, 41, 43, 45, 42, 47, 60, 61]
  | 2 => some [115, 116, 97, 116, 101]
  | 3 => some [101, 110, 100]
  | 4 => some [119, 111, 114, 100]
  | 5 => some [97, 114, 99]
  | 6 => some [99, 111, 115, 116]
  | 7 => some [115, 97, 121, 105, 110, 103]
  | 8 => some [104, 97, 98, 105, 116]
  | 9 => some [110, 111, 116]
  | 10 => some [107, 105, 110, 100]
  | 11 => some [108, 101, 116, 116, 101, 114, 115]
  | 12 => some [100, 97, 121]
  | 13 => some [108, 111, 110, 103]
  | 14 => some [115, 97, 109, 101]
  | 15 => some [114, 104, 121, 109, 101, 115]
  | 16 => some [97, 110, 100]
  | 17 => some [111, 114]
  | 18 => some [108, 97, 119]
  | 19 => some [110, 111, 116, 104, 105, 110, 103, 32, 111, 102, 32, 116, 104, 97, 116, 32, 105, 115, 32, 99, 111, 117, 110, 116, 101, 100]
  | 20 => some [110, 111, 32, 115, 117, 99, 104, 32, 119, 111, 114, 100]
  | 21 => some [110, 111, 32, 115, 117, 99, 104, 32, 108, 101, 116, 116, 101, 114]
  | 22 => some [110, 111, 32, 115, 117, 99, 104, 32, 115, 116, 97, 116, 101]
  | 23 => some [110, 111, 32, 115, 117, 99, 104, 32, 107, 105, 110, 100]
  | 24 => some [110, 111, 32, 115, 117, 99, 104, 32, 115, 97, 121, 105, 110, 103]
  | 25 => some [110, 111, 32, 115, 117, 99, 104, 32, 112, 108, 97, 99, 101, 32, 105, 110, 32, 116, 104, 101, 32, 115, 97, 121, 105, 110, 103]
  | 26 => some [110, 111, 32, 115, 117, 99, 104, 32, 112, 108, 97, 99, 101, 32, 105, 110, 32, 97, 32, 114, 111, 119]
  | 27 => some [119, 97, 121, 115, 32, 97, 114, 101, 32, 111, 102, 32, 48, 32, 116, 111, 32, 49, 50, 32, 119, 111, 114, 100, 115]
  | 28 => some [110, 111, 116, 104, 105, 110, 103, 32, 111, 102, 32, 116, 104, 97, 116, 32, 105, 115, 32, 107, 110, 111, 119, 110]
  | 29 => some [102, 114, 111, 109, 32, 48, 32, 116, 111, 32, 54, 48, 32, 99, 97, 110, 32, 98, 101, 32, 115, 112, 101, 110, 116]
  | 30 => some [110, 111, 32, 115, 117, 99, 104, 32, 118, 105, 115, 105, 116, 111, 114]
  | 31 => some [97, 32, 115, 101, 97, 115, 111, 110, 32, 104, 97, 115, 32, 48, 32, 116, 111, 32, 54, 48, 32, 116, 105, 109, 101, 115]
  | 32 => some [110, 111, 32, 119, 111, 114, 100, 115, 32, 109, 101, 110, 100, 32, 105, 116]
  | _ => none
def iq_upI (f : Nat → Nat → Int32) (k i : Nat) (v : Int32) : Nat → Nat → Int32 := fun a j => if a = k then (if j = i then v else f a j) else f a j
def iq_upJ (f : Nat → Nat → Int64) (k i : Nat) (v : Int64) : Nat → Nat → Int64 := fun a j => if a = k then (if j = i then v else f a j) else f a j
def iq_zI (f : Nat → Nat → Int32) (k : Nat) : Nat → Nat → Int32 := fun a j => if a = k then 0 else f a j
def iq_zJ (f : Nat → Nat → Int64) (k : Nat) : Nat → Nat → Int64 := fun a j => if a = k then 0 else f a j
def iq_cpI (f : Nat → Nat → Int32) (a b sp dp n : Nat) : Nat → Nat → Int32 := fun x => if x = b then va_cpy (f a) (f b) sp dp n else f x
def iq_cpJ (f : Nat → Nat → Int64) (a b sp dp n : Nat) : Nat → Nat → Int64 := fun x => if x = b then va_cpy (f a) (f b) sp dp n else f x
abbrev iq_in (i : Int32) (n : Nat) : Prop := 0 ≤ i ∧ i.toNatClampNeg < n
def iq_sm {α β : Type} (s : α ⊕ Nat) (f : α → β) (g : Nat → β) : β := match s with
  | .inl a => f a
  | .inr k => g k
/-- a loop: its body goes on with new values, or leaves -/
def iq_lp {V W : Type} (body : V → Option (V ⊕ W)) : Nat → V → Option W
  | 0, _ => none
  | n + 1, v => match body v with
    | some (.inl v') => iq_lp body n v'
    | some (.inr w) => some w
    | none => none
abbrev iq_I : Type := Nat → Nat → Int32
abbrev iq_J : Type := Nat → Nat → Int64
abbrev iq_X : Type := Nat × Nat × Bool
abbrev ir_F : Nat := 20000
abbrev ir_RD : Nat := 60
def ir_max (x y : Int32) : Int32 := if x < y then y else x
def ir_min (x y : Int32) : Int32 := if y < x then y else x
def ir_ushr (x y : Int32) : Int32 := (x.toUInt32 >>> (y.toUInt32 &&& Int32.toUInt32 31)).toInt32
def ir_chr (k i : Nat) : Int32 := match iq_tx k with
  | some t => t.getD i 0
  | none => 0
def ir_xx (X : iq_X) : iq_X := (X.1 + 1, X.2.1 + 6, true)
def ir_sm {α β γ : Type} (s : α ⊕ β) (f : α → γ) (g : β → γ) : γ := match s with
  | .inl a => f a
  | .inr b => g b
def ir_let {α β : Type} (v : α) (f : α → β) : β := f v
