/-! ===== rules: the class's steps and the reference's give the same ===== -/
def jSk (f : Nat → Int32) : List Int32 → Prop
  | [] => True
  | a :: t => f t.length = a ∧ jSk f t
theorem jSk_cg {f f' : Nat → Int32} : ∀ {s : List Int32}, jSk f s → (∀ j, j < s.length → f' j = f j) → jSk f' s
  | [], _, _ => trivial
  | a :: t, h, e => ⟨(e t.length (Nat.lt_succ_self _)).trans h.1, jSk_cg h.2 fun j hj => e j (Nat.lt_succ_of_lt hj)⟩
def jop (o a b : Int32) : Int32 := if o = -15 then a * b else if o = -14 then a - b else if o = -13 then a + b else if o = -12 then (if a = b then 1 else 0) else if o = -11 then (if b ≤ a then 0 else 1) else if o = -10 then (if a = 0 then 0 else if b = 0 then 0 else 1) else if o = -9 then (if a = 0 then (if b = 0 then 0 else 1) else 1) else (if b = 0 then 0 else a / b)
def jnot (a : Int32) : Int32 := if a = 0 then 1 else 0
def jev (v : Nat → Int32) : List Int32 → List Int32 → List Int32
  | [], s => s
  | c :: t, s => if 0 ≤ c then jev v t (c :: s) else if -8 < c then jev v t (v ((-1 - c).toNatClampNeg) :: s) else if c = -8 then (match s with | a :: s' => jev v t (jnot a :: s') | [] => []) else (match s with | b :: a :: s' => jev v t (jop c a b :: s') | _ => [])
theorem jc_join {o a b : Int32} {I : iq_I} : zE_join o a b I = some (jop o a b) := by
  unfold zE_join jop
  by_cases h1 : o = -15
  · rw [if_pos h1, if_pos h1]
  rw [if_neg h1, if_neg h1]
  by_cases h2 : o = -14
  · rw [if_pos h2, if_pos h2]
  rw [if_neg h2, if_neg h2]
  by_cases h3 : o = -13
  · rw [if_pos h3, if_pos h3]
  rw [if_neg h3, if_neg h3]
  by_cases h4 : o = -12
  · rw [if_pos h4, if_pos h4, zE_join_83]
    by_cases e : a = b
    · rw [if_neg (fun h => h e), if_pos e]
    · rw [if_pos e, if_neg e]
  rw [if_neg h4, if_neg h4]
  by_cases h5 : o = -11
  · rw [if_pos h5, if_pos h5, zE_join_72]
    by_cases e : b ≤ a
    · rw [if_pos e, if_pos e]
    · rw [if_neg e, if_neg e]
  rw [if_neg h5, if_neg h5]
  by_cases h6 : o = -10
  · rw [if_pos h6, if_pos h6, zE_join_58]
    by_cases e : a = 0
    · rw [if_pos e, if_pos e]
    · rw [if_neg e, if_neg e]
      by_cases e' : b = 0
      · rw [if_pos e', if_pos e']
      · rw [if_neg e', if_neg e']
  rw [if_neg h6, if_neg h6]
  by_cases h7 : o = -9
  · rw [if_pos h7, if_pos h7, zE_join_44]
    by_cases e : a = 0
    · rw [if_neg (fun h => h e), if_pos e]
      by_cases e' : b = 0
      · rw [if_pos e', if_pos e']
      · rw [if_neg e', if_neg e']
    · rw [if_pos e, if_neg e]
  rw [if_neg h7, if_neg h7, zE_join_106]
  by_cases e : b = 0
  · rw [if_neg (fun h => h e), if_pos e]
  · rw [if_pos e, if_neg e, if_neg e]
theorem jci_le {a b : Int32} : (a ≤ b) = (a.toInt ≤ b.toInt) := propext Int32.le_iff_toInt_le
theorem jci_lt {a b : Int32} : (a < b) = (a.toInt < b.toInt) := propext Int32.lt_iff_toInt_lt
theorem jng7 {c : Int32} (h : -8 < c) (h' : ¬ 0 ≤ c) : ∃ k, k < 7 ∧ -1 - c = jn k := by
  rw [jci_lt] at h
  rw [jci_le] at h'
  have h : (-8 : Int) < c.toInt := h
  have h' : ¬ (0 : Int) ≤ c.toInt := h'
  have q : c.toInt = -1 ∨ c.toInt = -2 ∨ c.toInt = -3 ∨ c.toInt = -4 ∨ c.toInt = -5 ∨ c.toInt = -6 ∨ c.toInt = -7 := by omega
  rcases q with q | q | q | q | q | q | q
  · have e : c = -1 := Int32.toInt_inj.mp q
    subst e; exact ⟨0, by decide, by decide⟩
  · have e : c = -2 := Int32.toInt_inj.mp q
    subst e; exact ⟨1, by decide, by decide⟩
  · have e : c = -3 := Int32.toInt_inj.mp q
    subst e; exact ⟨2, by decide, by decide⟩
  · have e : c = -4 := Int32.toInt_inj.mp q
    subst e; exact ⟨3, by decide, by decide⟩
  · have e : c = -5 := Int32.toInt_inj.mp q
    subst e; exact ⟨4, by decide, by decide⟩
  · have e : c = -6 := Int32.toInt_inj.mp q
    subst e; exact ⟨5, by decide, by decide⟩
  · have e : c = -7 := Int32.toInt_inj.mp q
    subst e; exact ⟨6, by decide, by decide⟩
/-- a step that works on two: how the reference writes it, and what it gives -/
theorem jm_works {c : Int32} (h : -16 ≤ c) (h8 : ¬ -8 < c) (hn : ¬ c = -8) : ∃ o : Int32, jenc c = [o] ∧ ¬ o = 0 ∧ ¬ o = 1 ∧ ¬ o = 2 ∧ ¬ o = 3 ∧ ∀ (a b : Int32) (I : iq_I), zM_works o a b I = some (jop c a b) := by
  rw [jci_le] at h
  rw [jci_lt] at h8
  have h : (-16 : Int) ≤ c.toInt := h
  have h8 : ¬ (-8 : Int) < c.toInt := h8
  have hn : ¬ c.toInt = -8 := fun e => hn (Int32.toInt_inj.mp e)
  have q : c.toInt = -9 ∨ c.toInt = -10 ∨ c.toInt = -11 ∨ c.toInt = -12 ∨ c.toInt = -13 ∨ c.toInt = -14 ∨ c.toInt = -15 ∨ c.toInt = -16 := by omega
  rcases q with q | q | q | q | q | q | q | q
  · have e : c = -9 := Int32.toInt_inj.mp q
    subst e
    refine ⟨5, by decide, by decide, by decide, by decide, by decide, fun a b I => ?_⟩
    unfold zM_works jop
    rw [if_neg (by decide), if_pos (by decide), if_neg (by decide), if_neg (by decide), if_neg (by decide), if_neg (by decide), if_neg (by decide), if_neg (by decide), if_pos (by decide), zM_works_58]
    by_cases e : a = 0
    · rw [if_neg (fun h => h e), if_pos e]
      by_cases e' : b = 0
      · rw [if_pos e', if_pos e']
      · rw [if_neg e', if_neg e']
    · rw [if_pos e, if_neg e]
  · have e : c = -10 := Int32.toInt_inj.mp q
    subst e
    refine ⟨4, by decide, by decide, by decide, by decide, by decide, fun a b I => ?_⟩
    unfold zM_works jop
    rw [if_pos (by decide), if_neg (by decide), if_neg (by decide), if_neg (by decide), if_neg (by decide), if_neg (by decide), if_pos (by decide), zM_works_44]
    by_cases e : a = 0
    · rw [if_pos e, if_pos e]
    · rw [if_neg e, if_neg e]
      by_cases e' : b = 0
      · rw [if_pos e', if_pos e']
      · rw [if_neg e', if_neg e']
  · have e : c = -11 := Int32.toInt_inj.mp q
    subst e
    refine ⟨6, by decide, by decide, by decide, by decide, by decide, fun a b I => ?_⟩
    unfold zM_works jop
    rw [if_neg (by decide), if_neg (by decide), if_pos (by decide), if_neg (by decide), if_neg (by decide), if_neg (by decide), if_neg (by decide), if_pos (by decide), zM_works_72]
    by_cases e : b ≤ a
    · rw [if_pos e, if_pos e]
    · rw [if_neg e, if_neg e]
  · have e : c = -12 := Int32.toInt_inj.mp q
    subst e
    refine ⟨7, by decide, by decide, by decide, by decide, by decide, fun a b I => ?_⟩
    unfold zM_works jop
    rw [if_neg (by decide), if_neg (by decide), if_neg (by decide), if_pos (by decide), if_neg (by decide), if_neg (by decide), if_neg (by decide), if_pos (by decide), zM_works_83]
    by_cases e : a = b
    · rw [if_neg (fun h => h e), if_pos e]
    · rw [if_pos e, if_neg e]
  · have e : c = -13 := Int32.toInt_inj.mp q
    subst e
    refine ⟨8, by decide, by decide, by decide, by decide, by decide, fun a b I => ?_⟩
    unfold zM_works jop
    rw [if_neg (by decide), if_neg (by decide), if_neg (by decide), if_neg (by decide), if_pos (by decide), if_neg (by decide), if_neg (by decide), if_pos (by decide)]
  · have e : c = -14 := Int32.toInt_inj.mp q
    subst e
    refine ⟨9, by decide, by decide, by decide, by decide, by decide, fun a b I => ?_⟩
    unfold zM_works jop
    rw [if_neg (by decide), if_neg (by decide), if_neg (by decide), if_neg (by decide), if_neg (by decide), if_pos (by decide), if_neg (by decide), if_pos (by decide)]
  · have e : c = -15 := Int32.toInt_inj.mp q
    subst e
    refine ⟨10, by decide, by decide, by decide, by decide, by decide, fun a b I => ?_⟩
    unfold zM_works jop
    rw [if_neg (by decide), if_neg (by decide), if_neg (by decide), if_neg (by decide), if_neg (by decide), if_neg (by decide), if_pos (by decide), if_pos (by decide)]
  · have e : c = -16 := Int32.toInt_inj.mp q
    subst e
    refine ⟨11, by decide, by decide, by decide, by decide, by decide, fun a b I => ?_⟩
    unfold zM_works jop
    rw [if_neg (by decide), if_neg (by decide), if_neg (by decide), if_neg (by decide), if_neg (by decide), if_neg (by decide), if_neg (by decide), if_neg (by decide), if_neg (by decide), if_neg (by decide), if_neg (by decide), if_neg (by decide), if_neg (by decide), if_neg (by decide), zM_works_106]
    by_cases e : b = 0
    · rw [if_neg (fun h => h e), if_pos e]
    · rw [if_pos e, if_neg e, if_neg e]
