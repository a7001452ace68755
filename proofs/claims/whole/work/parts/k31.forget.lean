/-! ===== locals that nothing reads may be forgotten ===== -/
def ir_le (L L' : iq_L) : Prop := L.length = L'.length ∧ ∀ (j : Nat) (v : Value), L[j]? = some (some v) → L'[j]? = some (some v)
def ir_ol : iq_S ⊕ (iq_R × iq_M) → iq_S ⊕ (iq_R × iq_M) → Prop
  | .inl a, .inl b => a.1 = b.1 ∧ ir_le a.2.1 b.2.1 ∧ a.2.2 = b.2.2
  | .inr a, .inr b => a = b
  | _, _ => False
def ir_re (F : iq_L → iq_O) : Prop := ∀ (L L' : iq_L) (o : iq_S ⊕ (iq_R × iq_M)), ir_le L L' → F L = some o → ∃ o', F L' = some o' ∧ ir_ol o o'
theorem ir_re_inl {pc : Nat} {S : List Value} {M : iq_M} : ir_re fun L => some (.inl (pc, L, S, M)) := fun L L' o hl h => by
  cases h
  exact ⟨_, rfl, rfl, hl, rfl⟩
theorem ir_re_inr {q : iq_R × iq_M} : ir_re fun _ => some (.inr q) := fun L L' o hl h => by
  cases h
  exact ⟨_, rfl, rfl⟩
theorem ir_re_none : ir_re fun _ => none := fun L L' o hl h => by cases h
theorem ir_re_pu {pc : Nat} {S : List Value} {M : iq_M} : ir_re fun L => iq_pu pc L S M := ir_re_inl
theorem ir_re_ite {c : Prop} [Decidable c] {F F' : iq_L → iq_O} (h1 : ir_re F) (h2 : ir_re F') : ir_re fun L => if c then F L else F' L := by
  by_cases hc : c
  · simp only [if_pos hc]; exact h1
  · simp only [if_neg hc]; exact h2
theorem ir_re_br {c : Prop} [Decidable c] {t : Option Nat} {f : Nat} {S : List Value} {M : iq_M} : ir_re fun L => iq_br c t f L S M := by
  cases t with
  | none => exact ir_re_none
  | some t => exact ir_re_ite ir_re_inl ir_re_inl
theorem ir_re_sw {x : Int32} {pc : Nat} {d : Int} {S : List Value} {M : iq_M} : ∀ {os : List Int} {lo : Int}, ir_re fun L => iq_sw x pc d L S M lo os
  | [], lo => by
    unfold iq_sw
    cases iq_tg pc d with
    | none => exact ir_re_none
    | some t => exact ir_re_inl
  | o :: os, lo => by
    unfold iq_sw
    refine ir_re_ite ?_ ir_re_sw
    cases iq_tg pc o with
    | none => exact ir_re_none
    | some t => exact ir_re_inl
theorem ir_re_b2 {f : Int32 → Int32 → Int32} {pc : Nat} {S : List Value} {M : iq_M} : ir_re fun L => iq_b2 f pc L S M := by
  unfold iq_b2
  split
  · exact ir_re_inl
  · exact ir_re_none
theorem ir_re_l2 {f : Int64 → Int64 → Int64} {pc : Nat} {S : List Value} {M : iq_M} : ir_re fun L => iq_l2 f pc L S M := by
  unfold iq_l2
  split
  · exact ir_re_inl
  · exact ir_re_none
theorem ir_re_gf {ow idx pc : Nat} {S : List Value} {M : iq_M} : ir_re fun L => iq_gf ow idx pc L S M := by
  unfold iq_gf
  repeat' split
  all_goals first | exact ir_re_inl | exact ir_re_none
theorem ir_re_pf {ow : Nat} {ini : Bool} {idx pc : Nat} {S : List Value} {M : iq_M} : ir_re fun L => iq_pf ow ini idx pc L S M := by
  unfold iq_pf
  repeat' split
  all_goals first | exact ir_re_inl | exact ir_re_none | exact ir_re_ite ir_re_inl ir_re_none
theorem ir_re_al {w : Nat} {isL : Bool} {pc : Nat} {S : List Value} {M : iq_M} : ir_re fun L => iq_al w isL pc L S M := by
  unfold iq_al
  repeat' split
  all_goals first | exact ir_re_inl | exact ir_re_none | exact ir_re_ite ir_re_inl ir_re_none
theorem ir_re_as {w pc : Nat} {S : List Value} {M : iq_M} : ir_re fun L => iq_as w pc L S M := by
  unfold iq_as
  repeat' split
  all_goals first | exact ir_re_inl | exact ir_re_none | exact ir_re_ite ir_re_inl ir_re_none
set_option maxRecDepth 100000 in
theorem ir_re_len {isL : Bool} {pc : Nat} {S : List Value} {M : iq_M} : ir_re fun L => iq_len isL pc L S M := by
  unfold iq_len
  repeat' split
  all_goals first | exact ir_re_inl | exact ir_re_none
theorem ir_re_new {ci pc : Nat} {S : List Value} {M : iq_M} : ir_re fun L => iq_new ci pc L S M := by
  unfold iq_new
  repeat' split
  all_goals first | exact ir_re_inl | exact ir_re_none
theorem ir_re_na {w pc : Nat} {S : List Value} {M : iq_M} : ir_re fun L => iq_na w pc L S M := by
  unfold iq_na
  repeat' split
  all_goals first | exact ir_re_inl | exact ir_re_none | exact ir_re_ite ir_re_inl ir_re_none
theorem ir_re_any {o : iq_O} (h : ∀ σ, o ≠ some (.inl σ)) : ir_re fun _ => o := fun L L' q hl hq => by
  cases q with
  | inl σ => exact absurd hq (h σ)
  | inr q => exact ⟨_, hq, rfl⟩
theorem ir_re_th {tab : iq_T} {ow kd pc : Nat} {M : iq_M} : ir_re fun _ => iq_th tab ow kd pc M := by
  refine ir_re_any fun σ h => ?_
  have := iq_th_inr h
  cases this
theorem ir_re_cp {pc : Nat} {S : List Value} {M : iq_M} : ir_re fun L => iq_cp pc L S M := by
  unfold iq_cp
  repeat' split
  all_goals first | exact ir_re_inl | exact ir_re_none | exact ir_re_ite ir_re_inl ir_re_none
theorem ir_re_ret {rt w : Nat} {S : List Value} {M : iq_M} : ir_re fun _ => iq_ret rt S M w := by
  refine ir_re_any fun σ h => ?_
  unfold iq_ret at h
  repeat' (split at h)
  all_goals cases h
theorem ir_le_rf (L : iq_L) : ir_le L L := ⟨rfl, fun _ _ h => h⟩
theorem ir_le_set {L L' : iq_L} (h : ir_le L L') (i : Nat) (x : Option Value) : ir_le (L.set i x) (L'.set i x) := by
  refine ⟨by simp [h.1], fun j v hj => ?_⟩
  rw [List.getElem?_set] at hj ⊢
  by_cases e : i = j
  · rw [if_pos e] at hj ⊢
    rw [← h.1]
    exact hj
  · rw [if_neg e] at hj ⊢
    exact h.2 j v hj
theorem ir_le_clr {L L' : iq_L} (h : ir_le L L') {i : Nat} (hn : ∀ v, L[i]? ≠ some (some v)) : ir_le L (L'.set i none) := by
  refine ⟨by simp [h.1], fun j v hj => ?_⟩
  rw [List.getElem?_set]
  by_cases e : i = j
  · subst e
    exact absurd hj (hn v)
  · rw [if_neg e]
    exact h.2 j v hj
theorem ir_le_st1 {L L' : iq_L} (h : ir_le L L') (i : Nat) (v : Value) : ir_le (iq_st1 L i v) (iq_st1 L' i v) := by
  cases i with
  | zero => exact ir_le_set h 0 _
  | succ j =>
    have wide : ∀ (P : iq_L), (P = (L.set j none).set (j + 1) (some v) ∧ ∃ w, L[j]? = some (some w) ∧ iq_st1 L' (j + 1) v = (L'.set j none).set (j + 1) (some v)) ∨ (P = L.set (j + 1) (some v) ∧ (iq_st1 L' (j + 1) v = L'.set (j + 1) (some v) ∨ (iq_st1 L' (j + 1) v = (L'.set j none).set (j + 1) (some v) ∧ ∀ w, L[j]? ≠ some (some w)))) → ir_le P (iq_st1 L' (j + 1) v) := by
      intro P hP
      rcases hP with ⟨rfl, w, hw, e⟩ | ⟨rfl, e | ⟨e, hn⟩⟩
      · rw [e]; exact ir_le_set (ir_le_set h _ _) _ _
      · rw [e]; exact ir_le_set h _ _
      · rw [e]; exact ir_le_set (ir_le_clr h hn) _ _
    have two : iq_st1 L' (j + 1) v = L'.set (j + 1) (some v) ∨ (iq_st1 L' (j + 1) v = (L'.set j none).set (j + 1) (some v) ∧ ∃ w, L'[j]? = some (some w) ∧ ((∃ x, w = .long x) ∨ ∃ x, w = .double x)) := by
      unfold iq_st1
      simp only
      split
      · rename_i x hx; exact Or.inr ⟨rfl, _, hx, Or.inl ⟨x, rfl⟩⟩
      · rename_i x hx; exact Or.inr ⟨rfl, _, hx, Or.inr ⟨x, rfl⟩⟩
      · exact Or.inl rfl
    refine wide _ ?_
    unfold iq_st1
    simp only
    split
    · rename_i x hx
      refine Or.inl ⟨rfl, _, hx, ?_⟩
      have h2 := h.2 j _ hx
      simp only [h2]
    · rename_i x hx
      refine Or.inl ⟨rfl, _, hx, ?_⟩
      have h2 := h.2 j _ hx
      simp only [h2]
    · rename_i n1 n2
      refine Or.inr ⟨rfl, ?_⟩
      rcases two with e | ⟨e, w, hw, hk⟩
      · exact Or.inl e
      · refine Or.inr ⟨e, fun w' hw' => ?_⟩
        have h2 := h.2 j _ hw'
        rw [hw] at h2
        have : w = w' := by injection h2 with h3; injection h3
        subst this
        rcases hk with ⟨x, rfl⟩ | ⟨x, rfl⟩
        · exact n1 x hw'
        · exact n2 x hw'
theorem ir_re_blt {i : Nat} {F : iq_L → iq_O} (hF : ∀ (L L' : iq_L) (o : iq_S ⊕ (iq_R × iq_M)), ir_le L L' → F L = some o → ∃ o', F L' = some o' ∧ ir_ol o o') : ir_re fun L => match Nat.blt i L.length with
    | true => F L
    | false => none := by
  intro L L' o hl h
  simp only at h ⊢
  rw [← hl.1]
  cases hb : Nat.blt i L.length with
  | true =>
    rw [hb] at h
    exact hF L L' o hl h
  | false => rw [hb] at h; cases h
theorem ir_re_s1 {pc i : Nat} {v : Value} {S : List Value} {M : iq_M} : ir_re fun L => some (.inl (pc, iq_st1 L i v, S, M)) := fun L L' o hl h => by
  cases h
  exact ⟨_, rfl, rfl, ir_le_st1 hl _ _, rfl⟩
theorem ir_re_s2 {pc i : Nat} {v : Value} {S : List Value} {M : iq_M} : ir_re fun L => some (.inl (pc, iq_st2 L i v, S, M)) := fun L L' o hl h => by
  cases h
  exact ⟨_, rfl, rfl, ir_le_set (ir_le_st1 hl _ _) _ _, rfl⟩
theorem ir_re_st {w i pc : Nat} {S : List Value} {M : iq_M} : ir_re fun L => iq_st w i pc L S M := by
  unfold iq_st
  repeat' split
  all_goals first | exact ir_re_none | exact ir_re_blt ir_re_s1 | exact ir_re_blt ir_re_s2
theorem ir_get_le {L L' : iq_L} (hl : ir_le L L') {i : Nat} {v : Value} (h : iq_get L i = some v) : iq_get L' i = some v := by
  unfold iq_get at h
  split at h
  · rename_i w hw
    cases h
    unfold iq_get
    rw [hl.2 i _ hw]
  · cases h
theorem ir_re_ld {w i pc : Nat} {S : List Value} {M : iq_M} : ir_re fun L => iq_ld w i pc L S M := by
  intro L L' o hl h
  simp only at h ⊢
  cases hg : iq_get L i with
  | none => unfold iq_ld at h; rw [hg] at h; cases h
  | some v =>
    have hg' := ir_get_le hl hg
    unfold iq_ld at h ⊢
    rw [hg] at h
    rw [hg']
    simp only at h ⊢
    repeat' (split at h)
    all_goals first | (cases h; done) | skip
    all_goals (cases h; exact ⟨_, rfl, rfl, hl, rfl⟩)
theorem ir_re_bk {tab : iq_T} {ow pc : Nat} {hh : List (Nat × Nat × Nat × Nat)} {S : List Value} {q : Option (iq_R × iq_M)} : ir_re fun L => iq_bk tab ow hh pc L S q := by
  have c1 : ∀ (h i : Nat) (M : iq_M), ir_re fun L => some (.inl (h, (iq_st1 L i (.ref 0)).set i none, [], M)) := fun h i M L L' o hl e => by
    cases e
    exact ⟨_, rfl, rfl, ir_le_set (ir_le_st1 hl _ _) _ _, rfl⟩
  unfold iq_bk
  repeat' split
  all_goals first | exact ir_re_none | exact ir_re_inl | exact ir_re_inr | exact ir_re_blt (c1 _ _ _)
theorem ir_re_call {K : iq_K} {tab : iq_T} {ow : Nat} {hh : List (Nat × Nat × Nat × Nat)} {w idx pc : Nat} {S : List Value} {M : iq_M} : ir_re fun L => iq_call K tab ow hh w idx pc L S M := by
  unfold iq_call
  repeat' split
  all_goals first | exact ir_re_none | exact ir_re_bk | exact ir_re_inl | exact ir_re_cp
theorem ir_re_ex {K : iq_K} {tab : iq_T} {ow rt len pc : Nat} {hh : List (Nat × Nat × Nat × Nat)} {ini isL : Bool} {S : List Value} {M : iq_M} : ∀ {i : Instr}, ir_re fun L => iq_ex K tab ow hh rt ini isL pc len L S M i := by
  intro i
  have iinc : ∀ (a : Nat) (b : Int), ir_re fun L => iq_ex K tab ow hh rt ini isL pc len L S M (.iinc a b) := by
    intro a b L L' o hl h
    simp only [iq_ex] at h ⊢
    cases hg : iq_get L a with
    | none => simp [hg] at h
    | some v =>
      have hg' := ir_get_le hl hg
      rw [hg] at h
      rw [hg', ← hl.1]
      split at h
      · cases h
        exact ⟨.inl (pc + 3, iq_st1 L' a _, S, M), rfl, rfl, ir_le_st1 hl _ _, rfl⟩
      · cases h
  cases i with
  | iinc a b => exact iinc a b
  | iload n => simp only [iq_ex]; exact ir_re_ld
  | iload_n n => simp only [iq_ex]; exact ir_re_ld
  | lload n => simp only [iq_ex]; exact ir_re_ld
  | lload_n n => simp only [iq_ex]; exact ir_re_ld
  | aload n => simp only [iq_ex]; exact ir_re_ld
  | aload_n n => simp only [iq_ex]; exact ir_re_ld
  | istore n => simp only [iq_ex]; exact ir_re_st
  | istore_n n => simp only [iq_ex]; exact ir_re_st
  | lstore n => simp only [iq_ex]; exact ir_re_st
  | lstore_n n => simp only [iq_ex]; exact ir_re_st
  | astore n => simp only [iq_ex]; exact ir_re_st
  | astore_n n => simp only [iq_ex]; exact ir_re_st
  | _ =>
    simp only [iq_ex]
    repeat' split
    all_goals first | exact ir_re_none | exact ir_re_inl | exact ir_re_pu | exact ir_re_b2 | exact ir_re_l2 | exact ir_re_br | exact ir_re_sw | exact ir_re_gf | exact ir_re_pf | exact ir_re_al | exact ir_re_as | exact ir_re_len | exact ir_re_new | exact ir_re_na | exact ir_re_th | exact ir_re_call | exact ir_re_ret | exact ir_re_ite ir_re_none ir_re_inl
theorem ir_step_le {K : iq_K} {mi pc : Nat} {S : List Value} {M : iq_M} : ir_re fun L => iq_step K mi (pc, L, S, M) := by
  unfold iq_step
  simp only
  split
  · split
    · exact ir_re_none
    · exact ir_re_ex
  · exact ir_re_none
theorem ir_run_le {K : iq_K} {mi : Nat} : ∀ {n pc : Nat} {L L' : iq_L} {S : List Value} {M : iq_M} {r : iq_R × iq_M}, ir_le L L' → iq_run K mi n (pc, L, S, M) = some r → iq_run K mi n (pc, L', S, M) = some r
  | 0, _, _, _, _, _, _, _, h => by cases h
  | n + 1, pc, L, L', S, M, r, hl, h => by
    unfold iq_run at h ⊢
    cases hs : iq_step K mi (pc, L, S, M) with
    | none => rw [hs] at h; cases h
    | some o =>
      rw [hs] at h
      obtain ⟨o', h1, h2⟩ := ir_step_le L L' o hl hs
      simp only at h1
      rw [h1]
      cases o with
      | inl σ =>
        cases o' with
        | inl σ' =>
          obtain ⟨p1, L1, S1, M1⟩ := σ
          obtain ⟨p2, L2, S2, M2⟩ := σ'
          obtain ⟨e1, e2, e3⟩ := h2
          simp only at e1 e3 e2
          cases e3
          subst e1
          exact ir_run_le (n := n) e2 h
        | inr q => exact h2.elim
      | inr q =>
        cases o' with
        | inl σ' => exact h2.elim
        | inr q' => cases h2; exact h
/-- the same, as a list of rows -/
def ir_lr : iq_L → iq_L → Prop
  | [], [] => True
  | none :: a, _ :: b => ir_lr a b
  | some v :: a, w :: b => w = some v ∧ ir_lr a b
  | _, _ => False
theorem ir_lr_le : ∀ {L L' : iq_L}, ir_lr L L' → ir_le L L'
  | [], [], _ => ir_le_rf []
  | none :: a, w :: b, h => by
    obtain ⟨h1, h2⟩ := ir_lr_le (L := a) (L' := b) h
    refine ⟨by simp [h1], fun j v hj => ?_⟩
    cases j with
    | zero => simp at hj
    | succ j => simpa using h2 j v (by simpa using hj)
  | some v :: a, w :: b, h => by
    obtain ⟨h1, h2⟩ := ir_lr_le (L := a) (L' := b) h.2
    refine ⟨by simp [h1], fun j v' hj => ?_⟩
    cases j with
    | zero =>
      rw [h.1]
      simpa using hj
    | succ j => simpa using h2 j v' (by simpa using hj)
theorem iq_G_fg {D mi pc : Nat} {L L' : iq_L} {S : List Value} {M : iq_M} {r : iq_R × iq_M} (h : ir_lr L L') (hg : iq_Gg D mi (pc, L, S, M) r) : iq_Gg D mi (pc, L', S, M) r := by
  obtain ⟨n, hn⟩ := hg
  exact ⟨n, ir_run_le (ir_lr_le h) hn⟩
