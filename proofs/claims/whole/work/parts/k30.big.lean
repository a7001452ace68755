/-! ===== big steps of the abstract machine: more fuel and more depth do no harm; dead locals may be forgotten ===== -/
theorem iq_run_le {K : iq_K} {mi : Nat} : ∀ {m m' : Nat} {σ : iq_S} {r : iq_R × iq_M}, iq_run K mi m σ = some r → m ≤ m' → iq_run K mi m' σ = some r
  | 0, _, _, _, h, _ => by cases h
  | m + 1, 0, _, _, _, h => by omega
  | m + 1, m' + 1, σ, r, h, hl => by
    unfold iq_run at h ⊢
    cases hs : iq_step K mi σ with
    | none => rw [hs] at h; cases h
    | some o =>
      rw [hs] at h
      cases o with
      | inl σ' => exact iq_run_le (m := m) h (by omega)
      | inr q => exact h
def iq_Kle (K K' : iq_K) : Prop := ∀ (c : Nat) (as : List Value) (M : iq_M) (r : iq_R × iq_M), K c as M = some r → K' c as M = some r
theorem iq_bk_K {K K' : iq_K} (hK : iq_Kle K K') {tab : iq_T} {ow : Nat} {hh : List (Nat × Nat × Nat × Nat)} {pc : Nat} {L : iq_L} {S : List Value} {c : Nat} {as : List Value} {M : iq_M} {o : iq_S ⊕ (iq_R × iq_M)}
    (h : iq_bk tab ow hh pc L S (K c as M) = some o) : iq_bk tab ow hh pc L S (K' c as M) = some o := by
  cases hk : K c as M with
  | none => rw [hk] at h; simp [iq_bk] at h
  | some r => rw [hk] at h; rw [hK _ _ _ _ hk]; exact h
theorem iq_call_K {K K' : iq_K} (hK : iq_Kle K K') {tab : iq_T} {ow : Nat} {hh : List (Nat × Nat × Nat × Nat)} {w idx pc : Nat} {L : iq_L} {S : List Value} {M : iq_M} {o : iq_S ⊕ (iq_R × iq_M)}
    (h : iq_call K tab ow hh w idx pc L S M = some o) : iq_call K' tab ow hh w idx pc L S M = some o := by
  unfold iq_call at h ⊢
  cases hl : iq_lk (iq_mds ow) idx with
  | none => rw [hl] at h; cases h
  | some q =>
    obtain ⟨cal, n, kd⟩ := q
    rw [hl] at h
    simp only at h ⊢
    split at h
    · split at h
      · exact iq_bk_K hK h
      · cases h
    · split at h
      · exact iq_bk_K hK h
      · cases h
    · split at h
      · split at h
        · rename_i hk
          rw [hK _ _ _ _ hk]
          exact h
        · cases h
      · cases h
    all_goals exact h
theorem iq_ex_K {K K' : iq_K} (hK : iq_Kle K K') {tab : iq_T} {ow rt len pc : Nat} {hh : List (Nat × Nat × Nat × Nat)} {ini isL : Bool} {L : iq_L} {S : List Value} {M : iq_M} {o : iq_S ⊕ (iq_R × iq_M)} :
    ∀ {i : Instr}, iq_ex K tab ow hh rt ini isL pc len L S M i = some o → iq_ex K' tab ow hh rt ini isL pc len L S M i = some o := by
  intro i h
  cases i with
  | invokevirtual n => exact iq_call_K hK (show iq_call K tab ow hh 0 n pc L S M = some o from h)
  | invokestatic n => exact iq_call_K hK (show iq_call K tab ow hh 1 n pc L S M = some o from h)
  | invokespecial n => exact iq_call_K hK (show iq_call K tab ow hh 2 n pc L S M = some o from h)
  | _ => exact h
theorem iq_step_K {K K' : iq_K} (hK : iq_Kle K K') {mi : Nat} {σ : iq_S} {o : iq_S ⊕ (iq_R × iq_M)} (h : iq_step K mi σ = some o) : iq_step K' mi σ = some o := by
  unfold iq_step at h ⊢
  split at h
  · split at h
    · cases h
    · exact iq_ex_K hK h
  · cases h
theorem iq_run_K {K K' : iq_K} (hK : iq_Kle K K') {mi : Nat} : ∀ {m : Nat} {σ : iq_S} {r : iq_R × iq_M}, iq_run K mi m σ = some r → iq_run K' mi m σ = some r
  | 0, _, _, h => by cases h
  | m + 1, σ, r, h => by
    unfold iq_run at h ⊢
    cases hs : iq_step K mi σ with
    | none => rw [hs] at h; cases h
    | some o =>
      rw [hs] at h
      rw [iq_step_K hK hs]
      cases o with
      | inl σ' => exact iq_run_K hK (m := m) h
      | inr q => exact h
theorem iq_ev_le : ∀ {d d' n n' : Nat}, d ≤ d' → n ≤ n' → iq_Kle (iq_ev d n) (iq_ev d' n')
  | 0, _, _, _, _, _ => fun c as M r h => by cases h
  | d + 1, 0, _, _, h, _ => by omega
  | d + 1, d' + 1, n, n', hd, hn => fun c as M r h => by
    unfold iq_ev at h ⊢
    split at h
    · exact iq_run_le (iq_run_K (iq_ev_le (by omega) hn) h) hn
    · cases h
/-- from σ the method mi, its callees not deeper than D, ends with r -/
def iq_Gg (D mi : Nat) (σ : iq_S) (r : iq_R × iq_M) : Prop := ∃ n, iq_run (iq_ev D n) mi n σ = some r
/-- the call of mi, not deeper than D, ends with r -/
def iq_Cc (D mi : Nat) (as : List Value) (M : iq_M) (r : iq_R × iq_M) : Prop := ∃ n, iq_ev D n mi as M = some r
theorem iq_Cc_le {D D' mi : Nat} {as : List Value} {M : iq_M} {r : iq_R × iq_M} (h : iq_Cc D mi as M r) (hd : D ≤ D') : iq_Cc D' mi as M r := by
  obtain ⟨n, h⟩ := h
  exact ⟨n, iq_ev_le hd (Nat.le_refl _) _ _ _ _ h⟩
theorem iq_Cc_of {D mi : Nat} {as : List Value} {M : iq_M} {r : iq_R × iq_M} {L : iq_L} (hl : Nat.ble (iq_lay as).length (iq_ml mi) = true) (he : iq_ent mi as = L) (h : iq_Gg D mi (0, L, [], M) r) : iq_Cc (D + 1) mi as M r := by
  obtain ⟨n, h⟩ := h
  refine ⟨n, ?_⟩
  unfold iq_ev
  rw [hl, he]
  exact h
def ir_go (K : iq_K) (mi : Nat) : Nat → iq_S → iq_O
  | 0, σ => some (.inl σ)
  | k + 1, σ => match iq_step K mi σ with
    | some (.inl σ') => ir_go K mi k σ'
    | some (.inr r) => some (.inr r)
    | none => none
theorem ir_go_run {K : iq_K} {mi : Nat} : ∀ {k : Nat} {σ σ' : iq_S}, ir_go K mi k σ = some (.inl σ') → ∀ n, iq_run K mi (k + n) σ = iq_run K mi n σ'
  | 0, σ, σ', h, n => by
    cases h
    rw [Nat.zero_add]
  | k + 1, σ, σ', h, n => by
    unfold ir_go at h
    rw [show k + 1 + n = (k + n) + 1 by omega]
    conv => lhs; unfold iq_run
    cases hs : iq_step K mi σ with
    | none => rw [hs] at h; cases h
    | some o =>
      rw [hs] at h
      cases o with
      | inl σ1 => exact ir_go_run (k := k) h n
      | inr q => cases h
theorem iq_G_go {D mi k : Nat} {σ σ' : iq_S} {r : iq_R × iq_M} (h : ∀ K, ir_go K mi k σ = some (.inl σ')) (hg : iq_Gg D mi σ' r) : iq_Gg D mi σ r := by
  obtain ⟨n, hn⟩ := hg
  refine ⟨k + n, ?_⟩
  rw [ir_go_run (h _) n]
  exact iq_run_K (iq_ev_le (Nat.le_refl _) (by omega)) hn
theorem iq_G_st {D mi : Nat} {σ σ' : iq_S} {r : iq_R × iq_M} (h : ∀ n, ∃ n', n ≤ n' ∧ iq_step (iq_ev D n') mi σ = some (.inl σ')) (hg : iq_Gg D mi σ' r) : iq_Gg D mi σ r := by
  obtain ⟨n, hn⟩ := hg
  obtain ⟨n', hl, hs⟩ := h n
  refine ⟨n' + 1, ?_⟩
  unfold iq_run
  rw [iq_step_K (iq_ev_le (Nat.le_refl _) (by omega)) hs]
  exact iq_run_le (iq_run_K (iq_ev_le (Nat.le_refl _) (by omega)) hn) hl
theorem iq_G_pos {D mi : Nat} {σ σ1 : iq_S} {o : iq_O} {c : Prop} [Decidable c] {r : iq_R × iq_M} (h : ∀ K, iq_step K mi σ = if c then some (.inl σ1) else o) (hc : c) (hg : iq_Gg D mi σ1 r) : iq_Gg D mi σ r :=
  iq_G_st (fun n => ⟨n, Nat.le_refl _, by rw [h, if_pos hc]⟩) hg
theorem iq_G_neg {D mi : Nat} {σ σ1 : iq_S} {o : iq_O} {c : Prop} [Decidable c] {r : iq_R × iq_M} (h : ∀ K, iq_step K mi σ = if c then o else some (.inl σ1)) (hc : ¬ c) (hg : iq_Gg D mi σ1 r) : iq_Gg D mi σ r :=
  iq_G_st (fun n => ⟨n, Nat.le_refl _, by rw [h, if_neg hc]⟩) hg
theorem iq_G_ret {D mi : Nat} {σ : iq_S} {r : iq_R × iq_M} (h : ∀ K, iq_step K mi σ = some (.inr r)) : iq_Gg D mi σ r :=
  ⟨1, by unfold iq_run; rw [h]⟩
theorem iq_G_rif {D mi : Nat} {σ : iq_S} {r : iq_R × iq_M} {c : Prop} [Decidable c] {o : iq_O} (h : ∀ K, iq_step K mi σ = if c then some (.inr r) else o) (hc : c) : iq_Gg D mi σ r :=
  ⟨1, by unfold iq_run; rw [h, if_pos hc]⟩
/-- a call that comes back -/
theorem iq_G_call {D D' mi cal pc : Nat} {as : List Value} {M : iq_M} {L : iq_L} {S : List Value} {σ σ' : iq_S} {rc r : iq_R × iq_M} (h : ∀ K : iq_K, iq_step K mi σ = iq_bk (iq_tab mi) (iq_ow mi) (iq_hh mi) pc L S (K cal as M)) (hC : iq_Cc D' cal as M rc) (hD : Nat.ble D' D = true)
    (hb : iq_bk (iq_tab mi) (iq_ow mi) (iq_hh mi) pc L S (some rc) = some (.inl σ')) (hg : iq_Gg D mi σ' r) : iq_Gg D mi σ r := by
  obtain ⟨m, hm⟩ := iq_Cc_le hC (Nat.le_of_ble_eq_true hD)
  refine iq_G_st (fun n => ⟨n + m, by omega, ?_⟩) hg
  rw [h, iq_ev_le (Nat.le_refl _) (show m ≤ n + m by omega) _ _ _ _ hm, hb]
/-- a call that throws through -/
theorem iq_G_callx {D D' mi cal pc : Nat} {as : List Value} {M : iq_M} {L : iq_L} {S : List Value} {σ : iq_S} {rc r : iq_R × iq_M} (h : ∀ K : iq_K, iq_step K mi σ = iq_bk (iq_tab mi) (iq_ow mi) (iq_hh mi) pc L S (K cal as M)) (hC : iq_Cc D' cal as M rc) (hD : Nat.ble D' D = true)
    (hb : iq_bk (iq_tab mi) (iq_ow mi) (iq_hh mi) pc L S (some rc) = some (.inr r)) : iq_Gg D mi σ r := by
  obtain ⟨m, hm⟩ := iq_Cc_le hC (Nat.le_of_ble_eq_true hD)
  refine ⟨m + 1, ?_⟩
  unfold iq_run
  rw [h, iq_ev_le (Nat.le_refl _) (show m ≤ m + 1 by omega) _ _ _ _ hm, hb]
/-! hypotheses of the shape 'model = some r', taken apart -/
theorem iq_ite {α : Type} {c : Prop} [Decidable c] {a b : α} {r : α} (h : (if c then a else b) = r) : (c ∧ a = r) ∨ (¬ c ∧ b = r) := by
  by_cases hc : c
  · rw [if_pos hc] at h; exact Or.inl ⟨hc, h⟩
  · rw [if_neg hc] at h; exact Or.inr ⟨hc, h⟩
theorem iq_itn {α : Type} {c : Prop} [Decidable c] {a : Option α} {r : α} (h : (if c then a else none) = some r) : c ∧ a = some r := by
  rcases iq_ite h with h | ⟨_, h⟩
  · exact h
  · cases h
theorem iq_bnd {α β : Type} {o : Option α} {k : α → Option β} {r : β} (h : o.bind k = some r) : ∃ q, o = some q ∧ k q = some r := by
  cases o with
  | none => cases h
  | some q => exact ⟨q, rfl, h⟩
theorem iq_smc {α β : Type} {s : α ⊕ Nat} {f : α → β} {g : Nat → β} {r : β} (h : iq_sm s f g = r) : (∃ a, s = .inl a ∧ f a = r) ∨ (∃ k, s = .inr k ∧ g k = r) := by
  cases s with
  | inl a => exact Or.inl ⟨a, rfl, h⟩
  | inr k => exact Or.inr ⟨k, rfl, h⟩
theorem iq_lp_ok {V W : Type} {body : V → Option (V ⊕ W)} {D mi : Nat} {σ : V → iq_S} {Q : W → iq_R × iq_M → Prop}
    (hb : ∀ v q, body v = some q → ∀ r, (∀ v', q = .inl v' → iq_Gg D mi (σ v') r) → (∀ w, q = .inr w → Q w r) → iq_Gg D mi (σ v) r) :
    ∀ {n : Nat} {v : V} {w : W}, iq_lp body n v = some w → ∀ r, Q w r → iq_Gg D mi (σ v) r
  | 0, v, w, h, r, _ => by cases h
  | n + 1, v, w, h, r, hq => by
    unfold iq_lp at h
    cases hv : body v with
    | none => rw [hv] at h; cases h
    | some q =>
      rw [hv] at h
      cases q with
      | inl v' => exact hb v _ hv r (fun v'' e => by cases e; exact iq_lp_ok hb h r hq) (fun w' e => by cases e)
      | inr w' =>
        cases h
        exact hb v _ hv r (fun v'' e => by cases e) (fun w'' e => by cases e; exact hq)
