/-! ===== what the steps leave of the numbers beside the world ===== -/
section Mono
variable {pc : Nat} {L : iq_L} {S : List Value} {M : iq_M} {o : iq_S ⊕ (iq_R × iq_M)}
/-- the step goes on, in the same world -/
def iq_same (M : iq_M) (o : iq_S ⊕ (iq_R × iq_M)) : Prop := ∃ (a : Nat) (b : iq_L) (c : List Value), o = .inl (a, b, c, M)
theorem iq_k_ld {w i : Nat} (h : iq_ld w i pc L S M = some o) : iq_same M o := by
  unfold iq_ld at h
  repeat' (split at h)
  all_goals (first | (cases h; exact ⟨_, _, _, rfl⟩) | cases h)
theorem iq_k_st {w i : Nat} (h : iq_st w i pc L S M = some o) : iq_same M o := by
  unfold iq_st at h
  repeat' (split at h)
  all_goals (first | (cases h; exact ⟨_, _, _, rfl⟩) | cases h)
theorem iq_k_b2 {f : Int32 → Int32 → Int32} (h : iq_b2 f pc L S M = some o) : iq_same M o := by
  unfold iq_b2 at h
  repeat' (split at h)
  all_goals (first | (cases h; exact ⟨_, _, _, rfl⟩) | cases h)
theorem iq_k_l2 {f : Int64 → Int64 → Int64} (h : iq_l2 f pc L S M = some o) : iq_same M o := by
  unfold iq_l2 at h
  repeat' (split at h)
  all_goals (first | (cases h; exact ⟨_, _, _, rfl⟩) | cases h)
theorem iq_k_br {cnd : Prop} [Decidable cnd] {t : Option Nat} {f : Nat} (h : iq_br cnd t f L S M = some o) : iq_same M o := by
  unfold iq_br at h
  repeat' (split at h)
  all_goals (first | (cases h; exact ⟨_, _, _, rfl⟩) | cases h)
theorem iq_k_gf {ow idx : Nat} (h : iq_gf ow idx pc L S M = some o) : iq_same M o := by
  unfold iq_gf at h
  repeat' (split at h)
  all_goals (first | (cases h; exact ⟨_, _, _, rfl⟩) | cases h)
theorem iq_k_al {w : Nat} {isL : Bool} (h : iq_al w isL pc L S M = some o) : iq_same M o := by
  unfold iq_al at h
  repeat' (split at h)
  all_goals (first | (cases h; exact ⟨_, _, _, rfl⟩) | cases h)
set_option maxRecDepth 100000 in
theorem iq_k_len {isL : Bool} (h : iq_len isL pc L S M = some o) : iq_same M o := by
  unfold iq_len at h
  repeat' (split at h)
  all_goals (first | (cases h; exact ⟨_, _, _, rfl⟩) | cases h)
/-- what a step may do to the numbers -/
def iq_mo (M : iq_M) (o : iq_S ⊕ (iq_R × iq_M)) : Prop := (∀ σ, o = .inl σ → iq_mono M σ.2.2.2) ∧ ∀ r M', o = .inr (r, M') → iq_mono M M' ∧ ∀ k, r = .inr k → k < 2
theorem iq_same_mo (h : iq_same M o) : iq_mo M o := by
  obtain ⟨a, b, c, rfl⟩ := h
  exact ⟨fun σ hσ => by cases hσ; exact iq_mono_rf M, fun r M' h => by cases h⟩
theorem iq_go_mo {a : Nat} {b : iq_L} {c : List Value} {M' : iq_M} (h : iq_mono M M') : iq_mo M (.inl (a, b, c, M')) := ⟨fun σ hσ => by cases hσ; exact h, fun r M' h => by cases h⟩
theorem iq_upI_0 {f : Nat → Nat → Int32} {k i : Nat} {v : Int32} (h : 0 < k) : iq_upI f k i v 0 = f 0 := iq_upI_other (by omega)
theorem iq_k_pf {ow idx : Nat} {ini : Bool} (h0 : ∃ n, M.1[0]? = some (103, [n])) (h : iq_pf ow ini idx pc L S M = some o) : iq_mo M o := by
  unfold iq_pf at h
  split at h
  · rename_i v k S'
    split at h
    · split at h
      · rename_i t fs hM h11
        split at h
        · rename_i hb
          have ht := Nat.eq_of_beq_eq_true hb
          subst ht
          have hk : 0 < k := iq_pos h0 hM (by have := iq_blt h11; omega)
          split at h
          · repeat' (split at h)
            all_goals (first | (cases h; done) | (cases h; exact iq_go_mo ⟨Nat.le_refl _, Nat.le_refl _, rfl, id, fun h => ⟨h, rfl⟩, iq_upI_0 hk⟩))
          · repeat' (split at h)
            all_goals (first | (cases h; done) | (cases h; exact iq_go_mo ⟨Nat.le_refl _, Nat.le_refl _, rfl, id, fun h => ⟨h, rfl⟩, rfl⟩))
          · repeat' (split at h)
            all_goals (first | (cases h; done) | (cases h; exact iq_go_mo ⟨Nat.le_refl _, Nat.le_refl _, List.getElem?_set_ne (Nat.pos_iff_ne_zero.mp hk), fun hl => by simpa using hl, fun h => ⟨h, by simp⟩, rfl⟩))
          · cases h
        · cases h
      · cases h
    · cases h
  · cases h
theorem iq_k_as {w : Nat} (h0 : ∃ n, M.1[0]? = some (103, [n])) (h : iq_as w pc L S M = some o) : iq_mo M o := by
  unfold iq_as at h
  split at h
  · rename_i x i k S'
    split at h
    · rename_i t n ns hM
      split at h
      · rename_i hb
        have ht := Nat.eq_of_beq_eq_true hb
        subst ht
        split at h
        · have hk : 0 < k := iq_pos h0 hM (by decide)
          split at h
          · cases h; exact iq_go_mo ⟨Nat.le_refl _, Nat.le_refl _, rfl, id, fun h => ⟨h, rfl⟩, iq_upI_0 hk⟩
          · cases h
        · have hk : 0 < k := iq_pos h0 hM (by decide)
          split at h
          · cases h; exact iq_go_mo ⟨Nat.le_refl _, Nat.le_refl _, rfl, id, fun h => ⟨h, rfl⟩, iq_upI_0 hk⟩
          · cases h
        · cases h
      · cases h
    · cases h
  · repeat' (split at h)
    all_goals (first | (cases h; done) | (cases h; exact iq_go_mo ⟨Nat.le_refl _, Nat.le_refl _, rfl, id, fun h => ⟨h, rfl⟩, rfl⟩))
  · cases h
theorem iq_k_new {ci : Nat} (h0 : ∃ n, M.1[0]? = some (103, [n])) (h : iq_new ci pc L S M = some o) : iq_mo M o := by
  obtain ⟨n0, h0⟩ := h0
  have hl : 0 < M.1.length := (List.getElem?_eq_some_iff.mp h0).1
  unfold iq_new at h
  split at h
  · rename_i fs hb hg hlen
    have hlen := iq_blt hlen
    cases h
    exact iq_go_mo ⟨Nat.le_succ _, Nat.le_add_right _ _, List.getElem?_append_left hl, fun _ => by simp; omega, fun _ => ⟨hg, by simp; omega⟩, iq_zI_other (by omega)⟩
  · cases h
theorem iq_k_na {w : Nat} (h0 : ∃ n, M.1[0]? = some (103, [n])) (h : iq_na w pc L S M = some o) : iq_mo M o := by
  obtain ⟨n0, h0⟩ := h0
  have hl : 0 < M.1.length := (List.getElem?_eq_some_iff.mp h0).1
  unfold iq_na at h
  split at h
  · rename_i n S' hg hlen
    have hlen := iq_blt hlen
    split at h
    · cases h
      exact iq_go_mo ⟨Nat.le_succ _, Nat.le_add_right _ _, List.getElem?_append_left hl, fun _ => by simp; omega, fun _ => ⟨hg, by simp; omega⟩, iq_zI_other (by omega)⟩
    · cases h
  · cases h
theorem iq_k_cp (h0 : ∃ n, M.1[0]? = some (103, [n])) (h : iq_cp pc L S M = some o) : iq_mo M o := by
  unfold iq_cp at h
  split at h
  · rename_i n dp b sp a S'
    split at h
    · rename_i ta na nas tb nb nbs hA hB
      split at h
      · have hb : 0 < b := iq_pos h0 hB (by decide)
        split at h
        · cases h; exact iq_go_mo ⟨Nat.le_refl _, Nat.le_refl _, rfl, id, fun h => ⟨h, rfl⟩, iq_cpI_other (Nat.ne_of_lt hb)⟩
        · cases h
      · split at h
        · cases h; exact iq_go_mo ⟨Nat.le_refl _, Nat.le_refl _, rfl, id, fun h => ⟨h, rfl⟩, rfl⟩
        · cases h
      · cases h
    · cases h
  · cases h
theorem iq_k_th {tab : iq_T} {ow kd : Nat} (hkd : kd < 2) (h : iq_th tab ow kd pc M = some o) : iq_mo M o := by
  rw [iq_th_inr h]
  refine ⟨fun σ hσ => (by cases hσ), fun r M' h => ?_⟩
  cases h
  exact ⟨⟨Nat.le_succ _, Nat.le_add_right _ _, rfl, id, fun h => (by cases h), rfl⟩, fun k hk => by cases hk; exact hkd⟩
theorem iq_k_bk {tab : iq_T} {ow : Nat} {hh : List (Nat × Nat × Nat × Nat)} {r : iq_R} {M' : iq_M} (hm : iq_mono M M') (hk : ∀ k, r = .inr k → k < 2) (h : iq_bk tab ow hh pc L S (some (r, M')) = some o) : iq_mo M o := by
  unfold iq_bk at h
  split at h
  · rename_i hq; cases hq
  · rename_i hq; cases hq; cases h; exact iq_go_mo hm
  · rename_i hq; cases hq; cases h; exact iq_go_mo hm
  · rename_i hq
    cases hq
    split at h
    · split at h
      · cases h
        exact ⟨fun σ hσ => (by cases hσ), fun r M' h => by cases h; exact ⟨hm, fun k hk' => by cases hk'; exact hk _ rfl⟩⟩
      · cases h
    · repeat' (split at h)
      all_goals (first | (cases h; done) | (cases h; exact iq_go_mo hm))
/-- callees keep the numbers too -/
def iq_Km (K : iq_K) : Prop := ∀ (cal : Nat) (as : List Value) (M : iq_M) (r : iq_R) (M' : iq_M), (∃ n, M.1[0]? = some (103, [n])) → K cal as M = some (r, M') → iq_mono M M' ∧ ∀ k, r = .inr k → k < 2
theorem iq_k_call {K : iq_K} (hK : iq_Km K) {tab : iq_T} {ow w idx : Nat} {hh : List (Nat × Nat × Nat × Nat)} (h0 : ∃ n, M.1[0]? = some (103, [n])) (h : iq_call K tab ow hh w idx pc L S M = some o) : iq_mo M o := by
  unfold iq_call at h
  split at h
  · rename_i cal n kd hlk
    split at h
    · split at h
      · cases hres : K cal ((S.take (n + 1)).reverse) M with
        | none => rw [hres] at h; simp [iq_bk] at h
        | some rM => rw [hres] at h; obtain ⟨q1, q2⟩ := hK _ _ _ _ _ h0 hres; exact iq_k_bk q1 q2 h
      · cases h
    · split at h
      · cases hres : K cal ((S.take n).reverse) M with
        | none => rw [hres] at h; simp [iq_bk] at h
        | some rM => rw [hres] at h; obtain ⟨q1, q2⟩ := hK _ _ _ _ _ h0 hres; exact iq_k_bk q1 q2 h
      · cases h
    · split at h
      · split at h
        · rename_i M' hres
          cases h
          exact iq_go_mo (hK _ _ _ _ _ h0 hres).1
        · cases h
      · cases h
    · split at h
      · exact iq_k_cp h0 h
      · cases h
    · repeat' (split at h)
      all_goals (first | (cases h; done) | (cases h; exact iq_same_mo ⟨_, _, _, rfl⟩))
    · repeat' (split at h)
      all_goals (first | (cases h; done) | (cases h; exact iq_same_mo ⟨_, _, _, rfl⟩))
    · repeat' (split at h)
      all_goals (first | (cases h; done) | (cases h; exact iq_same_mo ⟨_, _, _, rfl⟩))
    · cases h
  · cases h
theorem iq_k_ret {rt w : Nat} (h : iq_ret rt S M w = some o) : iq_mo M o := by
  unfold iq_ret at h
  repeat' (split at h)
  all_goals (first | (cases h; done) | (cases h; exact ⟨fun σ hσ => (by cases hσ), fun r M' h => by cases h; exact ⟨iq_mono_rf _, fun k hk => by cases hk⟩⟩))
end Mono
