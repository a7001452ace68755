/-! ===== rules: what they give ===== -/
theorem jencs_ln : ∀ c : List Int32, c.length < (jencs c).length
  | [] => Nat.lt_succ_self 0
  | x :: t => by
    have := jencs_ln t
    have e : jencs (x :: t) = jenc x ++ jencs t := rfl
    have l : 1 ≤ (jenc x).length := by
      unfold jenc
      repeat (first | (split <;> try simp) | simp)
    rw [e, List.length_append, List.length_cons]
    omega
theorem jc_give {I : iq_I} {r : Nat} {c : List Int32} {v : Nat → Int32} (hr : r < 5) (hc : jcode c) (h : jRu I 9 10 11 r c) (hv : ∀ k, k < 7 → I 70 k = v k) :
    ∃ I', zE_give (jn r) I = some ((jev v c []).headD 0, I') ∧ ∀ k j, ¬ k = 12 → I' k j = I k j := by
  obtain ⟨x, h10, h11, hl, h9⟩ := h
  obtain ⟨I', q1, q2, q3, q4⟩ := jc_giveL (v := v) hr c x [] I ir_F (by unfold ir_F; omega) h9 h11 hl hc.2 hc.1 (by simp) trivial hv
  refine ⟨I', ?_, q2⟩
  unfold zE_give
  have kr : (jn r).toNatClampNeg = r := jn_clamp (by omega)
  rw [if_neg (by rw [jl0, jn_lt (by omega) (by omega)]; omega), if_pos (by rw [jl5, jn_lt (by omega) (by omega)]; exact hr), if_pos (by rw [jn_in (by omega)]; exact hr), kr, h10]
  have q1 : zE_give_l25 (jn r) ir_F ((0 : Int32), jn x, I) = some (jn 1, I') := q1
  rw [q1, Option.bind_some]
  unfold zE_give_178
  dsimp only
  rw [if_neg (by decide)]
  match e : jev v c [], q3, q4 with
  | [a], q3, _ => rw [show I' 12 0 = a from q3.1]; rfl
theorem jm_reckons {I : iq_I} {x : Nat} {c : List Int32} {v : Nat → Int32} (hc : jcode c) (h : jRn I 84 x c) (hv : ∀ k, k < 7 → I 101 k = v k) :
    ∃ I', zM_reckons (jn x) I = some ((jev v c []).headD 0, I') ∧ ∀ k j, ¬ k = 102 → I' k j = I k j := by
  have ln := jencs_ln c
  obtain ⟨I', q1, q2, q3, q4⟩ := jm_reckL (v := v) c x [] I ir_F (by have := h.1; unfold ir_F; omega) h.2 h.1 hc.2 hc.1 (by simp) trivial hv
  refine ⟨I', ?_, q2⟩
  unfold zM_reckons
  have q1 : zM_reckons_l4 ir_F ((0 : Int32), jn x, I) = some I' := q1
  rw [q1, Option.bind_some]
  match e : jev v c [], q3, q4 with
  | [a], q3, _ => rw [show I' 102 0 = a from q3.1]; rfl
