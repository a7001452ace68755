/-! ===== a rule: the class's expression and the reference's ===== -/
theorem ruleJ {f : Nat → Nat} {n : Nat} (hn : n ≤ 700) : ∀ p, p ≤ n → ∃ o : jOut, Stt 1 0 f n p o ∧ CSp (zR_rec ir_RD 98 (0 : Int32)) f n p o ∧
    (∀ I J tp, ML I J f n p → I 76 18 = 0 → I 76 37 = jn tp → tp + 2 * (n - p) ≤ 3700 → match o with
      | .inr (s, p') => ∃ I' J', zM_expression I J = some (I', J') ∧ ML I' J' f n p' ∧ I' 76 18 = 0 ∧ I' 76 37 = jn (tp + (jencs s).length) ∧ (∀ i, i < (jencs s).length → I' 95 (tp + i) = (jencs s).getD i 0) ∧ jfr 0 tp I I' ∧ (∀ k j, ¬ k = 76 → J' k j = J k j) ∧ (jencs s).length ≤ 2 * (p' - p) + 1
      | .inl (kd, pl) => ∃ w, zM_expression I J = some w ∧ Flt kd pl I J w) := by
  intro p hp
  obtain ⟨o, st, cs, rs⟩ := exprJ (f := f) hn 5 0 ir_RD (by omega) rfl (by decide) p hp
  refine ⟨o, st, cs, fun I J tp hM hg h37 hb => ?_⟩
  -- the expression begins
  have fr0 : ∀ k j, ¬ (k = 76 ∧ (j = 38 ∨ j = 39)) → iq_upI (iq_upI I 76 38 0) 76 39 0 k j = I k j := fun k j q => by
    by_cases e : k = 76
    · subst e; rw [up_ni (by omega), up_ni (by omega)]
    · rw [up_nk e, up_nk e]
  have x0 : EX (iq_upI (iq_upI I 76 38 0) 76 39 0) J f n p [] 0 tp := ⟨ML_f hM (fun j => fr0 _ _ (by omega)) (fun j _ _ => fr0 _ _ (by omega)) rfl, by rw [fr0 _ _ (by omega), hg], by rw [up_ni (by decide), up_eq]; rfl, (fun i hi => by cases hi), up_eq, by rw [fr0 _ _ (by omega), h37]⟩
  obtain ⟨I1, e1, x1, t1, f1⟩ := jm_deeper x0 (by omega)
  have fr1 : jfr 0 tp I I1 := fun k j q1 q2 q3 q4 => by rw [f1 k j (by omega) (by omega), fr0 k j (by omega)]
  have go : ∀ w, RA n 1 p I1 J w → zM_expression I J = some w := fun w hr => by
    have q := hr ir_F ir_F (by unfold ir_F; omega) (by unfold ir_F; omega)
    unfold zM_expression
    rw [jm_good hg, Option.bind_some, if_pos (by decide), ir_let, ir_let, e1, Option.bind_some]
    unfold zM_operand
    cases e2 : zM_operand_l4 ir_F ((1 : Int32), (1 : Int32), I1, J) with
    | none => rw [e2] at q; cases q
    | some q0 =>
      rw [e2, Option.bind_some] at q
      rw [Option.bind_some]
      unfold cntO at q
      cases e3 : zM_operand_120 q0.1 q0.2 with
      | none => rw [e3] at q; cases q
      | some r =>
        rw [e3, Option.bind_some] at q
        rw [Option.bind_some]
        exact q
  cases o with
  | inl ft =>
    obtain ⟨kd, pl⟩ := ft
    obtain ⟨w, r1, ⟨r2, r3, r4, r5⟩⟩ := rs I1 J [] tp x1 (fun x hx => by cases hx) (fun V x e => by cases V <;> cases e) (by show 0 + _ ≤ _; omega) (by show tp + 0 + _ ≤ _; omega) (fun _ => t1)
    exact ⟨w, go w r1, r2, r3, jfz_tr (jfz_fr fr1) r4, r5⟩
  | inr ok =>
    obtain ⟨s, p'⟩ := ok
    obtain ⟨a1, a2, a3, a4, a5, a6⟩ := st
    obtain ⟨s0, P, I2, J2, r1, r2, r3, r4, r5, r6, r7, r8, r9, r10, r11⟩ := rs I1 J [] tp x1 (fun x hx => by cases hx) (fun V x e => by cases V <;> cases e) (by show 0 + _ ≤ _; omega) (by show tp + 0 + _ ≤ _; omega) (fun _ => t1)
    have lp : ([] ++ P : List Int32).length = P.length := rfl
    have jl : (jes P.reverse).length = P.length := by rw [jes_op _ (fun y hy => (r2 y (List.mem_reverse.mp hy)).1), List.length_reverse]
    have jA : (jencs s).length = (jes s0).length + P.length + 1 := by rw [jencs_jes, r1, jes_app, List.length_append, List.length_append, jl]; rfl
    obtain ⟨I3, e3, x3, d3, f3⟩ := jm_drops (L := 0) (W := []) (by omega) (fun x hx => ⟨(r2 x hx).1, Nat.zero_le _⟩) (fun x hx => by cases hx) (fun V x e => by cases V <;> cases e) r3 (by rw [lp]; omega) (by omega)
    have x4 := jm_putsE x3 0
    have body : zM_expression_l29_b (1 : Int32) I2 J2 = some (.inl ((0 : Int32), I2, J2)) := by
      rw [jm_body_end r3 (by omega) (fun k x h => by
        have o := opk_w h
        rcases a6 k x h with q | q
        · omega
        · exact ⟨q.2, fun z => r8 (by omega) z x (by rw [h, q.2])⟩)]
      cases sgn f n p' 41 with
      | false => rw [if_pos rfl]
      | true => rw [if_neg (by decide), jm_isOpened0 (WO_of r3) (fun x hx => (r2 x hx).1) (by rw [lp]; omega), Option.bind_some, if_pos rfl]
    have run : RM n p' I2 J2 (iq_upI (iq_upI I3 95 (tp + (jes s0).length + P.length) 0) 76 37 (jn (tp + (jes s0).length + P.length + 1)), J2) := fun N hN => by
      have e3 : zM_drops (0 : Int32) I2 = some I3 := e3
      rw [jm_stop body N (by omega)]
      unfold zM_expression_325 zM_expression_345
      rw [jm_good r3.2.1, Option.bind_some, if_neg (by decide), r3.2.2.2.2.1, if_pos (by decide), e3, Option.bind_some, jm_puts x3.2.2.2.2.2 (by omega), Option.bind_some]
    refine ⟨_, _, go _ (r11 _ run), x4.1, x4.2.1, ?_, fun i hi => ?_, ?_, r6, by omega⟩
    · rw [up_eq, jA]; congr 1; omega
    · rw [jA] at hi
      rw [jencs_jes, r1, jes_app, up_nk (by decide)]
      by_cases q1 : i < (jes s0).length
      · rw [up_ni (by omega), f3 95 _ (by omega) (by omega), r4 i q1, List.append_assoc, jgd_l q1]
      · by_cases q2 : i < (jes s0).length + P.length
        · rw [up_ni (by omega), show tp + i = tp + (jes s0).length + (i - (jes s0).length) by omega, d3 _ (by omega), List.append_assoc, jgd_r (by omega), jgd_l (by rw [jl]; omega)]
        · rw [show tp + i = tp + (jes s0).length + P.length by omega, up_eq, jgd_r (by rw [List.length_append, jl]; omega), List.length_append, jl, show i - ((jes s0).length + P.length) = 0 by omega]
          rfl
    · intro k j q1 q2 q3 q4
      have e : iq_upI (iq_upI I3 95 (tp + (jes s0).length + P.length) 0) 76 37 (jn (tp + (jes s0).length + P.length + 1)) k j = I3 k j := by
        by_cases e : k = 76
        · subst e; rw [up_ni (by omega), up_nk (by decide)]
        · rw [up_nk e]
          by_cases e2 : k = 95
          · subst e2; rw [up_ni (by omega)]
          · rw [up_nk e2]
      rw [e, f3 k j (by omega) (by omega), r5 k j q1 q2 q3 (by omega), fr1 k j q1 q2 q3 q4]
