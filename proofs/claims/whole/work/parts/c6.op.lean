/-! ===== expressions: the reference takes an operator ===== -/
theorem jm_RM {n p p' : Nat} {b : Int32} {I I' : iq_I} {J J' : iq_J} {w : iq_I × iq_J} (hp : p < p') (hp' : p' ≤ n) (hn : n ≤ 700) (hx : zM_expression_l29_b (1 : Int32) I J = (zM_operand b I' J').bind fun q => some (.inl ((1 : Int32), q.1, q.2))) (h : RA n b p' I' J' w) : RM n p I J w := by
  intro N hN
  obtain ⟨N, rfl⟩ : ∃ N', N = N' + 1 := ⟨N - 1, by omega⟩
  have q := h ir_F N (by unfold ir_F; omega) (by omega)
  unfold cntM zM_expression_l29
  conv => lhs; unfold iq_lp
  dsimp only
  rw [hx]
  unfold zM_operand
  cases e1 : zM_operand_l4 ir_F (b, (1 : Int32), I', J') with
  | none => rw [e1] at q; cases q
  | some q0 =>
    rw [e1, Option.bind_some] at q
    rw [Option.bind_some]
    unfold cntO at q
    cases e2 : zM_operand_120 q0.1 q0.2 with
    | none => rw [e2] at q; cases q
    | some r =>
      rw [e2, Option.bind_some] at q
      rw [Option.bind_some]
      exact q
/-- push the operator, and go on: I1 is what drops left -/
theorem jm_opT {I : iq_I} {J : iq_J} {f : Nat → Nat} {n p : Nat} {W : List Int32} {d tp : Nat} (h : EX I J f n p W d tp) (hW : W.length < 950) (hd : d ≤ 6) (x : Int32) (to : Option Int32) :
    ∃ I2 I3 I4 J4, zM_waitsFor (wact x) I = some I2 ∧ I2 76 39 = jn d ∧ (I3 = match to with | some v => iq_upI I2 97 d v | none => I2) ∧ zM_goes I3 J = some (I4, J4) ∧ EX I4 J4 f n (tz f n p) (W ++ [x]) d tp ∧ (∀ k j, ¬ k = 76 → J4 k j = J k j) ∧ (I4 97 d = match to with | some v => v | none => I 97 d) ∧ (∀ k j, ¬ (k = 76 ∧ ((22 ≤ j ∧ j ≤ 27) ∨ j = 38)) → ¬ k = 96 → ¬ (k = 97 ∧ j = d) → I4 k j = I k j) := by
  obtain ⟨I2, e1, x1, f1⟩ := jm_waitsFor h hW x
  obtain ⟨I3, hI3, x3, f3, f3d⟩ : ∃ I3, (I3 = match to with | some v => iq_upI I2 97 d v | none => I2) ∧ EX I3 J f n p (W ++ [x]) d tp ∧ (∀ k j, ¬ (k = 97 ∧ j = d) → I3 k j = I2 k j) ∧ (I3 97 d = match to with | some v => v | none => I2 97 d) := by
    cases to with
    | none => exact ⟨I2, rfl, x1, fun _ _ _ => rfl, rfl⟩
    | some v =>
      have fr : ∀ k j, ¬ (k = 97 ∧ j = d) → iq_upI I2 97 d v k j = I2 k j := fun k j q => by
        by_cases e : k = 97
        · subst e; rw [up_ni (by omega)]
        · rw [up_nk e]
      obtain ⟨h1, h2, h3, h4, h5, h6⟩ := x1
      exact ⟨iq_upI I2 97 d v, rfl, ⟨ML_f h1 (fun j => fr _ _ (by omega)) (fun j _ _ => fr _ _ (by omega)) rfl, by rw [fr _ _ (by omega), h2], by rw [fr _ _ (by omega), h3], fun i hi => by rw [fr _ _ (by omega), h4 i hi], by rw [fr _ _ (by omega), h5], by rw [fr _ _ (by omega), h6]⟩, fr, up_eq⟩
  obtain ⟨I4, J4, e4, m4, g4, j4⟩ := ML_next x3.1
  refine ⟨I2, I3, I4, J4, e1, x1.2.2.2.2.1, hI3, e4, EX_go x3 m4 g4, j4, ?_, fun k j q1 q2 q3 => ?_⟩
  · rw [g4 97 d (by omega), f3d]
    cases to with
    | none => exact f1 97 d (by omega) (by omega)
    | some v => rfl
  · rw [g4 k j (by omega), f3 k j q3, f1 k j (by omega) q2]
theorem jm_op {I : iq_I} {J : iq_J} {f : Nat → Nat} {n p k : Nat} {x : Int32} {W P : List Int32} {d tp : Nat} (ho : opk f n p = some (k, x)) (hP : ∀ y ∈ P, wop y ∧ k ≤ wst y) (hw : wokL W) (hk : weak W k) (h : EX I J f n p (W ++ P) d tp) (hd : d ≤ 6) (h97 : k = 4 → I 97 d = 0) (hW : (W ++ P).length < 940) (ht : tp + P.length < 3990) :
    ∃ I' J', EX I' J' f n (tz f n p) (W ++ [x]) d (tp + P.length) ∧ (∀ i, i < P.length → I' 95 (tp + i) = (jes P.reverse).getD i 0) ∧ jfr d tp I I' ∧ (∀ k j, ¬ k = 76 → J' k j = J k j) ∧ (k ≤ 2 → I' 97 d = 0) ∧ (k = 4 → I' 97 d = 1) ∧ (5 ≤ k → I' 97 d = I 97 d) ∧ (∀ w, RA n (if k ≤ 2 then 1 else 0) (tz f n p) I' J' w → RM n p I J w) := by
  obtain ⟨ox, os, o3, o6, o1, -⟩ := opk_w ho
  obtain ⟨I1, e1, x1, d1, f1⟩ := jm_drops o6 hP hw hk h (by omega) (by omega)
  have hpn := h.1.2.1
  have hn := h.1.1.1
  have tz1 := tz_sp (f := f) hpn
  have ta1 := ta_sp (f := f) hpn
  have tz3 := tz1.2.2.1 (opk_t ho)
  have kwe := jm_knownWord h.1
  have good := jm_good h.2.1
  have lw : W.length < 950 := by rw [List.length_append] at hW; omega
  have sg : ∀ c, c < 256 → zM_isSign (jn c) I = some (jB (sgn f n p c)) := fun c hc => jm_isSign h.1 hc
  have sg1 : ∀ c, c < 256 → zM_isSign (jn c) I1 = some (jB (sgn f n p c)) := fun c hc => jm_isSign x1.1 hc
  obtain ⟨I2, I3, I4, J4, q1, q2, q3, q4, q5, q6, q7, q8⟩ := jm_opT x1 lw hd x (if k ≤ 2 then some 0 else if k = 4 then some 1 else none)
  have body : zM_expression_l29_b (1 : Int32) I J = (zM_operand (if k ≤ 2 then 1 else 0) I4 J4).bind fun q => some (.inl ((1 : Int32), q.1, q.2)) := by
    have i9 : iq_in (jn d) 9 := by rw [jn_in (by omega)]; omega
    have kd : (jn d).toNatClampNeg = d := jn_clamp (by omega)
    unfold zM_expression_l29_b
    rw [if_neg (by decide), good, Option.bind_some, if_neg (by decide), kwe, Option.bind_some]
    by_cases c14 : kw f n p = some 14
    · have e : some (k, x) = some (2, (-10 : Int32)) := by rw [← ho]; unfold opk; rw [if_pos c14]
      cases e
      simp only [Nat.le_refl, if_true] at q3 ⊢
      subst q3
      rw [c14, if_pos (show jo (some 14) = 14 from rfl)]
      unfold zM_expression_57 zM_expression_69 zM_expression_84
      have e1 : zM_drops (2 : Int32) I = some I1 := e1
      have q1 : zM_waitsFor (4 : Int32) I1 = some I2 := q1
      rw [if_neg (fun h => h rfl), e1, Option.bind_some, if_neg (fun h => h rfl), q1, Option.bind_some, q2, if_pos ⟨i9, Or.inl rfl⟩, kd, ir_let, q4, Option.bind_some]
    · have n14 : ¬ jo (kw f n p) = 14 := by
        cases q : kw f n p with
        | none => decide
        | some c => have := (kw_lt q).1; rw [jo_some, jl14, jn_inj (by omega) (by omega)]; intro h; subst h; exact c14 q
      rw [if_neg n14]
      by_cases c15 : kw f n p = some 15
      · have e : some (k, x) = some (1, (-9 : Int32)) := by rw [← ho]; unfold opk; rw [if_neg c14, if_pos c15]
        cases e
        simp only [show (1 : Nat) ≤ 2 by decide, if_true] at q3 ⊢
        subst q3
        rw [c15, if_neg (fun h => h rfl)]
        unfold zM_expression_57 zM_expression_69 zM_expression_84
        have e1 : zM_drops (1 : Int32) I = some I1 := e1
        have q1 : zM_waitsFor (5 : Int32) I1 = some I2 := q1
        rw [if_pos (by decide), e1, Option.bind_some, if_pos (by decide), q1, Option.bind_some, q2, if_pos ⟨i9, Or.inl rfl⟩, kd, ir_let, q4, Option.bind_some]
      · have n15 : ¬ jo (kw f n p) = 15 := by
          cases q : kw f n p with
          | none => decide
          | some c => have := (kw_lt q).1; rw [jo_some, jl15, jn_inj (by omega) (by omega)]; intro h; subst h; exact c15 q
        rw [if_pos n15]
        have s60 : zM_isSign (60 : Int32) I = _ := sg 60 (by decide)
        have s61 : zM_isSign (61 : Int32) I = _ := sg 61 (by decide)
        have s43 : zM_isSign (43 : Int32) I = _ := sg 43 (by decide)
        have s45 : zM_isSign (45 : Int32) I = _ := sg 45 (by decide)
        have s42 : zM_isSign (42 : Int32) I = _ := sg 42 (by decide)
        have s47 : zM_isSign (47 : Int32) I = _ := sg 47 (by decide)
        have u60 : zM_isSign (60 : Int32) I1 = _ := sg1 60 (by decide)
        have u43 : zM_isSign (43 : Int32) I1 = _ := sg1 43 (by decide)
        have u42 : zM_isSign (42 : Int32) I1 = _ := sg1 42 (by decide)
        have o := ho
        unfold opk at o
        rw [if_neg c14, if_neg c15] at o
        rw [s60, Option.bind_some]
        by_cases c60 : sgn f n p 60 = true
        · rw [if_pos c60] at o
          cases o
          have t0 := h97 rfl
          simp only [show ¬ (4 : Nat) ≤ 2 by decide, if_false, if_true] at q3 ⊢
          subst q3
          have e1 : zM_drops (4 : Int32) I = some I1 := e1
          have q1 : zM_waitsFor (6 : Int32) I1 = some I2 := q1
          rw [c60, if_pos (by decide)]
          unfold zM_expression_127 zM_expression_161
          rw [h.2.2.2.2.1, if_pos i9, kd, t0, if_neg (fun h => h rfl), e1, Option.bind_some, u60, c60, Option.bind_some, if_neg (by decide), q1, Option.bind_some, q2, if_pos ⟨i9, Or.inr rfl⟩, kd, ir_let, q4, Option.bind_some]
        · have b60 : sgn f n p 60 = false := by simpa using c60
          rw [if_neg c60] at o
          rw [b60, if_neg (fun h => h rfl), s61, Option.bind_some]
          by_cases c61 : sgn f n p 61 = true
          · rw [if_pos c61] at o
            cases o
            have t0 := h97 rfl
            simp only [show ¬ (4 : Nat) ≤ 2 by decide, if_false, if_true] at q3 ⊢
            subst q3
            have e1 : zM_drops (4 : Int32) I = some I1 := e1
            have q1 : zM_waitsFor (7 : Int32) I1 = some I2 := q1
            rw [c61, if_neg (by decide)]
            unfold zM_expression_127 zM_expression_161
            rw [h.2.2.2.2.1, if_pos i9, kd, t0, if_neg (fun h => h rfl), e1, Option.bind_some, u60, b60, Option.bind_some, if_pos (show jB false = 0 from rfl), q1, Option.bind_some, q2, if_pos ⟨i9, Or.inr rfl⟩, kd, ir_let, q4, Option.bind_some]
          · have b61 : sgn f n p 61 = false := by simpa using c61
            rw [if_neg c61] at o
            rw [b61, if_pos (show jB false = 0 from rfl)]
            unfold zM_expression_186
            rw [s43, Option.bind_some]
            by_cases c43 : sgn f n p 43 = true
            · rw [if_pos c43] at o
              cases o
              simp only [show ¬ (5 : Nat) ≤ 2 by decide, show ¬ (5 : Nat) = 4 by decide, if_false] at q3 ⊢
              subst q3
              have e1 : zM_drops (5 : Int32) I = some I1 := e1
              have q1 : zM_waitsFor (8 : Int32) I1 = some I3 := q1
              rw [c43, if_pos (by decide)]
              unfold zM_expression_204 zM_expression_226
              rw [e1, Option.bind_some, u43, c43, Option.bind_some, if_neg (by decide), q1, Option.bind_some, q4, Option.bind_some]
            · have b43 : sgn f n p 43 = false := by simpa using c43
              rw [if_neg c43] at o
              rw [b43, if_neg (fun h => h rfl), s45, Option.bind_some]
              by_cases c45 : sgn f n p 45 = true
              · rw [if_pos c45] at o
                cases o
                simp only [show ¬ (5 : Nat) ≤ 2 by decide, show ¬ (5 : Nat) = 4 by decide, if_false] at q3 ⊢
                subst q3
                have e1 : zM_drops (5 : Int32) I = some I1 := e1
                have q1 : zM_waitsFor (9 : Int32) I1 = some I3 := q1
                rw [c45, if_neg (by decide)]
                unfold zM_expression_204 zM_expression_226
                rw [e1, Option.bind_some, u43, b43, Option.bind_some, if_pos (show jB false = 0 from rfl), q1, Option.bind_some, q4, Option.bind_some]
              · have b45 : sgn f n p 45 = false := by simpa using c45
                rw [if_neg c45] at o
                rw [b45, if_pos (show jB false = 0 from rfl), s42, Option.bind_some]
                by_cases c42 : sgn f n p 42 = true
                · rw [if_pos c42] at o
                  cases o
                  simp only [show ¬ (6 : Nat) ≤ 2 by decide, show ¬ (6 : Nat) = 4 by decide, if_false] at q3 ⊢
                  subst q3
                  have e1 : zM_drops (6 : Int32) I = some I1 := e1
                  have q1 : zM_waitsFor (10 : Int32) I1 = some I3 := q1
                  rw [c42, if_pos (by decide)]
                  unfold zM_expression_259 zM_expression_282
                  rw [e1, Option.bind_some, u42, c42, Option.bind_some, if_neg (by decide), q1, Option.bind_some, q4, Option.bind_some]
                · have b42 : sgn f n p 42 = false := by simpa using c42
                  rw [if_neg c42] at o
                  rw [b42, if_neg (fun h => h rfl), s47, Option.bind_some]
                  by_cases c47 : sgn f n p 47 = true
                  · rw [if_pos c47] at o
                    cases o
                    simp only [show ¬ (6 : Nat) ≤ 2 by decide, show ¬ (6 : Nat) = 4 by decide, if_false] at q3 ⊢
                    subst q3
                    have e1 : zM_drops (6 : Int32) I = some I1 := e1
                    have q1 : zM_waitsFor (11 : Int32) I1 = some I3 := q1
                    rw [c47, if_neg (by decide)]
                    unfold zM_expression_259 zM_expression_282
                    rw [e1, Option.bind_some, u42, b42, Option.bind_some, if_pos (show jB false = 0 from rfl), q1, Option.bind_some, q4, Option.bind_some]
                  · rw [if_neg c47] at o
                    cases o
  refine ⟨I4, J4, q5, fun i hi => ?_, fun a j g1 g2 g3 g4 => ?_, q6, fun hk2 => ?_, fun hk4 => ?_, fun hk5 => ?_, fun w hw => jm_RM (by omega) tz1.2.1 hn body hw⟩
  · rw [q8 95 _ (by omega) (by omega) (by omega), d1 i hi]
  · rw [q8 a j (by omega) g3 (by omega), f1 a j (by omega) g2]
  · rw [q7, if_pos hk2]
  · rw [q7, if_neg (by omega), if_pos hk4]
  · rw [q7, if_neg (by omega), if_neg (by omega), f1 97 d (by omega) (by omega)]
