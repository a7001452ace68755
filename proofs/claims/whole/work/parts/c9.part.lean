/-! ===== expressions: parts ===== -/
theorem jc_refuse {I : iq_I} {f : Nat → Nat} {n p : Nat} (h : CL I f n p) (k : Int32) : ∃ I', zR_refuse k I = some (0, I') ∧ I' 61 1 = k ∧ I' 61 0 = jn (ta f n p) ∧ (∀ a j, ¬ a = 61 → I' a j = I a j) := by
  refine ⟨iq_upI (iq_upI I 61 1 k) 61 0 (jn (ta f n p)), ?_, ?_, up_eq, fun a j q => by rw [up_nk q, up_nk q]⟩
  · unfold zR_refuse
    rw [ir_let, up_nk (by decide), h.2.2.2.1, ir_let]
  · rw [up_ni (by decide), up_eq]
/-- a refusal, as the class's methods pass it on -/
theorem jc_ref {I : iq_I} {f : Nat → Nat} {n p : Nat} (h : CL I f n p) (k : Nat) : ∃ I', ((zR_refuse (jn k) I).bind fun q => if q.1 = 0 ∨ q.1 = 1 then some (q.1, q.2) else none) = some (0, I') ∧ I' 61 1 = jn k ∧ I' 61 0 = jn (ta f n p) ∧ (∀ a j, ¬ a = 61 → I' a j = I a j) := by
  obtain ⟨I', e, h1, h2, h3⟩ := jc_refuse h (jn k)
  exact ⟨I', by rw [e, Option.bind_some, if_pos (Or.inl rfl)], h1, h2, h3⟩
def vN (f : Nat → Nat) (n p : Nat) : Option Nat := match kw f n p with
  | some k => if k < 7 then some k else none
  | none => none
theorem jc_valueNamed {I : iq_I} {f : Nat → Nat} {n p : Nat} (h : CL I f n p) : zR_valueNamed I = some (jo (vN f n p)) := by
  unfold zR_valueNamed
  rw [jc_isW_5010 h, Option.bind_some, jc_isW_5011 h, Option.bind_some, jc_isW_5004 h, Option.bind_some, jc_isW_5012 h, Option.bind_some, jc_isW_5013 h, Option.bind_some, jc_isW_5014 h, Option.bind_some, jc_isW_5015 h, Option.bind_some]
  have T : jB true = 1 := rfl
  have F : jB false = 0 := rfl
  by_cases k0 : kw f n p = some 0
  · rw [decide_eq_true k0, if_neg (by decide)]
    unfold vN
    rw [k0]; rfl
  · rw [decide_eq_false k0, if_pos F]
    by_cases k1 : kw f n p = some 1
    · rw [decide_eq_true k1, if_neg (by decide)]
      unfold vN
      rw [k1]; rfl
    · rw [decide_eq_false k1, if_pos F]
      by_cases k2 : kw f n p = some 2
      · rw [decide_eq_true k2, if_neg (by decide)]
        unfold vN
        rw [k2]; rfl
      · rw [decide_eq_false k2, if_pos F]
        by_cases k3 : kw f n p = some 3
        · rw [decide_eq_true k3, if_neg (by decide)]
          unfold vN
          rw [k3]; rfl
        · rw [decide_eq_false k3, if_pos F]
          by_cases k4 : kw f n p = some 4
          · rw [decide_eq_true k4, if_neg (by decide)]
            unfold vN
            rw [k4]; rfl
          · rw [decide_eq_false k4, if_pos F]
            by_cases k5 : kw f n p = some 5
            · rw [decide_eq_true k5, if_neg (by decide)]
              unfold vN
              rw [k5]; rfl
            · rw [decide_eq_false k5, if_pos F]
              by_cases k6 : kw f n p = some 6
              · rw [decide_eq_true k6, if_neg (by decide)]
                unfold vN
                rw [k6]; rfl
              · rw [decide_eq_false k6, if_pos F]
                unfold vN
                cases e : kw f n p with
                | none => rfl
                | some k =>
                  dsimp only
                  rw [if_neg]
                  · rfl
                  · intro hk
                    rcases (show k = 0 ∨ k = 1 ∨ k = 2 ∨ k = 3 ∨ k = 4 ∨ k = 5 ∨ k = 6 by omega) with rfl | rfl | rfl | rfl | rfl | rfl | rfl
                    · exact k0 e
                    · exact k1 e
                    · exact k2 e
                    · exact k3 e
                    · exact k4 e
                    · exact k5 e
                    · exact k6 e
/-- the reference ends an operand that is no bracket -/
theorem jm_RBp {I I' : iq_I} {J J' : iq_J} {f : Nat → Nat} {n p : Nat} {W : List Int32} {d tp : Nat} {w : iq_I × iq_J} (h : EX I J f n p W d tp) (hs : sgn f n p 40 = false) (hp : zM_part I J = some (I', J')) (hw : ∀ N, n - p + 2 ≤ N → cntM N I' J' = some w) : RBa n p I J w := by
  intro b M N hM hN
  obtain ⟨M, rfl⟩ : ∃ M', M = M' + 1 := ⟨M - 1, by omega⟩
  have s40 : zM_isSign (40 : Int32) I = some (jB (sgn f n p 40)) := jm_isSign h.1 (by decide)
  have e75 : zM_operand_75 b I J = some (.inl (b, (0 : Int32), I, J)) := by
    unfold zM_operand_75 zM_operand_95 zM_operand_96
    rw [jm_good h.2.1, Option.bind_some, if_neg (by decide), s40, hs, Option.bind_some, if_pos (show jB false = 0 from rfl), if_pos rfl]
  have e4 : zM_operand_l4 (M + 1) (b, (0 : Int32), I, J) = some (I, J) := by
    refine js_0 ?_
    dsimp only
    unfold zM_operand_l4_b
    rw [if_pos rfl]
  rw [e75]
  unfold mBr
  dsimp only
  rw [e4, Option.bind_some]
  unfold cntO zM_operand_120
  dsimp only
  rw [hp, Option.bind_some, Option.bind_some]
  exact hw N hN
theorem jm_RM1 {n p p' : Nat} {I I' : iq_I} {J J' : iq_J} {w : iq_I × iq_J} (hp : p < p') (hx : zM_expression_l29_b (1 : Int32) I J = some (.inl ((1 : Int32), I', J'))) (hpn : p' ≤ n) (h : RM n p' I' J' w) : RM n p I J w := by
  intro N hN
  obtain ⟨N, rfl⟩ : ∃ N', N = N' + 1 := ⟨N - 1, by omega⟩
  unfold cntM zM_expression_l29
  conv => lhs; unfold iq_lp
  dsimp only
  rw [hx]
  exact h N (by omega)
theorem jm_stop {I : iq_I} {J : iq_J} (hx : zM_expression_l29_b (1 : Int32) I J = some (.inl ((0 : Int32), I, J))) : ∀ N, 2 ≤ N → cntM N I J = zM_expression_325 I J := by
  intro N hN
  obtain ⟨N, rfl⟩ : ∃ N', N = N' + 2 := ⟨N - 2, by omega⟩
  unfold cntM
  have : zM_expression_l29 (N + 2) ((1 : Int32), I, J) = some (I, J) := by
    refine (js_1 (n := N + 1) hx).trans (js_0 ?_)
    rfl
  rw [this, Option.bind_some]
theorem jm_body_end {I : iq_I} {J : iq_J} {f : Nat → Nat} {n p : Nat} {W : List Int32} {d tp : Nat} (h : EX I J f n p W d tp) (hd : d ≤ 6) (ho : ∀ k x, opk f n p = some (k, x) → k = 4 ∧ ¬ I 97 d = 0) :
    zM_expression_l29_b (1 : Int32) I J = if sgn f n p 41 = false then some (.inl ((0 : Int32), I, J)) else (zM_isOpened I).bind fun q29 => if q29 = 0 then some (.inl ((0 : Int32), I, J)) else (zM_closes I J).bind fun q30 => some (.inl ((1 : Int32), q30.1, q30.2)) := by
  have k14 : ¬ kw f n p = some 14 := fun e => by have := ho _ _ (opk_2.1 e); omega
  have k15 : ¬ kw f n p = some 15 := fun e => by have := ho _ _ (opk_1.1 e); omega
  have n14 : ¬ jo (kw f n p) = 14 := by
    cases q : kw f n p with
    | none => decide
    | some c => have := (kw_lt q).1; rw [jo_some, jl14, jn_inj (by omega) (by omega)]; intro h; subst h; exact k14 q
  have n15 : ¬ jo (kw f n p) = 15 := by
    cases q : kw f n p with
    | none => decide
    | some c => have := (kw_lt q).1; rw [jo_some, jl15, jn_inj (by omega) (by omega)]; intro h; subst h; exact k15 q
  have z43 : sgn f n p 43 = false := by
    cases e : sgn f n p 43 with
    | false => rfl
    | true => have := (ho _ _ (opk_5.1 e)).1; omega
  have z45 : sgn f n p 45 = false := by
    cases e : sgn f n p 45 with
    | false => rfl
    | true => have := (ho _ _ (opk_5.2.1 z43 e)).1; omega
  have z42 : sgn f n p 42 = false := by
    cases e : sgn f n p 42 with
    | false => rfl
    | true => have := (ho _ _ (opk_6.1 e)).1; omega
  have z47 : sgn f n p 47 = false := by
    cases e : sgn f n p 47 with
    | false => rfl
    | true => have := (ho _ _ (opk_6.2.1 z42 e)).1; omega
  have sg : ∀ c, c < 256 → zM_isSign (jn c) I = some (jB (sgn f n p c)) := fun c hc => jm_isSign h.1 hc
  have s60 : zM_isSign (60 : Int32) I = _ := sg 60 (by decide)
  have s61 : zM_isSign (61 : Int32) I = _ := sg 61 (by decide)
  have s43 : zM_isSign (43 : Int32) I = _ := sg 43 (by decide)
  have s45 : zM_isSign (45 : Int32) I = _ := sg 45 (by decide)
  have s42 : zM_isSign (42 : Int32) I = _ := sg 42 (by decide)
  have s47 : zM_isSign (47 : Int32) I = _ := sg 47 (by decide)
  have s41 : zM_isSign (41 : Int32) I = _ := sg 41 (by decide)
  have F : jB false = 0 := rfl
  have e186 : zM_expression_186 (1 : Int32) I J = if sgn f n p 41 = false then some (.inl ((0 : Int32), I, J)) else (zM_isOpened I).bind fun q29 => if q29 = 0 then some (.inl ((0 : Int32), I, J)) else (zM_closes I J).bind fun q30 => some (.inl ((1 : Int32), q30.1, q30.2)) := by
    unfold zM_expression_186
    rw [s43, z43, Option.bind_some, if_neg (fun h => h F), s45, z45, Option.bind_some, if_pos F, s42, z42, Option.bind_some, if_neg (fun h => h F), s47, z47, Option.bind_some, if_pos F, s41, Option.bind_some]
    cases sgn f n p 41 with
    | false => rw [if_pos F, if_pos rfl]
    | true => rw [if_neg (by decide), if_neg (by decide)]
  have i9 : iq_in (jn d) 9 := by rw [jn_in (by omega)]; omega
  have e127 : ¬ I 97 d = 0 → zM_expression_127 (1 : Int32) I J = zM_expression_186 (1 : Int32) I J := fun t => by
    unfold zM_expression_127
    rw [h.2.2.2.2.1, if_pos i9, jn_clamp (by omega), if_pos t]
  unfold zM_expression_l29_b
  rw [if_neg (by decide), jm_good h.2.1, Option.bind_some, if_neg (by decide), jm_knownWord h.1, Option.bind_some, if_neg n14, if_pos n15, s60, Option.bind_some, s61, Option.bind_some, ← e186]
  cases c60 : sgn f n p 60 with
  | true => rw [if_pos (by decide), e127 (ho _ _ (opk_4.1 c60)).2]
  | false =>
    rw [if_neg (fun h => h F)]
    cases c61 : sgn f n p 61 with
    | true => rw [if_neg (by decide), e127 (ho _ _ (opk_4.2.1 c60 c61)).2]
    | false => rw [if_pos F]
theorem jm_isOpened1 {I : iq_I} {W P : List Int32} {tp : Nat} (hO : WO I (W ++ [0] ++ P) tp) (hP : ∀ x ∈ P, wop x) (hl : (W ++ [0] ++ P).length < 950) : zM_isOpened I = some 1 := by
  obtain ⟨o1, o2, o3⟩ := hO
  have len : (W ++ [0] ++ P).length = W.length + 1 + P.length := by rw [List.length_append, List.length_append]; rfl
  rw [len] at o1 hl
  have key : zM_isOpened_l7 I ir_F (jn (W.length + P.length)) = some (jn W.length) := by
    refine js_seq (fun i => jn (W.length + P.length - i)) P.length _ (fun i hi => ?_) ?_ P.length 0 ir_F (by omega) (by unfold ir_F; omega)
    · have g : (W ++ [0] ++ P).getD (W.length + P.length - i) 0 = P.getD (P.length - 1 - i) 0 := by
        rw [jgd_r (by rw [List.length_append]; show W.length + 1 ≤ _; omega), List.length_append]
        show P.getD (W.length + P.length - i - (W.length + 1)) 0 = _
        congr 1; omega
      have gm : P.getD (P.length - 1 - i) 0 ∈ P := by
        rw [List.getD_eq_getElem?_getD, List.getElem?_eq_getElem (show P.length - 1 - i < P.length by omega)]
        exact List.getElem_mem _
      unfold zM_isOpened_l7_b
      rw [if_neg (by rw [jl0, jn_lt (by omega) (by omega)]; omega), if_pos (by rw [jn_in (by omega)]; omega), jn_clamp (by omega), o2 _ (by rw [len]; omega), g, wop_o (hP _ gm), Option.bind_some, if_neg (fun h => h rfl), show (-1 : Int32) = jo none from rfl, jn_pred (by omega), show W.length + P.length - i - 1 = W.length + P.length - (i + 1) by omega]
    · have g : (W ++ [0] ++ P).getD W.length 0 = 0 := by
        rw [List.append_assoc, jgd_r (Nat.le_refl _), Nat.sub_self]; rfl
      rw [show W.length + P.length - P.length = W.length by omega]
      unfold zM_isOpened_l7_b
      rw [if_neg (by rw [jl0, jn_lt (by omega) (by omega)]; omega), if_pos (by rw [jn_in (by omega)]; omega), jn_clamp (by omega), o2 _ (by rw [len]; omega), g, wopen_o, Option.bind_some, if_pos (by decide)]
  unfold zM_isOpened zM_isOpened_29
  rw [o1, show jn (W.length + 1 + P.length) - (1 : Int32) = jn (W.length + P.length) from (jn_sub (b := 1) (by omega)).trans (by congr 1; omega), key, Option.bind_some, if_neg (by rw [jl0, jn_lt (by omega) (by omega)]; omega)]
theorem jm_isOpened0 {I : iq_I} {P : List Int32} {tp : Nat} (hO : WO I P tp) (hP : ∀ x ∈ P, wop x) (hl : P.length < 950) : zM_isOpened I = some 0 := by
  obtain ⟨o1, o2, o3⟩ := hO
  have key : zM_isOpened_l7 I ir_F (if P.length = 0 then -1 else jn (P.length - 1)) = some (-1) := by
    have := js_seq (body := fun v => zM_isOpened_l7_b I v) (fun i => if P.length - i = 0 then (-1 : Int32) else jn (P.length - i - 1)) P.length (-1) (fun i hi => ?_) (by rw [if_pos (by omega)]; rfl) P.length 0 ir_F (by omega) (by unfold ir_F; omega)
    · exact this
    · have gm : P.getD (P.length - i - 1) 0 ∈ P := by
        rw [List.getD_eq_getElem?_getD, List.getElem?_eq_getElem (show P.length - i - 1 < P.length by omega)]
        exact List.getElem_mem _
      rw [if_neg (by omega)]
      unfold zM_isOpened_l7_b
      rw [if_neg (by rw [jl0, jn_lt (by omega) (by omega)]; omega), if_pos (by rw [jn_in (by omega)]; omega), jn_clamp (by omega), o2 _ (by omega), wop_o (hP _ gm), Option.bind_some, if_neg (fun h => h rfl)]
      by_cases e : P.length - (i + 1) = 0
      · rw [if_pos e, show P.length - i - 1 = 0 by omega]; rfl
      · rw [if_neg e, show (-1 : Int32) = jo none from rfl, jn_pred (by omega), show P.length - i - 1 - 1 = P.length - (i + 1) - 1 by omega]
  unfold zM_isOpened zM_isOpened_29
  have : jn P.length - (1 : Int32) = if P.length = 0 then -1 else jn (P.length - 1) := by
    by_cases e : P.length = 0
    · rw [if_pos e, e]; rfl
    · rw [if_neg e]; exact jn_sub (b := 1) (by omega)
  rw [o1, this, key, Option.bind_some, if_pos (by decide)]
