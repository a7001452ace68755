/-! ===== expressions: runs of the reference ===== -/
def cntM (N : Nat) (I : iq_I) (J : iq_J) : Option (iq_I × iq_J) := (zM_expression_l29 N ((1 : Int32), I, J)).bind fun q => zM_expression_325 q.1 q.2
def cntO (N : Nat) (q : iq_I × iq_J) : Option (iq_I × iq_J) := (zM_operand_120 q.1 q.2).bind fun r => cntM N r.1 r.2
/-- from here, an operator awaited, the expression ends in w -/
def RM (n p : Nat) (I : iq_I) (J : iq_J) (w : iq_I × iq_J) : Prop := ∀ N, n - p + 2 ≤ N → cntM N I J = some w
/-- an operand awaited -/
def RA (n : Nat) (b : Int32) (p : Nat) (I : iq_I) (J : iq_J) (w : iq_I × iq_J) : Prop := ∀ M N, n - p + 2 ≤ M → n - p + 2 ≤ N → (zM_operand_l4 M (b, (1 : Int32), I, J)).bind (cntO N) = some w
def mBr (r : Option ((Int32 × Int32 × iq_I × iq_J) ⊕ (iq_I × iq_J))) (M : Nat) : Option (iq_I × iq_J) := match r with
  | some (.inl v) => zM_operand_l4 M v
  | some (.inr q) => some q
  | none => none
/-- an operand awaited, the nots being past -/
def RB (n : Nat) (b : Int32) (p : Nat) (I : iq_I) (J : iq_J) (w : iq_I × iq_J) : Prop := ∀ M N, n - p + 1 ≤ M → n - p + 2 ≤ N → (mBr (zM_operand_75 b I J) M).bind (cntO N) = some w
theorem RA_RB {n : Nat} {b : Int32} {p : Nat} {I I' : iq_I} {J J' : iq_J} {w : iq_I × iq_J} (hg : I 76 18 = 0) (hl : zM_operand_l18 b ir_F ((0 : Int32), I, J) = some (I', J')) (h : RB n b p I' J' w) : RA n b p I J w := by
  intro M N hM hN
  obtain ⟨M, rfl⟩ : ∃ M', M = M' + 1 := ⟨M - 1, by omega⟩
  have q := h M N (by omega) hN
  have e : zM_operand_l4 (M + 1) (b, (1 : Int32), I, J) = mBr (zM_operand_75 b I' J') M := by
    unfold zM_operand_l4
    conv => lhs; unfold iq_lp
    have bd : zM_operand_l4_b b (1 : Int32) I J = zM_operand_75 b I' J' := by
      unfold zM_operand_l4_b
      rw [if_neg (by decide), jm_good hg, Option.bind_some, if_neg (by decide), hl, Option.bind_some]
    dsimp only
    rw [bd]
    unfold mBr
    cases zM_operand_75 b I' J' with
    | none => rfl
    | some r => cases r <;> rfl
  rw [e]
  exact q
/-- scratch cells but for the thrown one -/
def jsd (k i : Nat) : Bool := jsc k i && !(k == 76 && i == 0)
def jgm (I I' : iq_I) : Prop := ∀ k i, jsd k i = false → I' k i = I k i
theorem jgm_rf (I : iq_I) : jgm I I := fun _ _ _ => rfl
theorem jgm_tr {I I' I'' : iq_I} (h : jgm I I') (h' : jgm I' I'') : jgm I I'' := fun k i hk => (h' k i hk).trans (h k i hk)
theorem jgm_up {I I' : iq_I} (h : jgm I I') {k i : Nat} {v : Int32} (hk : jsd k i = true) : jgm I (iq_upI I' k i v) := fun a j ha => by
  unfold iq_upI
  by_cases e : a = k
  · rw [if_pos e]
    by_cases e2 : j = i
    · subst e; subst e2; rw [hk] at ha; cases ha
    · rw [if_neg e2]; exact h a j ha
  · rw [if_neg e]; exact h a j ha
theorem jsd_sc {k i : Nat} (h : jsc k i = false) : jsd k i = false := by unfold jsd; rw [h]; rfl
theorem jag_gm {I I' : iq_I} (h : jgm I I') : jag I I' := fun k i hk => h k i (jsd_sc hk)
def jfz (I I' : iq_I) : Prop := ∀ k j, jsd k j = false → ¬ (k = 76 ∧ j = 19) → I' k j = I k j
theorem jfz_rf (I : iq_I) : jfz I I := fun _ _ _ _ => rfl
theorem jfz_tr {I I' I'' : iq_I} (h : jfz I I') (h' : jfz I' I'') : jfz I I'' := fun k j h1 h2 => (h' k j h1 h2).trans (h k j h1 h2)
theorem jfz_fr {d tp : Nat} {I I' : iq_I} (h : jfr d tp I I') : jfz I I' := fun k j h1 _ => h k j
  (fun e => by
    obtain ⟨rfl, e⟩ := e
    have : j = 22 ∨ j = 23 ∨ j = 24 ∨ j = 25 ∨ j = 26 ∨ j = 27 ∨ j = 37 ∨ j = 38 ∨ j = 39 := by omega
    rcases this with rfl | rfl | rfl | rfl | rfl | rfl | rfl | rfl | rfl <;> cases h1)
  (fun e => by obtain ⟨rfl, -⟩ := e; cases h1) (fun e => by subst e; cases h1) (fun e => by obtain ⟨rfl, -⟩ := e; cases h1)
theorem jfz_up {I I' : iq_I} (h : jfz I I') {k i : Nat} {v : Int32} (hk : jsd k i = true ∨ (k = 76 ∧ i = 19)) : jfz I (iq_upI I' k i v) := fun a j h1 h2 => by
  by_cases e : a = k
  · subst e
    by_cases e2 : j = i
    · subst e2
      rcases hk with hk | hk
      · rw [hk] at h1; cases h1
      · exact absurd hk h2
    · rw [up_ni e2, h _ _ h1 h2]
  · rw [up_nk e, h _ _ h1 h2]
theorem jl_split : ∀ (l : Nat) (W : List Int32), W.length = l → wokL W → ∃ V P, W = V ++ P ∧ (∀ x ∈ P, wop x) ∧ weak V 0
  | 0, W, hl, _ => by
    have : W = [] := List.eq_nil_of_length_eq_zero hl
    subst this
    exact ⟨[], [], rfl, (fun x hx => by cases hx), fun V x h => by cases V <;> cases h⟩
  | l + 1, W, hl, hw => by
    obtain ⟨Q, x, e⟩ := jl_sn (P := W) (fun h => by rw [h] at hl; cases hl)
    subst e
    have lq : Q.length = l := by rw [List.length_append] at hl; exact Nat.succ.inj hl
    rcases hw x (by simp) with hx | hx
    · refine ⟨Q ++ [x], [], by rw [List.append_nil], (fun x hx => by cases hx), fun V y h => ?_⟩
      have := List.append_inj_right' h rfl
      cases this
      exact Or.inl hx
    · obtain ⟨V, P, e1, e2, e3⟩ := jl_split l Q lq fun y hy => hw y (by simp [hy])
      refine ⟨V, P ++ [x], by rw [e1, List.append_assoc], fun y hy => ?_, e3⟩
      rcases List.mem_append.mp hy with h | h
      · exact e2 y h
      · cases List.mem_singleton.mp h; exact hx
theorem jm_345 {I : iq_I} {J : iq_J} {W : List Int32} {tp : Nat} (hO : WO I W tp) (hw : wokL W) (hW : W.length < 950) (ht : tp + W.length < 3999) :
    ∃ I', zM_expression_345 I J = some (I', J) ∧ (∀ k j, ¬ (k = 76 ∧ (j = 37 ∨ j = 38)) → ¬ (k = 95 ∧ tp ≤ j) → I' k j = I k j) := by
  obtain ⟨V, P, e, hP, hV⟩ := jl_split W.length W rfl hw
  have lw : W.length = V.length + P.length := by rw [e, List.length_append]
  obtain ⟨I1, e1, e2, e3, e4⟩ := jm_dropsL 0 (by omega) P V I tp ir_F (fun x hx => ⟨hP x hx, Nat.zero_le _⟩) (fun x hx => hw x (by rw [e]; simp [hx])) hV (by rw [← e]; exact hO) (by rw [← e]; exact hW) (by omega) (by unfold ir_F; omega)
  have e1 : zM_drops_l0 (0 : Int32) ir_F I = some I1 := e1
  refine ⟨iq_upI (iq_upI I1 95 (tp + P.length) 0) 76 37 (jn (tp + P.length + 1)), ?_, fun k j q1 q2 => ?_⟩
  · unfold zM_expression_345 zM_drops
    rw [e1, Option.bind_some, Option.bind_some, jm_puts e2.2.2 (by omega), Option.bind_some]
  · by_cases q : k = 76
    · subst q; rw [up_ni (by omega), up_nk (by decide), e4 _ _ q1 q2]
    · rw [up_nk q]
      by_cases q3 : k = 95
      · subst q3; rw [up_ni (by omega), e4 _ _ q1 q2]
      · rw [up_nk q3, e4 _ _ q1 q2]
/-- a fault ends the expression, wherever it is found -/
theorem jm_badR {I : iq_I} {J : iq_J} {W : List Int32} {tp : Nat} (hb : ¬ I 76 18 = 0) (hO : WO I W tp) (hw : wokL W) (hW : W.length < 950) (ht : tp + W.length < 3999) :
    ∃ w : iq_I × iq_J, (∀ N, 1 ≤ N → cntM N I J = some w ∧ cntO N (I, J) = some w) ∧ w.1 76 18 = I 76 18 ∧ w.1 76 19 = I 76 19 ∧ jfz I w.1 ∧ w.2 = J := by
  obtain ⟨I', e1, e2⟩ := jm_345 (J := J) hO hw hW ht
  have m : ∀ N, 1 ≤ N → cntM N I J = some (I', J) := fun N hN => by
    obtain ⟨N, rfl⟩ : ∃ N', N = N' + 1 := ⟨N - 1, by omega⟩
    unfold cntM
    have : zM_expression_l29 (N + 1) ((1 : Int32), I, J) = some (I, J) := by
      refine js_0 ?_
      dsimp only
      unfold zM_expression_l29_b
      rw [if_neg (by decide), jm_bad hb, Option.bind_some, if_pos rfl]
    rw [this, Option.bind_some]
    unfold zM_expression_325
    rw [jm_bad hb, Option.bind_some, if_pos rfl, e1]
  refine ⟨(I', J), fun N hN => ⟨m N hN, ?_⟩, e2 _ _ (by omega) (by omega), e2 _ _ (by omega) (by omega), fun k j h1 h2 => e2 k j ?_ ?_, rfl⟩
  · unfold cntO zM_operand_120 zM_part
    dsimp only
    rw [jm_bad hb, Option.bind_some, if_neg (fun h => h rfl), Option.bind_some, Option.bind_some]
    exact m N hN
  · rintro ⟨rfl, rfl | rfl⟩ <;> cases h1
  · rintro ⟨rfl, -⟩; cases h1
theorem jm_wrong {I : iq_I} {k : Int32} (h : I 76 18 = 0) : zM_wrong k I = some (iq_upI (iq_upI I 76 18 k) 76 19 (I 76 24)) := by
  unfold zM_wrong
  rw [h, if_pos rfl, ir_let, up_ni (by decide), ir_let]
/-- an expression that ends in a fault -/
def Flt (kd pl : Nat) (I : iq_I) (J : iq_J) (w : iq_I × iq_J) : Prop := w.1 76 18 = jn kd ∧ w.1 76 19 = jn pl ∧ jfz I w.1 ∧ ∀ k j, ¬ k = 76 → w.2 k j = J k j
/-- the reference finds a fault at its token -/
theorem jm_flt {I : iq_I} {J : iq_J} {f : Nat → Nat} {n p : Nat} {W : List Int32} {d tp : Nat} (h : EX I J f n p W d tp) (hw : wokL W) (hW : W.length < 950) (ht : tp + W.length < 3990) {kd : Nat} (hk : 0 < kd) (hk6 : kd < 10) {I2 : iq_I}
    (h2 : zM_wrong (jn kd) I = some I2) : (¬ I2 76 18 = 0) ∧ I2 76 18 = jn kd ∧ I2 76 19 = jn (ta f n p) ∧ WO I2 W tp ∧ jfz I I2 ∧ (∀ k j, ¬ (k = 76 ∧ (j = 18 ∨ j = 19)) → I2 k j = I k j) := by
  obtain ⟨h1, g2, g3, g4, g5, g6⟩ := h
  rw [jm_wrong g2] at h2
  cases h2
  have fr : ∀ k j, ¬ (k = 76 ∧ (j = 18 ∨ j = 19)) → iq_upI (iq_upI I 76 18 (jn kd)) 76 19 (I 76 24) k j = I k j := fun k j q => by
    by_cases e : k = 76
    · subst e; rw [up_ni (by omega), up_ni (by omega)]
    · rw [up_nk e, up_nk e]
  have e18 : iq_upI (iq_upI I 76 18 (jn kd)) 76 19 (I 76 24) 76 18 = jn kd := by rw [up_ni (by decide), up_eq]
  refine ⟨?_, e18, by rw [up_eq, h1.2.2.2.2.2.1], ⟨by rw [fr _ _ (by omega), g3], fun i hi => by rw [fr _ _ (by omega), g4 i hi], by rw [fr _ _ (by omega), g6]⟩, jfz_up (jfz_up (jfz_rf I) (Or.inl rfl)) (Or.inr ⟨rfl, rfl⟩), fr⟩
  rw [e18, jl0, jn_inj (by omega) (by omega)]; omega
/-- operators: strength and step -/
def opk (f : Nat → Nat) (n p : Nat) : Option (Nat × Int32) := if kw f n p = some 14 then some (2, -10) else if kw f n p = some 15 then some (1, -9) else if sgn f n p 60 = true then some (4, -11) else if sgn f n p 61 = true then some (4, -12) else if sgn f n p 43 = true then some (5, -13) else if sgn f n p 45 = true then some (5, -14) else if sgn f n p 42 = true then some (6, -15) else if sgn f n p 47 = true then some (6, -16) else none
theorem sgn_t {f : Nat → Nat} {n p c : Nat} (h : sgn f n p c = true) : tt f n p = 3 ∧ f (ta f n p) = c := of_decide_eq_true h
theorem sgn_x {f : Nat → Nat} {n p c c' : Nat} (h : sgn f n p c = true) (hc : c ≠ c') : sgn f n p c' = false := decide_eq_false fun h' => hc ((sgn_t h).2.symm.trans h'.2)
theorem sgn_kw {f : Nat → Nat} {n p c : Nat} (h : sgn f n p c = true) : kw f n p = none := by
  cases q : kw f n p with
  | none => rfl
  | some k => have := (kw_lt q).2; rw [(sgn_t h).1] at this; cases this
theorem opk_t {f : Nat → Nat} {n p k : Nat} {x : Int32} (h : opk f n p = some (k, x)) : ¬ tt f n p = 0 := by
  intro t
  have kn : kw f n p = none := by
    cases q : kw f n p with
    | none => rfl
    | some k => have := (kw_lt q).2; rw [t] at this; cases this
  have sn : ∀ c, sgn f n p c = false := fun c => decide_eq_false fun h' => by rw [t] at h'; cases h'.1
  unfold opk at h
  rw [kn] at h
  simp [sn] at h
theorem opk_w {f : Nat → Nat} {n p k : Nat} {x : Int32} (h : opk f n p = some (k, x)) : wop x ∧ wst x = k ∧ ¬ k = 3 ∧ k ≤ 6 ∧ 1 ≤ k ∧ x < -8 := by
  have fin : ∀ (k' : Nat) (x' : Int32), some (k', x') = some (k, x) → (wop x' ∧ wst x' = k' ∧ ¬ k' = 3 ∧ k' ≤ 6 ∧ 1 ≤ k' ∧ x' < -8) → wop x ∧ wst x = k ∧ ¬ k = 3 ∧ k ≤ 6 ∧ 1 ≤ k ∧ x < -8 := fun k' x' e q => by cases e; exact q
  unfold opk at h
  split at h
  · exact fin _ _ h (by unfold wop; decide)
  · split at h
    · exact fin _ _ h (by unfold wop; decide)
    · split at h
      · exact fin _ _ h (by unfold wop; decide)
      · split at h
        · exact fin _ _ h (by unfold wop; decide)
        · split at h
          · exact fin _ _ h (by unfold wop; decide)
          · split at h
            · exact fin _ _ h (by unfold wop; decide)
            · split at h
              · exact fin _ _ h (by unfold wop; decide)
              · split at h
                · exact fin _ _ h (by unfold wop; decide)
                · cases h
