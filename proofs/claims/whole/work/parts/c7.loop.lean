/-! ===== expressions: a row of operators of one strength ===== -/
abbrev jOut : Type := (Nat × Nat) ⊕ (List Int32 × Nat)
/-- how many numbers wait at most beside those that waited -/
def Bd (ne k : Nat) : Nat := 1 + 6 * (5 - ne) + (7 - k)
/-- what can stand behind a part of strength k -/
def nx (k : Nat) (f : Nat → Nat) (n p : Nat) : Prop := ∀ k' x, opk f n p = some (k', x) → k' < k ∨ (k ≤ 4 ∧ k' = 4)
def Stt (k ne : Nat) (f : Nat → Nat) (n p : Nat) : jOut → Prop
  | .inr (s, p') => p < p' ∧ p' ≤ n ∧ s.length ≤ p' - p ∧ (∀ x ∈ s, -16 ≤ x) ∧ (∀ dd, dd + Bd ne k ≤ 64 → jdp s dd = some (dd + 1)) ∧ nx k f n p'
  | .inl (kd, pl) => 0 < kd ∧ kd < 10 ∧ pl ≤ n
/-- the class has written the steps s behind sz -/
def CO (sz : Nat) (s : List Int32) (I I' : iq_I) : Prop := I' 42 2 = jn (sz + s.length) ∧ (∀ i, i < s.length → I' 43 (sz + i) = s.getD i 0) ∧ (∀ i, i < sz → I' 43 i = I 43 i) ∧ (∀ k j, ¬ k = 62 → ¬ k = 43 → ¬ (k = 42 ∧ j = 2) → I' k j = I k j)
theorem CO_tr {sz : Nat} {s t : List Int32} {I I' I'' : iq_I} (h : CO sz s I I') (h' : CO (sz + s.length) t I' I'') : CO sz (s ++ t) I I'' := by
  obtain ⟨a1, a2, a3, a4⟩ := h
  obtain ⟨b1, b2, b3, b4⟩ := h'
  refine ⟨by rw [b1, List.length_append, Nat.add_assoc], fun i hi => ?_, fun i hi => by rw [b3 i (by omega), a3 i hi], fun k j h1 h2 h3 => by rw [b4 k j h1 h2 h3, a4 k j h1 h2 h3]⟩
  rw [List.length_append] at hi
  by_cases q : i < s.length
  · rw [b3 _ (by omega), a2 i q, jgd_l q]
  · rw [show sz + i = sz + s.length + (i - s.length) by omega, b2 _ (by omega), jgd_r (by omega)]
theorem CO_62 {sz : Nat} {I I' : iq_I} (h : I 42 2 = jn sz) (hf : ∀ k j, ¬ k = 62 → I' k j = I k j) : CO sz [] I I' :=
  ⟨by rw [hf _ _ (by decide), h]; rfl, (fun i hi => by cases hi), fun i _ => hf _ _ (by decide), fun k j h1 _ _ => hf k j h1⟩
theorem jc_step {I : iq_I} {sz : Nat} {f : Nat → Nat} {n p : Nat} (hC : CL I f n p) (h : I 42 2 = jn sz) (hs : sz < 700) (x : Int32) : ∃ I', zE_step x I = some I' ∧ CL I' f n p ∧ CO sz [x] I I' := by
  have fr : ∀ k j, ¬ k = 43 → ¬ (k = 42 ∧ j = 2) → iq_upI (iq_upI I 43 sz x) 42 2 (jn (sz + 1)) k j = I k j := fun k j h1 h2 => by
    by_cases e : k = 42
    · subst e; rw [up_ni (by omega), up_nk (by decide)]
    · rw [up_nk e, up_nk h1]
  refine ⟨iq_upI (iq_upI I 43 sz x) 42 2 (jn (sz + 1)), ?_, CL_f hC (fun j => fr _ _ (by decide) (by omega)) (fun j => fr _ _ (by decide) (by omega)), up_eq, fun i hi => ?_, fun i hi => ?_, fun k j h1 h2 h3 => fr k j h2 h3⟩
  · unfold zE_step
    rw [h, if_neg (by rw [jl700, jn_le (by omega) (by omega)]; omega), if_pos (by rw [jn_in (by omega)]; exact hs), jn_clamp (by omega), ir_let, up_nk (by decide), h, show jn sz + (1 : Int32) = jn (sz + 1) from jn_add _ 1, ir_let]
  · have hi : i < 1 := hi
    have : i = 0 := by omega
    subst this
    rw [up_nk (by decide), Nat.add_zero, up_eq]; rfl
  · rw [up_nk (by decide), up_ni (by omega)]
def CSp (fn : iq_I → Option (Int32 × iq_I)) (f : Nat → Nat) (n p : Nat) (o : jOut) : Prop := ∀ I sz, CL I f n p → I 42 2 = jn sz → sz + (n - p) ≤ 700 → match o with
  | .inr (s, p') => ∃ I', fn I = some (1, I') ∧ CL I' f n p' ∧ CO sz s I I'
  | .inl (kd, pl) => ∃ I', fn I = some (0, I') ∧ I' 61 1 = jn kd ∧ I' 61 0 = jn pl ∧ (∀ k j, ¬ k = 61 → ¬ k = 62 → ¬ k = 43 → ¬ (k = 42 ∧ j = 2) → I' k j = I k j)
/-- no second test -/
def tcx (f : Nat → Nat) (n p d : Nat) (I : iq_I) : Prop := I 97 d = 0 → ∀ x, ¬ opk f n p = some (4, x)
def RSp (X : Nat → iq_I → iq_J → (iq_I × iq_J) → Prop) (k : Nat) (f : Nat → Nat) (n d p : Nat) (o : jOut) : Prop := ∀ I J W tp, EX I J f n p W d tp → wokL W → weak W k → W.length + (n - p) ≤ 900 → tp + W.length + 2 * (n - p) ≤ 3800 → (k ≤ 4 → I 97 d = 0) → match o with
  | .inr (s, p') => ∃ s0 P I' J', s = s0 ++ P.reverse ∧ (∀ x ∈ P, wop x ∧ k ≤ wst x) ∧ EX I' J' f n p' (W ++ P) d (tp + (jes s0).length) ∧ (∀ i, i < (jes s0).length → I' 95 (tp + i) = (jes s0).getD i 0) ∧ jfr d tp I I' ∧ (∀ k j, ¬ k = 76 → J' k j = J k j) ∧ (5 ≤ k → I' 97 d = I 97 d) ∧ (k ≤ 4 → tcx f n p' d I') ∧ (jes s0).length + P.length ≤ 2 * (p' - p) ∧ P.length ≤ p' - p ∧ ∀ w, RM n p' I' J' w → X p I J w
  | .inl (kd, pl) => ∃ w, X p I J w ∧ Flt kd pl I J w
def LStt (k ne : Nat) (f : Nat → Nat) (n p : Nat) : jOut → Prop
  | .inr (s, p') => p ≤ p' ∧ p' ≤ n ∧ s.length ≤ p' - p ∧ (∀ x ∈ s, -16 ≤ x) ∧ (∀ dd, dd + Bd ne k ≤ 64 → jdp s (dd + 1) = some (dd + 1)) ∧ nx k f n p'
  | .inl (kd, pl) => 0 < kd ∧ kd < 10 ∧ pl ≤ n
def LCSp (body : Int32 × iq_I → Option ((Int32 × iq_I) ⊕ (iq_I ⊕ (Int32 × iq_I)))) (f : Nat → Nat) (n p : Nat) (o : jOut) : Prop := ∀ I sz c N, CL I f n p → I 42 2 = jn sz → sz + (n - p) ≤ 700 → c + (n - p) < 700 → n - p < N → match o with
  | .inr (s, p') => ∃ I' r, iq_lp body N (jn c, I) = some r ∧ (r = .inl I' ∨ r = .inr (1, I')) ∧ CL I' f n p' ∧ CO sz s I I'
  | .inl (kd, pl) => ∃ I', iq_lp body N (jn c, I) = some (.inr (0, I')) ∧ I' 61 1 = jn kd ∧ I' 61 0 = jn pl ∧ (∀ k j, ¬ k = 61 → ¬ k = 62 → ¬ k = 43 → ¬ (k = 42 ∧ j = 2) → I' k j = I k j)
def RLp (k : Nat) (f : Nat → Nat) (n d p : Nat) (o : jOut) : Prop := ∀ I J W P tp, EX I J f n p (W ++ P) d tp → (∀ x ∈ P, wop x ∧ k ≤ wst x) → wokL W → weak W k → (W ++ P).length + (n - p) ≤ 900 → tp + (W ++ P).length + 2 * (n - p) ≤ 3800 → (k ≤ 4 → tcx f n p d I) → match o with
  | .inr (s, p') => ∃ s0 P' I' J', P.reverse ++ s = s0 ++ P'.reverse ∧ (∀ x ∈ P', wop x ∧ k ≤ wst x) ∧ EX I' J' f n p' (W ++ P') d (tp + (jes s0).length) ∧ (∀ i, i < (jes s0).length → I' 95 (tp + i) = (jes s0).getD i 0) ∧ jfr d tp I I' ∧ (∀ k j, ¬ k = 76 → J' k j = J k j) ∧ (5 ≤ k → I' 97 d = I 97 d) ∧ (k ≤ 4 → tcx f n p' d I') ∧ (jes s0).length + P'.length ≤ P.length + 2 * (p' - p) ∧ P'.length ≤ P.length + (p' - p) ∧ ∀ w, RM n p' I' J' w → RM n p I J w
  | .inl (kd, pl) => ∃ w, RM n p I J w ∧ Flt kd pl I J w
theorem jdp_app : ∀ (a b : List Int32) (d : Nat), jdp (a ++ b) d = (jdp a d).bind (jdp b)
  | [], b, d => rfl
  | c :: t, b, d => by
    show jdp (c :: (t ++ b)) d = _
    unfold jdp
    split
    · split
      · exact jdp_app t b _
      · rfl
    · split
      · split
        · exact jdp_app t b _
        · rfl
      · split
        · exact jdp_app t b _
        · rfl
theorem jdp_op {x : Int32} (h : x < -8) {d : Nat} (hd : 1 < d) : jdp [x] d = some (d - 1) := by
  have h1 : ¬ -8 < x := by
    rw [Int32.lt_iff_toInt_lt] at h ⊢
    omega
  have h2 : ¬ x = -8 := by
    intro e; subst e; exact absurd h (by decide)
  unfold jdp
  rw [if_neg h1, if_neg h2, if_pos hd]
  rfl
theorem weak_app {W : List Int32} {x : Int32} {k : Nat} (h : wst x < k) : weak (W ++ [x]) k := fun V y e => by
  have := List.append_inj_right' e rfl
  cases this
  exact Or.inr h
theorem weak_0 {W : List Int32} {k : Nat} : weak (W ++ [0]) k := fun V y e => by
  have := List.append_inj_right' e rfl
  cases this
  exact Or.inl rfl
theorem weak_mo {W : List Int32} {k k' : Nat} (h : weak W k) (hk : k ≤ k') : weak W k' := fun V x e => by
  rcases h V x e with q | q
  · exact Or.inl q
  · exact Or.inr (by omega)
theorem wokL_app {W : List Int32} {x : Int32} (h : wokL W) (hx : x = 0 ∨ wop x) : wokL (W ++ [x]) := fun y hy => by
  rcases List.mem_append.mp hy with q | q
  · exact h y q
  · cases List.mem_singleton.mp q; exact hx
theorem loopJ {k ne d : Nat} {f : Nat → Nat} {n : Nat} (hk : k = 1 ∨ k = 2 ∨ k = 5 ∨ k = 6) (hd : d ≤ 6) (hn : n ≤ 700) (sub : iq_I → Option (Int32 × iq_I)) (body : Int32 × iq_I → Option ((Int32 × iq_I) ⊕ (iq_I ⊕ (Int32 × iq_I))))
    (hb1 : ∀ c I p x, c < 700 → CL I f n p → opk f n p = some (k, x) → body (jn c, I) = (zT_next I).bind fun q3 => (sub q3).bind fun q4 => if ¬ q4.1 = 0 then (zE_step x q4.2).bind fun q5 => some (.inl (jn c + 1, q5)) else some (.inr (.inr ((0 : Int32), q4.2))))
    (hb2 : ∀ c I p, c < 700 → CL I f n p → (∀ x, ¬ opk f n p = some (k, x)) → body (jn c, I) = some (.inr (.inl I)) ∨ body (jn c, I) = some (.inr (.inr ((1 : Int32), I))))
    (hs : ∀ p, p ≤ n → ∃ o, Stt (k + 1) ne f n p o ∧ CSp sub f n p o ∧ RSp (RA n (if k ≤ 2 then 1 else 0)) (k + 1) f n d p o) :
    ∀ l p, n - p ≤ l → p ≤ n → nx (k + 1) f n p → ∃ o, LStt k ne f n p o ∧ LCSp body f n p o ∧ RLp k f n d p o := by
  intro l
  induction l with
  | zero =>
    intro p hl hp hx
    -- at the end of the text there is no operator
    have no : ∀ k' x, ¬ opk f n p = some (k', x) := fun k' x h => by
      have := tt_n (opk_t h)
      have := (ta_sp (f := f) hp).1
      omega
    refine ⟨.inr ([], p), ⟨Nat.le_refl _, hp, Nat.zero_le _, (fun x h => by cases h), fun dd _ => rfl, fun k' x h => absurd h (no k' x)⟩, fun I sz c N hC h42 hsz hc hN => ?_, fun I J W P tp hE hP hw hk' b1 b2 ht => ?_⟩
    · obtain ⟨N, rfl⟩ : ∃ N', N = N' + 1 := ⟨N - 1, by omega⟩
      rcases hb2 c I p (by omega) hC (no k) with e | e
      · exact ⟨I, _, js_0 e, Or.inl rfl, hC, CO_62 h42 fun _ _ _ => rfl⟩
      · exact ⟨I, _, js_0 e, Or.inr rfl, hC, CO_62 h42 fun _ _ _ => rfl⟩
    · exact ⟨[], P, I, J, by rw [List.append_nil, List.nil_append], hP, hE, (fun i hi => by cases hi), jfr_rf _ _ _, fun _ _ _ => rfl, fun _ => rfl, ht, by show 0 + P.length ≤ _; omega, by omega, fun w h => h⟩
  | succ l ih =>
    intro p hl hp hx
    by_cases op : ∃ x, opk f n p = some (k, x)
    · obtain ⟨x, ho⟩ := op
      obtain ⟨ox, os, o3, o6, o1, ox8⟩ := opk_w ho
      have tz1 := tz_sp (f := f) hp
      have ta1 := ta_sp (f := f) hp
      have tz3 := tz1.2.2.1 (opk_t ho)
      obtain ⟨o, st, cs, rs⟩ := hs (tz f n p) tz1.2.1
      -- the class's step
      have first : ∀ I sz c, CL I f n p → I 42 2 = jn sz → sz + (n - p) ≤ 700 → c + (n - p) < 700 → ∃ I1, zT_next I = some I1 ∧ CL I1 f n (tz f n p) ∧ CO sz [] I I1 := fun I sz c hC h42 _ _ => by
        obtain ⟨I1, e1, c1, f1⟩ := CL_next hC
        exact ⟨I1, e1, c1, CO_62 h42 f1⟩
      cases o with
      | inl ft =>
        obtain ⟨kd, pl⟩ := ft
        refine ⟨.inl (kd, pl), st, fun I sz c N hC h42 hsz hc hN => ?_, fun I J W P tp hE hP hw hk' b1 b2 ht => ?_⟩
        · obtain ⟨N, rfl⟩ : ∃ N', N = N' + 1 := ⟨N - 1, by omega⟩
          obtain ⟨I1, e1, c1, co1⟩ := first I sz c hC h42 hsz hc
          obtain ⟨I2, e2, g1, g2, g3⟩ := cs I1 sz c1 (by rw [co1.1]; rfl) (by omega)
          refine ⟨I2, js_0 ?_, g1, g2, fun a j q1 q2 q3 q4 => by rw [g3 a j q1 q2 q3 q4, co1.2.2.2 a j q2 q3 q4]⟩
          rw [hb1 c I p x (by omega) hC ho, e1, Option.bind_some, e2, Option.bind_some, if_neg (fun h => h rfl)]
        · have lw : (W ++ P).length = W.length + P.length := List.length_append
          have h97 : k = 4 → I 97 d = 0 := fun e => by omega
          obtain ⟨I1, J1, x1, cc, fr, jf, t2, t4, t5, run⟩ := jm_op ho hP hw hk' hE hd h97 (by omega) (by omega)
          have l1 : (W ++ [x]).length = W.length + 1 := List.length_append
          obtain ⟨w, r1, ⟨r2, r3, r4, r5⟩⟩ := rs I1 J1 (W ++ [x]) (tp + P.length) x1 (wokL_app hw (Or.inr ox)) (weak_app (by omega)) (by omega) (by omega) (fun h4 => t2 (by omega))
          exact ⟨w, run w r1, r2, r3, jfz_tr (jfz_fr fr) r4, fun a j q => by rw [r5 a j q, jf a j q]⟩
      | inr ok =>
        obtain ⟨s2, p3⟩ := ok
        obtain ⟨s1, s2', s3, s4, s5, s6⟩ := st
        obtain ⟨o', lst, lcs, rlp⟩ := ih p3 (by omega) s2' (fun k' x' h' => by
          rcases s6 k' x' h' with q | q
          · exact Or.inl q
          · exact Or.inr q)
        -- what the class does before it goes round again
        have step : ∀ I sz c, CL I f n p → I 42 2 = jn sz → sz + (n - p) ≤ 700 → c + (n - p) < 700 → ∃ I3, body (jn c, I) = some (.inl (jn (c + 1), I3)) ∧ CL I3 f n p3 ∧ CO sz (s2 ++ [x]) I I3 := fun I sz c hC h42 hsz hc => by
          obtain ⟨I1, e1, c1, co1⟩ := first I sz c hC h42 hsz hc
          obtain ⟨I2, e2, c2, co2⟩ := cs I1 sz c1 (by rw [co1.1]; rfl) (by omega)
          obtain ⟨I3, e3, c3, co3⟩ := jc_step c2 co2.1 (by omega) x
          refine ⟨I3, ?_, c3, ?_⟩
          · rw [hb1 c I p x (by omega) hC ho, e1, Option.bind_some, e2, Option.bind_some, if_pos (show ¬ (1 : Int32) = 0 by decide), e3, Option.bind_some, show jn c + (1 : Int32) = jn (c + 1) from jn_add _ 1]
          · have := CO_tr co1 (CO_tr co2 co3)
            rwa [List.nil_append] at this
        -- what the reference does
        have rstep : ∀ I J W P tp, EX I J f n p (W ++ P) d tp → (∀ x ∈ P, wop x ∧ k ≤ wst x) → wokL W → weak W k → (W ++ P).length + (n - p) ≤ 900 → tp + (W ++ P).length + 2 * (n - p) ≤ 3800 →
            ∃ b0 Q I3 J3, s2 = b0 ++ Q.reverse ∧ (∀ y ∈ [x] ++ Q, wop y ∧ k ≤ wst y) ∧ EX I3 J3 f n p3 (W ++ ([x] ++ Q)) d (tp + P.length + (jes b0).length) ∧ (∀ i, i < P.length → I3 95 (tp + i) = (jes P.reverse).getD i 0) ∧ (∀ i, i < (jes b0).length → I3 95 (tp + P.length + i) = (jes b0).getD i 0) ∧ jfr d tp I I3 ∧ (∀ k j, ¬ k = 76 → J3 k j = J k j) ∧ (5 ≤ k → I3 97 d = I 97 d) ∧ (k ≤ 4 → tcx f n p3 d I3) ∧ (jes b0).length + Q.length ≤ 2 * (p3 - tz f n p) ∧ Q.length ≤ p3 - tz f n p ∧ (∀ w, RM n p3 I3 J3 w → RM n p I J w) := by
          intro I J W P tp hE hP hw hk' b1 b2
          have lw : (W ++ P).length = W.length + P.length := List.length_append
          have h97 : k = 4 → I 97 d = 0 := fun e => by omega
          obtain ⟨I1, J1, x1, cc, fr, jf, t2, t4, t5, run⟩ := jm_op ho hP hw hk' hE hd h97 (by omega) (by omega)
          have l1 : (W ++ [x]).length = W.length + 1 := List.length_append
          obtain ⟨b0, Q, I3, J3, r1, r2, r3, r4, r5, r6, r7, r8, r9, r10, r11⟩ := rs I1 J1 (W ++ [x]) (tp + P.length) x1 (wokL_app hw (Or.inr ox)) (weak_app (by omega)) (by omega) (by omega) (fun h4 => t2 (by omega))
          refine ⟨b0, Q, I3, J3, r1, fun y hy => ?_, by rw [← List.append_assoc]; exact r3, fun i hi => ?_, r4, jfr_tr fr r5 (Nat.le_refl _) (by omega), fun a j q => by rw [r6 a j q, jf a j q], fun h5 => by rw [r7 (by omega), t5 h5], fun h4 => r8 (by omega), r9, r10, fun w hw' => run w (r11 w hw')⟩
          · rcases List.mem_append.mp hy with q | q
            · cases List.mem_singleton.mp q; exact ⟨ox, by omega⟩
            · have := r2 y q; exact ⟨this.1, by omega⟩
          · rw [r5 95 _ (by omega) (by omega) (by omega) (by omega), cc i hi]
        have bk : Bd ne k = Bd ne (k + 1) + 1 := by unfold Bd; omega
        cases o' with
        | inl ft =>
          obtain ⟨kd, pl⟩ := ft
          refine ⟨.inl (kd, pl), lst, fun I sz c N hC h42 hsz hc hN => ?_, fun I J W P tp hE hP hw hk' b1 b2 ht => ?_⟩
          · obtain ⟨N, rfl⟩ : ∃ N', N = N' + 1 := ⟨N - 1, by omega⟩
            obtain ⟨I3, e3, c3, co3⟩ := step I sz c hC h42 hsz hc
            have ll : (s2 ++ [x]).length = s2.length + 1 := List.length_append
            obtain ⟨I4, e4, g1, g2, g3⟩ := lcs I3 (sz + (s2 ++ [x]).length) (c + 1) N c3 co3.1 (by omega) (by omega) (by omega)
            exact ⟨I4, (js_1 e3).trans e4, g1, g2, fun a j q1 q2 q3 q4 => by rw [g3 a j q1 q2 q3 q4, co3.2.2.2 a j q2 q3 q4]⟩
          · obtain ⟨b0, Q, I3, J3, r1, r2, r3, r4, r4', r5, r6, r7, r8, r9, r10, r11⟩ := rstep I J W P tp hE hP hw hk' b1 b2
            have lw : (W ++ P).length = W.length + P.length := List.length_append
            have lq : (W ++ ([x] ++ Q)).length = W.length + (1 + Q.length) := by rw [List.length_append, List.length_append]; rfl
            obtain ⟨w, u1, ⟨u2, u3, u4, u5⟩⟩ := rlp I3 J3 W ([x] ++ Q) _ r3 r2 hw hk' (by omega) (by omega) r8
            exact ⟨w, r11 w u1, u2, u3, jfz_tr (jfz_fr r5) u4, fun a j q => by rw [u5 a j q, r6 a j q]⟩
        | inr ok =>
          obtain ⟨s', p'⟩ := ok
          obtain ⟨l1, l2, l3, l4, l5, l6⟩ := lst
          refine ⟨.inr (s2 ++ [x] ++ s', p'), ⟨by omega, l2, ?_, fun y hy => ?_, fun dd hdd => ?_, l6⟩, fun I sz c N hC h42 hsz hc hN => ?_, fun I J W P tp hE hP hw hk' b1 b2 ht => ?_⟩
          · rw [List.length_append, List.length_append]; show s2.length + 1 + s'.length ≤ _; omega
          · rcases List.mem_append.mp hy with q | q
            · rcases List.mem_append.mp q with q | q
              · exact s4 y q
              · cases List.mem_singleton.mp q; exact wop_16 ox
            · exact l4 y q
          · rw [jdp_app, jdp_app, s5 (dd + 1) (by omega), Option.bind_some, jdp_op ox8 (by omega), Option.bind_some]
            exact l5 dd hdd
          · obtain ⟨N, rfl⟩ : ∃ N', N = N' + 1 := ⟨N - 1, by omega⟩
            obtain ⟨I3, e3, c3, co3⟩ := step I sz c hC h42 hsz hc
            have ll : (s2 ++ [x]).length = s2.length + 1 := List.length_append
            obtain ⟨I4, r, e4, hr, c4, co4⟩ := lcs I3 (sz + (s2 ++ [x]).length) (c + 1) N c3 co3.1 (by omega) (by omega) (by omega)
            exact ⟨I4, r, (js_1 e3).trans e4, hr, c4, CO_tr co3 co4⟩
          · obtain ⟨b0, Q, I3, J3, r1, r2, r3, r4, r4', r5, r6, r7, r8, r9, r10, r11⟩ := rstep I J W P tp hE hP hw hk' b1 b2
            have lw : (W ++ P).length = W.length + P.length := List.length_append
            have lq : (W ++ ([x] ++ Q)).length = W.length + (1 + Q.length) := by rw [List.length_append, List.length_append]; rfl
            have lxq : ([x] ++ Q).length = 1 + Q.length := by rw [List.length_append]; rfl
            obtain ⟨s0, P', I4, J4, u1, u2, u3, u4, u5, u6, u7, u8, u9, u10, u11⟩ := rlp I3 J3 W ([x] ++ Q) _ r3 r2 hw hk' (by omega) (by omega) r8
            have jl : (jes P.reverse).length = P.length := by rw [jes_op _ (fun y hy => (hP y (List.mem_reverse.mp hy)).1), List.length_reverse]
            have jA : (jes (P.reverse ++ b0 ++ s0)).length = P.length + (jes b0).length + (jes s0).length := by rw [jes_app, jes_app, List.length_append, List.length_append, jl]
            refine ⟨P.reverse ++ b0 ++ s0, P', I4, J4, ?_, u2, ?_, fun i hi => ?_, jfr_tr r5 u5 (Nat.le_refl _) (by omega), fun a j q => by rw [u6 a j q, r6 a j q], fun h5 => by rw [u7 h5, r7 h5], u8, ?_, by omega, fun w h => r11 w (u11 w h)⟩
            · rw [r1]
              have : ([x] ++ Q).reverse = Q.reverse ++ [x] := by simp
              rw [this] at u1
              calc P.reverse ++ (b0 ++ Q.reverse ++ [x] ++ s') = P.reverse ++ b0 ++ (Q.reverse ++ [x] ++ s') := by simp [List.append_assoc]
                _ = P.reverse ++ b0 ++ (s0 ++ P'.reverse) := by rw [u1]
                _ = P.reverse ++ b0 ++ s0 ++ P'.reverse := by simp [List.append_assoc]
            · rw [jA, show tp + (P.length + (jes b0).length + (jes s0).length) = tp + P.length + (jes b0).length + (jes s0).length by omega]
              exact u3
            · rw [jA] at hi
              rw [jes_app, jes_app]
              by_cases q1 : i < P.length
              · rw [u5 95 _ (by omega) (by omega) (by omega) (by omega), r4 i q1, List.append_assoc, jgd_l (by rw [jl]; exact q1)]
              · by_cases q2 : i < P.length + (jes b0).length
                · rw [u5 95 _ (by omega) (by omega) (by omega) (by omega), show tp + i = tp + P.length + (i - P.length) by omega, r4' _ (by omega), List.append_assoc, jgd_r (by rw [jl]; omega), jl, jgd_l (by omega)]
                · rw [show tp + i = tp + P.length + (jes b0).length + (i - P.length - (jes b0).length) by omega, u4 _ (by omega), jgd_r (by rw [List.length_append, jl]; omega), List.length_append, jl, show i - (P.length + (jes b0).length) = i - P.length - (jes b0).length by omega]
            · rw [jA]; omega
    · have no : ∀ x, ¬ opk f n p = some (k, x) := fun x h => op ⟨x, h⟩
      refine ⟨.inr ([], p), ⟨Nat.le_refl _, hp, Nat.zero_le _, (fun x h => by cases h), fun dd _ => rfl, fun k' x h => ?_⟩, fun I sz c N hC h42 hsz hc hN => ?_, fun I J W P tp hE hP hw hk' b1 b2 ht => ?_⟩
      · have ne : ¬ k' = k := fun e => no x (by rw [← e]; exact h)
        rcases hx k' x h with q | q
        · exact Or.inl (by omega)
        · exact Or.inr ⟨by omega, q.2⟩
      · obtain ⟨N, rfl⟩ : ∃ N', N = N' + 1 := ⟨N - 1, by omega⟩
        rcases hb2 c I p (by omega) hC no with e | e
        · exact ⟨I, _, js_0 e, Or.inl rfl, hC, CO_62 h42 fun _ _ _ => rfl⟩
        · exact ⟨I, _, js_0 e, Or.inr rfl, hC, CO_62 h42 fun _ _ _ => rfl⟩
      · exact ⟨[], P, I, J, by rw [List.append_nil, List.nil_append], hP, hE, (fun i hi => by cases hi), jfr_rf _ _ _, fun _ _ _ => rfl, fun _ => rfl, ht, by show 0 + P.length ≤ _; omega, by omega, fun w h => h⟩
