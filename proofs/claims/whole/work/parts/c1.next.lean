/-! ===== the next token, on both sides ===== -/
theorem jskip {c x n a : Nat} {P : Nat → Bool} {body : iq_I → Option (iq_I ⊕ iq_I)} {I : iq_I} (hn : n ≤ 700) (ha : a ≤ n) (h0 : I c x = jn a)
    (hs : ∀ K i, a ≤ i → i < n → K c x = jn i → (∀ k j, ¬ (k = c ∧ j = x) → K k j = I k j) → body K = some (if P i = true then .inl (iq_upI K c x (jn (i + 1))) else .inr K))
    (he : ∀ K, K c x = jn n → (∀ k j, ¬ (k = c ∧ j = x) → K k j = I k j) → body K = some (.inr K)) :
    ∃ K, iq_lp body ir_F I = some K ∧ K c x = jn (skp P (n - a) a) ∧ (∀ k j, ¬ (k = c ∧ j = x) → K k j = I k j) := by
  obtain ⟨s1, s2, s3, s4⟩ := skp_sp P (n - a) a
  refine js_inv (fun i K => K c x = jn (a + i) ∧ ∀ k j, ¬ (k = c ∧ j = x) → K k j = I k j) (skp P (n - a) a - a) _ ?_ ?_ (skp P (n - a) a - a) 0 I ir_F (by omega) ⟨h0, fun _ _ _ => rfl⟩ (by unfold ir_F; omega)
  · rintro i K hi ⟨h1, h2⟩
    refine ⟨iq_upI K c x (jn (a + i + 1)), ?_, by rw [up_eq]; rfl, fun k j hk => ?_⟩
    · rw [hs K (a + i) (by omega) (by omega) h1 h2, if_pos (s3 (a + i) (by omega) (by omega))]
    · by_cases e : k = c
      · subst e; rw [up_ni (fun e => hk ⟨rfl, e⟩), h2 k j hk]
      · rw [up_nk e, h2 k j hk]
  · rintro K ⟨h1, h2⟩
    rw [show a + (skp P (n - a) a - a) = skp P (n - a) a by omega] at h1
    refine ⟨K, ?_, h1, h2⟩
    by_cases q : skp P (n - a) a < n
    · rw [hs K _ s1 q h1 h2, if_neg (by rw [s4 (by omega)]; decide)]
    · exact he K (by rw [h1]; congr 1; omega) h2
theorem jc_next {I : iq_I} {f : Nat → Nat} {n p : Nat} (hT : jTx I 2 f n) (hp : p ≤ n) (h3 : I 62 3 = jn n) (h4 : I 62 4 = jn p) :
    ∃ I', zT_next I = some I' ∧ CL I' f n p ∧ (∀ k j, ¬ k = 62 → I' k j = I k j) := by
  obtain ⟨hn, hx⟩ := hT
  obtain ⟨a1, a2, a3, a4⟩ := ta_sp (f := f) hp
  obtain ⟨K, e1, k1, k2⟩ : ∃ K, zT_next_l8 ir_F (iq_upI I 62 1 (jn p)) = some K ∧ K 62 1 = jn (ta f n p) ∧ (∀ k j, ¬ (k = 62 ∧ j = 1) → K k j = iq_upI I 62 1 (jn p) k j) := by
    refine jskip (P := fun i => isBl (f i)) hn hp up_eq (fun K i h1 h2 h3' h4' => ?_) (fun K h1 h2 => ?_)
    · obtain ⟨q1, q2⟩ := hx i h2
      have t2 : K 2 i = jn (f i) := by rw [h4' 2 i (by omega), up_nk (by decide), q2]
      have t3 : K 62 3 = jn n := by rw [h4' 62 3 (by decide), up_ni (by decide), h3]
      unfold zT_next_l8_b
      rw [t3, h3', if_neg (by rw [jn_le (by omega) (by omega)]; omega), if_pos (by rw [jn_in (by omega)]; omega), jn_clamp (by omega), t2, jc_isBlank q1, Option.bind_some, show jn i + (1 : Int32) = jn (i + 1) from jn_add i 1, ir_let]
      cases isBl (f i) with
      | true => rw [if_neg (by decide), if_pos rfl]
      | false => rw [if_pos (by decide), if_neg (by decide)]
    · have t3 : K 62 3 = jn n := by rw [h2 62 3 (by decide), up_ni (by decide), h3]
      unfold zT_next_l8_b
      rw [t3, h1, if_pos (by rw [jn_le (by omega) (by omega)]; omega)]
  have C : ∀ k j, ¬ k = 62 → K k j = I k j := fun k j hk => by rw [k2 k j (by omega), up_nk hk]
  have K3 : K 62 3 = jn n := by rw [k2 _ _ (by decide), up_ni (by decide), h3]
  have f1 : iq_upI K 62 4 (jn (ta f n p)) 62 1 = jn (ta f n p) := by rw [up_ni (by decide), k1]
  have f3 : iq_upI K 62 4 (jn (ta f n p)) 62 3 = jn n := by rw [up_ni (by decide), K3]
  have ft : ∀ i, i < n → iq_upI K 62 4 (jn (ta f n p)) 2 i = jn (f i) := fun i hi => by rw [up_nk (by decide), C _ _ (by decide), (hx i hi).2]
  have tx : ∀ (K' : iq_I), (∀ k j, ¬ k = 62 → K' k j = I k j) → jTx K' 2 f n := fun K' h => ⟨hn, fun i hi => ⟨(hx i hi).1, by rw [h _ _ (by decide), (hx i hi).2]⟩⟩
  unfold zT_next
  rw [h4, ir_let, e1, Option.bind_some]
  unfold zT_next_47
  rw [k1, ir_let, f1, f3]
  by_cases a : ta f n p < n
  · obtain ⟨q1, q2⟩ := hx _ a
    have ia : iq_in (jn (ta f n p)) 700 := by rw [jn_in (by omega)]; omega
    rw [if_pos (by rw [jn_lt (by omega) (by omega)]; exact a)]
    simp only [if_pos ia]
    rw [jn_clamp (by omega), ft _ a, jc_isLetter q1, Option.bind_some, jc_isDigit q1, Option.bind_some]
    cases l : isLe (f (ta f n p)) with
    | true =>
      rw [if_neg (by decide), ir_let]
      obtain ⟨K2, e2, m1, m2⟩ : ∃ K2, zT_next_l94 ir_F (iq_upI (iq_upI K 62 4 (jn (ta f n p))) 62 0 1) = some K2 ∧ K2 62 4 = jn (skp (fun i => isLe (f i)) (n - ta f n p) (ta f n p)) ∧ (∀ k j, ¬ (k = 62 ∧ j = 4) → K2 k j = iq_upI (iq_upI K 62 4 (jn (ta f n p))) 62 0 1 k j) := by
        refine jskip (P := fun i => isLe (f i)) hn a2 (by rw [up_ni (by decide), up_eq]) (fun K' i h1 h2 h3' h4' => ?_) (fun K' h1 h2 => ?_)
        · obtain ⟨q1, q2⟩ := hx i h2
          have t2 : K' 2 i = jn (f i) := by rw [h4' 2 i (by omega), up_nk (by decide), ft i h2]
          have t3 : K' 62 3 = jn n := by rw [h4' 62 3 (by decide), up_ni (by decide), f3]
          unfold zT_next_l94_b
          rw [t3, h3', if_neg (by rw [jn_le (by omega) (by omega)]; omega), if_pos (by rw [jn_in (by omega)]; omega), jn_clamp (by omega), t2, jc_isLetter q1, Option.bind_some, show jn i + (1 : Int32) = jn (i + 1) from jn_add i 1, ir_let]
          cases isLe (f i) with
          | true => rw [if_neg (by decide), if_pos rfl]
          | false => rw [if_pos (by decide), if_neg (by decide)]
        · have t3 : K' 62 3 = jn n := by rw [h2 62 3 (by decide), up_ni (by decide), f3]
          unfold zT_next_l94_b
          rw [t3, h1, if_pos (by rw [jn_le (by omega) (by omega)]; omega)]
      have D : ∀ k j, ¬ k = 62 → K2 k j = I k j := fun k j hk => by rw [m2 k j (by omega), up_nk hk, up_nk hk, C k j hk]
      rw [e2, Option.bind_some]
      refine ⟨K2, rfl, ⟨tx K2 D, hp, ?_, ?_, ?_, ?_⟩, D⟩
      · rw [m2 _ _ (by decide), up_eq]; unfold tt; rw [if_pos a, if_pos l]; rfl
      · rw [m2 _ _ (by decide), up_ni (by decide), f1]
      · rw [m2 _ _ (by decide), up_ni (by decide), f3]
      · rw [m1]; unfold tz; rw [if_pos a, if_pos l]
    | false =>
      have l' : ¬ isLe (f (ta f n p)) = true := by rw [l]; decide
      rw [if_pos (by decide)]
      cases d : isDi (f (ta f n p)) with
      | true =>
        rw [if_neg (by decide), ir_let]
        obtain ⟨K2, e2, m1, m2⟩ : ∃ K2, zT_next_l153 ir_F (iq_upI (iq_upI K 62 4 (jn (ta f n p))) 62 0 2) = some K2 ∧ K2 62 4 = jn (skp (fun i => isDi (f i)) (n - ta f n p) (ta f n p)) ∧ (∀ k j, ¬ (k = 62 ∧ j = 4) → K2 k j = iq_upI (iq_upI K 62 4 (jn (ta f n p))) 62 0 2 k j) := by
          refine jskip (P := fun i => isDi (f i)) hn a2 (by rw [up_ni (by decide), up_eq]) (fun K' i h1 h2 h3' h4' => ?_) (fun K' h1 h2 => ?_)
          · obtain ⟨q1, q2⟩ := hx i h2
            have t2 : K' 2 i = jn (f i) := by rw [h4' 2 i (by omega), up_nk (by decide), ft i h2]
            have t3 : K' 62 3 = jn n := by rw [h4' 62 3 (by decide), up_ni (by decide), f3]
            unfold zT_next_l153_b
            rw [t3, h3', if_neg (by rw [jn_le (by omega) (by omega)]; omega), if_pos (by rw [jn_in (by omega)]; omega), jn_clamp (by omega), t2, jc_isDigit q1, Option.bind_some, show jn i + (1 : Int32) = jn (i + 1) from jn_add i 1, ir_let]
            cases isDi (f i) with
            | true => rw [if_neg (by decide), if_pos rfl]
            | false => rw [if_pos (by decide), if_neg (by decide)]
          · have t3 : K' 62 3 = jn n := by rw [h2 62 3 (by decide), up_ni (by decide), f3]
            unfold zT_next_l153_b
            rw [t3, h1, if_pos (by rw [jn_le (by omega) (by omega)]; omega)]
        have D : ∀ k j, ¬ k = 62 → K2 k j = I k j := fun k j hk => by rw [m2 k j (by omega), up_nk hk, up_nk hk, C k j hk]
        rw [e2, Option.bind_some]
        refine ⟨K2, rfl, ⟨tx K2 D, hp, ?_, ?_, ?_, ?_⟩, D⟩
        · rw [m2 _ _ (by decide), up_eq]; unfold tt; rw [if_pos a, if_neg l', if_pos d]; rfl
        · rw [m2 _ _ (by decide), up_ni (by decide), f1]
        · rw [m2 _ _ (by decide), up_ni (by decide), f3]
        · rw [m1]; unfold tz; rw [if_pos a, if_neg l', if_pos d]
      | false =>
        have d' : ¬ isDi (f (ta f n p)) = true := by rw [d]; decide
        obtain ⟨q, e2, hq⟩ := jc_indexOf (I := iq_upI K 62 4 (jn (ta f n p))) q1
        have ch := jc_chr ⟨_, q1⟩
        simp only at ch
        have fin : ∀ ty : Nat, (ty = tt f n p) → ∃ I', some (iq_upI (iq_upI (iq_upI K 62 4 (jn (ta f n p))) 62 0 (jn ty)) 62 4 (jn (ta f n p + 1))) = some I' ∧ CL I' f n p ∧ (∀ k j, ¬ k = 62 → I' k j = I k j) := fun ty hty => by
          have D : ∀ k j, ¬ k = 62 → iq_upI (iq_upI (iq_upI K 62 4 (jn (ta f n p))) 62 0 (jn ty)) 62 4 (jn (ta f n p + 1)) k j = I k j := fun k j hk => by rw [up_nk hk, up_nk hk, up_nk hk, C k j hk]
          refine ⟨_, rfl, ⟨tx _ D, hp, ?_, ?_, ?_, ?_⟩, D⟩
          · rw [up_ni (by decide), up_eq, hty]
          · rw [up_ni (by decide), up_ni (by decide), f1]
          · rw [up_ni (by decide), up_ni (by decide), f3]
          · rw [up_eq]; unfold tz; rw [if_pos a, if_neg l', if_neg d']
        have g1 : ∀ v, iq_upI (iq_upI K 62 4 (jn (ta f n p))) 62 0 v 62 1 = jn (ta f n p) := fun v => by rw [up_ni (by decide), f1]
        rw [if_pos (by decide), ch, e2, Option.bind_some]
        cases s : isSg (f (ta f n p)) with
        | true =>
          have hq' : ¬ q < 0 := by rw [hq, s]; decide
          rw [if_neg hq', ir_let, g1, show jn (ta f n p) + (1 : Int32) = jn (ta f n p + 1) from jn_add _ 1, ir_let]
          exact fin 3 (by unfold tt; rw [if_pos a, if_neg l', if_neg d', if_pos s])
        | false =>
          have hq' : q < 0 := by rw [hq, s]
          rw [if_pos hq', ir_let, g1, show jn (ta f n p) + (1 : Int32) = jn (ta f n p + 1) from jn_add _ 1, ir_let]
          exact fin 4 (by unfold tt; rw [if_pos a, if_neg l', if_neg d', if_neg (by rw [s]; decide)])
  · rw [if_neg (by rw [jn_lt (by omega) (by omega)]; exact a), ir_let]
    have D : ∀ k j, ¬ k = 62 → iq_upI (iq_upI K 62 4 (jn (ta f n p))) 62 0 0 k j = I k j := fun k j hk => by rw [up_nk hk, up_nk hk, C k j hk]
    refine ⟨_, rfl, ⟨tx _ D, hp, ?_, ?_, ?_, ?_⟩, D⟩
    · rw [up_eq]; unfold tt; rw [if_neg a]; rfl
    · rw [up_ni (by decide), f1]
    · rw [up_ni (by decide), f3]
    · rw [up_ni (by decide), up_eq]; unfold tz; rw [if_neg a]
/-- on to the next token -/
theorem CL_next {I : iq_I} {f : Nat → Nat} {n p : Nat} (h : CL I f n p) : ∃ I', zT_next I = some I' ∧ CL I' f n (tz f n p) ∧ (∀ k j, ¬ k = 62 → I' k j = I k j) := by
  obtain ⟨h1, h2, h3, h4, h5, h6⟩ := h
  exact jc_next h1 (tz_sp h2).2.1 h5 h6
theorem CL_f {I I' : iq_I} {f : Nat → Nat} {n p : Nat} (h : CL I f n p) (h2 : ∀ j, I' 2 j = I 2 j) (h62 : ∀ j, I' 62 j = I 62 j) : CL I' f n p :=
  ⟨⟨h.1.1, fun i hi => by rw [h2]; exact h.1.2 i hi⟩, h.2.1, by rw [h62]; exact h.2.2.1, by rw [h62]; exact h.2.2.2.1, by rw [h62]; exact h.2.2.2.2.1, by rw [h62]; exact h.2.2.2.2.2⟩
