/-! ===== expressions: all strengths, all depths ===== -/
theorem prodJ {ne : Nat} {f : Nat → Nat} {n : Nat} (hn : n ≤ 700) (hne : ne ≤ 5) (R : Nat → Int32 → iq_I → Option (Int32 × iq_I))
    (h7 : ∀ p, p ≤ n → ∃ o, Stt 7 ne f n p o ∧ CSp (R 105 (jn ne)) f n p o ∧ RSp (RBa n) 7 f n (ne + 1) p o) :
    ∀ p, p ≤ n → ∃ o, Stt 6 ne f n p o ∧ CSp (zR_readProduct R (jn ne)) f n p o ∧ RSp (RBa n) 6 f n (ne + 1) p o := by
  intro p hp
  have F : jB false = 0 := rfl
  have hs : ∀ p, p ≤ n → ∃ o, Stt (6 + 1) ne f n p o ∧ CSp (R 105 (jn ne)) f n p o ∧ RSp (RA n (if 6 ≤ 2 then 1 else 0)) (6 + 1) f n (ne + 1) p o := fun p hp => by
    obtain ⟨o, a, b, c⟩ := h7 p hp
    exact ⟨o, a, b, RSp_mo (fun I J w hg h => RA_0 hg h) c⟩
  have sg : ∀ (I : iq_I) (p : Nat), CL I f n p → zT_isSign (42 : Int32) I = some (jB (sgn f n p 42)) ∧ zT_isSign (47 : Int32) I = some (jB (sgn f n p 47)) := fun I p h => ⟨jc_isSign h (c := 42) (by decide), jc_isSign h (c := 47) (by decide)⟩
  refine levJ (k := 6) (Or.inr (Or.inr (Or.inr rfl))) hn (fun I => rfl) (h7 p hp) (fun p1 hp1 hx => loopJ (Or.inr (Or.inr (Or.inr rfl))) (by omega) hn (R 105 (jn ne)) (fun v => zR_readProduct_l12_b R (jn ne) v.1 v.2) (fun c I p x hc hC ho => ?_) (fun c I p hc hC no => ?_) hs n p1 (by omega) hp1 hx)
  · obtain ⟨e42, e47⟩ := sg I p hC
    dsimp only
    unfold zR_readProduct_l12_b
    rw [if_neg (by rw [jl700, jn_le (by omega) (by omega)]; omega), e42, Option.bind_some, e47, Option.bind_some]
    unfold zR_readProduct_47 zR_readProduct_82
    cases s : sgn f n p 42 with
    | true =>
      have e := opk_6.1 s
      rw [ho] at e
      cases e
      rw [if_pos (by decide)]
      simp only [if_neg (show ¬ jB true = 0 by decide)]
    | false =>
      rw [if_neg (fun h => h F)]
      cases s2 : sgn f n p 47 with
      | true =>
        have e := opk_6.2.1 s s2
        rw [ho] at e
        cases e
        rw [if_pos (by decide)]
        simp only [if_pos F]
      | false => exact absurd ho (opk_6.2.2 s s2 x)
  · obtain ⟨e42, e47⟩ := sg I p hC
    refine Or.inr ?_
    dsimp only
    unfold zR_readProduct_l12_b
    have s : sgn f n p 42 = false := by
      cases e : sgn f n p 42 with
      | false => rfl
      | true => exact absurd (opk_6.1 e) (no _)
    have s2 : sgn f n p 47 = false := by
      cases e : sgn f n p 47 with
      | false => rfl
      | true => exact absurd (opk_6.2.1 s e) (no _)
    rw [if_neg (by rw [jl700, jn_le (by omega) (by omega)]; omega), e42, Option.bind_some, s, if_neg (fun h => h F), e47, Option.bind_some, s2, if_neg (fun h => h F)]
theorem sumJ {ne : Nat} {f : Nat → Nat} {n : Nat} (hn : n ≤ 700) (hne : ne ≤ 5) (R : Nat → Int32 → iq_I → Option (Int32 × iq_I))
    (h6 : ∀ p, p ≤ n → ∃ o, Stt 6 ne f n p o ∧ CSp (R 104 (jn ne)) f n p o ∧ RSp (RBa n) 6 f n (ne + 1) p o) :
    ∀ p, p ≤ n → ∃ o, Stt 5 ne f n p o ∧ CSp (zR_readSum R (jn ne)) f n p o ∧ RSp (RBa n) 5 f n (ne + 1) p o := by
  intro p hp
  have F : jB false = 0 := rfl
  have hs : ∀ p, p ≤ n → ∃ o, Stt (5 + 1) ne f n p o ∧ CSp (R 104 (jn ne)) f n p o ∧ RSp (RA n (if 5 ≤ 2 then 1 else 0)) (5 + 1) f n (ne + 1) p o := fun p hp => by
    obtain ⟨o, a, b, c⟩ := h6 p hp
    exact ⟨o, a, b, RSp_mo (fun I J w hg h => RA_0 hg h) c⟩
  have sg : ∀ (I : iq_I) (p : Nat), CL I f n p → zT_isSign (43 : Int32) I = some (jB (sgn f n p 43)) ∧ zT_isSign (45 : Int32) I = some (jB (sgn f n p 45)) := fun I p h => ⟨jc_isSign h (c := 43) (by decide), jc_isSign h (c := 45) (by decide)⟩
  refine levJ (k := 5) (Or.inr (Or.inr (Or.inl rfl))) hn (fun I => rfl) (h6 p hp) (fun p1 hp1 hx => loopJ (Or.inr (Or.inr (Or.inl rfl))) (by omega) hn (R 104 (jn ne)) (fun v => zR_readSum_l12_b R (jn ne) v.1 v.2) (fun c I p x hc hC ho => ?_) (fun c I p hc hC no => ?_) hs n p1 (by omega) hp1 hx)
  · obtain ⟨e43, e45⟩ := sg I p hC
    dsimp only
    unfold zR_readSum_l12_b
    rw [if_neg (by rw [jl700, jn_le (by omega) (by omega)]; omega), e43, Option.bind_some, e45, Option.bind_some]
    unfold zR_readSum_47 zR_readSum_82
    cases s : sgn f n p 43 with
    | true =>
      have e := opk_5.1 s
      rw [ho] at e
      cases e
      rw [if_pos (by decide)]
      simp only [if_neg (show ¬ jB true = 0 by decide)]
    | false =>
      rw [if_neg (fun h => h F)]
      cases s2 : sgn f n p 45 with
      | true =>
        have e := opk_5.2.1 s s2
        rw [ho] at e
        cases e
        rw [if_pos (by decide)]
        simp only [if_pos F]
      | false => exact absurd ho (opk_5.2.2 s s2 x)
  · obtain ⟨e43, e45⟩ := sg I p hC
    refine Or.inr ?_
    dsimp only
    unfold zR_readSum_l12_b
    have s : sgn f n p 43 = false := by
      cases e : sgn f n p 43 with
      | false => rfl
      | true => exact absurd (opk_5.1 e) (no _)
    have s2 : sgn f n p 45 = false := by
      cases e : sgn f n p 45 with
      | false => rfl
      | true => exact absurd (opk_5.2.1 s e) (no _)
    rw [if_neg (by rw [jl700, jn_le (by omega) (by omega)]; omega), e43, Option.bind_some, s, if_neg (fun h => h F), e45, Option.bind_some, s2, if_neg (fun h => h F)]
theorem andJ {ne : Nat} {f : Nat → Nat} {n : Nat} (hn : n ≤ 700) (hne : ne ≤ 5) (R : Nat → Int32 → iq_I → Option (Int32 × iq_I))
    (h3 : ∀ p, p ≤ n → ∃ o, Stt 3 ne f n p o ∧ CSp (R 101 (jn ne)) f n p o ∧ RSp (RA n 1) 3 f n (ne + 1) p o) :
    ∀ p, p ≤ n → ∃ o, Stt 2 ne f n p o ∧ CSp (zR_readAnd R (jn ne)) f n p o ∧ RSp (RA n 1) 2 f n (ne + 1) p o := by
  intro p hp
  have F : jB false = 0 := rfl
  have w : ∀ (I : iq_I) (p : Nat), CL I f n p → zT_isWord_62_5016 I = some (jB (decide (kw f n p = some 14))) := fun I p h => jc_isW_5016 h
  refine levJ (k := 2) (Or.inr (Or.inl rfl)) hn (fun I => rfl) (h3 p hp) (fun p1 hp1 hx => loopJ (Or.inr (Or.inl rfl)) (by omega) hn (R 101 (jn ne)) (fun v => zR_readAnd_l12_b R (jn ne) v.1 v.2) (fun c I p x hc hC ho => ?_) (fun c I p hc hC no => ?_) h3 n p1 (by omega) hp1 hx)
  · have k : kw f n p = some 14 := by
      apply Classical.byContradiction
      intro h
      exact opk_2.2 h x ho
    have e := opk_2.1 k
    rw [ho] at e
    cases e
    dsimp only
    unfold zR_readAnd_l12_b
    rw [if_neg (by rw [jl700, jn_le (by omega) (by omega)]; omega), w I p hC, Option.bind_some, decide_eq_true k, if_neg (by decide)]
  · have k : ¬ kw f n p = some 14 := fun h => no _ (opk_2.1 h)
    refine Or.inl ?_
    dsimp only
    unfold zR_readAnd_l12_b
    rw [if_neg (by rw [jl700, jn_le (by omega) (by omega)]; omega), w I p hC, Option.bind_some, decide_eq_false k, if_pos F]
theorem orJ {ne : Nat} {f : Nat → Nat} {n : Nat} (hn : n ≤ 700) (hne : ne ≤ 5) (R : Nat → Int32 → iq_I → Option (Int32 × iq_I))
    (h2 : ∀ p, p ≤ n → ∃ o, Stt 2 ne f n p o ∧ CSp (R 100 (jn ne)) f n p o ∧ RSp (RA n 1) 2 f n (ne + 1) p o) :
    ∀ p, p ≤ n → ∃ o, Stt 1 ne f n p o ∧ CSp (zR_readExpr R (jn ne)) f n p o ∧ RSp (RA n 1) 1 f n (ne + 1) p o := by
  intro p hp
  have F : jB false = 0 := rfl
  have w : ∀ (I : iq_I) (p : Nat), CL I f n p → zT_isWord_62_5017 I = some (jB (decide (kw f n p = some 15))) := fun I p h => jc_isW_5017 h
  refine levJ (k := 1) (Or.inl rfl) hn (fun I => ?_) (h2 p hp) (fun p1 hp1 hx => loopJ (Or.inl rfl) (by omega) hn (R 100 (jn ne)) (fun v => zR_readExpr_l35_b R (jn ne) v.1 v.2) (fun c I p x hc hC ho => ?_) (fun c I p hc hC no => ?_) h2 n p1 (by omega) hp1 hx)
  · unfold zR_readExpr
    rw [if_pos (by rw [jl6, jn_lt (by omega) (by omega)]; omega)]
    rfl
  · have k : kw f n p = some 15 := by
      apply Classical.byContradiction
      intro h
      exact opk_1.2 h x ho
    have e := opk_1.1 k
    rw [ho] at e
    cases e
    dsimp only
    unfold zR_readExpr_l35_b
    rw [if_neg (by rw [jl700, jn_le (by omega) (by omega)]; omega), w I p hC, Option.bind_some, decide_eq_true k, if_neg (by decide)]
  · have k : ¬ kw f n p = some 15 := fun h => no _ (opk_1.1 h)
    refine Or.inl ?_
    dsimp only
    unfold zR_readExpr_l35_b
    rw [if_neg (by rw [jl700, jn_le (by omega) (by omega)]; omega), w I p hC, Option.bind_some, decide_eq_false k, if_pos F]
theorem exprJ {f : Nat → Nat} {n : Nat} (hn : n ≤ 700) : ∀ m ne D, ne ≤ 5 → 5 - ne = m → 7 * (m + 1) + 1 ≤ D → ∀ p, p ≤ n → ∃ o, Stt 1 ne f n p o ∧ CSp (zR_rec D 98 (jn ne)) f n p o ∧ RSp (RA n 1) 1 f n (ne + 1) p o := by
  intro m
  induction m with
  | zero =>
    intro ne D hne hm hD
    obtain ⟨D, rfl⟩ : ∃ D', D = D' + 8 := ⟨D - 8, by omega⟩
    have e5 : ne = 5 := by omega
    subst e5
    have a7 := partJ (ne := 5) (f := f) hn hne (zR_rec (D + 1)) (fun h => by omega) (fun _ I => by
      show zR_readExpr (zR_rec D) (jn 6) I = _
      unfold zR_readExpr
      rw [if_neg (by decide)]
      rfl)
    have a6 := prodJ hn hne (zR_rec (D + 2)) a7
    have a5 := sumJ hn hne (zR_rec (D + 3)) a6
    have a4 := testJ hn hne (zR_rec (D + 4)) a5
    have a3 := notJ hn hne (zR_rec (D + 5)) a4
    have a2 := andJ hn hne (zR_rec (D + 6)) a3
    exact orJ hn hne (zR_rec (D + 7)) a2
  | succ m ih =>
    intro ne D hne hm hD
    obtain ⟨D, rfl⟩ : ∃ D', D = D' + 7 := ⟨D - 7, by omega⟩
    have a7 := partJ (ne := ne) (f := f) hn hne (zR_rec D) (fun h => ih (ne + 1) D (by omega) (by omega) (by omega)) (fun h => by omega)
    have a6 := prodJ hn hne (zR_rec (D + 1)) a7
    have a5 := sumJ hn hne (zR_rec (D + 2)) a6
    have a4 := testJ hn hne (zR_rec (D + 3)) a5
    have a3 := notJ hn hne (zR_rec (D + 4)) a4
    have a2 := andJ hn hne (zR_rec (D + 5)) a3
    exact orJ hn hne (zR_rec (D + 6)) a2
