/-! ===== expressions: tests and nots ===== -/
theorem testJ {ne : Nat} {f : Nat → Nat} {n : Nat} (hn : n ≤ 700) (hne : ne ≤ 5) (R : Nat → Int32 → iq_I → Option (Int32 × iq_I))
    (h5 : ∀ p, p ≤ n → ∃ o, Stt 5 ne f n p o ∧ CSp (R 103 (jn ne)) f n p o ∧ RSp (RBa n) 5 f n (ne + 1) p o) :
    ∀ p, p ≤ n → ∃ o, Stt 4 ne f n p o ∧ CSp (zR_readTest R (jn ne)) f n p o ∧ RSp (RBa n) 4 f n (ne + 1) p o := by
  intro p hp
  obtain ⟨o, st, cs, rs⟩ := h5 p hp
  have bk : Bd ne 4 = Bd ne 5 + 1 := by unfold Bd; omega
  have F : jB false = 0 := rfl
  have rs' : ∀ I J W tp, EX I J f n p W (ne + 1) tp → wokL W → weak W 4 → W.length + (n - p) ≤ 900 → tp + W.length + 2 * (n - p) ≤ 3800 → (4 ≤ 4 → I 97 (ne + 1) = 0) → _ := fun I J W tp hE hw hk' b1 b2 h4 => rs I J W tp hE hw (weak_mo hk' (by omega)) b1 b2 (fun h => by omega)
  cases o with
  | inl ft =>
    obtain ⟨kd, pl⟩ := ft
    refine ⟨.inl (kd, pl), st, fun I sz hC h42 hsz => ?_, rs'⟩
    obtain ⟨I1, e1, g1, g2, g3⟩ := cs I sz hC h42 hsz
    refine ⟨I1, ?_, g1, g2, g3⟩
    unfold zR_readTest
    rw [e1, Option.bind_some, if_neg (fun h => h rfl)]
  | inr ok =>
    obtain ⟨s1, p1⟩ := ok
    obtain ⟨t1, t2, t3, t4, t5, t6⟩ := st
    have tz1 := tz_sp (f := f) t2
    have ta1 := ta_sp (f := f) t2
    by_cases op : ∃ x, opk f n p1 = some (4, x)
    · obtain ⟨x, hx⟩ := op
      obtain ⟨ox, os, -, -, -, ox8⟩ := opk_w hx
      have tz3 := tz1.2.2.1 (opk_t hx)
      obtain ⟨o2, st2, cs2, rs2⟩ := h5 (tz f n p1) tz1.2.1
      -- the class takes the sign
      have cS : ∀ I, CL I f n p1 → ∃ I2, zT_next I = some I2 ∧ CL I2 f n (tz f n p1) ∧ (∀ k j, ¬ k = 62 → I2 k j = I k j) ∧ ((zT_isSign (60 : Int32) I).bind fun q2 => if ¬ q2 = 0 then zR_readTest_38 R (jn ne) q2 I else (zT_isSign (61 : Int32) I).bind fun q6 => if ¬ q6 = 0 then zR_readTest_38 R (jn ne) q2 I else some ((1 : Int32), I)) = (R 103 (jn ne) I2).bind fun q4 => if ¬ q4.1 = 0 then (zE_step x q4.2).bind fun q5 => some ((1 : Int32), q5) else some ((0 : Int32), q4.2) := fun I h => by
        obtain ⟨I2, e2, c2, f2⟩ := CL_next h
        refine ⟨I2, e2, c2, f2, ?_⟩
        have c60 : zT_isSign (60 : Int32) I = _ := jc_isSign h (c := 60) (by decide)
        have c61 : zT_isSign (61 : Int32) I = _ := jc_isSign h (c := 61) (by decide)
        rw [c60, Option.bind_some, c61, Option.bind_some]
        unfold zR_readTest_38 zR_readTest_73
        rw [e2, Option.bind_some]
        cases s60 : sgn f n p1 60 with
        | true =>
          have e := opk_4.1 s60
          rw [hx] at e
          cases e
          rw [if_pos (by decide)]
          simp only [if_neg (show ¬ jB true = 0 by decide)]
        | false =>
          rw [if_neg (fun h => h F)]
          cases s61 : sgn f n p1 61 with
          | true =>
            have e := opk_4.2.1 s60 s61
            rw [hx] at e
            cases e
            rw [if_pos (by decide)]
            simp only [if_pos F]
          | false => exact absurd hx (opk_4.2.2 s60 s61 x)
      have rS : ∀ I J W tp, EX I J f n p W (ne + 1) tp → wokL W → weak W 4 → W.length + (n - p) ≤ 900 → tp + W.length + 2 * (n - p) ≤ 3800 → I 97 (ne + 1) = 0 →
          ∃ (s0 P : List Int32) (I2 : iq_I) (J2 : iq_J), s1 = s0 ++ P.reverse ∧ (∀ y ∈ P, wop y ∧ 5 ≤ wst y) ∧ EX I2 J2 f n (tz f n p1) (W ++ [x]) (ne + 1) (tp + (jes s0).length + P.length) ∧ (∀ i, i < (jes s0).length → I2 95 (tp + i) = (jes s0).getD i 0) ∧ (∀ i, i < P.length → I2 95 (tp + (jes s0).length + i) = (jes P.reverse).getD i 0) ∧ jfr (ne + 1) tp I I2 ∧ (∀ k j, ¬ k = 76 → J2 k j = J k j) ∧ I2 97 (ne + 1) = 1 ∧ (jes s0).length + P.length ≤ 2 * (p1 - p) ∧ P.length ≤ p1 - p ∧ (∀ w, RBa n (tz f n p1) I2 J2 w → RBa n p I J w) := fun I J W tp hE hw hk' b1 b2 h4 => by
        obtain ⟨s0, P, I1, J1, a1, a2, a3, a4, a5, a6, a7, a8, a9, a10, a11⟩ := rs' I J W tp hE hw hk' b1 b2 (fun _ => h4)
        have lw : (W ++ P).length = W.length + P.length := List.length_append
        have z97 : I1 97 (ne + 1) = 0 := by rw [a7 (by omega), h4]
        obtain ⟨I2, J2, x2, cc, fr, jf, u2, u4, u5, run⟩ := jm_op hx (fun y hy => ⟨(a2 y hy).1, by have := (a2 y hy).2; omega⟩) hw hk' a3 (by omega) (fun _ => z97) (by omega) (by omega)
        refine ⟨s0, P, I2, J2, a1, a2, x2, fun i hi => ?_, cc, jfr_tr a5 fr (Nat.le_refl _) (by omega), fun k j q => by rw [jf k j q, a6 k j q], u4 rfl, a9, a10, fun w hr => a11 w (run w ?_)⟩
        · rw [fr 95 _ (by omega) (by omega) (by omega) (by omega), a4 i hi]
        · rw [if_neg (by decide)]
          exact RA_0 x2.2.1 hr
      cases o2 with
      | inl ft =>
        obtain ⟨kd, pl⟩ := ft
        refine ⟨.inl (kd, pl), st2, fun I sz hC h42 hsz => ?_, fun I J W tp hE hw hk' b1 b2 h4 => ?_⟩
        · obtain ⟨I1, e1, c1, co1⟩ := cs I sz hC h42 hsz
          obtain ⟨I2, e2, c2, f2, eS⟩ := cS I1 c1
          obtain ⟨I3, e3, g1, g2, g3⟩ := cs2 I2 (sz + s1.length) c2 (by rw [f2 _ _ (by decide), co1.1]) (by omega)
          refine ⟨I3, ?_, g1, g2, fun a j q1 q2 q3 q4 => by rw [g3 a j q1 q2 q3 q4, f2 a j q2, co1.2.2.2 a j q2 q3 q4]⟩
          unfold zR_readTest
          rw [e1, Option.bind_some, if_pos (show ¬ (1 : Int32) = 0 by decide)]
          dsimp only
          rw [eS, e3, Option.bind_some, if_neg (fun h => h rfl)]
        · obtain ⟨s0, P, I2, J2, v1, v2, v3, v4, v5, v6, v7, v8, v9, v10, v11⟩ := rS I J W tp hE hw hk' b1 b2 (h4 (by omega))
          have l1 : (W ++ [x]).length = W.length + 1 := List.length_append
          obtain ⟨w, r1, ⟨r2, r3, r4, r5⟩⟩ := rs2 I2 J2 (W ++ [x]) _ v3 (wokL_app hw (Or.inr ox)) (weak_app (by omega)) (by omega) (by omega) (fun h => by omega)
          exact ⟨w, v11 w r1, r2, r3, jfz_tr (jfz_fr v6) r4, fun k j q => by rw [r5 k j q, v7 k j q]⟩
      | inr ok =>
        obtain ⟨s2, p2⟩ := ok
        obtain ⟨b1', b2', b3', b4', b5', b6'⟩ := st2
        refine ⟨.inr (s1 ++ s2 ++ [x], p2), ⟨by omega, b2', ?_, fun y hy => ?_, fun dd hdd => ?_, fun k' x' h => ?_⟩, fun I sz hC h42 hsz => ?_, fun I J W tp hE hw hk' b1 b2 h4 => ?_⟩
        · rw [List.length_append, List.length_append]; show s1.length + s2.length + 1 ≤ _; omega
        · rcases List.mem_append.mp hy with q | q
          · rcases List.mem_append.mp q with q | q
            · exact t4 y q
            · exact b4' y q
          · cases List.mem_singleton.mp q; exact wop_16 ox
        · rw [jdp_app, jdp_app, t5 dd (by omega), Option.bind_some, b5' (dd + 1) (by omega), Option.bind_some, jdp_op ox8 (by omega)]
          rfl
        · rcases b6' k' x' h with q | q
          · by_cases e : k' = 4
            · exact Or.inr ⟨by omega, e⟩
            · exact Or.inl (by omega)
          · omega
        · obtain ⟨I1, e1, c1, co1⟩ := cs I sz hC h42 hsz
          obtain ⟨I2, e2, c2, f2, eS⟩ := cS I1 c1
          have co2 : CO (sz + s1.length) [] I1 I2 := CO_62 co1.1 f2
          obtain ⟨I3, e3, c3, co3⟩ := cs2 I2 (sz + s1.length) c2 (by rw [f2 _ _ (by decide), co1.1]) (by omega)
          obtain ⟨I4, e4, c4, co4⟩ := jc_step c3 co3.1 (by omega) x
          refine ⟨I4, ?_, c4, ?_⟩
          · unfold zR_readTest
            rw [e1, Option.bind_some, if_pos (show ¬ (1 : Int32) = 0 by decide)]
            dsimp only
            rw [eS, e3, Option.bind_some, if_pos (show ¬ (1 : Int32) = 0 by decide), e4, Option.bind_some]
          · have := CO_tr co1 (CO_tr co2 (CO_tr co3 co4))
            rwa [List.nil_append, ← List.append_assoc] at this
        · obtain ⟨s0, P, I2, J2, v1, v2, v3, v4, v5, v6, v7, v8, v9, v10, v11⟩ := rS I J W tp hE hw hk' b1 b2 (h4 (by omega))
          have l1 : (W ++ [x]).length = W.length + 1 := List.length_append
          obtain ⟨c0, Q, I3, J3, r1, r2, r3, r4, r5, r6, r7, r8, r9, r10, r11⟩ := rs2 I2 J2 (W ++ [x]) _ v3 (wokL_app hw (Or.inr ox)) (weak_app (by omega)) (by omega) (by omega) (fun h => by omega)
          have jl : (jes P.reverse).length = P.length := by rw [jes_op _ (fun y hy => (v2 y (List.mem_reverse.mp hy)).1), List.length_reverse]
          have jA : (jes (s0 ++ P.reverse ++ c0)).length = (jes s0).length + P.length + (jes c0).length := by rw [jes_app, jes_app, List.length_append, List.length_append, jl]
          have lxq : ([x] ++ Q).length = 1 + Q.length := by rw [List.length_append]; rfl
          refine ⟨s0 ++ P.reverse ++ c0, [x] ++ Q, I3, J3, ?_, fun y hy => ?_, ?_, fun i hi => ?_, jfr_tr v6 r5 (Nat.le_refl _) (by omega), fun k j q => by rw [r6 k j q, v7 k j q], fun h => by omega, fun _ z => ?_, by rw [jA, lxq]; omega, by rw [lxq]; omega, fun w h => v11 w (r11 w h)⟩
          · rw [v1, r1]; simp [List.append_assoc]
          · rcases List.mem_append.mp hy with q | q
            · cases List.mem_singleton.mp q; exact ⟨ox, by omega⟩
            · have := r2 y q; exact ⟨this.1, by omega⟩
          · rw [jA, ← List.append_assoc, show tp + ((jes s0).length + P.length + (jes c0).length) = tp + (jes s0).length + P.length + (jes c0).length by omega]
            exact r3
          · rw [jA] at hi
            rw [jes_app, jes_app]
            by_cases q1 : i < (jes s0).length
            · rw [r5 95 _ (by omega) (by omega) (by omega) (by omega), v4 i q1, List.append_assoc, jgd_l q1]
            · by_cases q2 : i < (jes s0).length + P.length
              · rw [r5 95 _ (by omega) (by omega) (by omega) (by omega), show tp + i = tp + (jes s0).length + (i - (jes s0).length) by omega, v5 _ (by omega), List.append_assoc, jgd_r (by omega), jgd_l (by rw [jl]; omega)]
              · rw [show tp + i = tp + (jes s0).length + P.length + (i - (jes s0).length - P.length) by omega, r4 _ (by omega), jgd_r (by rw [List.length_append, jl]; omega), List.length_append, jl, show i - ((jes s0).length + P.length) = i - (jes s0).length - P.length by omega]
          · rw [r7 (by omega), v8] at z
            exact absurd z (by decide)
    · have no : ∀ x, ¬ opk f n p1 = some (4, x) := fun x h => op ⟨x, h⟩
      refine ⟨.inr (s1, p1), ⟨t1, t2, t3, t4, fun dd hdd => t5 dd (by omega), fun k' x' h => ?_⟩, fun I sz hC h42 hsz => ?_, fun I J W tp hE hw hk' b1 b2 h4 => ?_⟩
      · have ne4 : ¬ k' = 4 := fun e => no x' (by rw [← e]; exact h)
        rcases t6 k' x' h with q | q
        · exact Or.inl (by omega)
        · omega
      · obtain ⟨I1, e1, c1, co1⟩ := cs I sz hC h42 hsz
        refine ⟨I1, ?_, c1, co1⟩
        have s60 : sgn f n p1 60 = false := by
          cases e : sgn f n p1 60 with
          | false => rfl
          | true => exact absurd (opk_4.1 e) (no _)
        have s61 : sgn f n p1 61 = false := by
          cases e : sgn f n p1 61 with
          | false => rfl
          | true => exact absurd (opk_4.2.1 s60 e) (no _)
        have c60 : zT_isSign (60 : Int32) I1 = some 0 := (jc_isSign c1 (c := 60) (by decide)).trans (by rw [s60]; rfl)
        have c61 : zT_isSign (61 : Int32) I1 = some 0 := (jc_isSign c1 (c := 61) (by decide)).trans (by rw [s61]; rfl)
        unfold zR_readTest
        rw [e1, Option.bind_some, if_pos (show ¬ (1 : Int32) = 0 by decide)]
        dsimp only
        rw [c60, Option.bind_some, if_neg (fun h => h rfl), c61, Option.bind_some, if_neg (fun h => h rfl)]
      · obtain ⟨s0, P, I1, J1, a1, a2, a3, a4, a5, a6, a7, a8, a9, a10, a11⟩ := rs' I J W tp hE hw hk' b1 b2 h4
        exact ⟨s0, P, I1, J1, a1, fun y hy => ⟨(a2 y hy).1, by have := (a2 y hy).2; omega⟩, a3, a4, a5, a6, fun h => by omega, fun _ _ => no, a9, a10, a11⟩
