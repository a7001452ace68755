/-! ===== expressions: from one strength to the next ===== -/
def RBa (n p : Nat) (I : iq_I) (J : iq_J) (w : iq_I × iq_J) : Prop := ∀ b, RB n b p I J w
theorem RA_0 {n p : Nat} {I : iq_I} {J : iq_J} {w : iq_I × iq_J} (hg : I 76 18 = 0) (h : RBa n p I J w) : RA n 0 p I J w := by
  refine RA_RB hg ?_ (h 0)
  refine js_0 (n := 19999) ?_
  dsimp only
  unfold zM_operand_l18_b
  rw [jm_good hg, Option.bind_some, if_neg (by decide), if_pos rfl]
theorem RSp_mo {X Y : Nat → iq_I → iq_J → (iq_I × iq_J) → Prop} {k : Nat} {f : Nat → Nat} {n d p : Nat} {o : jOut} (hXY : ∀ I J w, I 76 18 = 0 → X p I J w → Y p I J w) (h : RSp X k f n d p o) : RSp Y k f n d p o := by
  intro I J W tp hE hw hk b1 b2 h4
  have q := h I J W tp hE hw hk b1 b2 h4
  cases o with
  | inl ft =>
    obtain ⟨kd, pl⟩ := ft
    obtain ⟨w, q1, q2⟩ := q
    exact ⟨w, hXY _ _ _ hE.2.1 q1, q2⟩
  | inr ok =>
    obtain ⟨s, p'⟩ := ok
    obtain ⟨s0, P, I', J', a1, a2, a3, a4, a5, a6, a7, a8, a9, a10, a11⟩ := q
    exact ⟨s0, P, I', J', a1, a2, a3, a4, a5, a6, a7, a8, a9, a10, fun w hw => hXY _ _ _ hE.2.1 (a11 w hw)⟩
theorem levJ {k ne d : Nat} {f : Nat → Nat} {n p : Nat} {X : Nat → iq_I → iq_J → (iq_I × iq_J) → Prop} (hk : k = 1 ∨ k = 2 ∨ k = 5 ∨ k = 6) (hn : n ≤ 700) {sub fn : iq_I → Option (Int32 × iq_I)} {body : Int32 × iq_I → Option ((Int32 × iq_I) ⊕ (iq_I ⊕ (Int32 × iq_I)))}
    (hfn : ∀ I, fn I = (sub I).bind fun q1 => if ¬ q1.1 = 0 then (iq_lp body ir_F ((0 : Int32), q1.2)).bind fun w7 => ir_sm w7 (fun a8 => some ((1 : Int32), a8)) (fun b9 => some b9) else some ((0 : Int32), q1.2))
    (h1 : ∃ o, Stt (k + 1) ne f n p o ∧ CSp sub f n p o ∧ RSp X (k + 1) f n d p o)
    (hl : ∀ p1, p1 ≤ n → nx (k + 1) f n p1 → ∃ o, LStt k ne f n p1 o ∧ LCSp body f n p1 o ∧ RLp k f n d p1 o) :
    ∃ o, Stt k ne f n p o ∧ CSp fn f n p o ∧ RSp X k f n d p o := by
  obtain ⟨o, st, cs, rs⟩ := h1
  have rs' : ∀ I J W tp, EX I J f n p W d tp → wokL W → weak W k → W.length + (n - p) ≤ 900 → tp + W.length + 2 * (n - p) ≤ 3800 → (k ≤ 4 → I 97 d = 0) → _ := fun I J W tp hE hw hk' b1 b2 h4 => rs I J W tp hE hw (weak_mo hk' (by omega)) b1 b2 (fun h => h4 (by omega))
  cases o with
  | inl ft =>
    obtain ⟨kd, pl⟩ := ft
    refine ⟨.inl (kd, pl), st, fun I sz hC h42 hsz => ?_, rs'⟩
    obtain ⟨I1, e1, g1, g2, g3⟩ := cs I sz hC h42 hsz
    refine ⟨I1, ?_, g1, g2, g3⟩
    rw [hfn, e1, Option.bind_some, if_neg (fun h => h rfl)]
  | inr ok =>
    obtain ⟨s1, p1⟩ := ok
    obtain ⟨t1, t2, t3, t4, t5, t6⟩ := st
    obtain ⟨o2, lst, lcs, rlp⟩ := hl p1 t2 t6
    have bk : Bd ne (k + 1) ≤ Bd ne k := by unfold Bd; omega
    cases o2 with
    | inl ft =>
      obtain ⟨kd, pl⟩ := ft
      refine ⟨.inl (kd, pl), lst, fun I sz hC h42 hsz => ?_, fun I J W tp hE hw hk' b1 b2 h4 => ?_⟩
      · obtain ⟨I1, e1, c1, co1⟩ := cs I sz hC h42 hsz
        obtain ⟨I2, e2, g1, g2, g3⟩ := lcs I1 (sz + s1.length) 0 ir_F c1 co1.1 (by omega) (by omega) (by unfold ir_F; omega)
        refine ⟨I2, ?_, g1, g2, fun a j q1 q2 q3 q4 => by rw [g3 a j q1 q2 q3 q4, co1.2.2.2 a j q2 q3 q4]⟩
        rw [hfn, e1, Option.bind_some, if_pos (show ¬ (1 : Int32) = 0 by decide), show ((0 : Int32), I1) = (jn 0, I1) from rfl, e2, Option.bind_some]
        rfl
      · obtain ⟨s0, P, I1, J1, a1, a2, a3, a4, a5, a6, a7, a8, a9, a10, a11⟩ := rs' I J W tp hE hw hk' b1 b2 h4
        have lw : (W ++ P).length = W.length + P.length := List.length_append
        obtain ⟨w, u1, ⟨u2, u3, u4, u5⟩⟩ := rlp I1 J1 W P _ a3 (fun x hx => ⟨(a2 x hx).1, by have := (a2 x hx).2; omega⟩) hw hk' (by omega) (by omega) (fun h => a8 (by omega))
        exact ⟨w, a11 w u1, u2, u3, jfz_tr (jfz_fr a5) u4, fun a j q => by rw [u5 a j q, a6 a j q]⟩
    | inr ok =>
      obtain ⟨s2, p2⟩ := ok
      obtain ⟨l1, l2, l3, l4, l5, l6⟩ := lst
      refine ⟨.inr (s1 ++ s2, p2), ⟨by omega, l2, by rw [List.length_append]; omega, fun x hx => ?_, fun dd hdd => ?_, l6⟩, fun I sz hC h42 hsz => ?_, fun I J W tp hE hw hk' b1 b2 h4 => ?_⟩
      · rcases List.mem_append.mp hx with q | q
        · exact t4 x q
        · exact l4 x q
      · rw [jdp_app, t5 dd (by omega), Option.bind_some]
        exact l5 dd hdd
      · obtain ⟨I1, e1, c1, co1⟩ := cs I sz hC h42 hsz
        obtain ⟨I2, r, e2, hr, c2, co2⟩ := lcs I1 (sz + s1.length) 0 ir_F c1 co1.1 (by omega) (by omega) (by unfold ir_F; omega)
        refine ⟨I2, ?_, c2, CO_tr co1 co2⟩
        rw [hfn, e1, Option.bind_some, if_pos (show ¬ (1 : Int32) = 0 by decide), show ((0 : Int32), I1) = (jn 0, I1) from rfl, e2, Option.bind_some]
        rcases hr with rfl | rfl <;> rfl
      · obtain ⟨s0, P, I1, J1, a1, a2, a3, a4, a5, a6, a7, a8, a9, a10, a11⟩ := rs' I J W tp hE hw hk' b1 b2 h4
        have lw : (W ++ P).length = W.length + P.length := List.length_append
        obtain ⟨s0', P', I2, J2, u1, u2, u3, u4, u5, u6, u7, u8, u9, u10, u11⟩ := rlp I1 J1 W P _ a3 (fun x hx => ⟨(a2 x hx).1, by have := (a2 x hx).2; omega⟩) hw hk' (by omega) (by omega) (fun h => a8 (by omega))
        have jA : (jes (s0 ++ s0')).length = (jes s0).length + (jes s0').length := by rw [jes_app, List.length_append]
        refine ⟨s0 ++ s0', P', I2, J2, by rw [a1, List.append_assoc, u1, List.append_assoc], u2, ?_, fun i hi => ?_, jfr_tr a5 u5 (Nat.le_refl _) (by omega), fun a j q => by rw [u6 a j q, a6 a j q], fun h => by rw [u7 h, a7 (by omega)], u8, by rw [jA]; omega, by omega, fun w h => a11 w (u11 w h)⟩
        · rw [jA, ← Nat.add_assoc]; exact u3
        · rw [jA] at hi
          rw [jes_app]
          by_cases q : i < (jes s0).length
          · rw [u5 95 _ (by omega) (by omega) (by omega) (by omega), a4 i q, jgd_l q]
          · rw [show tp + i = tp + (jes s0).length + (i - (jes s0).length) by omega, u4 _ (by omega), jgd_r (by omega)]
theorem opk_6 {f : Nat → Nat} {n p : Nat} : (sgn f n p 42 = true → opk f n p = some (6, -15)) ∧ (sgn f n p 42 = false → sgn f n p 47 = true → opk f n p = some (6, -16)) ∧ (sgn f n p 42 = false → sgn f n p 47 = false → ∀ x, ¬ opk f n p = some (6, x)) := by
  refine ⟨fun h => ?_, fun h h' => ?_, fun h h' x e => ?_⟩
  · unfold opk
    simp [sgn_kw h, sgn_x h (show 42 ≠ 60 by decide), sgn_x h (show 42 ≠ 61 by decide), sgn_x h (show 42 ≠ 43 by decide), sgn_x h (show 42 ≠ 45 by decide), h]
  · unfold opk
    simp [sgn_kw h', sgn_x h' (show 47 ≠ 60 by decide), sgn_x h' (show 47 ≠ 61 by decide), sgn_x h' (show 47 ≠ 43 by decide), sgn_x h' (show 47 ≠ 45 by decide), h, h']
  · unfold opk at e
    rw [h, h'] at e
    split at e
    · cases e
    · split at e
      · cases e
      · split at e
        · cases e
        · split at e
          · cases e
          · split at e
            · cases e
            · split at e
              · cases e
              · simp at e
theorem opk_5 {f : Nat → Nat} {n p : Nat} : (sgn f n p 43 = true → opk f n p = some (5, -13)) ∧ (sgn f n p 43 = false → sgn f n p 45 = true → opk f n p = some (5, -14)) ∧ (sgn f n p 43 = false → sgn f n p 45 = false → ∀ x, ¬ opk f n p = some (5, x)) := by
  refine ⟨fun h => ?_, fun h h' => ?_, fun h h' x e => ?_⟩
  · unfold opk
    simp [sgn_kw h, sgn_x h (show 43 ≠ 60 by decide), sgn_x h (show 43 ≠ 61 by decide), h]
  · unfold opk
    simp [sgn_kw h', sgn_x h' (show 45 ≠ 60 by decide), sgn_x h' (show 45 ≠ 61 by decide), h, h']
  · unfold opk at e
    rw [h, h'] at e
    split at e
    · cases e
    · split at e
      · cases e
      · split at e
        · cases e
        · split at e
          · cases e
          · simp at e
            split at e
            · cases e
            · split at e <;> cases e
theorem opk_4 {f : Nat → Nat} {n p : Nat} : (sgn f n p 60 = true → opk f n p = some (4, -11)) ∧ (sgn f n p 60 = false → sgn f n p 61 = true → opk f n p = some (4, -12)) ∧ (sgn f n p 60 = false → sgn f n p 61 = false → ∀ x, ¬ opk f n p = some (4, x)) := by
  refine ⟨fun h => ?_, fun h h' => ?_, fun h h' x e => ?_⟩
  · unfold opk
    simp [sgn_kw h, h]
  · unfold opk
    simp [sgn_kw h', h, h']
  · unfold opk at e
    rw [h, h'] at e
    split at e
    · cases e
    · split at e
      · cases e
      · simp at e
        split at e
        · cases e
        · split at e
          · cases e
          · split at e
            · cases e
            · split at e <;> cases e
theorem opk_2 {f : Nat → Nat} {n p : Nat} : (kw f n p = some 14 → opk f n p = some (2, -10)) ∧ (¬ kw f n p = some 14 → ∀ x, ¬ opk f n p = some (2, x)) := by
  refine ⟨fun h => by unfold opk; rw [if_pos h], fun h x e => ?_⟩
  unfold opk at e
  rw [if_neg h] at e
  split at e
  · cases e
  · split at e
    · cases e
    · split at e
      · cases e
      · split at e
        · cases e
        · split at e
          · cases e
          · split at e
            · cases e
            · split at e <;> cases e
theorem opk_1 {f : Nat → Nat} {n p : Nat} : (kw f n p = some 15 → opk f n p = some (1, -9)) ∧ (¬ kw f n p = some 15 → ∀ x, ¬ opk f n p = some (1, x)) := by
  refine ⟨fun h => by unfold opk; rw [if_neg (by rw [h]; decide), if_pos h], fun h x e => ?_⟩
  unfold opk at e
  rw [if_neg h] at e
  split at e
  · cases e
  · split at e
    · cases e
    · split at e
      · cases e
      · split at e
        · cases e
        · split at e
          · cases e
          · split at e
            · cases e
            · split at e <;> cases e
