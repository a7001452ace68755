/-! ===== expressions: nots ===== -/
theorem notsJ {f : Nat → Nat} {n : Nat} (hn : n ≤ 700) : ∀ l c p, 6 - c ≤ l → c ≤ 6 → p ≤ n → ∃ o : Nat ⊕ (Nat × Nat), (match o with
    | .inr (c', p') => c ≤ c' ∧ c' ≤ 6 ∧ p + (c' - c) ≤ p' ∧ p' ≤ n ∧ ¬ kw f n p' = some 16
    | .inl pl => pl ≤ n) ∧
    (∀ R x1 I sz N, CL I f n p → I 42 2 = jn sz → 7 - c < N → match o with
      | .inr (c', p') => ∃ I', zR_readNot_l2 R x1 N (jn c, I) = some (.inl (jn c', I')) ∧ CL I' f n p' ∧ CO sz [] I I'
      | .inl pl => ∃ I', zR_readNot_l2 R x1 N (jn c, I) = some (.inr (0, I')) ∧ I' 61 1 = jn 2 ∧ I' 61 0 = jn pl ∧ (∀ k j, ¬ k = 61 → ¬ k = 62 → ¬ k = 43 → ¬ (k = 42 ∧ j = 2) → I' k j = I k j)) ∧
    (∀ I J W d tp N, EX I J f n p W d tp → wokL W → W.length + (n - p) ≤ 900 → tp + W.length + 2 * (n - p) ≤ 3800 → 8 - c < N → match o with
      | .inr (c', p') => ∃ I' J', zM_operand_l18 (1 : Int32) N (jn c, I, J) = some (I', J') ∧ EX I' J' f n p' (W ++ List.replicate (c' - c) (-8)) d tp ∧ (∀ k j, ¬ (k = 76 ∧ ((22 ≤ j ∧ j ≤ 27) ∨ j = 38)) → ¬ k = 96 → I' k j = I k j) ∧ (∀ k j, ¬ k = 76 → J' k j = J k j)
      | .inl pl => ∃ I' J' W', zM_operand_l18 (1 : Int32) N (jn c, I, J) = some (I', J') ∧ ¬ I' 76 18 = 0 ∧ I' 76 18 = jn 2 ∧ I' 76 19 = jn pl ∧ WO I' W' tp ∧ wokL W' ∧ W'.length ≤ W.length + (6 - c) ∧ jfz I I' ∧ (∀ k j, ¬ k = 76 → J' k j = J k j)) := by
  intro l
  induction l with
  | zero =>
    intro c p hl hc hp
    have c6 : c = 6 := by omega
    subst c6
    by_cases k : kw f n p = some 16
    · refine ⟨.inl (ta f n p), (ta_sp hp).2.1, fun R x1 I sz N hC h42 hN => ?_, fun I J W d tp N hE hw b1 b2 hN => ?_⟩
      · obtain ⟨N, rfl⟩ : ∃ N', N = N' + 1 := ⟨N - 1, by omega⟩
        obtain ⟨I1, e1, g1, g2, g3⟩ := jc_refuse hC (jn 2)
        have e1 : zR_refuse (2 : Int32) I = some (0, I1) := e1
        refine ⟨I1, js_0 ?_, g1, g2, fun a j q _ _ _ => g3 a j q⟩
        dsimp only
        unfold zR_readNot_l2_b
        rw [if_neg (by decide), jc_isW_5009 hC, Option.bind_some, decide_eq_true k, if_neg (by decide), if_neg (by decide), e1, Option.bind_some, if_pos (Or.inl rfl)]
      · obtain ⟨N, rfl⟩ : ∃ N', N = N' + 2 := ⟨N - 2, by omega⟩
        obtain ⟨I2, e2⟩ : ∃ I2, zM_wrong (jn 2) I = some I2 := ⟨_, jm_wrong hE.2.1⟩
        obtain ⟨u1, u2, u3, u4, u5, u6⟩ := jm_flt hE hw (by omega) (by omega) (by decide) (by decide) e2
        have e2 : zM_wrong (2 : Int32) I = some I2 := e2
        refine ⟨I2, J, W, ?_, u1, u2, u3, u4, hw, by omega, u5, fun _ _ _ => rfl⟩
        refine (js_1 (n := N + 1) (v' := (jn 7, I2, J)) ?_).trans (js_0 ?_)
        · dsimp only
          unfold zM_operand_l18_b zM_operand_50
          rw [jm_good hE.2.1, Option.bind_some, if_neg (by decide), if_neg (by decide), jm_knownWord hE.1, k, Option.bind_some, if_neg (fun h => h rfl), if_neg (fun h => h rfl), e2, Option.bind_some, jm_bad u1, Option.bind_some, if_neg (fun h => h rfl)]
          rfl
        · dsimp only
          unfold zM_operand_l18_b
          rw [jm_bad u1, Option.bind_some, if_pos rfl]
    · refine ⟨.inr (6, p), ⟨by omega, by omega, by omega, hp, k⟩, fun R x1 I sz N hC h42 hN => ?_, fun I J W d tp N hE hw b1 b2 hN => ?_⟩
      · obtain ⟨N, rfl⟩ : ∃ N', N = N' + 1 := ⟨N - 1, by omega⟩
        refine ⟨I, js_0 ?_, hC, CO_62 h42 fun _ _ _ => rfl⟩
        dsimp only
        unfold zR_readNot_l2_b
        rw [if_neg (by decide), jc_isW_5009 hC, Option.bind_some, decide_eq_false k, if_pos (show jB false = 0 from rfl)]
      · obtain ⟨N, rfl⟩ : ∃ N', N = N' + 1 := ⟨N - 1, by omega⟩
        have nk : ¬ jo (kw f n p) = 16 := by
          cases q : kw f n p with
          | none => decide
          | some c => have := (kw_lt q).1; rw [jo_some, jl16, jn_inj (by omega) (by omega)]; intro h; subst h; exact k q
        refine ⟨I, J, js_0 ?_, by rw [Nat.sub_self]; show EX I J f n p (W ++ []) d tp; rw [List.append_nil]; exact hE, fun _ _ _ _ => rfl, fun _ _ _ => rfl⟩
        dsimp only
        unfold zM_operand_l18_b
        rw [jm_good hE.2.1, Option.bind_some, if_neg (by decide), if_neg (by decide), jm_knownWord hE.1, Option.bind_some, if_pos nk]
  | succ l ih =>
    intro c p hl hc hp
    by_cases c6 : c = 6
    · exact ih c p (by omega) hc hp
    · by_cases k : kw f n p = some 16
      · have tz1 := tz_sp (f := f) hp
        have ta1 := ta_sp (f := f) hp
        have tz3 := tz1.2.2.1 (by rw [(kw_lt k).2]; decide)
        obtain ⟨o, st, cs, rs⟩ := ih (c + 1) (tz f n p) (by omega) (by omega) tz1.2.1
        have cst : ∀ R x1 I sz N, CL I f n p → I 42 2 = jn sz → ∃ I1, CL I1 f n (tz f n p) ∧ CO sz [] I I1 ∧ zR_readNot_l2 R x1 (N + 1) (jn c, I) = zR_readNot_l2 R x1 N (jn (c + 1), I1) := fun R x1 I sz N hC h42 => by
          obtain ⟨I1, e1, c1, f1⟩ := CL_next hC
          refine ⟨I1, c1, CO_62 h42 f1, js_1 ?_⟩
          dsimp only
          unfold zR_readNot_l2_b
          rw [if_neg (by rw [jl6, jn_lt (by omega) (by omega)]; omega), jc_isW_5009 hC, Option.bind_some, decide_eq_true k, if_neg (by decide), show jn c + (1 : Int32) = jn (c + 1) from jn_add _ 1, if_pos (by rw [jl6, jn_le (by omega) (by omega)]; omega), e1, Option.bind_some]
        have rst : ∀ I J W d tp N, EX I J f n p W d tp → W.length + (n - p) ≤ 900 → ∃ I1 J1, EX I1 J1 f n (tz f n p) (W ++ [-8]) d tp ∧ (∀ k j, ¬ (k = 76 ∧ ((22 ≤ j ∧ j ≤ 27) ∨ j = 38)) → ¬ k = 96 → I1 k j = I k j) ∧ (∀ k j, ¬ k = 76 → J1 k j = J k j) ∧ zM_operand_l18 (1 : Int32) (N + 1) (jn c, I, J) = zM_operand_l18 (1 : Int32) N (jn (c + 1), I1, J1) := fun I J W d tp N hE b1 => by
          obtain ⟨I1, e1, x1, f1⟩ := jm_waitsFor hE (by omega) (-8)
          obtain ⟨I2, J2, e2, m2, g2, j2⟩ := ML_next x1.1
          have e1 : zM_waitsFor (3 : Int32) I = some I1 := e1
          refine ⟨I2, J2, EX_go x1 m2 g2, fun k j q1 q2 => by rw [g2 k j (by omega), f1 k j (by omega) q2], j2, js_1 ?_⟩
          dsimp only
          unfold zM_operand_l18_b zM_operand_50
          rw [jm_good hE.2.1, Option.bind_some, if_neg (by decide), if_neg (by decide), jm_knownWord hE.1, k, Option.bind_some, if_neg (fun h => h rfl), if_pos (by rw [jl6, jn_inj (by omega) (by omega)]; exact c6), Option.bind_some, if_pos (by decide), e1, Option.bind_some, e2, Option.bind_some, show jn c + (1 : Int32) = jn (c + 1) from jn_add _ 1]
        cases o with
        | inl pl =>
          refine ⟨.inl pl, st, fun R x1 I sz N hC h42 hN => ?_, fun I J W d tp N hE hw b1 b2 hN => ?_⟩
          · obtain ⟨N, rfl⟩ : ∃ N', N = N' + 1 := ⟨N - 1, by omega⟩
            obtain ⟨I1, c1, co1, e1⟩ := cst R x1 I sz N hC h42
            obtain ⟨I2, e2, g1, g2, g3⟩ := cs R x1 I1 sz N c1 (by rw [co1.1]; rfl) (by omega)
            exact ⟨I2, e1.trans e2, g1, g2, fun a j q1 q2 q3 q4 => by rw [g3 a j q1 q2 q3 q4, co1.2.2.2 a j q2 q3 q4]⟩
          · obtain ⟨N, rfl⟩ : ∃ N', N = N' + 1 := ⟨N - 1, by omega⟩
            obtain ⟨I1, J1, x1, f1, j1, e1⟩ := rst I J W d tp N hE b1
            have l1 : (W ++ [(-8 : Int32)]).length = W.length + 1 := List.length_append
            obtain ⟨I2, J2, W', u1, u2, u3, u4, u5, u6, u7, u8, u9⟩ := rs I1 J1 (W ++ [-8]) d tp N x1 (wokL_app hw (Or.inr (by unfold wop; decide))) (by omega) (by omega) (by omega)
            have fz : jfz I I1 := fun k j h1 h2 => f1 k j (fun e => by
              obtain ⟨rfl, e⟩ := e
              have : j = 22 ∨ j = 23 ∨ j = 24 ∨ j = 25 ∨ j = 26 ∨ j = 27 ∨ j = 38 := by omega
              rcases this with rfl | rfl | rfl | rfl | rfl | rfl | rfl <;> cases h1) (fun e => by subst e; cases h1)
            exact ⟨I2, J2, W', e1.trans u1, u2, u3, u4, u5, u6, by omega, jfz_tr fz u8, fun a j q => by rw [u9 a j q, j1 a j q]⟩
        | inr ok =>
          obtain ⟨c', p'⟩ := ok
          obtain ⟨s1, s2, s3, s4, s5⟩ := st
          refine ⟨.inr (c', p'), ⟨by omega, s2, by omega, s4, s5⟩, fun R x1 I sz N hC h42 hN => ?_, fun I J W d tp N hE hw b1 b2 hN => ?_⟩
          · obtain ⟨N, rfl⟩ : ∃ N', N = N' + 1 := ⟨N - 1, by omega⟩
            obtain ⟨I1, c1, co1, e1⟩ := cst R x1 I sz N hC h42
            obtain ⟨I2, e2, c2, co2⟩ := cs R x1 I1 sz N c1 (by rw [co1.1]; rfl) (by omega)
            exact ⟨I2, e1.trans e2, c2, CO_tr co1 co2⟩
          · obtain ⟨N, rfl⟩ : ∃ N', N = N' + 1 := ⟨N - 1, by omega⟩
            obtain ⟨I1, J1, x1, f1, j1, e1⟩ := rst I J W d tp N hE b1
            have l1 : (W ++ [(-8 : Int32)]).length = W.length + 1 := List.length_append
            obtain ⟨I2, J2, u1, u2, u3, u4⟩ := rs I1 J1 (W ++ [-8]) d tp N x1 (wokL_app hw (Or.inr (by unfold wop; decide))) (by omega) (by omega) (by omega)
            refine ⟨I2, J2, e1.trans u1, ?_, fun a j q1 q2 => by rw [u3 a j q1 q2, f1 a j q1 q2], fun a j q => by rw [u4 a j q, j1 a j q]⟩
            rw [show c' - c = (c' - (c + 1)) + 1 by omega, List.replicate_succ]
            rw [List.append_assoc] at u2
            exact u2
      · refine ⟨.inr (c, p), ⟨by omega, by omega, by omega, hp, k⟩, fun R x1 I sz N hC h42 hN => ?_, fun I J W d tp N hE hw b1 b2 hN => ?_⟩
        · obtain ⟨N, rfl⟩ : ∃ N', N = N' + 1 := ⟨N - 1, by omega⟩
          refine ⟨I, js_0 ?_, hC, CO_62 h42 fun _ _ _ => rfl⟩
          dsimp only
          unfold zR_readNot_l2_b
          rw [if_neg (by rw [jl6, jn_lt (by omega) (by omega)]; omega), jc_isW_5009 hC, Option.bind_some, decide_eq_false k, if_pos (show jB false = 0 from rfl)]
        · obtain ⟨N, rfl⟩ : ∃ N', N = N' + 1 := ⟨N - 1, by omega⟩
          have nk : ¬ jo (kw f n p) = 16 := by
            cases q : kw f n p with
            | none => decide
            | some c => have := (kw_lt q).1; rw [jo_some, jl16, jn_inj (by omega) (by omega)]; intro h; subst h; exact k q
          refine ⟨I, J, js_0 ?_, by rw [Nat.sub_self]; show EX I J f n p (W ++ []) d tp; rw [List.append_nil]; exact hE, fun _ _ _ _ => rfl, fun _ _ _ => rfl⟩
          dsimp only
          unfold zM_operand_l18_b
          rw [jm_good hE.2.1, Option.bind_some, if_neg (by decide), if_neg (by decide), jm_knownWord hE.1, Option.bind_some, if_pos nk]
theorem jc_nots {R : Nat → Int32 → iq_I → Option (Int32 × iq_I)} {I : iq_I} {f : Nat → Nat} {n p sz c : Nat} (hC : CL I f n p) (h : I 42 2 = jn sz) (hs : sz + c ≤ 700) (hc : c ≤ 6) : ∃ I', zR_readNot_l57 R (jn c) ir_F ((0 : Int32), I) = some I' ∧ CL I' f n p ∧ CO sz (List.replicate c (-8)) I I' := by
  refine js_inv (fun i v => v.1 = jn i ∧ CL v.2 f n p ∧ CO sz (List.replicate i (-8)) I v.2) c _ ?_ ?_ c 0 ((0 : Int32), I) ir_F (by omega) ⟨rfl, hC, CO_62 h fun _ _ _ => rfl⟩ (by unfold ir_F; omega)
  · rintro i ⟨x, K⟩ hi ⟨h1, h2, h3⟩
    simp only at h1 h2 h3
    subst h1
    have l : (List.replicate i (-8 : Int32)).length = i := List.length_replicate
    obtain ⟨K', e, c', co⟩ := jc_step h2 h3.1 (by omega) (-8)
    refine ⟨(jn (i + 1), K'), ?_, rfl, c', ?_⟩
    · dsimp only
      unfold zR_readNot_l57_b
      rw [if_neg (by rw [jn_le (by omega) (by omega)]; omega), e, Option.bind_some, show jn i + (1 : Int32) = jn (i + 1) from jn_add _ 1]
    · have := CO_tr h3 co
      rwa [← List.replicate_succ'] at this
  · rintro ⟨x, K⟩ ⟨h1, h2, h3⟩
    simp only at h1 h2 h3
    subst h1
    refine ⟨K, ?_, h2, h3⟩
    dsimp only
    unfold zR_readNot_l57_b
    rw [if_pos (by rw [jn_le (by omega) (by omega)]; omega)]
theorem jdp_nots : ∀ (c d : Nat), 0 < d → jdp (List.replicate c (-8)) d = some d
  | 0, d, _ => rfl
  | c + 1, d, h => by
    rw [List.replicate_succ]
    unfold jdp
    rw [if_neg (by decide), if_pos rfl, if_pos h, jdp_nots c d h]
theorem notJ {ne : Nat} {f : Nat → Nat} {n : Nat} (hn : n ≤ 700) (hne : ne ≤ 5) (R : Nat → Int32 → iq_I → Option (Int32 × iq_I))
    (h4 : ∀ p, p ≤ n → ∃ o, Stt 4 ne f n p o ∧ CSp (R 102 (jn ne)) f n p o ∧ RSp (RBa n) 4 f n (ne + 1) p o) :
    ∀ p, p ≤ n → ∃ o, Stt 3 ne f n p o ∧ CSp (zR_readNot R (jn ne)) f n p o ∧ RSp (RA n 1) 3 f n (ne + 1) p o := by
  intro p hp
  have bk : Bd ne 3 = Bd ne 4 + 1 := by unfold Bd; omega
  obtain ⟨o1, st1, cs1, rs1⟩ := notsJ (f := f) hn 6 0 p (by omega) (by omega) hp
  cases o1 with
  | inl pl =>
    refine ⟨.inl (2, pl), ⟨by decide, by decide, st1⟩, fun I sz hC h42 hsz => ?_, fun I J W tp hE hw hk' b1 b2 h4' => ?_⟩
    · obtain ⟨I1, e1, g1, g2, g3⟩ := cs1 R (jn ne) I sz ir_F hC h42 (by unfold ir_F; omega)
      have e1 : zR_readNot_l2 R (jn ne) ir_F ((0 : Int32), I) = some (.inr (0, I1)) := e1
      refine ⟨I1, ?_, g1, g2, g3⟩
      unfold zR_readNot
      rw [e1, Option.bind_some]
      rfl
    · obtain ⟨I1, J1, W', u1, u2, u3, u4, u5, u6, u7, u8, u9⟩ := rs1 I J W (ne + 1) tp ir_F hE hw b1 b2 (by unfold ir_F; omega)
      have u1 : zM_operand_l18 (1 : Int32) ir_F ((0 : Int32), I, J) = some (I1, J1) := u1
      obtain ⟨w, r1, r2, r3, r4, r5⟩ := jm_badR (J := J1) u2 u5 u6 (by omega) (by omega)
      refine ⟨w, RA_RB hE.2.1 u1 (fun M N hM hN => ?_), by rw [r2, u3], by rw [r3, u4], jfz_tr u8 r4, fun k j q => by rw [r5, u9 k j q]⟩
      obtain ⟨M, rfl⟩ : ∃ M', M = M' + 1 := ⟨M - 1, by omega⟩
      have e75 : zM_operand_75 (1 : Int32) I1 J1 = some (.inl ((1 : Int32), (0 : Int32), I1, J1)) := by
        unfold zM_operand_75 zM_operand_95 zM_operand_96
        rw [jm_bad u2, Option.bind_some, if_pos rfl, if_pos rfl]
      have e4 : zM_operand_l4 (M + 1) ((1 : Int32), (0 : Int32), I1, J1) = some (I1, J1) := js_0 rfl
      rw [e75]
      unfold mBr
      dsimp only
      rw [e4, Option.bind_some]
      exact (r1 N (by omega)).2
  | inr ok =>
    obtain ⟨c, p1⟩ := ok
    obtain ⟨s1, s2, s3, s4, s5⟩ := st1
    obtain ⟨o, st, cs, rs⟩ := h4 p1 s4
    have l8 : (List.replicate c (-8 : Int32)).length = c := List.length_replicate
    have w8 : ∀ y ∈ List.replicate c (-8 : Int32), wop y ∧ 3 ≤ wst y := fun y hy => by
      have := List.eq_of_mem_replicate hy
      subst this
      exact ⟨by unfold wop; decide, by decide⟩
    have wk8 : ∀ W, wokL W → wokL (W ++ List.replicate c (-8)) := fun W hw y hy => by
      rcases List.mem_append.mp hy with q | q
      · exact hw y q
      · exact Or.inr (w8 y q).1
    have wa8 : ∀ W, weak W 3 → weak (W ++ List.replicate c (-8)) 4 := fun W hW V y e => by
      cases c with
      | zero =>
        have e : W = V ++ [y] := by rw [← e]; exact (List.append_nil W).symm
        exact weak_mo hW (by omega) V y e
      | succ c =>
        rw [List.replicate_succ', ← List.append_assoc] at e
        have := List.append_inj_right' e rfl
        cases this
        exact Or.inr (by decide)
    -- the reference is past the nots
    have rin : ∀ I J W tp, EX I J f n p W (ne + 1) tp → wokL W → W.length + (n - p) ≤ 900 → tp + W.length + 2 * (n - p) ≤ 3800 → ∃ I1 J1, EX I1 J1 f n p1 (W ++ List.replicate c (-8)) (ne + 1) tp ∧ jfr (ne + 1) tp I I1 ∧ I1 97 (ne + 1) = I 97 (ne + 1) ∧ (∀ k j, ¬ k = 76 → J1 k j = J k j) ∧ (∀ w, RBa n p1 I1 J1 w → RA n 1 p I J w) := fun I J W tp hE hw b1 b2 => by
      obtain ⟨I1, J1, u1, u2, u3, u4⟩ := rs1 I J W (ne + 1) tp ir_F hE hw b1 b2 (by unfold ir_F; omega)
      have u1 : zM_operand_l18 (1 : Int32) ir_F ((0 : Int32), I, J) = some (I1, J1) := u1
      rw [Nat.sub_zero] at u2
      refine ⟨I1, J1, u2, fun k j q1 q2 q3 q4 => u3 k j (by omega) q3, u3 97 _ (by omega) (by omega), u4, fun w hr => RA_RB hE.2.1 u1 (fun M N hM hN => hr 1 M N (by omega) (by omega))⟩
    have cin : ∀ I sz, CL I f n p → I 42 2 = jn sz → ∃ I1, CL I1 f n p1 ∧ CO sz [] I I1 ∧ zR_readNot R (jn ne) I = zR_readNot_45 R (jn ne) (jn c) I1 := fun I sz hC h42 => by
      obtain ⟨I1, e1, c1, co1⟩ := cs1 R (jn ne) I sz ir_F hC h42 (by unfold ir_F; omega)
      have e1 : zR_readNot_l2 R (jn ne) ir_F ((0 : Int32), I) = some (.inl (jn c, I1)) := e1
      refine ⟨I1, c1, co1, ?_⟩
      unfold zR_readNot
      rw [e1, Option.bind_some]
      rfl
    cases o with
    | inl ft =>
      obtain ⟨kd, pl⟩ := ft
      refine ⟨.inl (kd, pl), st, fun I sz hC h42 hsz => ?_, fun I J W tp hE hw hk' b1 b2 h4' => ?_⟩
      · obtain ⟨I1, c1, co1, e1⟩ := cin I sz hC h42
        obtain ⟨I2, e2, g1, g2, g3⟩ := cs I1 sz c1 (by rw [co1.1]; rfl) (by omega)
        refine ⟨I2, ?_, g1, g2, fun a j q1 q2 q3 q4 => by rw [g3 a j q1 q2 q3 q4, co1.2.2.2 a j q2 q3 q4]⟩
        rw [e1]
        unfold zR_readNot_45
        rw [e2, Option.bind_some, if_neg (fun h => h rfl)]
      · obtain ⟨I1, J1, x1, f1, t1, j1, run⟩ := rin I J W tp hE hw b1 b2
        have l1 : (W ++ List.replicate c (-8 : Int32)).length = W.length + c := by rw [List.length_append, l8]
        obtain ⟨w, r1, ⟨r2, r3, r4, r5⟩⟩ := rs I1 J1 _ tp x1 (wk8 W hw) (wa8 W hk') (by omega) (by omega) (fun _ => by rw [t1]; exact h4' (by omega))
        exact ⟨w, run w r1, r2, r3, jfz_tr (jfz_fr f1) r4, fun k j q => by rw [r5 k j q, j1 k j q]⟩
    | inr ok =>
      obtain ⟨s, p2⟩ := ok
      obtain ⟨t1, t2, t3, t4, t5, t6⟩ := st
      refine ⟨.inr (s ++ List.replicate c (-8), p2), ⟨by omega, t2, by rw [List.length_append, l8]; omega, fun x hx => ?_, fun dd hdd => ?_, fun k' x' h => ?_⟩, fun I sz hC h42 hsz => ?_, fun I J W tp hE hw hk' b1 b2 h4' => ?_⟩
      · rcases List.mem_append.mp hx with q | q
        · exact t4 x q
        · exact wop_16 (w8 x q).1
      · rw [jdp_app, t5 dd (by omega), Option.bind_some, jdp_nots c (dd + 1) (by omega)]
      · have o := opk_w h
        rcases t6 k' x' h with q | q
        · exact Or.inl (by omega)
        · exact Or.inr ⟨by omega, q.2⟩
      · obtain ⟨I1, c1, co1, e1⟩ := cin I sz hC h42
        obtain ⟨I2, e2, c2, co2⟩ := cs I1 sz c1 (by rw [co1.1]; rfl) (by omega)
        obtain ⟨I3, e3, c3, co3⟩ := jc_nots (R := R) (c := c) c2 co2.1 (by omega) s2
        refine ⟨I3, ?_, c3, ?_⟩
        · rw [e1]
          unfold zR_readNot_45
          rw [e2, Option.bind_some, if_pos (show ¬ (1 : Int32) = 0 by decide), e3, Option.bind_some]
        · have := CO_tr co1 (CO_tr co2 co3)
          rwa [List.nil_append] at this
      · obtain ⟨I1, J1, x1, f1, tt1, j1, run⟩ := rin I J W tp hE hw b1 b2
        have l1 : (W ++ List.replicate c (-8 : Int32)).length = W.length + c := by rw [List.length_append, l8]
        obtain ⟨s0, P, I2, J2, r1, r2, r3, r4, r5, r6, r7, r8, r9, r10, r11⟩ := rs I1 J1 _ tp x1 (wk8 W hw) (wa8 W hk') (by omega) (by omega) (fun _ => by rw [tt1]; exact h4' (by omega))
        refine ⟨s0, List.replicate c (-8) ++ P, I2, J2, ?_, fun y hy => ?_, by rw [← List.append_assoc]; exact r3, r4, jfr_tr f1 r5 (Nat.le_refl _) (Nat.le_refl _), fun k j q => by rw [r6 k j q, j1 k j q], fun h => by omega, fun _ => r8 (by omega), by rw [List.length_append, l8]; omega, by rw [List.length_append, l8]; omega, fun w h => run w (r11 w h)⟩
        · rw [r1, List.reverse_append, List.reverse_replicate, List.append_assoc]
        · rcases List.mem_append.mp hy with q | q
          · exact w8 y q
          · exact ⟨(r2 y q).1, by have := (r2 y q).2; omega⟩
