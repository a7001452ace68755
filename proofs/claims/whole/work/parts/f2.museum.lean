/-! ===== museum ===== -/
theorem zR_read_k (x : Int32) (I : iq_I) (k : iq_I → Option (Int32 × iq_I)) : ((zU_clear I).bind fun q1 => (zG_clear q1).bind fun q2 => ir_let (iq_upI q2 61 1 (0 : Int32)) fun I3 => ir_let (iq_upI I3 61 0 (-1 : Int32)) fun I4 => (zT_begin x I4).bind k) = ((zU_clear I).bind fun q1 => (zG_clear q1).bind fun q2 => ir_let (iq_upI q2 61 1 (0 : Int32)) fun I3 => ir_let (iq_upI I3 61 0 (-1 : Int32)) fun I4 => zT_begin x I4).bind k := by
  cases zU_clear I with
  | none => rfl
  | some q1 =>
    rw [Option.bind_some, Option.bind_some]
    cases zG_clear q1 with
    | none => rfl
    | some q2 => rw [Option.bind_some, Option.bind_some, ir_let, ir_let, ir_let, ir_let]
theorem zR_read_e (x : Int32) (I : iq_I) : zR_read x I = ((zU_clear I).bind fun q1 => (zG_clear q1).bind fun q2 => ir_let (iq_upI q2 61 1 (0 : Int32)) fun I3 => ir_let (iq_upI I3 61 0 (-1 : Int32)) fun I4 => zT_begin x I4).bind fun q5 => (zR_read_l34 ir_F ((0 : Int32), q5)).bind fun w7 => ir_sm w7 (fun a8 => some ((a8 61 1), a8)) (fun b9 => some b9) := by
  unfold zR_read
  exact zR_read_k x I _
/-- the reference's cells at the start -/
def jS (I : iq_I) (x : Int32) : iq_I := iq_upI (iq_upI (iq_upI (iq_upI (iq_upI (iq_upI (iq_upI (iq_upI (iq_upI (iq_upI (iq_upI (iq_upI (iq_upI (iq_upI I 76 17 0) 76 19 (-1)) 76 18 0) 76 21 x) 76 22 0) 76 29 0) 76 30 0) 76 31 0) 76 32 0) 76 33 0) 76 34 (-1)) 76 35 0) 76 36 0) 76 37 0
theorem jS_f {I : iq_I} {x : Int32} {k j : Nat} (h : ¬ (k = 76 ∧ (j = 17 ∨ j = 18 ∨ j = 19 ∨ j = 21 ∨ j = 22 ∨ (29 ≤ j ∧ j ≤ 37)))) : jS I x k j = I k j := by
  unfold jS
  by_cases e : k = 76
  · subst e
    rw [up_ni (by omega), up_ni (by omega), up_ni (by omega), up_ni (by omega), up_ni (by omega), up_ni (by omega), up_ni (by omega), up_ni (by omega), up_ni (by omega), up_ni (by omega), up_ni (by omega), up_ni (by omega), up_ni (by omega), up_ni (by omega)]
  · rw [up_nk e, up_nk e, up_nk e, up_nk e, up_nk e, up_nk e, up_nk e, up_nk e, up_nk e, up_nk e, up_nk e, up_nk e, up_nk e, up_nk e]
theorem jS_v (I : iq_I) (x : Int32) : jS I x 76 17 = 0 ∧ jS I x 76 18 = 0 ∧ jS I x 76 19 = -1 ∧ jS I x 76 21 = x ∧ jS I x 76 22 = 0 ∧ ∀ j, 29 ≤ j → j ≤ 37 → jS I x 76 j = if j = 34 then -1 else 0 := by
  refine ⟨rfl, rfl, rfl, rfl, rfl, fun j h1 h2 => ?_⟩
  have : j = 29 ∨ j = 30 ∨ j = 31 ∨ j = 32 ∨ j = 33 ∨ j = 34 ∨ j = 35 ∨ j = 36 ∨ j = 37 := by omega
  rcases this with rfl | rfl | rfl | rfl | rfl | rfl | rfl | rfl | rfl <;> rfl
theorem zM_23_e (x : Int32) (I : iq_I) (J : iq_J) : zM_museum_23 x (1 : Int32) (jz I) J = ((zM_museum_l104 J ir_F ((0 : Int32), jS (jz I) x)).bind fun w18 => (zM_museum_l125 J ir_F ((0 : Int32), w18)).bind fun w20 => ir_let (iq_upI w20 94 5 (0 : Int32)) fun I21 => zM_goes I21 J).bind fun q22 => (zM_museum_l155 ir_F (q22.1, q22.2)).bind fun w25 => zM_museum_176 w25.1 w25.2 := by
  unfold zM_museum_23
  rw [jm_right1 rfl, Option.bind_some, if_pos (show ¬ (1 : Int32) = 0 by decide)]
  rw [ir_let, ir_let, ir_let, ir_let, ir_let, ir_let, ir_let, ir_let, ir_let, ir_let, ir_let, ir_let, ir_let, ir_let]
  unfold jS
  cases zM_museum_l104 J ir_F ((0 : Int32), iq_upI (iq_upI (iq_upI (iq_upI (iq_upI (iq_upI (iq_upI (iq_upI (iq_upI (iq_upI (iq_upI (iq_upI (iq_upI (iq_upI (jz I) 76 17 0) 76 19 (-1)) 76 18 0) 76 21 x) 76 22 0) 76 29 0) 76 30 0) 76 31 0) 76 32 0) 76 33 0) 76 34 (-1)) 76 35 0) 76 36 0) 76 37 0) with
  | none => rfl
  | some w18 =>
    rw [Option.bind_some, Option.bind_some]
    cases zM_museum_l125 J ir_F ((0 : Int32), w18) with
    | none => rfl
    | some w20 => rfl
theorem jad_S {I : iq_I} {x : Int32} : jad [0, 6, 7] I (jS I x) := fun k j hk => jS_f fun e => by
  obtain ⟨rfl, e⟩ := e
  have : j = 17 ∨ j = 18 ∨ j = 19 ∨ j = 21 ∨ j = 22 ∨ j = 29 ∨ j = 30 ∨ j = 31 ∨ j = 32 ∨ j = 33 ∨ j = 34 ∨ j = 35 ∨ j = 36 ∨ j = 37 := by omega
  rcases this with rfl | rfl | rfl | rfl | rfl | rfl | rfl | rfl | rfl | rfl | rfl | rfl | rfl | rfl <;> exact hk (by decide)
theorem frC_ag {I I' : iq_I} (h : frC I I') : jag I I' := fun k j hk => h k j (by
  apply Classical.byContradiction
  intro hc
  have : 38 ≤ k ∧ k ≤ 62 := by omega
  unfold jsc at hk
  simp [this] at hk)
theorem jad_fz {L : List Nat} {I I' : iq_I} (h : jfz I I') (h0 : 0 ∈ L) (h7 : 7 ∈ L) : jad L I I' := fun k j hk => h k j (jsd_sc (by
  cases e : jsc k j with
  | false => rfl
  | true => rw [ut_sc e] at hk; exact absurd h0 hk)) (fun e => by obtain ⟨rfl, rfl⟩ := e; exact hk h7)
def jAnM (r : Int32 ⊕ Nat) (b t : Int32) : Prop := (∃ v, r = .inl v ∧ b = v ∧ t = 0) ∨ (r = .inr 1 ∧ t = 1)
theorem jq_museum {I : iq_I} (hI : jInv I) (x : Int32) (X : iq_X) : ∃ r I1 X1, zO_museum x I X = some (r, I1, X1) ∧ jXo X X1 ∧ (∀ j, I1 0 j = I 0 j) ∧ ∀ J : iq_J, ∃ b I2 J2, zM_museum x I1 J = some (b, I2, J2) ∧ (∀ k j, ¬ k = 76 → J2 k j = J k j) ∧ jInv I2 ∧ jAnM r b (I2 76 0) := by
  obtain ⟨m, g, hm, hU, hN, hB, hM, hi, ⟨t, t1, t2, t3, t4⟩, hf, hr⟩ := jInv_iff.mp hI
  by_cases hx : ∃ n, n ≤ t ∧ x = jn n
  · obtain ⟨n, hnt, rfl⟩ := hx
    have hn : n ≤ 700 := by omega
    have hT : jTx (iq_upI I 1 11 0) 2 (fun i => (I 2 i).toNatClampNeg) n := by
      refine ⟨hn, fun i hi => ?_⟩
      obtain ⟨-, b, hb, eb⟩ := t4 i (by omega)
      have ec : (I 2 i).toNatClampNeg = b := by rw [eb]; exact jn_clamp (by omega)
      dsimp only
      rw [ec, up_nk (by decide)]
      exact ⟨hb, eb⟩
    obtain ⟨I5, e5, d5, f5⟩ := jc_begin hT
    obtain ⟨o, st, mc, mm⟩ := linesJ (f := fun i => (I 2 i).toNatClampNeg) hn n 0 0 m0 c0 g0 (by omega) (Nat.zero_le _) (Nat.le_refl _) dOk_0
    have q := mc I5 0 d5 (Nat.le_refl _) ir_F (by unfold ir_F; omega)
    have cR : zO_museum (jn n) I X = (zR_read (jn n) (iq_upI I 1 11 0)).bind fun q2 => if q2.1 = 0 then (ir_let (iq_upI q2.2 1 12 (-1 : Int32)) fun I3 => (zU_copyFrom I3).bind fun q4 => (zG_copyFrom_16_50 q4).bind fun q5 => ir_let (iq_upI q5 1 13 (0 : Int32)) fun I6 => some (.inl (0 : Int32), I6, X)) else (ir_let (iq_upI q2.2 1 12 (q2.2 61 0)) fun I7 => ir_let (iq_upI I7 3 0 ((I7 3 0) + (1 : Int32))) fun I8 => some (.inl q2.1, I8, X)) := by
      unfold zO_museum
      rw [if_neg (by rw [jl0, jn_lt (by omega) (by omega)]; omega), t2, if_pos (by rw [jn_le (by omega) (by omega)]; exact hnt), ir_let]
    -- the reference begins on the memory that the class left
    have mR : ∀ (K : iq_I) (J : iq_J), (∀ j, K 85 j = I 85 j) → K 76 17 = I 76 17 → ∃ I' J', DM I' J' (fun i => (I 2 i).toNatClampNeg) n 0 m0 c0 g0 0 ∧ jgm (jS (jz K) (jn n)) I' ∧ (∀ k j, ¬ k = 76 → J' k j = J k j) ∧ zM_museum (jn n) K J = (zM_museum_l155 ir_F (I', J')).bind fun w25 => zM_museum_176 w25.1 w25.2 := fun K J h85 h17 => by
      obtain ⟨s17, s18, s19, s21, s22, s29⟩ := jS_v (jz K) (jn n)
      have hT' : jTx (jS (jz K) (jn n)) 85 (fun i => (I 2 i).toNatClampNeg) n := by
        refine ⟨hn, fun i hi => ?_⟩
        obtain ⟨ea, b, hb, eb⟩ := t4 i (by omega)
        have ec : (I 2 i).toNatClampNeg = b := by rw [eb]; exact jn_clamp (by omega)
        dsimp only
        rw [ec, jS_f (by omega)]
        exact ⟨hb, by show K 85 i = _; rw [h85, ea, eb]⟩
      obtain ⟨I', J', e1, d1, a1, j1⟩ := jm_begin (J := J) hT' s18 s21 s22 s29
      refine ⟨I', J', d1, a1, j1, ?_⟩
      unfold zM_museum
      rw [jzE, ir_let, if_neg (by rw [jl0, jn_lt (by omega) (by omega)]; omega), show jz K 76 17 = jn t by (show K 76 17 = _; rw [h17, t3]), if_neg (by rw [jn_lt (by omega) (by omega)]; omega), zM_23_e, e1, Option.bind_some]
    cases o with
    | inl ft =>
      obtain ⟨kd, pl⟩ := ft
      obtain ⟨k1, k2, k3⟩ := st
      obtain ⟨I6, e6, g6, f6⟩ := q
      have kd0 : ¬ jn kd = 0 := by rw [jl0, jn_inj (by omega) (by omega)]; omega
      have e6 : zR_read_l34 ir_F ((0 : Int32), I5) = some (.inr (jn kd, I6)) := e6
      have F6 : ∀ k j, k < 38 ∨ 62 < k → ¬ (k = 1 ∧ j = 11) → I6 k j = I k j := fun k j h1 h2 => by
        rw [f6 k j h1, f5 k j h1]
        by_cases c : k = 1
        · subst c; rw [up_ni (by omega)]
        · rw [up_nk c]
      have e3 : iq_upI I6 1 12 (jn pl) 3 0 = I 3 0 := by rw [up_nk (by decide), F6 _ _ (by omega) (by omega)]
      have C8 : ∀ k j, k < 38 ∨ 62 < k → ¬ (k = 1 ∧ (j = 11 ∨ j = 12)) → ¬ (k = 3 ∧ j = 0) → iq_upI (iq_upI I6 1 12 (jn pl)) 3 0 (I 3 0 + 1) k j = I k j := fun k j h1 h2 h3 => by
        by_cases c : k = 3
        · subst c; rw [up_ni (by omega), up_nk (by decide), F6 _ _ h1 (by omega)]
        · rw [up_nk c]
          by_cases c2 : k = 1
          · subst c2; rw [up_ni (by omega), F6 _ _ h1 (by omega)]
          · rw [up_nk c2, F6 _ _ h1 (by omega)]
      refine ⟨.inl (jn kd), iq_upI (iq_upI I6 1 12 (jn pl)) 3 0 (I 3 0 + 1), X, ?_, Or.inl rfl, fun j => C8 _ _ (by omega) (by omega) (by omega), fun J => ?_⟩
      · rw [cR, zR_read_e, e5, Option.bind_some, e6, Option.bind_some]
        show (some (jn kd, I6)).bind _ = _
        rw [Option.bind_some, if_neg kd0]
        dsimp only
        rw [g6, ir_let, e3, ir_let]
      · obtain ⟨I', J', d1, a1, j1, e1⟩ := mR (iq_upI (iq_upI I6 1 12 (jn pl)) 3 0 (I 3 0 + 1)) J (fun j => C8 _ _ (by omega) (by omega) (by omega)) (C8 _ _ (by omega) (by omega) (by omega))
        obtain ⟨w, e2, ⟨w18, w19, wz, wj⟩⟩ := mm I' J' 0 d1 (Nat.le_refl _) ir_F (by unfold ir_F; omega)
        have b2 : ¬ w.1 76 18 = 0 := by rw [w18]; exact kd0
        -- what stands where at the end
        have W : ∀ k j, jsd k j = false → ¬ (k = 76 ∧ (j = 0 ∨ j = 17 ∨ j = 18 ∨ j = 19 ∨ j = 21 ∨ j = 22 ∨ (29 ≤ j ∧ j ≤ 37))) → w.1 k j = iq_upI (iq_upI I6 1 12 (jn pl)) 3 0 (I 3 0 + 1) k j := fun k j h1 h2 => by
          rw [wz k j h1 (by omega), a1 k j h1, jS_f (by omega)]
          unfold jz
          by_cases c : k = 76
          · subst c; rw [up_ni (by omega)]
          · rw [up_nk c]
        refine ⟨jn kd, iq_upI w.1 86 0 (w.1 86 0 + 1), w.2, ?_, fun k j q => by rw [wj k j q, j1 k j q], ?_, Or.inl ⟨jn kd, rfl, rfl, ?_⟩⟩
        · rw [e1, e2, Option.bind_some]
          unfold zM_museum_176
          rw [jm_bad b2, Option.bind_some, if_neg (fun h => h rfl), ir_let, up_nk (by decide), w18]
        · have aa : jad [0, 6, 7, 8] I (iq_upI w.1 86 0 (w.1 86 0 + 1)) := by
            refine jad_up (jad_tr (I' := iq_upI (iq_upI I6 1 12 (jn pl)) 3 0 (I 3 0 + 1)) ?_ (jad_tr (jad_ag (jz_ag _) (by decide)) (jad_tr (jad_mo jad_S (by decide)) (jad_tr (jad_ag (jag_gm a1) (by decide)) (jad_fz wz (by decide) (by decide)))))) (show 8 ∈ [0, 6, 7, 8] by decide)
            refine jad_up (jad_up (jad_tr (jad_up (jad_rf _ I) (show 6 ∈ [0, 6, 7, 8] by decide)) (jad_ag (frC_ag (frC_tr f5 f6)) (by decide))) (show 7 ∈ [0, 6, 7, 8] by decide)) (show 8 ∈ [0, 6, 7, 8] by decide)
          have w1 : w.1 1 11 = 0 := by rw [W _ _ rfl (by omega), up_nk (by decide), up_ni (by decide), f6 _ _ (by omega), f5 _ _ (by omega), up_eq]
          have w2 : w.1 76 17 = 0 := by rw [wz _ _ rfl (by omega), a1 _ _ rfl, (jS_v _ _).1]
          have w3 : w.1 1 12 = jn pl := by rw [W _ _ rfl (by omega), up_nk (by decide), up_eq]
          refine jInv_iff.mpr ⟨m, g, hm, jRU_ad hU aa (by decide), jRN_ad hN aa (by decide), jRB_ad hB aa (by decide), jMn_ad hM aa (by decide), jIm_ad hi aa (by decide), ⟨0, by decide, by rw [up_nk (by decide), w1]; rfl, by rw [up_nk (by decide), w2]; rfl, fun i hi => absurd hi (Nat.not_lt_zero _)⟩, ?_, ?_⟩
          · show iq_upI w.1 86 0 (w.1 86 0 + 1) 76 19 = iq_upI w.1 86 0 (w.1 86 0 + 1) 1 12
            rw [up_nk (by decide), up_nk (by decide), w19, w3]
          · refine jRf_up hr 0 (by decide) (fun j hj => ?_) ?_ (fun j hj => ?_) ?_
            · rw [up_nk (by decide), W _ _ rfl (by omega), C8 _ _ (by omega) (by omega) (by omega)]
            · rw [up_nk (by decide), W _ _ rfl (by omega), up_eq]
            · rw [up_ni hj, W _ _ rfl (by omega), C8 _ _ (by omega) (by omega) (by omega)]
            · rw [up_eq, W _ _ rfl (by omega), C8 _ _ (by omega) (by omega) (by omega)]
        · rw [up_nk (by decide), wz _ _ rfl (by omega), a1 _ _ rfl, jS_f (by omega)]; rfl
    | inr ok =>
      obtain ⟨m', C', g'⟩ := ok
      have hd : dOk m' g' := st
      obtain ⟨I6, sz, e6, dU6, dG6, z6, f6⟩ := q
      have e6 : zR_read_l34 ir_F ((0 : Int32), I5) = some (.inr (0, I6)) := e6
      have F6 : ∀ k j, k < 38 ∨ 62 < k → ¬ (k = 1 ∧ j = 11) → I6 k j = I k j := fun k j h1 h2 => by
        rw [f6 k j h1, f5 k j h1]
        by_cases c : k = 1
        · subst c; rw [up_ni (by omega)]
        · rw [up_nk c]
      obtain ⟨K, K', e7, e8, c1, c2, r1, r2, r3, r4⟩ := jc_take (I := iq_upI I6 1 12 (-1)) hd (dU_f dU6 fun k j q1 q2 => up_nk (by omega)) (dG_f dG6 fun k j q => up_nk (by omega)) z6
      have C8 : ∀ k j, (k < 4 ∨ (26 < k ∧ k < 38) ∨ 62 < k) → ¬ (k = 1 ∧ (j = 11 ∨ j = 12 ∨ j = 13)) → iq_upI K' 1 13 0 k j = I k j := fun k j h1 h2 => by
        by_cases c : k = 1
        · subst c; rw [up_ni (by omega), c1 _ _ (by omega), up_ni (by omega), F6 _ _ (by omega) (by omega)]
        · rw [up_nk c, c1 _ _ (by omega), up_nk c, F6 _ _ (by omega) (by omega)]
      refine ⟨.inl 0, iq_upI K' 1 13 0, X, ?_, Or.inl rfl, fun j => C8 _ _ (by omega) (by omega), fun J => ?_⟩
      · rw [cR, zR_read_e, e5, Option.bind_some, e6, Option.bind_some]
        show (some ((0 : Int32), I6)).bind _ = _
        rw [Option.bind_some, if_pos rfl]
        dsimp only
        rw [ir_let, e7, Option.bind_some, e8, Option.bind_some, ir_let]
      · obtain ⟨I', J', d1, a1, j1, e1⟩ := mR (iq_upI K' 1 13 0) J (fun j => C8 _ _ (by omega) (by omega)) (C8 _ _ (by omega) (by omega))
        obtain ⟨I2, J2, tp, e2, w18, wN, wR, wt, wa, wj⟩ := mm I' J' 0 d1 (Nat.le_refl _) ir_F (by unfold ir_F; omega)
        have W : ∀ k j, jsd k j = false → ¬ (k = 76 ∧ (j = 0 ∨ j = 17 ∨ j = 18 ∨ j = 19 ∨ j = 21 ∨ j = 22 ∨ (29 ≤ j ∧ j ≤ 37))) → I2 k j = iq_upI K' 1 13 0 k j := fun k j h1 h2 => by
          rw [wa k j h1, a1 k j h1, jS_f (by omega)]
          unfold jz
          by_cases c : k = 76
          · subst c; rw [up_ni (by omega)]
          · rw [up_nk c]
        obtain ⟨L, e3, l1, l2, l3, l4, l5, l6, l7⟩ := jm_take (J := J2) hd w18 (by rw [W _ _ rfl (by omega), C8 _ _ (by omega) (by omega)]; exact hN.2.2.2.2.1) wN wR (by omega)
        have V : ∀ k j, k < 27 → jsd k j = false → L k j = iq_upI K' 1 13 0 k j := fun k j h1 h2 => by rw [l1 _ _ (by omega) (by omega) (by omega), W _ _ h2 (by omega)]
        refine ⟨0, L, J2, ?_, fun k j q => by rw [wj k j q, j1 k j q], ?_, Or.inl ⟨0, rfl, rfl, ?_⟩⟩
        · rw [e1, e2, Option.bind_some, e3]
        · have hU' : jRU L m' := by
            obtain ⟨h1, h2, h3, h4, h5, h6, h7, h8, h9, h10, h11, h12, h13, h14, h15⟩ := r1
            have V' : ∀ k j, 4 ≤ k → k ≤ 15 → ¬ k = 12 → L k j = K' k j := fun k j q1 q2 q3 => by
              have hs : jsd k j = false := by
                have : k = 4 ∨ k = 5 ∨ k = 6 ∨ k = 7 ∨ k = 8 ∨ k = 9 ∨ k = 10 ∨ k = 11 ∨ k = 13 ∨ k = 14 ∨ k = 15 := by omega
                rcases this with rfl | rfl | rfl | rfl | rfl | rfl | rfl | rfl | rfl | rfl | rfl <;> rfl
              rw [V k j (by omega) hs, up_nk (by omega)]
            have ru : ∀ v c, jRu K' 9 10 11 v c → jRu L 9 10 11 v c := fun v c ⟨x, q1, q2, q3, q4⟩ => ⟨x, by rw [V' _ _ (by omega) (by omega) (by omega), q1], by rw [V' _ _ (by omega) (by omega) (by omega), q2], q3, fun i hi => by rw [V' _ _ (by omega) (by omega) (by omega), q4 i hi]⟩
            exact ⟨by rw [V' _ _ (by omega) (by omega) (by omega), h1], by rw [V' _ _ (by omega) (by omega) (by omega), h2], by rw [V' _ _ (by omega) (by omega) (by omega), h3], by rw [V' _ _ (by omega) (by omega) (by omega), h4], by rw [V' _ _ (by omega) (by omega) (by omega), h5], fun w hw => by rw [V' _ _ (by omega) (by omega) (by omega), h6 w hw], fun w hw => by rw [V' _ _ (by omega) (by omega) (by omega), h7 w hw], fun k hk => by rw [V' _ _ (by omega) (by omega) (by omega), h8 k hk], fun w i hw hi => by rw [V' _ _ (by omega) (by omega) (by omega), h9 w i hw hi], fun s k hs hk => by rw [V' _ _ (by omega) (by omega) (by omega), h10 s k hs hk], fun k hk => by rw [V' _ _ (by omega) (by omega) (by omega), h11 k hk], by rw [V' _ _ (by omega) (by omega) (by omega), h12], by rw [V' _ _ (by omega) (by omega) (by omega), h13], fun v hv => ru _ _ (h14 v hv), fun c hc => ru _ _ (h15 c hc)⟩
          have hM' : jMn L m' g' := by
            have V' : ∀ k j, 16 ≤ k → k ≤ 26 → L k j = K' k j := fun k j q1 q2 => by
              have hs : jsd k j = false := by
                have : k = 16 ∨ k = 17 ∨ k = 18 ∨ k = 19 ∨ k = 20 ∨ k = 21 ∨ k = 22 ∨ k = 23 ∨ k = 24 ∨ k = 25 ∨ k = 26 := by omega
                rcases this with rfl | rfl | rfl | rfl | rfl | rfl | rfl | rfl | rfl | rfl | rfl <;> rfl
              rw [V k j (by omega) hs, up_nk (by omega)]
            refine ⟨hd.2.1, jRG_f r2 (V' _ _ (by decide) (by decide)) (V' _ _ (by decide) (by decide)) (fun j => V' _ _ (by decide) (by decide)) (fun j => V' _ _ (by decide) (by decide)) (fun j => V' _ _ (by decide) (by decide)), l4, ⟨0, by decide, by rw [V' _ _ (by decide) (by decide), r4]; rfl, by rw [l5]; rfl, fun _ => g', rfl, fun k hk => absurd hk (Nat.not_lt_zero _)⟩, ⟨0, by decide, by rw [V' _ _ (by decide) (by decide), r3]; rfl, by rw [l6]; rfl, fun i hi => absurd hi (Nat.not_lt_zero _)⟩⟩
          have i13 : L 1 13 = 0 := by rw [V _ _ (by decide) rfl, up_eq]
          have i11 : L 1 11 = 0 := by rw [V _ _ (by decide) rfl, up_ni (by decide), c1 _ _ (by omega), up_ni (by decide), f6 _ _ (by omega), f5 _ _ (by omega), up_eq]
          have i12 : L 1 12 = -1 := by rw [V _ _ (by decide) rfl, up_ni (by decide), c1 _ _ (by omega), up_eq]
          have i17 : L 76 17 = 0 := by rw [l1 _ _ (by omega) (by omega) (by omega), wa _ _ rfl, a1 _ _ rfl, (jS_v _ _).1]
          have i19 : L 76 19 = -1 := by rw [l1 _ _ (by omega) (by omega) (by omega), wa _ _ rfl, a1 _ _ rfl, (jS_v _ _).2.2.1]
          have i3 : ∀ j, L 3 j = I 3 j := fun j => by rw [V _ _ (by decide) rfl, C8 _ _ (by omega) (by omega)]
          have i86 : ∀ j, L 86 j = I 86 j := fun j => by rw [l1 _ _ (by omega) (by omega) (by omega), W _ _ rfl (by omega), C8 _ _ (by omega) (by omega)]
          refine jInv_iff.mpr ⟨m', g', hd.1, hU', l2, l3, hM', ⟨by rw [i13, l7], Or.inl i13⟩, ⟨0, by decide, by rw [i11]; rfl, by rw [i17]; rfl, fun i hi => absurd hi (Nat.not_lt_zero _)⟩, ?_, ?_⟩
          · show L 76 19 = L 1 12
            rw [i19, i12]
          · exact ⟨by rw [i86, i3]; exact hr.1, by rw [i86, i3]; exact hr.2.1, by rw [i86, i3]; exact hr.2.2⟩
        · rw [l1 _ _ (by omega) (by omega) (by omega), wa _ _ rfl, a1 _ _ rfl, jS_f (by omega)]; rfl
  · have hc : zO_museum x I X = some (.inr 1, I, ir_xx X) := by
      unfold zO_museum zO_museum_12
      rcases jx_no2 (by omega) hx with h | ⟨h1, h2⟩
      · rw [if_pos h]
      · rw [if_neg h1, t2, if_neg h2]
    refine ⟨.inr 1, I, ir_xx X, hc, Or.inr rfl, fun _ => rfl, fun J => ⟨0, jw I 1, J, ?_, fun _ _ _ => rfl, jInv_ag hI (jw_ag I 1), Or.inr ⟨rfl, rfl⟩⟩⟩
    have e22 : zM_museum_22 x (jz I) J = some (0, jw I 1, J) := by
      unfold zM_museum_22 zM_museum_23
      rw [show zM_right (0 : Int32) (1 : Int32) (jz I) = some (0, jw I 1) from rfl, Option.bind_some, if_neg (fun h => h rfl)]
    unfold zM_museum
    rw [jzE, ir_let]
    rcases jx_no2 (by omega) hx with h | ⟨h1, h2⟩
    · rw [if_pos h, e22]
    · rw [if_neg h1, show jz I 76 17 = jn t from t3, if_pos (Int32.not_le.mp h2), e22]
