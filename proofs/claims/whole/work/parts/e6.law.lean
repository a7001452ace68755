/-! ===== lines: law ===== -/
theorem wrp_w {I : iq_I} : wrp (wrp (zR_passLineEnd I)) = wrp (zR_passLineEnd I) := by
  unfold wrp
  cases zR_passLineEnd I with
  | none => rfl
  | some v =>
    rw [Option.bind_some]
    by_cases q : v.1 = 0 ∨ v.1 = 1
    · rw [if_pos q, Option.bind_some, if_pos q]
    · rw [if_neg q]; rfl
theorem lnLaw {f : Nat → Nat} {n p : Nat} {m : jMu} {C : Nat → Bool} {g : jGa} (hn : n ≤ 700) (hp : p ≤ n) (hd : dOk m g) (hk : kw f n p = some 13) : ∃ o, LStL n p o ∧ LpC zR_readLaw f n p m C g o ∧ LpM fmLa f n p m C g o := by
  have hm := hd.1
  have hV4 := hm.2.2.2.2.2.1
  have ta1 := ta_sp (f := f) hp
  have tz1 := tz_sp (f := f) hp
  have tz3 := tz1.2.2.1 (by rw [(kw_lt hk).2]; decide)
  cases hL : mC m with
  | none =>
    obtain ⟨o, st, cs, rs⟩ := ruleJ (f := f) hn (tz f n p) tz1.2.1
    have cr := jc_rule (r := 4) hn hp (by omega) (by omega) st cs
    have cS : ∀ I sz, DC I f n p m C g sz → CL (iq_upI I 42 1 1) f n p ∧ iq_upI I 42 1 1 42 2 = jn sz ∧ zR_readLaw I = wrp (zR_readRule (jn 4) (iq_upI I 42 1 1)) := fun I sz hD => by
      obtain ⟨hC, hU, hG⟩ := hD
      obtain ⟨h1, h2, h3, h4, h5, h6, h7, h8, h9, h10, h11, h12, h13, h14, h15, h16, h17⟩ := hU
      refine ⟨CL_f hC (fun j => up_nk (by decide)) (fun j => up_nk (by decide)), by rw [up_ni (by decide)]; exact h17, ?_⟩
      unfold zR_readLaw
      rw [h14, if_pos (by rw [if_pos hL]), ir_let]
      rfl
    have mS' : ∀ I J tp, DM I J f n p m C g tp → ∃ I2 J2, ML I2 J2 f n (tz f n p) ∧ I2 76 18 = 0 ∧ I2 76 37 = jn tp ∧ I2 76 34 = jn tp ∧ (∀ k j, ¬ (k = 76 ∧ ((22 ≤ j ∧ j ≤ 27) ∨ j = 34)) → I2 k j = I k j) ∧ (∀ k j, ¬ k = 76 → J2 k j = J k j) ∧ fmLa I J = (zM_expression I2 J2).bind fun q8 => zM_line_311 q8.1 q8.2 := fun I J tp hD => by
      obtain ⟨I1, J1, e1, m1, g1, j1⟩ := ML_next hD.1
      have s37 : I1 76 37 = jn tp := by rw [g1 _ _ (by omega)]; exact hD.2.2.1.2.2.2.2.2.2.2.2.2.2.2.2.2.2
      have fr : ∀ k j, ¬ (k = 76 ∧ j = 34) → iq_upI I1 76 34 (jn tp) k j = I1 k j := fun k j q1 => by
        by_cases c : k = 76
        · subst c; rw [up_ni (by omega)]
        · rw [up_nk c]
      refine ⟨iq_upI I1 76 34 (jn tp), J1, ML_f m1 (fun j => fr _ _ (by omega)) (fun j _ _ => fr _ _ (by omega)) rfl, by rw [fr _ _ (by omega), g1 _ _ (by omega)]; exact hD.2.1, by rw [fr _ _ (by omega)]; exact s37, up_eq, fun k j q1 => by rw [fr k j (by omega), g1 k j (by omega)], j1, ?_⟩
      unfold fmLa zM_line_279
      rw [hD.2.2.1.2.2.2.2.2.2.2.2.2.2.2.2.1 hL, if_pos rfl, jm_good hD.2.1, Option.bind_some, if_pos (by decide), e1, Option.bind_some]
      dsimp only
      rw [s37, ir_let]
    have ag : ∀ I I2 : iq_I, (∀ k j, ¬ (k = 76 ∧ ((22 ≤ j ∧ j ≤ 27) ∨ j = 34)) → I2 k j = I k j) → jgm I I2 := fun I I2 f2 k j hk => f2 k j (fun e => by
      obtain ⟨rfl, e⟩ := e
      have : j = 22 ∨ j = 23 ∨ j = 24 ∨ j = 25 ∨ j = 26 ∨ j = 27 ∨ j = 34 := by omega
      rcases this with rfl | rfl | rfl | rfl | rfl | rfl | rfl <;> cases hk)
    cases o with
    | inl ft =>
      obtain ⟨kd, pl⟩ := ft
      refine ⟨.inl (kd, pl), st, fun I sz hD hs => ?_, fun I J tp hD hs => ?_⟩
      · obtain ⟨c1, s1, e1⟩ := cS I sz hD
        obtain ⟨I2, e2, g1, g2, f2⟩ := cr _ sz c1 s1 hs
        exact ⟨I2, by rw [e1, e2, wrp_0], g1, g2, fun k j q => by rw [f2 k j q, up_nk (by omega)]⟩
      · obtain ⟨I2, J2, m2, g2, s37, s34, f2, j2, e2⟩ := mS' I J tp hD
        obtain ⟨w, e3, fl⟩ := rs I2 J2 tp m2 g2 s37 (by omega)
        have b3 : ¬ w.1 76 18 = 0 := by
          have k1 := st.1
          have k2 := st.2.1
          rw [fl.1, jl0, jn_inj (by omega) (by omega)]; omega
        refine ⟨w, ?_, Flt_tr fl (ag I I2 f2) j2⟩
        rw [e2, e3, Option.bind_some, jm_311b b3]
    | inr ok =>
      obtain ⟨s, p'⟩ := ok
      have st' := st
      obtain ⟨t1, t2, t3, t4, t5, t6⟩ := st'
      refine ⟨.inr (mLw1 m s, C, g, p'), ⟨dOk_lw hd (jcode_st st), by omega, t2⟩, fun I sz hD hs => ?_, fun I J tp hD hs => ?_⟩
      · obtain ⟨c1, s1, e1⟩ := cS I sz hD
        obtain ⟨I2, e2, c2, a1, a2, a3, a4, a5, a6⟩ := cr _ sz c1 s1 hs
        have fr : ∀ k j, ¬ k = 62 → ¬ k = 43 → ¬ (k = 42 ∧ (j = 2 ∨ j = 1)) → ¬ (k = 44 ∧ j = 4) → ¬ (k = 45 ∧ j = 4) → I2 k j = I k j := fun k j q1 q2 q3 q4 q5 => by
          rw [a6 k j q1 q2 (by omega) q4 q5]
          by_cases c : k = 42
          · subst c; rw [up_ni (by omega)]
          · rw [up_nk c]
        refine ⟨I2, sz + s.length, ?_, ⟨c2, ?_, dG_f hD.2.2 fun k j q => fr k j (by omega) (by omega) (by omega) (by omega) (by omega)⟩, by omega, fun k j q => fr k j (by omega) (by omega) (by omega) (by omega) (by omega)⟩
        · rw [e1, e2, wrp_w]
        · obtain ⟨h1, h2, h3, h4, h5, h6, h7, h8, h9, h10, h11, h12, h13, h14, h15, h16, h17⟩ := hD.2.1
          have a3' : ∀ i, i < sz → I2 43 i = I 43 i := fun i hi => by rw [a3 i hi, up_nk (by decide)]
          refine ⟨by rw [fr _ _ (by omega) (by omega) (by omega) (by omega) (by omega)]; exact h1, by rw [fr _ _ (by omega) (by omega) (by omega) (by omega) (by omega)]; exact h2, by rw [fr _ _ (by omega) (by omega) (by omega) (by omega) (by omega)]; exact h3, by rw [fr _ _ (by omega) (by omega) (by omega) (by omega) (by omega)]; exact h4, by rw [fr _ _ (by omega) (by omega) (by omega) (by omega) (by omega)]; exact h5, by rw [fr _ _ (by omega) (by omega) (by omega) (by omega) (by omega)]; exact h6, fun w hw => by rw [fr _ _ (by omega) (by omega) (by omega) (by omega) (by omega)]; exact h7 w hw, fun w hw => by rw [fr _ _ (by omega) (by omega) (by omega) (by omega) (by omega)]; exact h8 w hw, fun k hk => by rw [fr _ _ (by omega) (by omega) (by omega) (by omega) (by omega)]; exact h9 k hk, fun w i hw hi => by rw [fr _ _ (by omega) (by omega) (by omega) (by omega) (by omega)]; exact h10 w i hw hi, fun s k hs hk => by rw [fr _ _ (by omega) (by omega) (by omega) (by omega) (by omega)]; exact h11 s k hs hk, fun k hk => by rw [fr _ _ (by omega) (by omega) (by omega) (by omega) (by omega)]; exact h12 k hk, by rw [fr _ _ (by omega) (by omega) (by omega) (by omega) (by omega)]; exact h13, ?_, fun v hv => ?_, fun c hc => ?_, a1⟩
          · rw [a6 _ _ (by omega) (by omega) (by omega) (by omega) (by omega), up_eq]; exact (if_neg (fun h => by cases h)).symm
          · have hv : v < mV m := hv
            exact jRuS_k (h15 v hv) (by omega) a3' (fr _ _ (by omega) (by omega) (by omega) (by omega) (by omega)) (fr _ _ (by omega) (by omega) (by omega) (by omega) (by omega)) rfl
          · have hc : some s = some c := hc
            cases hc
            exact ⟨sz, a4, a5, Nat.le_refl _, a2⟩
      · obtain ⟨I2, J2, m2, g2, s37, s34, f2, j2, e2⟩ := mS' I J tp hD
        obtain ⟨I3, J3, e3, m3, g3, s37', c95, f3, j3, ln⟩ := rs I2 J2 tp m2 g2 s37 (by omega)
        have fr : ∀ k j, ¬ (k = 76 ∧ ((22 ≤ j ∧ j ≤ 27) ∨ j = 34 ∨ (37 ≤ j ∧ j ≤ 39))) → ¬ (k = 95 ∧ tp ≤ j) → ¬ k = 96 → ¬ k = 97 → I3 k j = I k j := fun k j q1 q3 q4 q5 => by
          rw [f3 k j (by omega) q3 q4 (by omega), f2 k j (by omega)]
        refine ⟨I3, J3, tp + (jencs s).length, ?_, ⟨m3, g3, ?_, dR_f hD.2.2.2 (fr _ _ (by omega) (by omega) (by omega) (by omega)) (fun k j q => fr _ _ (by omega) (by omega) (by omega) (by omega))⟩, by omega, jgm_tr (ag I I2 f2) (jgm_fr f3), fun k j q => by rw [j3 k j q, j2 k j q]⟩
        · rw [e2, e3, Option.bind_some]
        · obtain ⟨h1, h2, h3, h4, h5, h6, h7, h8, h9, h10, h11, h12, h13, h14, h15⟩ := hD.2.2.1
          have c95' : ∀ i, i < tp → I3 95 i = I 95 i := fun i hi => fr _ _ (by omega) (by omega) (by omega) (by omega)
          refine ⟨by rw [fr _ _ (by omega) (by omega) (by omega) (by omega)]; exact h1, by rw [fr _ _ (by omega) (by omega) (by omega) (by omega)]; exact h2, by rw [fr _ _ (by omega) (by omega) (by omega) (by omega)]; exact h3, by rw [fr _ _ (by omega) (by omega) (by omega) (by omega)]; exact h4, by rw [fr _ _ (by omega) (by omega) (by omega) (by omega)]; exact h5, fun w hw => by rw [fr _ _ (by omega) (by omega) (by omega) (by omega)]; exact h6 w hw, fun w hw => by rw [fr _ _ (by omega) (by omega) (by omega) (by omega)]; exact h7 w hw, fun w i hw hi => by rw [fr _ _ (by omega) (by omega) (by omega) (by omega)]; exact h8 w i hw hi, fun s k hs hk => by rw [fr _ _ (by omega) (by omega) (by omega) (by omega)]; exact h9 s k hs hk, fun k hk => by rw [fr _ _ (by omega) (by omega) (by omega) (by omega)]; exact h10 k hk, by rw [fr _ _ (by omega) (by omega) (by omega) (by omega)]; exact h11, fun v hv => ?_, (fun e => by cases e), fun c hc => ?_, s37'⟩
          · obtain ⟨x, q1, q2⟩ := h12 v hv
            exact ⟨x, by rw [fr _ _ (by omega) (by omega) (by omega) (by omega)]; exact q1, jRnS_k q2 (by omega) c95'⟩
          · have hc : some s = some c := hc
            cases hc
            exact ⟨tp, by rw [f3 _ _ (by omega) (by omega) (by omega) (by omega), s34], Nat.le_refl _, c95⟩
  | some c =>
    have hne : ¬ mC m = none := by rw [hL]; intro h; cases h
    refine ⟨.inl (5, ta f n p), ⟨by decide, by decide, ta1.2.1⟩, fun I sz hD hs => ?_, fun I J tp hD hs => ?_⟩
    · obtain ⟨I1, e1, g1, g2, g3⟩ := jc_ref hD.1 5
      refine ⟨I1, ?_, g1, g2, fun k j q => g3 k j (by omega)⟩
      unfold zR_readLaw
      rw [hD.2.1.2.2.2.2.2.2.2.2.2.2.2.2.2.1, if_neg (by rw [if_neg hne]; decide)]
      exact e1
    · obtain ⟨I2, e2, b2, g2, -⟩ := jm_fl (J := J) hD.1 hD.2.1 (kd := 5) (by decide) (by decide)
      have e2 : zM_wrong (5 : Int32) I = some I2 := e2
      obtain ⟨x, q1, q2, -⟩ := hD.2.2.1.2.2.2.2.2.2.2.2.2.2.2.2.2.1 c hL
      refine ⟨(I2, J), ?_, g2⟩
      unfold fmLa zM_line_279
      rw [q1, if_neg (jn_ne (by omega) (by decide)), e2, Option.bind_some, jm_bad b2, Option.bind_some, if_neg (fun h => h rfl)]
