/-! ===== all lines ===== -/
abbrev jMO : Type := (Nat × Nat) ⊕ (jMu × (Nat → Bool) × jGa)
def MSt (n : Nat) : jMO → Prop
  | .inl (kd, pl) => 0 < kd ∧ kd < 10 ∧ pl ≤ n
  | .inr (m, _, g) => dOk m g
def MSc (f : Nat → Nat) (n p i : Nat) (m : jMu) (C : Nat → Bool) (g : jGa) (k : Nat) (o : jMO) : Prop := ∀ I sz, DC I f n p m C g sz → sz ≤ p → ∀ N, k < N → match o with
  | .inl (kd, pl) => ∃ I', zR_read_l34 N (jn i, I) = some (.inr (jn kd, I')) ∧ I' 61 0 = jn pl ∧ frC I I'
  | .inr (m', C', g') => ∃ I' sz', zR_read_l34 N (jn i, I) = some (.inr (0, I')) ∧ dU I' m' C' sz' ∧ dG I' g' ∧ sz' ≤ 700 ∧ frC I I'
def MSm (f : Nat → Nat) (n p : Nat) (m : jMu) (C : Nat → Bool) (g : jGa) (k : Nat) (o : jMO) : Prop := ∀ I J tp, DM I J f n p m C g tp → tp ≤ 3 * p → ∀ N, k + 1 < N → match o with
  | .inl (kd, pl) => ∃ w, zM_museum_l155 N (I, J) = some w ∧ Flt kd pl I J w
  | .inr (m', C', g') => ∃ I' J' tp', zM_museum_l155 N (I, J) = some (I', J') ∧ I' 76 18 = 0 ∧ dN I' m' C' tp' ∧ dR I' g' ∧ tp' ≤ 2100 ∧ jgm I I' ∧ (∀ k j, ¬ k = 76 → J' k j = J k j)
theorem linesJ {f : Nat → Nat} {n : Nat} (hn : n ≤ 700) : ∀ k p i m C g, n - p ≤ k → p ≤ n → i ≤ p → dOk m g → ∃ o, MSt n o ∧ MSc f n p i m C g k o ∧ MSm f n p m C g k o := by
  intro k
  induction k with
  | zero =>
    intro p i m C g hk hp hi hd
    have t0 : tt f n p = 0 := by
      have tz1 := tz_sp (f := f) hp
      have ta1 := ta_sp (f := f) hp
      apply Classical.byContradiction
      intro h
      have := tz1.2.2.1 h
      omega
    refine ⟨.inr (m, C, g), hd, fun I sz hD hs N hN => ?_, fun I J tp hD hs N hN => ?_⟩
    · obtain ⟨N', rfl⟩ : ∃ N', N = N' + 1 := ⟨N - 1, by omega⟩
      refine ⟨I, sz, js_0 ?_, hD.2.1, hD.2.2, by omega, frC_rf I⟩
      dsimp only
      unfold zR_read_l34_b
      rw [if_neg (by rw [jl700, jn_lt (by omega) (by omega)]; omega), hD.1.2.2.1, if_pos (by rw [t0]; rfl), hD.2.2.2.2.2]
    · obtain ⟨N', rfl⟩ : ∃ N', N = N' + 1 := ⟨N - 1, by omega⟩
      refine ⟨I, J, tp, js_0 ?_, hD.2.1, hD.2.2.1, hD.2.2.2, by omega, jgm_rf I, fun _ _ _ => rfl⟩
      dsimp only
      unfold zM_museum_l155_b
      rw [jm_good hD.2.1, Option.bind_some, if_neg (by decide), hD.1.2.2.2.2.1, if_pos (by rw [t0]; rfl)]
  | succ k ih =>
    intro p i m C g hk hp hi hd
    have t4 := tt_le (f := f) (n := n) (p := p)
    by_cases t0 : tt f n p = 0
    · refine ⟨.inr (m, C, g), hd, fun I sz hD hs N hN => ?_, fun I J tp hD hs N hN => ?_⟩
      · obtain ⟨N', rfl⟩ : ∃ N', N = N' + 1 := ⟨N - 1, by omega⟩
        refine ⟨I, sz, js_0 ?_, hD.2.1, hD.2.2, by omega, frC_rf I⟩
        dsimp only
        unfold zR_read_l34_b
        rw [if_neg (by rw [jl700, jn_lt (by omega) (by omega)]; omega), hD.1.2.2.1, if_pos (by rw [t0]; rfl), hD.2.2.2.2.2]
      · obtain ⟨N', rfl⟩ : ∃ N', N = N' + 1 := ⟨N - 1, by omega⟩
        refine ⟨I, J, tp, js_0 ?_, hD.2.1, hD.2.2.1, hD.2.2.2, by omega, jgm_rf I, fun _ _ _ => rfl⟩
        dsimp only
        unfold zM_museum_l155_b
        rw [jm_good hD.2.1, Option.bind_some, if_neg (by decide), hD.1.2.2.2.2.1, if_pos (by rw [t0]; rfl)]
    · have tn0 : ¬ jn (tt f n p) = 0 := by rw [jl0, jn_inj (by omega) (by omega)]; exact t0
      obtain ⟨o, st, hc, hm⟩ := lineJ (f := f) (C := C) hn hp hd
      have cB : ∀ I sz, DC I f n p m C g sz → zR_read_l34_b (jn i) I = (zR_readLine I).bind fun q6 => if ¬ q6.1 = 0 then some (.inl (jn (i + 1), q6.2)) else some (.inr (.inr ((q6.2 61 1), q6.2))) := fun I sz hD => by
        unfold zR_read_l34_b
        rw [if_neg (by rw [jl700, jn_lt (by omega) (by omega)]; omega), hD.1.2.2.1, if_neg tn0, show jn i + (1 : Int32) = jn (i + 1) from jn_add _ 1]
      have mB : ∀ I J tp, DM I J f n p m C g tp → zM_museum_l155_b I J = (zM_line I J).bind fun q24 => some (.inl (q24.1, q24.2)) := fun I J tp hD => by
        unfold zM_museum_l155_b
        rw [jm_good hD.2.1, Option.bind_some, if_neg (by decide), hD.1.2.2.2.2.1, if_neg tn0]
      cases o with
      | inl ft =>
        obtain ⟨kd, pl⟩ := ft
        refine ⟨.inl (kd, pl), st, fun I sz hD hs N hN => ?_, fun I J tp hD hs N hN => ?_⟩
        · obtain ⟨N', rfl⟩ : ∃ N', N = N' + 1 := ⟨N - 1, by omega⟩
          obtain ⟨I', e1, g1, g2, f1⟩ := hc I sz hD hs
          refine ⟨I', js_0 ?_, g2, f1⟩
          dsimp only
          rw [cB I sz hD, e1, Option.bind_some, if_neg (fun h => h rfl)]
          dsimp only
          rw [g1]
        · obtain ⟨N', rfl⟩ : ∃ N', N = N' + 1 + 1 := ⟨N - 2, by omega⟩
          obtain ⟨w, e1, fl⟩ := hm I J tp hD hs
          have b1 : ¬ w.1 76 18 = 0 := by
            have k1 := st.1
            have k2 := st.2.1
            rw [fl.1, jl0, jn_inj (by omega) (by omega)]; omega
          refine ⟨w, ?_, fl⟩
          have s1 : zM_museum_l155 (N' + 1 + 1) (I, J) = zM_museum_l155 (N' + 1) (w.1, w.2) := by
            refine js_1 ?_
            dsimp only
            rw [mB I J tp hD, e1, Option.bind_some]
          rw [s1]
          refine js_0 ?_
          dsimp only
          unfold zM_museum_l155_b
          rw [jm_bad b1, Option.bind_some, if_pos rfl]
      | inr ok =>
        obtain ⟨m', C', g', p'⟩ := ok
        obtain ⟨s1, s2, s3⟩ := st
        obtain ⟨o2, st2, hc2, hm2⟩ := ih p' (i + 1) m' C' g' (by omega) s3 (by omega) s1
        have cS : ∀ I sz, DC I f n p m C g sz → sz ≤ p → ∃ I' sz', DC I' f n p' m' C' g' sz' ∧ sz' ≤ p' ∧ frC I I' ∧ ∀ N, zR_read_l34 (N + 1) (jn i, I) = zR_read_l34 N (jn (i + 1), I') := fun I sz hD hs => by
          obtain ⟨I', sz', e1, d1, z1, f1⟩ := hc I sz hD hs
          refine ⟨I', sz', d1, z1, f1, fun N => js_1 ?_⟩
          dsimp only
          rw [cB I sz hD, e1, Option.bind_some, if_pos (show ¬ (1 : Int32) = 0 by decide)]
        have mS' : ∀ I J tp, DM I J f n p m C g tp → tp ≤ 3 * p → ∃ I' J' tp', DM I' J' f n p' m' C' g' tp' ∧ tp' ≤ 3 * p' ∧ jgm I I' ∧ (∀ k j, ¬ k = 76 → J' k j = J k j) ∧ ∀ N, zM_museum_l155 (N + 1) (I, J) = zM_museum_l155 N (I', J') := fun I J tp hD hs => by
          obtain ⟨I', J', tp', e1, d1, z1, f1, j1⟩ := hm I J tp hD hs
          refine ⟨I', J', tp', d1, z1, f1, j1, fun N => js_1 ?_⟩
          dsimp only
          rw [mB I J tp hD, e1, Option.bind_some]
        refine ⟨o2, st2, fun I sz hD hs N hN => ?_, fun I J tp hD hs N hN => ?_⟩
        · obtain ⟨N', rfl⟩ : ∃ N', N = N' + 1 := ⟨N - 1, by omega⟩
          obtain ⟨I1, sz1, d1, z1, f1, e1⟩ := cS I sz hD hs
          have q := hc2 I1 sz1 d1 z1 N' (by omega)
          cases o2 with
          | inl ft =>
            obtain ⟨I2, e2, g2, f2⟩ := q
            exact ⟨I2, by rw [e1, e2], g2, frC_tr f1 f2⟩
          | inr ok =>
            obtain ⟨I2, sz2, e2, a1, a2, a3, f2⟩ := q
            exact ⟨I2, sz2, by rw [e1, e2], a1, a2, a3, frC_tr f1 f2⟩
        · obtain ⟨N', rfl⟩ : ∃ N', N = N' + 1 := ⟨N - 1, by omega⟩
          obtain ⟨I1, J1, tp1, d1, z1, f1, j1, e1⟩ := mS' I J tp hD hs
          have q := hm2 I1 J1 tp1 d1 z1 N' (by omega)
          cases o2 with
          | inl ft =>
            obtain ⟨w, e2, fl⟩ := q
            exact ⟨w, by rw [e1, e2], Flt_tr fl f1 j1⟩
          | inr ok =>
            obtain ⟨I2, J2, tp2, e2, a1, a2, a3, a4, f2, j2⟩ := q
            exact ⟨I2, J2, tp2, by rw [e1, e2], a1, a2, a3, a4, jgm_tr f1 f2, fun k j q => by rw [j2 k j q, j1 k j q]⟩
