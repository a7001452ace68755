/-! ===== museum: the start ===== -/
theorem jfl_gen (b N : Nat) (v : Int32) (hN : N < 15000) (body : Int32 × iq_I → Option ((Int32 × iq_I) ⊕ iq_I))
    (hb : ∀ (x : Int32) (K : iq_I), body (x, K) = if jn N ≤ x then some (.inr K) else if iq_in x N then some (.inl (x + 1, iq_upI K b x.toNatClampNeg v)) else none) (I : iq_I) :
    ∃ K, iq_lp body ir_F ((0 : Int32), I) = some K ∧ (∀ k j, ¬ k = b → K k j = I k j) ∧ (∀ j, j < N → K b j = v) := by
  refine js_inv (fun t w => w.1 = jn t ∧ (∀ k j, ¬ k = b → w.2 k j = I k j) ∧ (∀ j, j < t → w.2 b j = v)) N _ ?_ ?_ N 0 ((0 : Int32), I) ir_F (by omega) ⟨rfl, fun _ _ _ => rfl, fun j h1 => by omega⟩ (by unfold ir_F; omega)
  · rintro t ⟨x, K⟩ ht ⟨h1, h2, h5⟩
    simp only at h1 h2 h5
    subst h1
    refine ⟨(jn (t + 1), iq_upI K b t v), ?_, rfl, fun k j hk => ?_, fun j q1 => ?_⟩
    · rw [hb]
      simp (disch := omega) only [ir_let, jn_lt, jn_le, jn_in, jn_inj, jn_ne_m, jm_ne_n, jm_eq_m, jm_lt, jm_le, jn_lt_m, jn_le_m, jn_add, jn_mul, jn_clamp, jo_some, jn_min, jn_max, ↓jlm, jl0, jl1, jl2, jl3, jl4, jl5, jl6, jl7, jl8, jl9, jl10, jl11, jl12, jl13, jl14, jl15, jl16, jl20, jl24, jl32, jl39, jl40, jl41, jl60, jl61, jl80, jl96, jl97, jl99, jl100, jl122, jl126, jl199, jl200, jl205, jl206, jl255, jl256, jl410, jl700, jl950, jl1000, jl1000000, jl4000, jl8240, jl32767, if_pos, if_neg, ↓reduceIte, Option.bind_some, not_true_eq_false, not_false_eq_true, Nat.not_lt, Nat.not_le]
    · show iq_upI K b _ _ k j = _
      rw [up_nk hk, h2 k j hk]
    · show iq_upI K b _ _ b _ = _
      by_cases e : j = t
      · subst e; rw [up_eq]
      · rw [up_ni (by omega), h5 j (by omega)]
  · rintro ⟨x, K⟩ ⟨h1, h2, h5⟩
    simp only at h1 h2 h5
    subst h1
    refine ⟨K, ?_, h2, h5⟩
    rw [hb]
    simp (disch := omega) only [ir_let, jn_lt, jn_le, jn_in, jn_inj, jn_ne_m, jm_ne_n, jm_eq_m, jm_lt, jm_le, jn_lt_m, jn_le_m, jn_add, jn_mul, jn_clamp, jo_some, jn_min, jn_max, ↓jlm, jl0, jl1, jl2, jl3, jl4, jl5, jl6, jl7, jl8, jl9, jl10, jl11, jl12, jl13, jl14, jl15, jl16, jl20, jl24, jl32, jl39, jl40, jl41, jl60, jl61, jl80, jl96, jl97, jl99, jl100, jl122, jl126, jl199, jl200, jl205, jl206, jl255, jl256, jl410, jl700, jl950, jl1000, jl1000000, jl4000, jl8240, jl32767, if_pos, if_neg, ↓reduceIte, Option.bind_some, not_true_eq_false, not_false_eq_true, Nat.not_lt, Nat.not_le]
theorem jfl_41 (I : iq_I) : ∃ K, zS_J7_fill_53178_41 (0 : Int32) I = some K ∧ (∀ k j, ¬ k = 41 → K k j = I k j) ∧ (∀ j, j < 8 → K 41 j = 0) := by
  obtain ⟨K, e, h⟩ := jfl_gen 41 8 0 (by decide) (fun v => zS_J7_fill_53178_41_l5_b 0 8 v.1 v.2) (fun x K => rfl) I
  exact ⟨K, by unfold zS_J7_fill_53178_41 zS_J7_fill_53178_41_l5; rw [e, Option.bind_some], h⟩
theorem jfl_48 (I : iq_I) : ∃ K, zS_J7_fill_53178_48 (-1 : Int32) I = some K ∧ (∀ k j, ¬ k = 48 → K k j = I k j) ∧ (∀ j, j < 80 → K 48 j = -1) := by
  obtain ⟨K, e, h⟩ := jfl_gen 48 80 (-1) (by decide) (fun v => zS_J7_fill_53178_48_l5_b (-1) 80 v.1 v.2) (fun x K => rfl) I
  exact ⟨K, by unfold zS_J7_fill_53178_48 zS_J7_fill_53178_48_l5; rw [e, Option.bind_some], h⟩
theorem jfl_49 (I : iq_I) : ∃ K, zS_J7_fill_53178_49 (1 : Int32) I = some K ∧ (∀ k j, ¬ k = 49 → K k j = I k j) ∧ (∀ j, j < 8 → K 49 j = 1) := by
  obtain ⟨K, e, h⟩ := jfl_gen 49 8 1 (by decide) (fun v => zS_J7_fill_53178_49_l5_b 1 8 v.1 v.2) (fun x K => rfl) I
  exact ⟨K, by unfold zS_J7_fill_53178_49 zS_J7_fill_53178_49_l5; rw [e, Option.bind_some], h⟩
theorem jfl_44 (I : iq_I) : ∃ K, zS_J7_fill_53178_44 (0 : Int32) I = some K ∧ (∀ k j, ¬ k = 44 → K k j = I k j) ∧ (∀ j, j < 5 → K 44 j = 0) := by
  obtain ⟨K, e, h⟩ := jfl_gen 44 5 0 (by decide) (fun v => zS_J7_fill_53178_44_l5_b 0 5 v.1 v.2) (fun x K => rfl) I
  exact ⟨K, by unfold zS_J7_fill_53178_44 zS_J7_fill_53178_44_l5; rw [e, Option.bind_some], h⟩
theorem jfl_45 (I : iq_I) : ∃ K, zS_J7_fill_53178_45 (0 : Int32) I = some K ∧ (∀ k j, ¬ k = 45 → K k j = I k j) ∧ (∀ j, j < 5 → K 45 j = 0) := by
  obtain ⟨K, e, h⟩ := jfl_gen 45 5 0 (by decide) (fun v => zS_J7_fill_53178_45_l5_b 0 5 v.1 v.2) (fun x K => rfl) I
  exact ⟨K, by unfold zS_J7_fill_53178_45 zS_J7_fill_53178_45_l5; rw [e, Option.bind_some], h⟩
def m0 : jMu := (0, 0, 0, fun _ => false, fun _ => 0, fun _ => 0, fun _ _ => 0, fun _ _ => none, fun _ => 1, 0, fun _ => [], none)
def g0 : jGa := (0, fun _ => 0, fun _ => [], 0)
def c0 : Nat → Bool := fun _ => false
theorem dOk_0 : dOk m0 g0 := by
  refine ⟨⟨by decide, by decide, fun w hw => absurd hw (Nat.not_lt_zero _), fun s k t hs => absurd hs (Nat.not_lt_zero _), fun k _ => (show (1 : Nat) ≤ 9 by decide), by decide, fun v hv => absurd hv (Nat.not_lt_zero _), fun c hc => by cases hc⟩, ⟨by decide, fun s hs => absurd hs (Nat.not_lt_zero _), fun s hs => absurd hs (Nat.not_lt_zero _), fun s i hs => absurd hs (Nat.not_lt_zero _), by decide⟩, rfl, fun _ _ _ _ => rfl, 0, by decide, rfl⟩
theorem jmin700 {n : Nat} (hn : n ≤ 700) : ir_min (jn n) (700 : Int32) = jn n := by
  rw [jl700, jn_min (by omega) (by omega), Nat.min_eq_left hn]
theorem jc_clear (I : iq_I) : ∃ K, zU_clear I = some K ∧ (∀ j, j < 6 → K 38 j = 0) ∧ (∀ j, j < 3 → K 42 j = 0) ∧ (∀ j, j < 8 → K 41 j = 0) ∧ (∀ j, j < 80 → K 48 j = -1) ∧ (∀ j, j < 8 → K 49 j = 1) ∧ (∀ k j, k < 38 ∨ 49 < k → K k j = I k j) := by
  obtain ⟨K1, e1, f1, v1⟩ := jfl_41 (iq_upI (iq_upI (iq_upI (iq_upI (iq_upI (iq_upI I 38 0 0) 38 1 0) 38 2 0) 38 3 0) 38 4 0) 38 5 0)
  obtain ⟨K2, e2, f2, v2⟩ := jfl_48 K1
  obtain ⟨K3, e3, f3, v3⟩ := jfl_49 K2
  obtain ⟨K4, e4, f4, v4⟩ := jfl_44 (iq_upI (iq_upI (iq_upI K3 42 0 0) 42 1 0) 42 2 0)
  obtain ⟨K5, e5, f5, v5⟩ := jfl_45 K4
  refine ⟨K5, ?_, fun j hj => ?_, fun j hj => ?_, fun j hj => ?_, fun j hj => ?_, fun j hj => ?_, fun k j q => ?_⟩
  · unfold zU_clear zE_clear
    simp only [ir_let]
    rw [e1, Option.bind_some, e2, Option.bind_some, e3, Option.bind_some, e4, Option.bind_some, e5, Option.bind_some, Option.bind_some]
  · rw [f5 _ _ (by decide), f4 _ _ (by decide), up_nk (by decide), up_nk (by decide), up_nk (by decide), f3 _ _ (by decide), f2 _ _ (by decide), f1 _ _ (by decide)]
    have : j = 0 ∨ j = 1 ∨ j = 2 ∨ j = 3 ∨ j = 4 ∨ j = 5 := by omega
    rcases this with rfl | rfl | rfl | rfl | rfl | rfl <;> rfl
  · rw [f5 _ _ (by decide), f4 _ _ (by decide)]
    have : j = 0 ∨ j = 1 ∨ j = 2 := by omega
    rcases this with rfl | rfl | rfl <;> rfl
  · rw [f5 _ _ (by decide), f4 _ _ (by decide), up_nk (by decide), up_nk (by decide), up_nk (by decide), f3 _ _ (by decide), f2 _ _ (by decide), v1 j hj]
  · rw [f5 _ _ (by decide), f4 _ _ (by decide), up_nk (by decide), up_nk (by decide), up_nk (by decide), f3 _ _ (by decide), v2 j hj]
  · rw [f5 _ _ (by decide), f4 _ _ (by decide), up_nk (by decide), up_nk (by decide), up_nk (by decide), v3 j hj]
  · have h1 : ¬ k = 38 := by omega
    have h2 : ¬ k = 42 := by omega
    rw [f5 k j (by omega), f4 k j (by omega), up_nk h2, up_nk h2, up_nk h2, f3 k j (by omega), f2 k j (by omega), f1 k j (by omega), up_nk h1, up_nk h1, up_nk h1, up_nk h1, up_nk h1, up_nk h1]
def jK6 (K : iq_I) (x : Int32) : iq_I := iq_upI (iq_upI (iq_upI (iq_upI (iq_upI (iq_upI (iq_upI (iq_upI K 50 0 0) 50 1 0) 50 2 0) 53 0 0) 61 1 0) 61 0 (-1)) 62 3 x) 62 4 0
theorem jK6_f {K : iq_I} {x : Int32} {k j : Nat} (h1 : ¬ k = 50) (h2 : ¬ k = 53) (h3 : ¬ k = 61) (h4 : ¬ k = 62) : jK6 K x k j = K k j := by
  unfold jK6
  rw [up_nk h4, up_nk h4, up_nk h3, up_nk h3, up_nk h2, up_nk h1, up_nk h1, up_nk h1]
theorem jK6_e {K : iq_I} {n : Nat} (hn : n ≤ 700) : ((zG_clear K).bind fun q2 => ir_let (iq_upI q2 61 1 (0 : Int32)) fun I3 => ir_let (iq_upI I3 61 0 (-1 : Int32)) fun I4 => zT_begin (jn n) I4) = zT_next (jK6 K (jn n)) := by
  unfold zG_clear zT_begin jK6
  rw [jmin700 hn]
  simp only [ir_let]
  rw [Option.bind_some]
  cases zT_next (iq_upI (iq_upI (iq_upI (iq_upI (iq_upI (iq_upI (iq_upI (iq_upI K 50 0 0) 50 1 0) 50 2 0) 53 0 0) 61 1 0) 61 0 (-1)) 62 3 (jn n)) 62 4 0) <;> rfl
theorem jK6_v {K : iq_I} {x : Int32} : jK6 K x 50 0 = 0 ∧ jK6 K x 50 1 = 0 ∧ jK6 K x 50 2 = 0 ∧ jK6 K x 53 0 = 0 ∧ jK6 K x 61 1 = 0 ∧ jK6 K x 62 3 = x ∧ jK6 K x 62 4 = 0 := ⟨rfl, rfl, rfl, rfl, rfl, rfl, rfl⟩
theorem jc_begin {I : iq_I} {f : Nat → Nat} {n : Nat} (hT : jTx I 2 f n) : ∃ I', ((zU_clear I).bind fun q1 => (zG_clear q1).bind fun q2 => ir_let (iq_upI q2 61 1 (0 : Int32)) fun I3 => ir_let (iq_upI I3 61 0 (-1 : Int32)) fun I4 => zT_begin (jn n) I4) = some I' ∧ DC I' f n 0 m0 c0 g0 0 ∧ frC I I' := by
  have hn := hT.1
  obtain ⟨K, e1, w38, w42, w41, w48, w49, wf⟩ := jc_clear I
  obtain ⟨v1, v2, v3, v4, v5, v6, v7⟩ := jK6_v (K := K) (x := jn n)
  have hT6 : jTx (jK6 K (jn n)) 2 f n := ⟨hn, fun i hi => ⟨(hT.2 i hi).1, by rw [jK6_f (by decide) (by decide) (by decide) (by decide), wf _ _ (by decide)]; exact (hT.2 i hi).2⟩⟩
  obtain ⟨I', e6, c6, f6⟩ := jc_next hT6 (Nat.zero_le n) v6 v7
  have y6 : ∀ k j, k ≤ 49 → I' k j = K k j := fun k j h => by rw [f6 k j (by omega), jK6_f (by omega) (by omega) (by omega) (by omega)]
  refine ⟨I', by rw [e1, Option.bind_some, jK6_e hn, e6], ⟨c6, ⟨?_, ?_, ?_, ?_, ?_, ?_, fun w hw => absurd hw (Nat.not_lt_zero _), fun w hw => absurd hw (Nat.not_lt_zero _), fun k hk => ?_, fun w i hw => absurd hw (Nat.not_lt_zero _), fun s k hs hk => ?_, fun k hk => ?_, ?_, ?_, fun v hv => absurd hv (Nat.not_lt_zero _), (fun c hc => by cases hc), ?_⟩, ⟨⟨?_, ?_, fun s hs => absurd hs (Nat.not_lt_zero _), fun s hs => absurd hs (Nat.not_lt_zero _), fun s i hs => absurd hs (Nat.not_lt_zero _)⟩, ?_, ?_, ?_⟩⟩, fun k j q => ?_⟩
  · rw [y6 _ _ (by decide), w38 _ (by decide)]; rfl
  · rw [y6 _ _ (by decide), w38 _ (by decide)]; rfl
  · rw [y6 _ _ (by decide), w38 _ (by decide)]; rfl
  · rw [y6 _ _ (by decide), w38 _ (by decide)]; rfl
  · rw [y6 _ _ (by decide), w38 _ (by decide)]; rfl
  · rw [y6 _ _ (by decide), w38 _ (by decide)]; rfl
  · rw [y6 _ _ (by decide), w41 _ hk]; rfl
  · rw [y6 _ _ (by decide), w48 _ (by omega)]; rfl
  · rw [y6 _ _ (by decide), w49 _ hk]; rfl
  · rw [y6 _ _ (by decide), w42 _ (by decide)]; rfl
  · rw [y6 _ _ (by decide), w42 _ (by decide)]; rfl
  · rw [y6 _ _ (by decide), w42 _ (by decide)]; rfl
  · rw [f6 _ _ (by decide), v1]; rfl
  · rw [f6 _ _ (by decide), v2]; rfl
  · rw [f6 _ _ (by decide), v3]
  · rw [f6 _ _ (by decide), v4]
  · rw [f6 _ _ (by decide), v5]
  · rw [f6 k j (by omega), jK6_f (by omega) (by omega) (by omega) (by omega), wf k j (by omega)]
theorem jfl_90 (I : iq_I) (J : iq_J) : ∃ K, zM_museum_l104 J ir_F ((0 : Int32), I) = some K ∧ (∀ k j, ¬ k = 90 → K k j = I k j) ∧ (∀ j, j < 80 → K 90 j = -1) :=
  jfl_gen 90 80 (-1) (by decide) (fun v => zM_museum_l104_b J v.1 v.2) (fun x K => rfl) I
theorem jfl_91 (I : iq_I) (J : iq_J) : ∃ K, zM_museum_l125 J ir_F ((0 : Int32), I) = some K ∧ (∀ k j, ¬ k = 91 → K k j = I k j) ∧ (∀ j, j < 8 → K 91 j = 1) :=
  jfl_gen 91 8 1 (by decide) (fun v => zM_museum_l125_b J v.1 v.2) (fun x K => rfl) I
/-- the reference's start, from the memory in which the draft's cells are cleared -/
theorem jm_begin {I : iq_I} {J : iq_J} {f : Nat → Nat} {n : Nat} (hT : jTx I 85 f n) (h18 : I 76 18 = 0) (h21 : I 76 21 = jn n) (h22 : I 76 22 = 0) (h29 : ∀ j, 29 ≤ j → j ≤ 37 → I 76 j = if j = 34 then -1 else 0) : ∃ I' J', ((zM_museum_l104 J ir_F ((0 : Int32), I)).bind fun w18 => (zM_museum_l125 J ir_F ((0 : Int32), w18)).bind fun w20 => ir_let (iq_upI w20 94 5 (0 : Int32)) fun I21 => zM_goes I21 J) = some (I', J') ∧ DM I' J' f n 0 m0 c0 g0 0 ∧ jgm I I' ∧ (∀ k j, ¬ k = 76 → J' k j = J k j) := by
  obtain ⟨K1, e1, f1, v1⟩ := jfl_90 I J
  obtain ⟨K2, e2, f2, v2⟩ := jfl_91 K1 J
  have fr : ∀ k j, ¬ k = 90 → ¬ k = 91 → ¬ k = 94 → iq_upI K2 94 5 0 k j = I k j := fun k j h1 h2 h3 => by rw [up_nk h3, f2 k j h2, f1 k j h1]
  obtain ⟨I', J', e3, m3, g3, j3⟩ := jm_goes (J := J) (jTx_f hT fun j => fr 85 j (by decide) (by decide) (by decide)) (Nat.zero_le n) (by rw [fr _ _ (by decide) (by decide) (by decide)]; exact h21) (by rw [fr _ _ (by decide) (by decide) (by decide)]; exact h22)
  have g76 : ∀ j, 29 ≤ j → j ≤ 37 → I' 76 j = if j = 34 then -1 else 0 := fun j h1 h2 => by rw [g3 _ _ (by omega), fr _ _ (by decide) (by decide) (by decide), h29 j h1 h2]
  refine ⟨I', J', ?_, ⟨m3, ?_, ⟨?_, ?_, ?_, ?_, ?_, fun w hw => absurd hw (Nat.not_lt_zero _), fun w hw => absurd hw (Nat.not_lt_zero _), fun w i hw => absurd hw (Nat.not_lt_zero _), fun s k hs hk => ?_, fun k hk => ?_, ?_, fun v hv => absurd hv (Nat.not_lt_zero _), fun _ => ?_, (fun c hc => by cases hc), ?_⟩, ⟨?_, fun s hs => absurd hs (Nat.not_lt_zero _), ⟨?_, fun s hs => absurd hs (Nat.not_lt_zero _), fun s i hs => absurd hs (Nat.not_lt_zero _)⟩⟩⟩, ?_, j3⟩
  · rw [e1, Option.bind_some, e2, Option.bind_some, ir_let, e3]
  · rw [g3 _ _ (by omega), fr _ _ (by decide) (by decide) (by decide), h18]
  · rw [g76 _ (by decide) (by decide)]; rfl
  · rw [g76 _ (by decide) (by decide)]; rfl
  · rw [g76 _ (by decide) (by decide)]; rfl
  · rw [g76 _ (by decide) (by decide)]; rfl
  · rw [g76 _ (by decide) (by decide)]; rfl
  · rw [g3 _ _ (by omega), up_nk (by decide), f2 _ _ (by decide), v1 _ (by omega)]; rfl
  · rw [g3 _ _ (by omega), up_nk (by decide), v2 _ hk]; rfl
  · rw [g76 _ (by decide) (by decide)]; rfl
  · rw [g76 _ (by decide) (by decide)]; rfl
  · rw [g76 _ (by decide) (by decide)]; rfl
  · rw [g76 _ (by decide) (by decide)]; rfl
  · rw [g3 _ _ (by omega), up_eq]; rfl
  · intro k j hk
    rw [jgm_go g3 k j hk, fr k j (fun e => by subst e; cases hk) (fun e => by subst e; cases hk) (fun e => by subst e; cases hk)]
