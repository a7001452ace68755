/-! ===== museum: the end ===== -/
theorem jc_cpE (I : iq_I) (h : I 42 1 = 0 ∨ I 42 1 = 1) : ∃ K, zE_copyFrom I = some K ∧ (∀ k j, ¬ (8 ≤ k ∧ k ≤ 11) → K k j = I k j) ∧ K 8 0 = I 42 0 ∧ K 8 1 = I 42 1 ∧ (∀ j, j < 700 → K 9 j = I 43 j) ∧ (∀ j, j < 5 → K 10 j = I 44 j) ∧ (∀ j, j < 5 → K 11 j = I 45 j) := by
  have e : zE_copyFrom I = some (iq_cpI (iq_cpI (iq_cpI (iq_upI (iq_upI (iq_upI I 8 0 (I 42 0)) 8 1 (I 42 1)) 8 2 (I 42 2)) 43 9 0 0 700) 44 10 0 0 5) 45 11 0 0 5) := by
    unfold zE_copyFrom
    rw [ir_let, if_pos (by rw [up_nk (by decide)]; exact h), up_nk (by decide), ir_let, up_nk (by decide), up_nk (by decide), ir_let, ir_let, ir_let, ir_let]
  refine ⟨_, e, fun k j hk => ?_, ?_, ?_, fun j hj => ?_, fun j hj => ?_, fun j hj => ?_⟩
  · rw [cp_nk (by omega), cp_nk (by omega), cp_nk (by omega), up_nk (by omega), up_nk (by omega), up_nk (by omega)]
  all_goals simp (disch := omega) only [up_nk, up_ni, up_eq, cp_nk, cp_eq, pk_cpy_in]
  all_goals rw [show 0 + (j - 0) = j by omega]
def jU6 (I : iq_I) : iq_I := iq_upI (iq_upI (iq_upI (iq_upI (iq_upI (iq_upI I 4 0 (I 38 0)) 4 1 (I 38 1)) 4 2 (I 38 2)) 4 3 (I 38 3)) 4 4 (I 38 4)) 4 5 (I 38 5)
def jU12 (I : iq_I) : iq_I := iq_cpI (iq_cpI (iq_cpI (iq_cpI (iq_cpI (iq_cpI (jU6 I) 39 5 0 0 14) 40 6 0 0 14) 41 7 0 0 8) 47 13 0 0 126) 48 14 0 0 80) 49 15 0 0 8
theorem jU12_e (I : iq_I) : zU_copyFrom I = (zE_copyFrom (jU12 I)).bind fun q => some q := by
  unfold zU_copyFrom jU12 jU6
  simp (disch := omega) only [ir_let, up_nk]
theorem jU12_f {I : iq_I} {k j : Nat} (h : ¬ (4 ≤ k ∧ k ≤ 7)) (h2 : ¬ (13 ≤ k ∧ k ≤ 15)) : jU12 I k j = I k j := by
  unfold jU12 jU6
  rw [cp_nk (by omega), cp_nk (by omega), cp_nk (by omega), cp_nk (by omega), cp_nk (by omega), cp_nk (by omega), up_nk (by omega), up_nk (by omega), up_nk (by omega), up_nk (by omega), up_nk (by omega), up_nk (by omega)]
theorem jU12_v (I : iq_I) : jU12 I 4 0 = I 38 0 ∧ jU12 I 4 1 = I 38 1 ∧ jU12 I 4 2 = I 38 2 ∧ jU12 I 4 3 = I 38 3 ∧ jU12 I 4 4 = I 38 4 ∧ (∀ j, j < 14 → jU12 I 5 j = I 39 j) ∧ (∀ j, j < 14 → jU12 I 6 j = I 40 j) ∧ (∀ j, j < 8 → jU12 I 7 j = I 41 j) ∧ (∀ j, j < 126 → jU12 I 13 j = I 47 j) ∧ (∀ j, j < 80 → jU12 I 14 j = I 48 j) ∧ (∀ j, j < 8 → jU12 I 15 j = I 49 j) := by
  unfold jU12 jU6
  refine ⟨?_, ?_, ?_, ?_, ?_, fun j hj => ?_, fun j hj => ?_, fun j hj => ?_, fun j hj => ?_, fun j hj => ?_, fun j hj => ?_⟩
  all_goals simp (disch := omega) only [up_nk, up_ni, up_eq, cp_nk, cp_eq, pk_cpy_in]
  all_goals rw [show 0 + (j - 0) = j by omega]
/-- the class takes the draft over -/
theorem jc_take {I : iq_I} {m : jMu} {C : Nat → Bool} {g : jGa} {sz : Nat} (hd : dOk m g) (hU : dU I m C sz) (hG : dG I g) (hz : sz ≤ 700) : ∃ K K', zU_copyFrom I = some K ∧ zG_copyFrom_16_50 K = some K' ∧ (∀ k j, k < 4 ∨ 26 < k → K' k j = I k j) ∧ (∀ k j, k = 12 → K' k j = I k j) ∧ jRU K' m ∧ jRG K' 16 17 18 24 g ∧ K' 16 2 = 0 ∧ K' 19 0 = 0 := by
  obtain ⟨⟨o1, o2, o3, o4, o5, o6, o7, o8⟩, ⟨p1, p2, p3, p4, p5⟩, -⟩ := hd
  obtain ⟨h1, h2, h3, h4, h5, h6, h7, h8, h9, h10, h11, h12, h13, h14, h15, h16, h17⟩ := hU
  obtain ⟨⟨r1, r2, r3, r4, r5⟩, r6, r7, r8⟩ := hG
  have h42 : jU12 I 42 1 = 0 ∨ jU12 I 42 1 = 1 := by
    rw [jU12_f (by omega) (by omega), h14]
    by_cases q : mC m = none
    · rw [if_pos q]; exact Or.inl rfl
    · rw [if_neg q]; exact Or.inr rfl
  obtain ⟨K, e1, f1, a1, a2, a3, a4, a5⟩ := jc_cpE (jU12 I) h42
  obtain ⟨u1, u2, u3, u4, u5, u6, u7, u8, u9, u10, u11⟩ := jU12_v I
  obtain ⟨K', e2, f2, b1, b2, b3, b4, b5, b6, b7, b8, b9, b10, b11, b12, b13⟩ := jc_cp_16_50 K
  have F : ∀ k j, ¬ (4 ≤ k ∧ k ≤ 7) → ¬ (13 ≤ k ∧ k ≤ 15) → ¬ (8 ≤ k ∧ k ≤ 11) → K k j = I k j := fun k j q1 q2 q3 => by rw [f1 k j q3, jU12_f q1 q2]
  have G : ∀ k j, k < 16 ∨ 26 < k → K' k j = K k j := f2
  have ru : ∀ v c, v < 5 → jRuS I v c sz → jRu K' 9 10 11 v c := fun v c hv ⟨x, q1, q2, q3, q4⟩ => ⟨x, by rw [G _ _ (by omega), a4 v hv, jU12_f (by omega) (by omega), q1], by rw [G _ _ (by omega), a5 v hv, jU12_f (by omega) (by omega), q2], by omega, fun i hi => by rw [G _ _ (by omega), a3 _ (by omega), jU12_f (by omega) (by omega), q4 i hi]⟩
  refine ⟨K, K', by rw [jU12_e, e1, Option.bind_some], e2, fun k j q => ?_, fun k j q => ?_, ⟨?_, ?_, ?_, ?_, ?_, fun w hw => ?_, fun w hw => ?_, fun k hk => ?_, fun w i hw hi => ?_, fun s k hs hk => ?_, fun k hk => ?_, ?_, ?_, fun v hv => ru _ _ (by omega) (h15 v hv), fun c hc => ru _ _ (by omega) (h16 c hc)⟩, ⟨?_, ?_, fun s hs => ?_, fun s hs => ?_, fun s i hs hi => ?_⟩, ?_, ?_⟩
  · rw [G _ _ (by omega), F _ _ (by omega) (by omega) (by omega)]
  · rw [G _ _ (by omega), F _ _ (by omega) (by omega) (by omega)]
  · rw [G _ _ (by omega), f1 _ _ (by omega), u1, h1]
  · rw [G _ _ (by omega), f1 _ _ (by omega), u2, h2]
  · rw [G _ _ (by omega), f1 _ _ (by omega), u3, h3]
  · rw [G _ _ (by omega), f1 _ _ (by omega), u4, h4]
  · rw [G _ _ (by omega), f1 _ _ (by omega), u5, h5]
  · rw [G _ _ (by omega), f1 _ _ (by omega), u6 w (by omega), h7 w hw]
  · rw [G _ _ (by omega), f1 _ _ (by omega), u7 w (by omega), h8 w hw]
  · rw [G _ _ (by omega), f1 _ _ (by omega), u8 k hk, h9 k hk]
  · have := (o3 w hw).1
    rw [G _ _ (by omega), f1 _ _ (by omega), u9 _ (by omega), h10 w i hw hi]
  · rw [G _ _ (by omega), f1 _ _ (by omega), u10 _ (by omega), h11 s k (by omega) hk]
  · rw [G _ _ (by omega), f1 _ _ (by omega), u11 k hk, h12 k hk]
  · rw [G _ _ (by omega), a1, jU12_f (by omega) (by omega), h13]
  · rw [G _ _ (by omega), a2, jU12_f (by omega) (by omega), h14]
  · rw [b1, F _ _ (by omega) (by omega) (by omega), r1]
  · rw [b2, F _ _ (by omega) (by omega) (by omega), r2]
  · rw [b4 s (by omega), F _ _ (by omega) (by omega) (by omega), r3 s hs]
  · rw [b5 s (by omega), F _ _ (by omega) (by omega) (by omega), r4 s hs]
  · have := p3 s hs
    rw [b11 _ (by omega), F _ _ (by omega) (by omega) (by omega), r5 s i hs hi]
  · rw [b3, F _ _ (by omega) (by omega) (by omega), r6]
  · rw [b6, F _ _ (by omega) (by omega) (by omega), r7]
theorem jcp_87_77 (I : iq_I) : ∃ K, zM_copies_76_87_77 I = some K ∧ (∀ k j, ¬ k = 77 → K k j = I k j) ∧ (∀ j, j < 126 → K 77 j = I 87 j) := by
  obtain ⟨K, e, h⟩ := jcp_gen 87 77 126 (by decide) (by decide) (fun v => zM_copies_76_87_77_l2_b v.1 v.2) (fun x K => rfl) I
  exact ⟨K, by unfold zM_copies_76_87_77 zM_copies_76_87_77_l2; rw [e, Option.bind_some], h⟩
theorem jcp_88_78 (I : iq_I) : ∃ K, zM_copies_76_88_78 I = some K ∧ (∀ k j, ¬ k = 78 → K k j = I k j) ∧ (∀ j, j < 14 → K 78 j = I 88 j) := by
  obtain ⟨K, e, h⟩ := jcp_gen 88 78 14 (by decide) (by decide) (fun v => zM_copies_76_88_78_l2_b v.1 v.2) (fun x K => rfl) I
  exact ⟨K, by unfold zM_copies_76_88_78 zM_copies_76_88_78_l2; rw [e, Option.bind_some], h⟩
theorem jcp_89_79 (I : iq_I) : ∃ K, zM_copies_76_89_79 I = some K ∧ (∀ k j, ¬ k = 79 → K k j = I k j) ∧ (∀ j, j < 14 → K 79 j = I 89 j) := by
  obtain ⟨K, e, h⟩ := jcp_gen 89 79 14 (by decide) (by decide) (fun v => zM_copies_76_89_79_l2_b v.1 v.2) (fun x K => rfl) I
  exact ⟨K, by unfold zM_copies_76_89_79 zM_copies_76_89_79_l2; rw [e, Option.bind_some], h⟩
theorem jcp_90_80 (I : iq_I) : ∃ K, zM_copies_76_90_80 I = some K ∧ (∀ k j, ¬ k = 80 → K k j = I k j) ∧ (∀ j, j < 80 → K 80 j = I 90 j) := by
  obtain ⟨K, e, h⟩ := jcp_gen 90 80 80 (by decide) (by decide) (fun v => zM_copies_76_90_80_l2_b v.1 v.2) (fun x K => rfl) I
  exact ⟨K, by unfold zM_copies_76_90_80 zM_copies_76_90_80_l2; rw [e, Option.bind_some], h⟩
theorem jcp_91_81 (I : iq_I) : ∃ K, zM_copies_76_91_81 I = some K ∧ (∀ k j, ¬ k = 81 → K k j = I k j) ∧ (∀ j, j < 8 → K 81 j = I 91 j) := by
  obtain ⟨K, e, h⟩ := jcp_gen 91 81 8 (by decide) (by decide) (fun v => zM_copies_76_91_81_l2_b v.1 v.2) (fun x K => rfl) I
  exact ⟨K, by unfold zM_copies_76_91_81 zM_copies_76_91_81_l2; rw [e, Option.bind_some], h⟩
theorem jcp_92_82 (I : iq_I) : ∃ K, zM_copies_76_92_82 I = some K ∧ (∀ k j, ¬ k = 82 → K k j = I k j) ∧ (∀ j, j < 4 → K 82 j = I 92 j) := by
  obtain ⟨K, e, h⟩ := jcp_gen 92 82 4 (by decide) (by decide) (fun v => zM_copies_76_92_82_l2_b v.1 v.2) (fun x K => rfl) I
  exact ⟨K, by unfold zM_copies_76_92_82 zM_copies_76_92_82_l2; rw [e, Option.bind_some], h⟩
theorem jcp_93_83 (I : iq_I) : ∃ K, zM_copies_76_93_83 I = some K ∧ (∀ k j, ¬ k = 83 → K k j = I k j) ∧ (∀ j, j < 5 → K 83 j = I 93 j) := by
  obtain ⟨K, e, h⟩ := jcp_gen 93 83 5 (by decide) (by decide) (fun v => zM_copies_76_93_83_l2_b v.1 v.2) (fun x K => rfl) I
  exact ⟨K, by unfold zM_copies_76_93_83 zM_copies_76_93_83_l2; rw [e, Option.bind_some], h⟩
theorem jcp_95_84 (I : iq_I) : ∃ K, zM_copies_76_95_84 I = some K ∧ (∀ k j, ¬ k = 84 → K k j = I k j) ∧ (∀ j, j < 4000 → K 84 j = I 95 j) := by
  obtain ⟨K, e, h⟩ := jcp_gen 95 84 4000 (by decide) (by decide) (fun v => zM_copies_76_95_84_l2_b v.1 v.2) (fun x K => rfl) I
  exact ⟨K, by unfold zM_copies_76_95_84 zM_copies_76_95_84_l2; rw [e, Option.bind_some], h⟩
theorem jcp_94_98 (I : iq_I) : ∃ K, zM_copies_76_94_98 I = some K ∧ (∀ k j, ¬ k = 98 → K k j = I k j) ∧ (∀ j, j < 206 → K 98 j = I 94 j) := by
  obtain ⟨K, e, h⟩ := jcp_gen 94 98 206 (by decide) (by decide) (fun v => zM_copies_76_94_98_l2_b v.1 v.2) (fun x K => rfl) I
  exact ⟨K, by unfold zM_copies_76_94_98 zM_copies_76_94_98_l2; rw [e, Option.bind_some], h⟩
def jN7 (I : iq_I) : iq_I := iq_upI (iq_upI (iq_upI (iq_upI (iq_upI (iq_upI (iq_upI I 76 1 (I 76 29)) 76 2 (I 76 30)) 76 3 (I 76 31)) 76 4 (I 76 32)) 76 5 (I 76 33)) 76 6 (I 76 34)) 76 7 (I 76 35)
theorem jN7_v (I : iq_I) : jN7 I 76 1 = I 76 29 ∧ jN7 I 76 2 = I 76 30 ∧ jN7 I 76 3 = I 76 31 ∧ jN7 I 76 4 = I 76 32 ∧ jN7 I 76 5 = I 76 33 ∧ jN7 I 76 6 = I 76 34 ∧ jN7 I 76 7 = I 76 35 := ⟨rfl, rfl, rfl, rfl, rfl, rfl, rfl⟩
theorem jN7_f {I : iq_I} {k j : Nat} (h : ¬ (k = 76 ∧ 1 ≤ j ∧ j ≤ 7)) : jN7 I k j = I k j := by
  unfold jN7
  by_cases e : k = 76
  · subst e
    rw [up_ni (by omega), up_ni (by omega), up_ni (by omega), up_ni (by omega), up_ni (by omega), up_ni (by omega), up_ni (by omega)]
  · rw [up_nk e, up_nk e, up_nk e, up_nk e, up_nk e, up_nk e, up_nk e]
theorem jN7_e {α : Type} (I : iq_I) (k : iq_I → α) : (ir_let (iq_upI I 76 1 (I 76 29)) fun N1 => ir_let (iq_upI N1 76 2 (N1 76 30)) fun N2 => ir_let (iq_upI N2 76 3 (N2 76 31)) fun N3 => ir_let (iq_upI N3 76 4 (N3 76 32)) fun N4 => ir_let (iq_upI N4 76 5 (N4 76 33)) fun N5 => ir_let (iq_upI N5 76 6 (N5 76 34)) fun N6 => ir_let (iq_upI N6 76 7 (N6 76 35)) fun N7 => k N7) = k (jN7 I) := by
  unfold jN7
  rw [ir_let, up_ni (by decide), ir_let, up_ni (by decide), up_ni (by decide), ir_let, up_ni (by decide), up_ni (by decide), up_ni (by decide), ir_let, up_ni (by decide), up_ni (by decide), up_ni (by decide), up_ni (by decide), ir_let, up_ni (by decide), up_ni (by decide), up_ni (by decide), up_ni (by decide), up_ni (by decide), ir_let, up_ni (by decide), up_ni (by decide), up_ni (by decide), up_ni (by decide), up_ni (by decide), up_ni (by decide), ir_let]
def jE3 (I : iq_I) : iq_I := iq_upI (iq_upI (iq_upI I 76 54 0) 76 63 0) 76 68 0
theorem jE3_f {I : iq_I} {k j : Nat} (h : ¬ (k = 76 ∧ (j = 54 ∨ j = 63 ∨ j = 68))) : jE3 I k j = I k j := by
  unfold jE3
  by_cases e : k = 76
  · subst e
    rw [up_ni (by omega), up_ni (by omega), up_ni (by omega)]
  · rw [up_nk e, up_nk e, up_nk e]
/-- the reference takes its draft over -/
theorem jm_take {I : iq_I} {J : iq_J} {m : jMu} {C : Nat → Bool} {g : jGa} {tp : Nat} (hd : dOk m g) (hg : I 76 18 = 0) (h57 : I 76 57 = 0) (hN : dN I m C tp) (hR : dR I g) (hz : tp ≤ 4000) : ∃ K, zM_museum_176 I J = some (0, K, J) ∧ (∀ k j, ¬ (77 ≤ k ∧ k ≤ 84) → ¬ k = 98 → ¬ (k = 76 ∧ ((1 ≤ j ∧ j ≤ 7) ∨ j = 54 ∨ j = 63 ∨ j = 68)) → K k j = I k j) ∧ jRN K m ∧ jRB K g ∧ jRR (K 98) g ∧ K 76 54 = 0 ∧ K 76 63 = 0 ∧ K 76 68 = 0 := by
  obtain ⟨⟨o1, o2, o3, o4, o5, o6, o7, o8⟩, ⟨p1, p2, p3, p4, p5⟩, -⟩ := hd
  obtain ⟨h1, h2, h3, h4, h5, h6, h7, h8, h9, h10, h11, h12, h13, h14, h15⟩ := hN
  obtain ⟨r1, r2, r3, r4, r5⟩ := hR
  obtain ⟨v1, v2, v3, v4, v5, v6, v7⟩ := jN7_v I
  obtain ⟨K1, e1, f1, c1⟩ := jcp_87_77 (jN7 I)
  obtain ⟨K2, e2, f2, c2⟩ := jcp_88_78 K1
  obtain ⟨K3, e3, f3, c3⟩ := jcp_89_79 K2
  obtain ⟨K4, e4, f4, c4⟩ := jcp_90_80 K3
  obtain ⟨K5, e5, f5, c5⟩ := jcp_91_81 K4
  obtain ⟨K6, e6, f6, c6⟩ := jcp_92_82 K5
  obtain ⟨K7, e7, f7, c7⟩ := jcp_93_83 K6
  obtain ⟨K8, e8, f8, c8⟩ := jcp_95_84 K7
  obtain ⟨K9, e9, f9, c9⟩ := jcp_94_98 K8
  have F : ∀ k j, ¬ (77 ≤ k ∧ k ≤ 84) → ¬ k = 98 → K9 k j = jN7 I k j := fun k j q1 q2 => by
    rw [f9 k j q2, f8 k j (by omega), f7 k j (by omega), f6 k j (by omega), f5 k j (by omega), f4 k j (by omega), f3 k j (by omega), f2 k j (by omega), f1 k j (by omega)]
  have w77 : ∀ j, j < 126 → K9 77 j = I 87 j := fun j hj => by rw [f9 _ _ (by decide), f8 _ _ (by decide), f7 _ _ (by decide), f6 _ _ (by decide), f5 _ _ (by decide), f4 _ _ (by decide), f3 _ _ (by decide), f2 _ _ (by decide), c1 j hj, jN7_f (by omega)]
  have w78 : ∀ j, j < 14 → K9 78 j = I 88 j := fun j hj => by rw [f9 _ _ (by decide), f8 _ _ (by decide), f7 _ _ (by decide), f6 _ _ (by decide), f5 _ _ (by decide), f4 _ _ (by decide), f3 _ _ (by decide), c2 j hj, f1 _ _ (by decide), jN7_f (by omega)]
  have w79 : ∀ j, j < 14 → K9 79 j = I 89 j := fun j hj => by rw [f9 _ _ (by decide), f8 _ _ (by decide), f7 _ _ (by decide), f6 _ _ (by decide), f5 _ _ (by decide), f4 _ _ (by decide), c3 j hj, f2 _ _ (by decide), f1 _ _ (by decide), jN7_f (by omega)]
  have w80 : ∀ j, j < 80 → K9 80 j = I 90 j := fun j hj => by rw [f9 _ _ (by decide), f8 _ _ (by decide), f7 _ _ (by decide), f6 _ _ (by decide), f5 _ _ (by decide), c4 j hj, f3 _ _ (by decide), f2 _ _ (by decide), f1 _ _ (by decide), jN7_f (by omega)]
  have w81 : ∀ j, j < 8 → K9 81 j = I 91 j := fun j hj => by rw [f9 _ _ (by decide), f8 _ _ (by decide), f7 _ _ (by decide), f6 _ _ (by decide), c5 j hj, f4 _ _ (by decide), f3 _ _ (by decide), f2 _ _ (by decide), f1 _ _ (by decide), jN7_f (by omega)]
  have w82 : ∀ j, j < 4 → K9 82 j = I 92 j := fun j hj => by rw [f9 _ _ (by decide), f8 _ _ (by decide), f7 _ _ (by decide), c6 j hj, f5 _ _ (by decide), f4 _ _ (by decide), f3 _ _ (by decide), f2 _ _ (by decide), f1 _ _ (by decide), jN7_f (by omega)]
  have w83 : ∀ j, j < 5 → K9 83 j = I 93 j := fun j hj => by rw [f9 _ _ (by decide), f8 _ _ (by decide), c7 j hj, f6 _ _ (by decide), f5 _ _ (by decide), f4 _ _ (by decide), f3 _ _ (by decide), f2 _ _ (by decide), f1 _ _ (by decide), jN7_f (by omega)]
  have w84 : ∀ j, j < 4000 → K9 84 j = I 95 j := fun j hj => by rw [f9 _ _ (by decide), c8 j hj, f7 _ _ (by decide), f6 _ _ (by decide), f5 _ _ (by decide), f4 _ _ (by decide), f3 _ _ (by decide), f2 _ _ (by decide), f1 _ _ (by decide), jN7_f (by omega)]
  have w98 : ∀ j, j < 206 → K9 98 j = I 94 j := fun j hj => by rw [c9 j hj, f8 _ _ (by decide), f7 _ _ (by decide), f6 _ _ (by decide), f5 _ _ (by decide), f4 _ _ (by decide), f3 _ _ (by decide), f2 _ _ (by decide), f1 _ _ (by decide), jN7_f (by omega)]
  have H : ∀ k j, ¬ k = 76 → jE3 K9 k j = K9 k j := fun k j q => jE3_f (by omega)
  have H76 : ∀ j, ¬ j = 54 → ¬ j = 63 → ¬ j = 68 → jE3 K9 76 j = jN7 I 76 j := fun j q1 q2 q3 => by rw [jE3_f (by omega), F _ _ (by omega) (by omega)]
  have rn : ∀ x c, jRnS I x c tp → jRn (jE3 K9) 84 x c := fun x c ⟨q1, q2⟩ => ⟨by omega, fun i hi => by rw [H _ _ (by decide), w84 _ (by omega), q2 i hi]⟩
  refine ⟨jE3 K9, ?_, fun k j q1 q2 q3 => ?_, ⟨?_, ?_, ?_, ?_, ?_, fun w hw => ?_, fun w hw => ?_, fun w i hw hi => ?_, fun s k hs hk => ?_, fun k hk => ?_, ?_, fun v hv => ?_, fun e => ?_, fun c hc => ?_⟩, ⟨?_, fun s hs => ?_⟩, ⟨?_, fun s hs => ?_, fun s i hs hi => ?_⟩, rfl, rfl, rfl⟩
  · unfold zM_museum_176
    rw [jm_good hg, Option.bind_some, if_pos (by decide)]
    rw [jN7_e I (fun I33 => _)]
    rw [e1, Option.bind_some, e2, Option.bind_some, e3, Option.bind_some, e4, Option.bind_some, e5, Option.bind_some, e6, Option.bind_some, e7, Option.bind_some, e8, Option.bind_some, e9, Option.bind_some, ir_let, ir_let, ir_let]
    rfl
  · rw [jE3_f (by omega), F k j q1 q2, jN7_f (by omega)]
  · rw [H76 _ (by decide) (by decide) (by decide), v1, h1]
  · rw [H76 _ (by decide) (by decide) (by decide), v7, h2]
  · rw [H76 _ (by decide) (by decide) (by decide), v2, h3]
  · rw [H76 _ (by decide) (by decide) (by decide), v3, h4]
  · rw [H76 _ (by decide) (by decide) (by decide), jN7_f (by omega), h57]
  · rw [H _ _ (by decide), w78 w (by omega), h6 w hw]
  · rw [H _ _ (by decide), w79 w (by omega), h7 w hw]
  · have := (o3 w hw).1
    rw [H _ _ (by decide), w77 _ (by omega), h8 w i hw hi]
  · rw [H _ _ (by decide), w80 _ (by omega), h9 s k (by omega) hk]
  · rw [H _ _ (by decide), w81 k hk, h10 k hk]
  · rw [H76 _ (by decide) (by decide) (by decide), v4, h11]
  · obtain ⟨x, q1, q2⟩ := h12 v hv
    exact ⟨x, by rw [H _ _ (by decide), w82 v (by omega), q1], rn _ _ q2⟩
  · rw [H76 _ (by decide) (by decide) (by decide), v6, h13 e]
  · obtain ⟨x, q1, q2⟩ := h14 c hc
    exact ⟨x, by rw [H76 _ (by decide) (by decide) (by decide), v6, q1], rn _ _ q2⟩
  · rw [H76 _ (by decide) (by decide) (by decide), v5, r1]
  · rw [H _ _ (by decide), w83 s (by omega), r2 s hs]
  · rw [H _ _ (by decide), w98 5 (by decide), r3]
  · rw [H _ _ (by decide), w98 s (by omega), r4 s hs]
  · have := p3 s hs
    rw [H _ _ (by decide), w98 _ (by omega), r5 s i hs hi]
