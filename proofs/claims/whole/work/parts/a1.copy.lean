/-! ===== copies; image, restore ===== -/
theorem jcp_gen (a b N : Nat) (hab : ¬ a = b) (hN : N < 15000) (body : Int32 × iq_I → Option ((Int32 × iq_I) ⊕ iq_I))
    (hb : ∀ (x : Int32) (K : iq_I), body (x, K) = if jn N ≤ x then some (.inr K) else if iq_in x N then (if iq_in x N then some (.inl (x + 1, iq_upI K b x.toNatClampNeg (K a x.toNatClampNeg))) else none) else none) (I : iq_I) :
    ∃ K, iq_lp body ir_F ((0 : Int32), I) = some K ∧ (∀ k j, ¬ k = b → K k j = I k j) ∧ (∀ j, j < N → K b j = I a j) := by
  refine js_inv (fun t v => v.1 = jn t ∧ (∀ k j, ¬ k = b → v.2 k j = I k j) ∧ (∀ j, j < t → v.2 b j = I a j)) N _ ?_ ?_ N 0 ((0 : Int32), I) ir_F (by omega) ⟨rfl, fun _ _ _ => rfl, fun j h1 => by omega⟩ (by unfold ir_F; omega)
  · rintro t ⟨x, K⟩ ht ⟨h1, h2, h5⟩
    simp only at h1 h2 h5
    subst h1
    refine ⟨(jn (t + 1), iq_upI K b t (K a t)), ?_, rfl, fun k j hk => ?_, fun j q1 => ?_⟩
    · rw [hb]
      simp (disch := omega) only [ir_let, jn_lt, jn_le, jn_in, jn_inj, jn_ne_m, jm_ne_n, jm_eq_m, jm_lt, jm_le, jn_lt_m, jn_le_m, jn_add, jn_mul, jn_clamp, jo_some, jn_min, jn_max, ↓jlm, jl0, jl1, jl2, jl3, jl4, jl5, jl6, jl7, jl8, jl9, jl10, jl11, jl12, jl13, jl14, jl15, jl16, jl20, jl24, jl32, jl39, jl40, jl41, jl60, jl61, jl80, jl96, jl97, jl99, jl100, jl122, jl126, jl199, jl200, jl205, jl206, jl255, jl256, jl410, jl700, jl950, jl1000, jl1000000, jl4000, jl8240, jl32767, if_pos, if_neg, ↓reduceIte, Option.bind_some, not_true_eq_false, not_false_eq_true, Nat.not_lt, Nat.not_le]
    · show iq_upI K b _ _ k j = _
      rw [up_nk hk, h2 k j hk]
    · show iq_upI K b _ _ b _ = _
      by_cases e : j = t
      · subst e; rw [up_eq, h2 a _ hab]
      · rw [up_ni (by omega), h5 j (by omega)]
  · rintro ⟨x, K⟩ ⟨h1, h2, h5⟩
    simp only at h1 h2 h5
    subst h1
    refine ⟨K, ?_, h2, h5⟩
    rw [hb]
    simp (disch := omega) only [ir_let, jn_lt, jn_le, jn_in, jn_inj, jn_ne_m, jm_ne_n, jm_eq_m, jm_lt, jm_le, jn_lt_m, jn_le_m, jn_add, jn_mul, jn_clamp, jo_some, jn_min, jn_max, ↓jlm, jl0, jl1, jl2, jl3, jl4, jl5, jl6, jl7, jl8, jl9, jl10, jl11, jl12, jl13, jl14, jl15, jl16, jl20, jl24, jl32, jl39, jl40, jl41, jl60, jl61, jl80, jl96, jl97, jl99, jl100, jl122, jl126, jl199, jl200, jl205, jl206, jl255, jl256, jl410, jl700, jl950, jl1000, jl1000000, jl4000, jl8240, jl32767, if_pos, if_neg, ↓reduceIte, Option.bind_some, not_true_eq_false, not_false_eq_true, Nat.not_lt, Nat.not_le]
theorem jcp_98_111 (I : iq_I) : ∃ K, zM_copies_76_98_111 I = some K ∧ (∀ k j, ¬ k = 111 → K k j = I k j) ∧ (∀ j, j < 206 → K 111 j = I 98 j) := by
  obtain ⟨K, e, h⟩ := jcp_gen 98 111 206 (by decide) (by decide) (fun v => zM_copies_76_98_111_l2_b v.1 v.2) (fun x K => rfl) I
  exact ⟨K, by unfold zM_copies_76_98_111 zM_copies_76_98_111_l2; rw [e, Option.bind_some], h⟩
theorem jcp_100_112 (I : iq_I) : ∃ K, zM_copies_76_100_112 I = some K ∧ (∀ k j, ¬ k = 112 → K k j = I k j) ∧ (∀ j, j < 8240 → K 112 j = I 100 j) := by
  obtain ⟨K, e, h⟩ := jcp_gen 100 112 8240 (by decide) (by decide) (fun v => zM_copies_76_100_112_l2_b v.1 v.2) (fun x K => rfl) I
  exact ⟨K, by unfold zM_copies_76_100_112 zM_copies_76_100_112_l2; rw [e, Option.bind_some], h⟩
theorem jcp_108_113 (I : iq_I) : ∃ K, zM_copies_76_108_113 I = some K ∧ (∀ k j, ¬ k = 113 → K k j = I k j) ∧ (∀ j, j < 6 → K 113 j = I 108 j) := by
  obtain ⟨K, e, h⟩ := jcp_gen 108 113 6 (by decide) (by decide) (fun v => zM_copies_76_108_113_l2_b v.1 v.2) (fun x K => rfl) I
  exact ⟨K, by unfold zM_copies_76_108_113 zM_copies_76_108_113_l2; rw [e, Option.bind_some], h⟩
theorem jcp_111_98 (I : iq_I) : ∃ K, zM_copies_76_111_98 I = some K ∧ (∀ k j, ¬ k = 98 → K k j = I k j) ∧ (∀ j, j < 206 → K 98 j = I 111 j) := by
  obtain ⟨K, e, h⟩ := jcp_gen 111 98 206 (by decide) (by decide) (fun v => zM_copies_76_111_98_l2_b v.1 v.2) (fun x K => rfl) I
  exact ⟨K, by unfold zM_copies_76_111_98 zM_copies_76_111_98_l2; rw [e, Option.bind_some], h⟩
theorem jcp_112_100 (I : iq_I) : ∃ K, zM_copies_76_112_100 I = some K ∧ (∀ k j, ¬ k = 100 → K k j = I k j) ∧ (∀ j, j < 8240 → K 100 j = I 112 j) := by
  obtain ⟨K, e, h⟩ := jcp_gen 112 100 8240 (by decide) (by decide) (fun v => zM_copies_76_112_100_l2_b v.1 v.2) (fun x K => rfl) I
  exact ⟨K, by unfold zM_copies_76_112_100 zM_copies_76_112_100_l2; rw [e, Option.bind_some], h⟩
theorem jcp_113_108 (I : iq_I) : ∃ K, zM_copies_76_113_108 I = some K ∧ (∀ k j, ¬ k = 108 → K k j = I k j) ∧ (∀ j, j < 6 → K 108 j = I 113 j) := by
  obtain ⟨K, e, h⟩ := jcp_gen 113 108 6 (by decide) (by decide) (fun v => zM_copies_76_113_108_l2_b v.1 v.2) (fun x K => rfl) I
  exact ⟨K, by unfold zM_copies_76_113_108 zM_copies_76_113_108_l2; rw [e, Option.bind_some], h⟩
theorem jcp_98_99 (I : iq_I) : ∃ K, zM_copies_76_98_99 I = some K ∧ (∀ k j, ¬ k = 99 → K k j = I k j) ∧ (∀ j, j < 206 → K 99 j = I 98 j) := by
  obtain ⟨K, e, h⟩ := jcp_gen 98 99 206 (by decide) (by decide) (fun v => zM_copies_76_98_99_l2_b v.1 v.2) (fun x K => rfl) I
  exact ⟨K, by unfold zM_copies_76_98_99 zM_copies_76_98_99_l2; rw [e, Option.bind_some], h⟩
theorem jc_cp_27_16 (I : iq_I) : ∃ J, zG_copyFrom_27_16 I = some J ∧ (∀ k j, k < 27 ∨ 37 < k → J k j = I k j) ∧ J 27 0 = I 16 0 ∧ J 27 1 = I 16 1 ∧ J 27 2 = I 16 2 ∧ (∀ j, j < 5 → J 28 j = I 17 j) ∧ (∀ j, j < 5 → J 29 j = I 18 j) ∧ J 30 0 = I 19 0 ∧ (∀ j, j < 40 → J 31 j = I 20 j) ∧ (∀ j, j < 40 → J 32 j = I 21 j) ∧ (∀ j, j < 40 → J 33 j = I 22 j) ∧ (∀ j, j < 40 → J 34 j = I 23 j) ∧ (∀ j, j < 200 → J 35 j = I 24 j) ∧ (∀ j, j < 3 → J 36 j = I 25 j) ∧ (∀ j, j < 3 → J 37 j = I 26 j) := by
  refine ⟨_, rfl, fun k j hk => ?_, ?_, ?_, ?_, fun j hj => ?_, fun j hj => ?_, ?_, fun j hj => ?_, fun j hj => ?_, fun j hj => ?_, fun j hj => ?_, fun j hj => ?_, fun j hj => ?_, fun j hj => ?_⟩
  · simp (disch := omega) only [ir_let, up_nk, cp_nk]
  all_goals simp (disch := omega) only [ir_let, up_nk, up_ni, up_eq, cp_nk, cp_eq, pk_cpy_in]
  all_goals rw [show 0 + (j - 0) = j by omega]
theorem jc_cp_16_27 (I : iq_I) : ∃ J, zG_copyFrom_16_27 I = some J ∧ (∀ k j, k < 16 ∨ 26 < k → J k j = I k j) ∧ J 16 0 = I 27 0 ∧ J 16 1 = I 27 1 ∧ J 16 2 = I 27 2 ∧ (∀ j, j < 5 → J 17 j = I 28 j) ∧ (∀ j, j < 5 → J 18 j = I 29 j) ∧ J 19 0 = I 30 0 ∧ (∀ j, j < 40 → J 20 j = I 31 j) ∧ (∀ j, j < 40 → J 21 j = I 32 j) ∧ (∀ j, j < 40 → J 22 j = I 33 j) ∧ (∀ j, j < 40 → J 23 j = I 34 j) ∧ (∀ j, j < 200 → J 24 j = I 35 j) ∧ (∀ j, j < 3 → J 25 j = I 36 j) ∧ (∀ j, j < 3 → J 26 j = I 37 j) := by
  refine ⟨_, rfl, fun k j hk => ?_, ?_, ?_, ?_, fun j hj => ?_, fun j hj => ?_, ?_, fun j hj => ?_, fun j hj => ?_, fun j hj => ?_, fun j hj => ?_, fun j hj => ?_, fun j hj => ?_, fun j hj => ?_⟩
  · simp (disch := omega) only [ir_let, up_nk, cp_nk]
  all_goals simp (disch := omega) only [ir_let, up_nk, up_ni, up_eq, cp_nk, cp_eq, pk_cpy_in]
  all_goals rw [show 0 + (j - 0) = j by omega]
theorem jc_cp_50_16 (I : iq_I) : ∃ J, zG_copyFrom_50_16 I = some J ∧ (∀ k j, k < 50 ∨ 60 < k → J k j = I k j) ∧ J 50 0 = I 16 0 ∧ J 50 1 = I 16 1 ∧ J 50 2 = I 16 2 ∧ (∀ j, j < 5 → J 51 j = I 17 j) ∧ (∀ j, j < 5 → J 52 j = I 18 j) ∧ J 53 0 = I 19 0 ∧ (∀ j, j < 40 → J 54 j = I 20 j) ∧ (∀ j, j < 40 → J 55 j = I 21 j) ∧ (∀ j, j < 40 → J 56 j = I 22 j) ∧ (∀ j, j < 40 → J 57 j = I 23 j) ∧ (∀ j, j < 200 → J 58 j = I 24 j) ∧ (∀ j, j < 3 → J 59 j = I 25 j) ∧ (∀ j, j < 3 → J 60 j = I 26 j) := by
  refine ⟨_, rfl, fun k j hk => ?_, ?_, ?_, ?_, fun j hj => ?_, fun j hj => ?_, ?_, fun j hj => ?_, fun j hj => ?_, fun j hj => ?_, fun j hj => ?_, fun j hj => ?_, fun j hj => ?_, fun j hj => ?_⟩
  · simp (disch := omega) only [ir_let, up_nk, cp_nk]
  all_goals simp (disch := omega) only [ir_let, up_nk, up_ni, up_eq, cp_nk, cp_eq, pk_cpy_in]
  all_goals rw [show 0 + (j - 0) = j by omega]
theorem jc_cp_16_50 (I : iq_I) : ∃ J, zG_copyFrom_16_50 I = some J ∧ (∀ k j, k < 16 ∨ 26 < k → J k j = I k j) ∧ J 16 0 = I 50 0 ∧ J 16 1 = I 50 1 ∧ J 16 2 = I 50 2 ∧ (∀ j, j < 5 → J 17 j = I 51 j) ∧ (∀ j, j < 5 → J 18 j = I 52 j) ∧ J 19 0 = I 53 0 ∧ (∀ j, j < 40 → J 20 j = I 54 j) ∧ (∀ j, j < 40 → J 21 j = I 55 j) ∧ (∀ j, j < 40 → J 22 j = I 56 j) ∧ (∀ j, j < 40 → J 23 j = I 57 j) ∧ (∀ j, j < 200 → J 24 j = I 58 j) ∧ (∀ j, j < 3 → J 25 j = I 59 j) ∧ (∀ j, j < 3 → J 26 j = I 60 j) := by
  refine ⟨_, rfl, fun k j hk => ?_, ?_, ?_, ?_, fun j hj => ?_, fun j hj => ?_, ?_, fun j hj => ?_, fun j hj => ?_, fun j hj => ?_, fun j hj => ?_, fun j hj => ?_, fun j hj => ?_, fun j hj => ?_⟩
  · simp (disch := omega) only [ir_let, up_nk, cp_nk]
  all_goals simp (disch := omega) only [ir_let, up_nk, up_ni, up_eq, cp_nk, cp_eq, pk_cpy_in]
  all_goals rw [show 0 + (j - 0) = j by omega]
theorem jRR_mv {m : jMu} {r r' : Nat → Int32} {g : jGa} (hg : gOk m g) (h : jRR r g) (e : ∀ j, j < 206 → r' j = r j) : jRR r' g := jRR_cg2 hg h e
theorem jAl_mv {I I' : iq_I} {m : jMu} {g : jGa} {o b l w a0 a1 a2 a3 a4 s1 s2 r n h q e O B L W A0 A1 A2 A3 A4 S1 S2 R N H Q E : Nat} (hz : jAl I m g o b l w a0 a1 a2 a3 a4 s1 s2 r n h q e)
    (c0 : I' O 0 = I o 0) (c1 : I' O 1 = I o 1) (c2 : I' O 2 = I o 2) (cb : ∀ j, j < 5 → I' B j = I b j) (cl : ∀ j, j < 5 → I' L j = I l j) (ca0 : I' A0 0 = I a0 0)
    (ca1 : ∀ j, j < 40 → I' A1 j = I a1 j) (ca2 : ∀ j, j < 40 → I' A2 j = I a2 j) (ca3 : ∀ j, j < 40 → I' A3 j = I a3 j) (ca4 : ∀ j, j < 40 → I' A4 j = I a4 j) (cw : ∀ j, j < 200 → I' W j = I w j)
    (cs1 : ∀ j, j < 3 → I' S1 j = I s1 j) (cs2 : ∀ j, j < 3 → I' S2 j = I s2 j) (cr : ∀ j, j < 206 → I' R j = I r j) (cn : I' 76 N = I 76 n) (ch : ∀ j, j < 8240 → I' H j = I h j) (cq : ∀ j, j < 6 → I' Q j = I q j) (ce : I' 76 E = I 76 e) :
    jAl I' m g O B L W A0 A1 A2 A3 A4 S1 S2 R N H Q E := by
  obtain ⟨hg, hG, hR, ⟨a, q1, q2, q3, G, q4, q5⟩, ⟨c, p1, p2, p3, p4⟩⟩ := hz
  have h5 := hg.1
  refine ⟨hg, ⟨by rw [c0, hG.1], by rw [c1, hG.2.1], fun s hs => by rw [cb s (by omega), hG.2.2.1 s hs], fun s hs => by rw [cl s (by omega), hG.2.2.2.1 s hs], fun s i hs hi => ?_⟩, jRR_cg2 hg hR cr, ⟨a, q1, by rw [ca0, q2], by rw [cn, q3], G, q4, fun k hk => ?_⟩, ⟨c, p1, by rw [c2, p2], by rw [ce, p3], fun i hi => ?_⟩⟩
  · have h40 := hg.2.2.1 s hs
    rw [cw _ (by omega), hG.2.2.2.2 s i hs hi]
  · obtain ⟨t1, t2, t3⟩ := q5 k hk
    rw [ca1 k (by omega), ca2 k (by omega), ca3 k (by omega), ca4 k (by omega)]
    exact ⟨t1, jRR_cg2 t1 t2 fun j hj => ch _ (by omega), t3⟩
  · rw [cs1 i (by omega), cs2 i (by omega), cq _ (by omega), cq _ (by omega)]
    exact p4 i hi
