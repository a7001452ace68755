/-! ===== undo ===== -/
theorem jm_undoL {I : iq_I} {a : Nat} (ha : a < 40) (hI : I 76 54 = jn a) :
    ∃ K, zM_undo_l26 ir_F ((0 : Int32), I) = some K ∧ (∀ k j, ¬ k = 98 → K k j = I k j) ∧ (∀ j, j < 206 → K 98 j = I 100 (206 * a + j)) := by
  refine js_inv (fun t v => v.1 = jn t ∧ (∀ k j, ¬ k = 98 → v.2 k j = I k j) ∧ (∀ j, j < t → v.2 98 j = I 100 (206 * a + j))) 206 _ ?_ ?_ 206 0 ((0 : Int32), I) ir_F (by omega) ⟨rfl, fun _ _ _ => rfl, fun j h1 => by omega⟩ (by unfold ir_F; omega)
  · rintro t ⟨x, K⟩ ht ⟨h1, h2, h5⟩
    simp only at h1 h2 h5
    subst h1
    have kA : K 76 54 = jn a := by rw [h2 76 54 (by decide), hI]
    refine ⟨(jn (t + 1), iq_upI K 98 t (K 100 (206 * a + t))), ?_, rfl, fun k j hk => ?_, fun j q1 => ?_⟩
    · dsimp only
      simp (disch := omega) only [zM_undo_l26_b, kA, ir_let, jn_lt, jn_le, jn_in, jn_inj, jn_ne_m, jm_ne_n, jm_eq_m, jm_lt, jm_le, jn_lt_m, jn_le_m, jn_add, jn_mul, jn_clamp, jo_some, jn_min, jn_max, ↓jlm, jl0, jl1, jl2, jl3, jl4, jl5, jl6, jl7, jl8, jl9, jl10, jl11, jl12, jl13, jl14, jl15, jl16, jl20, jl24, jl32, jl39, jl40, jl41, jl60, jl61, jl80, jl96, jl97, jl99, jl100, jl122, jl126, jl199, jl200, jl205, jl206, jl255, jl256, jl410, jl700, jl950, jl1000, jl1000000, jl4000, jl8240, jl32767, if_pos, if_neg, ↓reduceIte, Option.bind_some, not_true_eq_false, not_false_eq_true, Nat.not_lt, Nat.not_le]
    · show iq_upI K 98 _ _ k j = _
      rw [up_nk hk, h2 k j hk]
    · show iq_upI K 98 _ _ 98 _ = _
      by_cases e : j = t
      · subst e; rw [up_eq, h2 100 _ (by decide)]
      · rw [up_ni (by omega), h5 j (by omega)]
  · rintro ⟨x, K⟩ ⟨h1, h2, h5⟩
    simp only at h1 h2 h5
    subst h1
    refine ⟨K, ?_, h2, h5⟩
    dsimp only
    simp (disch := omega) only [zM_undo_l26_b, ir_let, jn_lt, jn_le, jn_in, jn_inj, jn_ne_m, jm_ne_n, jm_eq_m, jm_lt, jm_le, jn_lt_m, jn_le_m, jn_add, jn_mul, jn_clamp, jo_some, jn_min, jn_max, ↓jlm, jl0, jl1, jl2, jl3, jl4, jl5, jl6, jl7, jl8, jl9, jl10, jl11, jl12, jl13, jl14, jl15, jl16, jl20, jl24, jl32, jl39, jl40, jl41, jl60, jl61, jl80, jl96, jl97, jl99, jl100, jl122, jl126, jl199, jl200, jl205, jl206, jl255, jl256, jl410, jl700, jl950, jl1000, jl1000000, jl4000, jl8240, jl32767, if_pos, if_neg, ↓reduceIte, Option.bind_some, not_true_eq_false, not_false_eq_true, Nat.not_lt, Nat.not_le]
/-- the class undoes its last act -/
theorem jc_undoLast {I : iq_I} {m : jMu} {g g' : jGa} (hg : gOk m g) (hG : jRG I 16 17 18 24 g) {a : Nat} (ha : a < 40) (hI : I 19 0 = jn (a + 1)) (hu : jUn (I 20 a) (I 21 a) (I 22 a) (I 23 a) m g g') :
    ∃ I2, zG_undoLast I = some (jn a, I2) ∧ jRG I2 16 17 18 24 g' ∧ I2 19 0 = jn a ∧ (∀ k j, ¬ k = 16 → ¬ k = 18 → ¬ k = 24 → ¬ k = 19 → I2 k j = I k j) ∧ I2 16 2 = I 16 2 := by
  have u19 : iq_upI I 19 0 (jn a) 19 0 = jn a := up_eq
  have uo : ∀ k j, ¬ k = 19 → iq_upI I 19 0 (jn a) k j = I k j := fun k j hk => up_nk hk
  have i40 : iq_in (jn a) 40 := by rw [jn_in (by omega)]; exact ha
  have ka : (jn a).toNatClampNeg = a := jn_clamp (by omega)
  have hG1 : jRG (iq_upI I 19 0 (jn a)) 16 17 18 24 g := jRG_f hG (uo _ _ (by decide)) (uo _ _ (by decide)) (fun _ => uo _ _ (by decide)) (fun _ => uo _ _ (by decide)) (fun _ => uo _ _ (by decide))
  have st : ∀ r, (if iq_in (jn a) 40 then r else none) = (r : Option (Int32 × iq_I)) := fun r => if_pos i40
  obtain ⟨hY, hBB, hc⟩ := hu
  unfold zG_undoLast
  rw [hI, if_pos (by rw [jl0, jn_lt (by omega) (by omega)]; omega), show jn (a + 1) - (1 : Int32) = jn a from (jn_sub (b := 1) (by omega)).trans (by rw [Nat.add_sub_cancel]), ir_let]
  simp only [u19, st, ka, uo 20 _ (by decide), uo 21 _ (by decide), uo 22 _ (by decide), uo 23 _ (by decide)]
  rcases hc with ⟨d, y, b, e1, e2, hy, hb, hD, hS⟩ | ⟨d, y, b, c, e1, e2, e3, hy, hb, h4, hc, hD, hS⟩ | ⟨d, hD, hS⟩
  · rw [d, e1, e2, if_neg (fun h => h rfl), jc_takeOut hg hG1 hy hb, Option.bind_some]
    dsimp only
    refine ⟨_, rfl, ?_, ?_, fun k j h1 h2 h3 h4 => ?_, ?_⟩
    · refine jRG_g (jRG_take hg hG1 (by decide) (by decide) (by decide) (by decide) (by decide) hy hb) hY hBB (fun z hz => ?_) hD
      rw [hS z hz]; rfl
    · rw [jTak_nk (by decide) (by decide), u19]
    · rw [jTak_nk h2 h3, uo _ _ h4]
    · rw [jTak_nk (by decide) (by decide), uo _ _ (by decide)]
  · rw [d, e1, e2, e3, if_pos (by decide), if_neg (fun h => h rfl), jc_putIn hg hG1 hy hb h4, Option.bind_some]
    refine ⟨_, rfl, ?_, ?_, fun k j h1 h2 h3 h4 => ?_, ?_⟩
    · refine jRG_g (jRG_put (c := c) hg hG1 (by decide) (by decide) (by decide) (by decide) (by decide) hy hb h4) hY hBB (fun z hz => ?_) hD
      rw [hS z hz]; rfl
    · rw [jPut_nk (by decide) (by decide), u19]
    · rw [jPut_nk h2 h3, uo _ _ h4]
    · rw [jPut_nk (by decide) (by decide), uo _ _ (by decide)]
  · have u7 := jn_u7 ⟨gD g, hg.2.2.2.2⟩
    simp only at u7
    rw [d, if_pos (by decide), if_pos (by decide), uo _ _ (by decide), jRG_D hG, u7, ir_let]
    refine ⟨_, rfl, ⟨?_, ?_, fun s hs => ?_, fun s hs => ?_, fun s i hs hi => ?_⟩, ?_, fun k j h1 h2 h3 h4 => ?_, ?_⟩
    · rw [up_ni (by decide), uo _ _ (by decide), hG.1, hY]
    · rw [up_eq, hD]
    · rw [hY] at hs; rw [up_nk (by decide), uo _ _ (by decide), hG.2.2.1 s hs, hBB s hs]
    · rw [hY] at hs; rw [up_nk (by decide), uo _ _ (by decide), hG.2.2.2.1 s hs, hS s hs]
    · rw [hY] at hs; rw [hS s hs] at hi ⊢; rw [up_nk (by decide), uo _ _ (by decide), hG.2.2.2.2 s i hs hi]
    · rw [up_nk (by decide), u19]
    · rw [up_nk h1, uo _ _ h4]
    · rw [up_ni (by decide), uo _ _ (by decide)]
theorem jq_undo {I : iq_I} (hI : jInv I) : ∃ v I1 I2, zO_undo I = some (v, I1) ∧ zM_undo I1 = some (v, I2) ∧ jInv I2 := by
  obtain ⟨m, g, hm, hU, hN, hB, hM, hi, ht, hf, hr⟩ := jInv_iff.mp hI
  obtain ⟨hg, hG, hR, ⟨a, q1, q2, q3, G, q4, q5⟩, ⟨c, p1, p2, p3, p4⟩⟩ := id hM
  cases a with
  | zero =>
    refine ⟨-1, I, jz I, ?_, ?_, jInv_ag hI (jz_ag I)⟩
    · unfold zO_undo zG_undoLast
      rw [q2, if_neg (by decide)]
      rfl
    · unfold zM_undo
      rw [jzE, ir_let, show jz I 76 54 = 0 from q3, if_neg (fun h => h rfl)]
  | succ a =>
    obtain ⟨t1, t2, t3⟩ := q5 a (by omega)
    rw [q4] at t3
    obtain ⟨I2, e1, hG2, k1, k2, k3⟩ := jc_undoLast hg hG (by omega) q2 t3
    have c2 : ∀ k j, 26 < k → I2 k j = I k j := fun k j hk => k2 k j (by omega) (by omega) (by omega) (by omega)
    obtain ⟨K, e2, f1, f2⟩ := jm_undoL (I := iq_upI (jz I2) 76 54 (jn a)) (a := a) (by omega) up_eq
    have s54 : jz I2 76 54 = jn (a + 1) := by
      show I2 76 54 = _
      rw [c2 _ _ (by decide), q3]
    refine ⟨jn a, I2, K, ?_, ?_, ?_⟩
    · unfold zO_undo
      rw [e1, Option.bind_some]
    · unfold zM_undo
      rw [jzE, ir_let, s54, if_pos (fun h => by rw [jl0, jn_inj (by omega) (by omega)] at h; omega), jl1, jn_sub (by omega), Nat.add_sub_cancel, ir_let, e2, Option.bind_some, f1 76 54 (by decide), up_eq]
    · have cK : ∀ k j, ¬ k = 98 → ¬ (k = 76 ∧ (j = 54 ∨ j = 0)) → K k j = I2 k j := fun k j h1 h2 => by
        rw [f1 k j h1]
        by_cases e : k = 76
        · subst e; rw [up_ni (by omega)]; show iq_upI I2 76 0 0 76 j = _; rw [up_ni (by omega)]
        · rw [up_nk e]; show iq_upI I2 76 0 0 k j = _; rw [up_nk e]
      have ax : jad [0, 4] I K := by
        refine jad_tr (I' := I2) (fun k j hk => ?_) fun k j hk => ?_
        · exact k2 k j (fun e => by subst e; exact hk (show 4 ∈ [0, 4] by decide)) (fun e => by subst e; exact hk (show 4 ∈ [0, 4] by decide)) (fun e => by subst e; exact hk (show 4 ∈ [0, 4] by decide)) (fun e => by subst e; exact hk (show 4 ∈ [0, 4] by decide))
        · refine cK k j (fun e => by subst e; exact hk (show 4 ∈ [0, 4] by decide)) ?_
          rintro ⟨rfl, rfl | rfl⟩
          · exact hk (show 4 ∈ [0, 4] by decide)
          · exact hk (show 0 ∈ [0, 4] by decide)
      obtain ⟨hY, hBB, -⟩ := id t3
      refine jInv_iff.mpr ⟨m, G a, hm, jRU_ad hU ax (by decide), jRN_ad hN ax (by decide), jRB_g (jRB_ad hB ax (by decide)) hY hBB, ?_, jIm_g (jIm_ad hi ax (by decide)) hY hBB, jTp_ad ht ax (by decide), jFl_ad hf ax (by decide), jRf_ad hr ax (by decide)⟩
      have cC : ∀ k j, k < 76 → K k j = I2 k j := fun k j hk => cK k j (by omega) (by omega)
      refine ⟨t1, jRG_f hG2 (cC _ _ (by decide)) (cC _ _ (by decide)) (fun _ => cC _ _ (by decide)) (fun _ => cC _ _ (by decide)) (fun _ => cC _ _ (by decide)), jRR_cg2 t1 t2 (fun j hj => ?_), ⟨a, by omega, by rw [cC _ _ (by decide), k1], by rw [f1 _ _ (by decide), up_eq], G, rfl, fun k hk => ?_⟩, ⟨c, p1, by rw [cC _ _ (by decide), k3, p2], by rw [cK _ _ (by decide) (by decide), c2 _ _ (by decide), p3], fun i hi => ?_⟩⟩
      · rw [f2 j hj, up_nk (by decide)]
        show I2 100 _ = _
        rw [c2 _ _ (by decide)]
      · obtain ⟨r1, r2, r3⟩ := q5 k (by omega)
        refine ⟨r1, jRR_cg r2 (fun j => by rw [cK _ _ (by decide) (by omega), c2 _ _ (by decide)]), ?_⟩
        rw [cC 20 k (by decide), cC 21 k (by decide), cC 22 k (by decide), cC 23 k (by decide), k2 20 k (by decide) (by decide) (by decide) (by decide), k2 21 k (by decide) (by decide) (by decide) (by decide), k2 22 k (by decide) (by decide) (by decide) (by decide), k2 23 k (by decide) (by decide) (by decide) (by decide)]
        exact r3
      · obtain ⟨x, y, r1, r2, r3, r4, r5, r6⟩ := p4 i hi
        exact ⟨x, y, by rw [hY]; exact r1, r2, by rw [cC _ _ (by decide), k2 _ _ (by decide) (by decide) (by decide) (by decide), r3], by rw [cC _ _ (by decide), k2 _ _ (by decide) (by decide) (by decide) (by decide), r4], by rw [cK _ _ (by decide) (by omega), c2 _ _ (by decide), r5], by rw [cK _ _ (by decide) (by omega), c2 _ _ (by decide), r6]⟩
