/-! ===== take, day, undo ===== -/
theorem jq_day {I : iq_I} (hI : jInv I) : ∃ v I1 I2, zO_day I = some (v, I1) ∧ zM_day I1 = some (v, I2) ∧ jInv I2 := by
  obtain ⟨m, g, hm, hU, hN, hB, hM, hi, ht, hf, hr⟩ := jInv_iff.mp hI
  obtain ⟨hg, hG, hR, -⟩ := id hM
  obtain ⟨h, h1, h2, h3⟩ := jMn_held hM
  have hD := hg.2.2.2.2
  have d7 := jn_d7 ⟨gD g, hD⟩
  simp only at d7
  have e1 : zG_nextDay_16 I = some (iq_upI I 16 1 (jn ((gD g + 1) % 7))) := by
    unfold zG_nextDay_16
    rw [jRG_D hG, d7, ir_let]
  obtain ⟨I2, e2, k1, k2, k3, k4, k5, k6, k7⟩ := jc_keep (I := iq_upI I 16 1 (jn ((gD g + 1) % 7))) (d := 2) (s := 0) (p := 0) (w := 0) h1 (by rw [up_nk (by decide), h2])
  have hG2 : jRG I2 16 17 18 24 (gDy g ((gD g + 1) % 7)) := by
    refine ⟨?_, ?_, fun s hs => ?_, fun s hs => ?_, fun s i hs hi => ?_⟩
    · rw [k1 _ _ (by omega), up_ni (by decide)]; exact hG.1
    · rw [k1 _ _ (by omega), up_eq]; rfl
    · rw [k1 _ _ (by omega), up_nk (by decide)]; exact hG.2.2.1 s hs
    · rw [k1 _ _ (by omega), up_nk (by decide)]; exact hG.2.2.2.1 s hs
    · rw [k1 _ _ (by omega), up_nk (by decide)]; exact hG.2.2.2.2 s i hs hi
  have c1 : jad [4] I I2 := fun k i hk => by
    have w1 : k < 19 ∨ 23 < k := by
      apply Classical.byContradiction
      intro hc
      have q : k = 19 ∨ k = 20 ∨ k = 21 ∨ k = 22 ∨ k = 23 := by omega
      rcases q with rfl | rfl | rfl | rfl | rfl <;> exact hk (show 4 ∈ [4] by decide)
    rw [k1 k i w1, up_nk (fun e => by subst e; exact hk (show 4 ∈ [4] by decide))]
  have c2 : ∀ k j, 26 < k → I2 k j = I k j := fun k j hk => by rw [k1 k j (by omega), up_nk (by omega)]
  obtain ⟨K3, e3, f1, f2, f3, f4⟩ := jm_keeps (I := jz I2) (a := h) h1 (by show I2 76 54 = _; rw [c2 _ _ (by decide), h3])
  have e98 : ∀ j, K3 98 j = I 98 j := fun j => by
    rw [f1 98 j (by decide) (by omega)]
    show I2 98 j = _
    rw [c2 _ _ (by decide)]
  have hg' : gOk m (gDy g ((gD g + 1) % 7)) := ⟨hg.1, hg.2.1, hg.2.2.1, hg.2.2.2.1, by show (gD g + 1) % 7 < 7; omega⟩
  have fin := jActBoth (K4 := iq_upI K3 98 5 (jn ((gD g + 1) % 7))) (g' := gDy g ((gD g + 1) % 7)) hm hU hN hB hM hi ht hf hr h1 h2 c1 c2 hG2 k2 (fun k j q1 q2 q3 => by rw [k3 k j q1 q2 q3, up_nk (by omega)]) k4 k5 k6 k7 (by rw [k1 _ _ (by omega), up_ni (by decide)]) (fun j => by rw [k1 _ _ (by omega), up_nk (by decide)]) (fun j => by rw [k1 _ _ (by omega), up_nk (by decide)]) (jz_ag I2) e3 (fun k j hk => up_nk hk) ?_ hg' rfl rfl ⟨rfl, fun _ _ => rfl, Or.inr (Or.inr ⟨rfl, by show gD g = ((gD g + 1) % 7 + 6) % 7; omega, fun _ _ => rfl⟩)⟩
  · refine ⟨jn ((gD g + 1) % 7), I2, iq_upI K3 98 5 (jn ((gD g + 1) % 7)), ?_, ?_, fin.1⟩
    · unfold zO_day
      rw [e1, Option.bind_some, e2, Option.bind_some, k1 16 1 (by omega), up_eq]
    · unfold zM_day
      rw [jzE, ir_let, e3, Option.bind_some, e98, jRR_D hR, d7, ir_let, up_eq]
  · refine ⟨up_eq, fun s hs => ?_, fun s i hs hi => ?_⟩
    · have hs' : s < gY g := hs
      have h5 := hg.1
      rw [up_ni (by omega), e98]; exact hR.2.1 s hs
    · rw [up_ni (by omega), e98]; exact hR.2.2 s i hs hi
theorem jq_take {I : iq_I} (hI : jInv I) (x y : Int32) (X : iq_X) : jAct I (zO_take x y I X) (zM_take x y) X := by
  obtain ⟨m, g, hm, hU, hN, hB, hM, hi, ht, hf, hr⟩ := jInv_iff.mp hI
  obtain ⟨hg, hG, hR, -⟩ := id hM
  by_cases hx : ∃ s, s < gY g ∧ x = jn s
  · obtain ⟨a, ha, rfl⟩ := hx
    have h5 := hg.1
    have h40 := hg.2.2.1 a ha
    have i5 : iq_in (jn a) 5 := by rw [jn_in (by omega)]; omega
    have i206 : iq_in (jn a) 206 := by rw [jn_in (by omega)]; omega
    have ka : (jn a).toNatClampNeg = a := jn_clamp (by omega)
    by_cases hy : ∃ b, b < (gS g a).length ∧ y = jn b
    · obtain ⟨b, hb, rfl⟩ := hy
      obtain ⟨h, h1, h2, h3⟩ := jMn_held hM
      have e1 := jc_takeOut hg hG ha hb
      obtain ⟨I2, e2, k1, k2, k3, k4, k5, k6, k7⟩ := jc_keep (I := jTak I 18 24 a b (gS g a).length) (d := 1) (s := jn a) (p := jn b) (w := jn ((gS g a).getD b 0)) h1 (by rw [jTak_nk (by decide) (by decide), h2])
      have hG1 := jRG_take hg hG (by decide) (by decide) (by decide) (by decide) (by decide) ha hb
      have hG2 : jRG I2 16 17 18 24 (gRp g a ((gS g a).eraseIdx b)) := jRG_f hG1 (k1 _ _ (by omega)) (k1 _ _ (by omega)) (fun _ => k1 _ _ (by omega)) (fun _ => k1 _ _ (by omega)) (fun _ => k1 _ _ (by omega))
      have c1 : jad [4] I I2 := fun k i hk => by
        have w1 : k < 19 ∨ 23 < k := by
          apply Classical.byContradiction
          intro hc
          have q : k = 19 ∨ k = 20 ∨ k = 21 ∨ k = 22 ∨ k = 23 := by omega
          rcases q with rfl | rfl | rfl | rfl | rfl <;> exact hk (show 4 ∈ [4] by decide)
        rw [k1 k i w1, jTak_nk (fun e => by subst e; exact hk (show 4 ∈ [4] by decide)) (fun e => by subst e; exact hk (show 4 ∈ [4] by decide))]
      have c2 : ∀ k j, 26 < k → I2 k j = I k j := fun k j hk => by rw [k1 k j (by omega), jTak_nk (by omega) (by omega)]
      obtain ⟨K3, e3, f1, f2, f3, f4⟩ := jm_keeps (I := jz I2) (a := h) h1 (by show I2 76 54 = _; rw [c2 _ _ (by decide), h3])
      have e98 : ∀ j, K3 98 j = I 98 j := fun j => by
        rw [f1 98 j (by decide) (by omega)]
        show I2 98 j = _
        rw [c2 _ _ (by decide)]
      have hR3 : jRR (K3 98) g := jRR_cg hR e98
      obtain ⟨K4, e4, p1, p2, p3⟩ := jm_takeL (I := iq_upI K3 98 a (jn ((gS g a).length - 1))) (x3 := jn ((gS g a).getD b 0)) (show a < 5 by omega) hb h40 up_eq
      have hR4 : jRR (K4 98) (gRp g a ((gS g a).eraseIdx b)) := by
        refine ⟨?_, fun s hs => ?_, fun s i hs hi => ?_⟩
        · rw [p2 5 (by omega), up_ni (by omega)]; exact hR3.1
        · have hs' : s < gY g := hs
          rw [p2 s (by omega)]
          by_cases q : s = a
          · subst q; rw [up_eq, gRp_S, jl_eral hb]
          · rw [up_ni q, gRp_T q, jRR_L hR3 s hs]
        · have hs' : s < gY g := hs
          by_cases q : s = a
          · subst q
            rw [gRp_S, jl_eral hb] at hi
            rw [gRp_S, jl_era]
            by_cases q1 : i < b
            · rw [if_pos q1, p2 _ (by omega), up_ni (by omega), jRR_W hR3 s i hs' (by omega)]
            · rw [if_neg q1, p3 i (by omega) (by omega), up_ni (by omega), jRR_W hR3 s (i + 1) hs' (by omega)]
          · rw [gRp_T q] at hi ⊢
            have h40 := hg.2.2.1 s hs'
            rw [p2 _ (by omega), up_ni (by omega), jRR_W hR3 s i hs' hi]
      have fin := jActBoth (K4 := K4) (g' := gRp g a ((gS g a).eraseIdx b)) hm hU hN hB hM hi ht hf hr h1 h2 c1 c2 hG2 k2 (fun k j q1 q2 q3 => by rw [k3 k j q1 q2 q3, jTak_nk (by omega) (by omega)]) k4 k5 k6 k7 (by rw [k1 _ _ (by omega), jTak_nk (by decide) (by decide)]) (fun j => by rw [k1 _ _ (by omega), jTak_nk (by decide) (by decide)]) (fun j => by rw [k1 _ _ (by omega), jTak_nk (by decide) (by decide)]) (jz_ag I2) e3 (fun k j hk => by rw [p1 k j hk, up_nk hk]) hR4 (gOk_take hg ha hb) rfl rfl (jUn_take hg ha hb)
      have hB2 : jRB I2 g := jRB_ad hB c1 (by decide)
      refine jAct_v (jn ((gS g a).getD b 0)) (I1 := I2) ?_ (I2 := K4) ?_ fin.1 (by rw [fin.2]; rfl) (fun j => c1 0 j (show ¬ 9 ∈ [4] by decide))
      · simp only [zO_take, jc_needSaying1 hg hG ha, ir_let, iq_sm, ir_sm, jzE, j10, Option.bind_some, ↓reduceIte, not_true_eq_false, not_false_eq_true, if_pos i5, ka, jRG_L hG a ha]
        rw [if_neg (by rw [jl0, jn_lt (by omega) (by omega)]; omega), if_pos (by rw [jn_lt (by omega) (by omega)]; exact hb), e1, Option.bind_some]
        dsimp only
        rw [e2, Option.bind_some]
      · simp only [zM_take, jm_isSaying1 hg hB2 ha, ir_let, iq_sm, ir_sm, jzE, j10, Option.bind_some, ↓reduceIte, not_true_eq_false, not_false_eq_true, if_pos i206, ka]
        rw [if_neg (by rw [jl0, jn_lt (by omega) (by omega)]; omega), show jz I2 98 a = jn (gS g a).length by (show I2 98 a = _; rw [c2 _ _ (by decide), jRR_L hR a ha]), if_pos (by rw [jn_lt (by omega) (by omega)]; exact hb), e3, Option.bind_some, jm_wordAt hg hR3 ha hb, Option.bind_some, jRR_L hR3 a ha, jl1, jn_sub (by omega), e4, Option.bind_some]
    · have no : zO_take (jn a) y I X = zO_take_22 I X → (∀ I1, jad [0, 8] I I1 → zM_take (jn a) y I1 = zM_take_29 (jz I1)) → jAct I (zO_take (jn a) y I X) (zM_take (jn a) y) X := fun q1 q2 => by
        have u1 : jad [0, 8] I (iq_upI I 3 1 (I 3 1 + 1)) := jad_up (jad_rf _ I) (show 8 ∈ [0, 8] by decide)
        refine jAct_v (-1) (I1 := iq_upI I 3 1 (I 3 1 + 1)) q1 (I2 := iq_upI (jz (iq_upI I 3 1 (I 3 1 + 1))) 86 1 (jz (iq_upI I 3 1 (I 3 1 + 1)) 86 1 + 1)) ?_ (jInv_ref hI 1 (by decide) (jag_rf I) (jz_ag _)) rfl (fun j => up_nk (by decide))
        rw [q2 _ u1]
        rfl
      rcases jx_no (by omega) hy with q | ⟨q1, q2, -⟩
      · refine no ?_ fun I1 a1 => ?_
        · simp only [zO_take, jc_needSaying1 hg hG ha, ir_let, iq_sm, ir_sm, jzE, j10, Option.bind_some, ↓reduceIte, not_true_eq_false, not_false_eq_true, if_pos q]
        · simp only [zM_take, jm_isSaying1 hg (jRB_ad hB a1 (by decide)) ha, ir_let, iq_sm, ir_sm, jzE, j10, Option.bind_some, ↓reduceIte, not_true_eq_false, not_false_eq_true, if_pos q]
      · refine no ?_ fun I1 a1 => ?_
        · simp only [zO_take, jc_needSaying1 hg hG ha, ir_let, iq_sm, ir_sm, jzE, j10, Option.bind_some, ↓reduceIte, not_true_eq_false, not_false_eq_true, if_pos i5, ka, jRG_L hG a ha, if_neg q1, if_neg q2]
        · simp only [zM_take, jm_isSaying1 hg (jRB_ad hB a1 (by decide)) ha, ir_let, iq_sm, ir_sm, jzE, j10, Option.bind_some, ↓reduceIte, not_true_eq_false, not_false_eq_true, if_pos i206, ka, if_neg q1]
          rw [show jz I1 98 a = jn (gS g a).length by (show I1 98 a = _; rw [a1 98 a (show ¬ 4 ∈ [0, 8] by decide), jRR_L hR a ha]), if_neg q2]
  · refine jAct_e hI ?_ ?_
    · simp only [zO_take, jc_needSaying0 hg hG hx, ir_let, iq_sm, ir_sm, jzE, j10, Option.bind_some, ↓reduceIte, not_true_eq_false, not_false_eq_true]
    · simp only [zM_take, jm_isSaying0 hg hB hx, ir_let, iq_sm, ir_sm, jzE, j10, Option.bind_some, ↓reduceIte, not_true_eq_false, not_false_eq_true]
