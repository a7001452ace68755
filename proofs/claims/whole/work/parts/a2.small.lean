/-! ===== fault, forget, see, image, restore, feed ===== -/
theorem jq_fault {I : iq_I} (hI : jInv I) : ∃ v I2, zO_fault I = some v ∧ zM_fault I = some (v, I2) ∧ jag I I2 := by
  obtain ⟨m, g, hm, hU, hN, hB, hM, hi, ht, hf, hr⟩ := jInv_iff.mp hI
  refine ⟨I 1 12, jz I, rfl, ?_, jz_ag I⟩
  unfold zM_fault
  rw [jzE, ir_let, show jz I 76 19 = I 76 19 from rfl, hf]
theorem jq_forget {I : iq_I} (hI : jInv I) : ∃ I1 I2, zO_forget I = some I1 ∧ zM_forget I1 = some I2 ∧ jInv I2 := by
  obtain ⟨m, g, hm, hU, hN, hB, hM, hi, ht, hf, hr⟩ := jInv_iff.mp hI
  obtain ⟨hg, hG, hR, ⟨a, q1, q2, q3, G, q4, q5⟩, ⟨c, p1, p2, p3, p4⟩⟩ := id hM
  refine ⟨iq_upI I 16 2 0, iq_upI (jz (iq_upI I 16 2 0)) 76 63 0, rfl, rfl, ?_⟩
  have aa : jad [0, 4] I (iq_upI (jz (iq_upI I 16 2 0)) 76 63 0) := jad_up (jad_tr (jad_up (jad_rf _ I) (show 4 ∈ [0, 4] by decide)) (jad_ag (jz_ag _) (by decide))) (show 4 ∈ [0, 4] by decide)
  have C : ∀ k j, ¬ (k = 16 ∧ j = 2) → ¬ (k = 76 ∧ (j = 0 ∨ j = 63)) → iq_upI (jz (iq_upI I 16 2 0)) 76 63 0 k j = I k j := fun k j h1 h2 => by
    unfold jz
    by_cases e : k = 76
    · subst e; rw [up_ni (by omega), up_ni (by omega), up_nk (by decide)]
    · rw [up_nk e, up_nk e]
      by_cases e : k = 16
      · subst e; rw [up_ni (by omega)]
      · rw [up_nk e]
  refine jInv_act (g' := g) hm hU hN hB hi ht hf hr aa rfl rfl ⟨hg, jRG_f hG (C _ _ (by decide) (by decide)) (C _ _ (by decide) (by decide)) (fun _ => C _ _ (by omega) (by omega)) (fun _ => C _ _ (by omega) (by omega)) (fun _ => C _ _ (by omega) (by omega)), jRR_cg hR (fun _ => C _ _ (by omega) (by omega)), ⟨a, q1, by rw [C _ _ (by omega) (by omega), q2], by rw [C _ _ (by omega) (by omega), q3], G, q4, fun k hk => ?_⟩, ⟨0, by omega, rfl, rfl, fun i hi => by omega⟩⟩
  obtain ⟨r1, r2, r3⟩ := q5 k hk
  refine ⟨r1, jRR_cg r2 (fun j => C _ _ (by omega) (by omega)), ?_⟩
  rw [C 20 k (by omega) (by omega), C 21 k (by omega) (by omega), C 22 k (by omega) (by omega), C 23 k (by omega) (by omega)]
  exact r3
theorem jq_see {I : iq_I} (hI : jInv I) (x z : Int32) (X : iq_X) : jAct I (zO_see x z I X) (zM_see x z) X := by
  obtain ⟨m, g, hm, hU, hN, hB, hM, hi, ht, hf, hr⟩ := jInv_iff.mp hI
  obtain ⟨hg, hG, hR, ⟨a, q1, q2, q3, G, q4, q5⟩, ⟨c, p1, p2, p3, p4⟩⟩ := id hM
  by_cases hx : ∃ s, s < gY g ∧ x = jn s
  · obtain ⟨y, hy, rfl⟩ := hx
    by_cases hz : ∃ s, s < mW m ∧ z = jn s
    · obtain ⟨w, hw, rfl⟩ := hz
      by_cases hc : c < 3
      · obtain ⟨I1, e1, hI1⟩ : ∃ I1, zG_witness (jn y) (jn w) I = some I1 ∧ I1 = iq_upI (iq_upI (iq_upI I 25 c (jn y)) 26 c (jn w)) 16 2 (jn (c + 1)) := by
          refine ⟨_, ?_, rfl⟩
          simp (disch := omega) only [zG_witness, up_nkx 16 25 (by decide), up_nkx 16 26 (by decide), p2, ir_let, jn_lt, jn_le, jn_in, jn_inj, jn_ne_m, jm_ne_n, jm_eq_m, jm_lt, jm_le, jn_lt_m, jn_le_m, jn_add, jn_mul, jn_clamp, jo_some, jn_min, jn_max, ↓jlm, jl0, jl1, jl2, jl3, jl4, jl5, jl6, jl7, jl8, jl9, jl10, jl11, jl12, jl13, jl14, jl15, jl16, jl20, jl24, jl32, jl39, jl40, jl41, jl60, jl61, jl80, jl96, jl97, jl99, jl100, jl122, jl126, jl199, jl200, jl205, jl206, jl255, jl256, jl410, jl700, jl950, jl1000, jl1000000, jl4000, jl8240, jl32767, if_pos, if_neg, ↓reduceIte, Option.bind_some, not_true_eq_false, not_false_eq_true, Nat.not_lt, Nat.not_le]
        have C1 : ∀ k j, ¬ (k = 16 ∧ j = 2) → ¬ (k = 25 ∧ j = c) → ¬ (k = 26 ∧ j = c) → I1 k j = I k j := fun k j h1 h2 h3 => by
          subst hI1
          have u1 : ∀ (J : iq_I) (v : Int32), iq_upI J 16 2 v k j = J k j := fun J v => by
            by_cases e : k = 16
            · subst e; exact up_ni (by omega)
            · exact up_nk e
          have u2 : ∀ (J : iq_I) (v : Int32), iq_upI J 26 c v k j = J k j := fun J v => by
            by_cases e : k = 26
            · subst e; exact up_ni (by omega)
            · exact up_nk e
          have u3 : ∀ (J : iq_I) (v : Int32), iq_upI J 25 c v k j = J k j := fun J v => by
            by_cases e : k = 25
            · subst e; exact up_ni (by omega)
            · exact up_nk e
          rw [u1, u2, u3]
        have a1 : jad [0, 4] I I1 := by
          subst hI1
          exact jad_up (jad_up (jad_up (jad_rf _ I) (show 4 ∈ [0, 4] by decide)) (show 4 ∈ [0, 4] by decide)) (show 4 ∈ [0, 4] by decide)
        have z63 : jz I1 76 63 = jn c := by
          show I1 76 63 = _
          rw [C1 _ _ (by omega) (by omega) (by omega), p3]
        have u63 : ∀ (i : Nat) (v : Int32), iq_upI (jz I1) 108 i v 76 63 = jn c := fun i v => by rw [up_nk (by decide), z63]
        have u64 : ∀ (i j : Nat) (v v' : Int32), iq_upI (iq_upI (jz I1) 108 i v) 108 j v' 76 63 = jn c := fun i j v v' => by rw [up_nk (by decide), up_nk (by decide), z63]
        have hN1 : jRN I1 m := jRN_ad hN a1 (by decide)
        have hB1 : jRB I1 g := jRB_ad hB a1 (by decide)
        refine jAct_v (jn (c + 1)) (I1 := I1) ?_ (I2 := iq_upI (iq_upI (iq_upI (jz I1) 108 (2 * c) (jn y)) 108 (2 * c + 1) (jn w)) 76 63 (jn (c + 1))) ?_ ?_ rfl (fun j => a1 0 j (show ¬ 9 ∈ [0, 4] by decide))
        · simp only [zO_see, jc_needSaying1 hg hG hy, jc_needWord1 hm hU hw, ir_let, iq_sm, ir_sm, jzE, j10, Option.bind_some, ↓reduceIte, not_true_eq_false, not_false_eq_true, p2, e1]
          rw [if_pos (by rw [jl3, jn_lt (by omega) (by omega)]; exact hc), hI1, up_eq]
        · simp only [zM_see, jm_isSaying1 hg hB1 hy, jm_isWord1 hm hN1 hw, ir_let, iq_sm, ir_sm, jzE, j10, Option.bind_some, ↓reduceIte, not_true_eq_false, not_false_eq_true]
          simp (disch := omega) only [z63, u63, u64, up_eq, ir_let, jn_lt, jn_le, jn_in, jn_inj, jn_ne_m, jm_ne_n, jm_eq_m, jm_lt, jm_le, jn_lt_m, jn_le_m, jn_add, jn_mul, jn_clamp, jo_some, jn_min, jn_max, ↓jlm, jl0, jl1, jl2, jl3, jl4, jl5, jl6, jl7, jl8, jl9, jl10, jl11, jl12, jl13, jl14, jl15, jl16, jl20, jl24, jl32, jl39, jl40, jl41, jl60, jl61, jl80, jl96, jl97, jl99, jl100, jl122, jl126, jl199, jl200, jl205, jl206, jl255, jl256, jl410, jl700, jl950, jl1000, jl1000000, jl4000, jl8240, jl32767, if_pos, if_neg, ↓reduceIte, Option.bind_some, not_true_eq_false, not_false_eq_true, Nat.not_lt, Nat.not_le]
        · have aa : jad [0, 4] I (iq_upI (iq_upI (iq_upI (jz I1) 108 (2 * c) (jn y)) 108 (2 * c + 1) (jn w)) 76 63 (jn (c + 1))) := jad_up (k := 76) (i := 63) (jad_up (k := 108) (i := 2 * c + 1) (jad_up (k := 108) (i := 2 * c) (jad_tr a1 (jad_ag (jz_ag I1) (by decide))) (show 4 ∈ [0, 4] by decide)) (show 4 ∈ [0, 4] by decide)) (show 4 ∈ [0, 4] by decide)
          have C : ∀ k j, ¬ k = 76 → ¬ k = 108 → iq_upI (iq_upI (iq_upI (jz I1) 108 (2 * c) (jn y)) 108 (2 * c + 1) (jn w)) 76 63 (jn (c + 1)) k j = I1 k j := fun k j h1 h2 => by
            rw [up_nk h1, up_nk h2, up_nk h2]; exact up_nk h1
          have C2 : ∀ k j, ¬ k = 76 → ¬ k = 108 → ¬ (k = 16 ∧ j = 2) → ¬ (k = 25 ∧ j = c) → ¬ (k = 26 ∧ j = c) → iq_upI (iq_upI (iq_upI (jz I1) 108 (2 * c) (jn y)) 108 (2 * c + 1) (jn w)) 76 63 (jn (c + 1)) k j = I k j := fun k j h1 h2 h3 h4 h5 => by
            rw [C k j h1 h2, C1 k j h3 h4 h5]
          refine jInv_act (g' := g) hm hU hN hB hi ht hf hr aa rfl rfl ⟨hg, jRG_f hG (C2 _ _ (by omega) (by omega) (by omega) (by omega) (by omega)) (C2 _ _ (by omega) (by omega) (by omega) (by omega) (by omega)) (fun _ => C2 _ _ (by omega) (by omega) (by omega) (by omega) (by omega)) (fun _ => C2 _ _ (by omega) (by omega) (by omega) (by omega) (by omega)) (fun _ => C2 _ _ (by omega) (by omega) (by omega) (by omega) (by omega)), jRR_cg hR (fun _ => C2 _ _ (by omega) (by omega) (by omega) (by omega) (by omega)), ⟨a, q1, by rw [C2 _ _ (by omega) (by omega) (by omega) (by omega) (by omega), q2], ?_, G, q4, fun k hk => ?_⟩, ⟨c + 1, by omega, ?_, up_eq, fun i hi => ?_⟩⟩
          · rw [up_ni (by decide), up_nk (by decide), up_nk (by decide)]
            show I1 76 54 = _
            rw [C1 _ _ (by omega) (by omega) (by omega), q3]
          · obtain ⟨r1, r2, r3⟩ := q5 k hk
            refine ⟨r1, jRR_cg r2 (fun j => C2 _ _ (by omega) (by omega) (by omega) (by omega) (by omega)), ?_⟩
            rw [C2 20 k (by omega) (by omega) (by omega) (by omega) (by omega), C2 21 k (by omega) (by omega) (by omega) (by omega) (by omega), C2 22 k (by omega) (by omega) (by omega) (by omega) (by omega), C2 23 k (by omega) (by omega) (by omega) (by omega) (by omega)]
            exact r3
          · rw [C _ _ (by omega) (by omega), hI1, up_eq]
          · rw [C 25 i (by omega) (by omega), C 26 i (by omega) (by omega)]
            by_cases e : i = c
            · subst e
              refine ⟨y, w, hy, hw, ?_, ?_, ?_, ?_⟩
              · rw [hI1, up_nk (by decide), up_nk (by decide), up_eq]
              · rw [hI1, up_nk (by decide), up_eq]
              · rw [up_nk (by decide), up_ni (by omega), up_eq]
              · rw [up_nk (by decide), up_eq]
            · obtain ⟨x', y', r1, r2, r3, r4, r5, r6⟩ := p4 i (by omega)
              refine ⟨x', y', r1, r2, ?_, ?_, ?_, ?_⟩
              · rw [C1 _ _ (by omega) (by omega) (by omega), r3]
              · rw [C1 _ _ (by omega) (by omega) (by omega), r4]
              · rw [up_nk (by decide), up_ni (by omega), up_ni (by omega)]
                show I1 108 _ = _
                rw [C1 _ _ (by omega) (by omega) (by omega), r5]
              · rw [up_nk (by decide), up_ni (by omega), up_ni (by omega)]
                show I1 108 _ = _
                rw [C1 _ _ (by omega) (by omega) (by omega), r6]
      · have ec : c = 3 := by omega
        subst ec
        have u1 : jad [0, 8] I (iq_upI I 3 2 (I 3 2 + 1)) := jad_up (jad_rf _ I) (show 8 ∈ [0, 8] by decide)
        have z63 : jz (iq_upI I 3 2 (I 3 2 + 1)) 76 63 = 3 := by
          show I 76 63 = _
          rw [p3]; rfl
        refine jAct_v (-1) (I1 := iq_upI I 3 2 (I 3 2 + 1)) ?_ (I2 := iq_upI (jz (iq_upI I 3 2 (I 3 2 + 1))) 86 2 (jz (iq_upI I 3 2 (I 3 2 + 1)) 86 2 + 1)) ?_ (jInv_ref hI 2 (by decide) (jag_rf I) (jz_ag _)) rfl (fun j => up_nk (by decide))
        · simp only [zO_see, jc_needSaying1 hg hG hy, jc_needWord1 hm hU hw, ir_let, iq_sm, ir_sm, jzE, j10, Option.bind_some, ↓reduceIte, not_true_eq_false, not_false_eq_true, p2]
          rfl
        · simp only [zM_see, jm_isSaying1 hg (jRB_ad hB u1 (by decide)) hy, jm_isWord1 hm (jRN_ad hN u1 (by decide)) hw, ir_let, iq_sm, ir_sm, jzE, j10, Option.bind_some, ↓reduceIte, not_true_eq_false, not_false_eq_true, z63]
          rfl
    · refine jAct_e hI ?_ ?_
      · simp only [zO_see, jc_needSaying1 hg hG hy, jc_needWord0 hm hU hz, ir_let, iq_sm, ir_sm, jzE, j10, Option.bind_some, ↓reduceIte, not_true_eq_false, not_false_eq_true]
      · simp only [zM_see, jm_isSaying1 hg hB hy, jm_isWord0 hm hN hz, ir_let, iq_sm, ir_sm, jzE, j10, Option.bind_some, ↓reduceIte, not_true_eq_false, not_false_eq_true]
  · refine jAct_e hI ?_ ?_
    · simp only [zO_see, jc_needSaying0 hg hG hx, ir_let, iq_sm, ir_sm, jzE, j10, Option.bind_some, ↓reduceIte, not_true_eq_false, not_false_eq_true]
    · simp only [zM_see, jm_isSaying0 hg hB hx, ir_let, iq_sm, ir_sm, jzE, j10, Option.bind_some, ↓reduceIte, not_true_eq_false, not_false_eq_true]
