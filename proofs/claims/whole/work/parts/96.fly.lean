/-! ===== fly, add ===== -/
theorem jx_no2 {x : Int32} {n : Nat} (hn : n < 2147483640) (h : ¬ ∃ s, s ≤ n ∧ x = jn s) : x < 0 ∨ (¬ x < 0 ∧ ¬ x ≤ jn n) := by
  rcases jx_cases x with hx | ⟨k, hk, rfl⟩
  · exact Or.inl hx
  · refine Or.inr ?_
    have : n < k := by
      apply Classical.byContradiction
      intro hc
      exact h ⟨k, by omega, rfl⟩
    rw [show (0 : Int32) = jn 0 from rfl, jn_lt hk (by omega), jn_le hk (by omega)]
    omega
/-- the whole of an act that puts a word in -/
theorem jPutBoth {I : iq_I} {m : jMu} {g : jGa} (hm : mOk m) (hU : jRU I m) (hN : jRN I m) (hB : jRB I g) (hM : jMn I m g) (hi : jIm I m g) (ht : jTp I) (hf : jFl I) (hr : jRf I) {a b c : Nat} (ha : a < gY g) (hb : b ≤ (gS g a).length) (h4 : (gS g a).length < 40) (hc : c < mW m) :
    ∃ I1 I2, zG_putIn_16 (jn a) (jn b) (jn c) I = some I1 ∧ zA_keep (0 : Int32) (jn a) (jn b) (jn c) I1 = some I2 ∧ I2 18 a = jn ((gS g a).length + 1) ∧ jad [4] I I2 ∧ (∀ k j, 26 < k → I2 k j = I k j) ∧
      ∀ K : iq_I, jag I2 K → K 76 0 = 0 → ∃ K3 K4, zM_keeps K = some K3 ∧ K3 98 a = jn (gS g a).length ∧ zM_puts0_76_98 (jn a) (jn b) (jn c) K3 = some K4 ∧ K4 98 a = jn ((gS g a).length + 1) ∧ K4 76 0 = 0 ∧ jInv K4 := by
  obtain ⟨h, h1, h2, h3⟩ := jMn_held hM
  obtain ⟨hg, hG, hR, -⟩ := id hM
  have h5 := hg.1
  obtain ⟨I1, I2, e1, e2, k1, k2, k3, k4⟩ := jc_putKeep (c := c) hM ha hb h4
  refine ⟨I1, I2, e1, e2, k3, k1, k2, fun K aK K0 => ?_⟩
  have kI : ∀ k j, 26 < k → jsc k j = false → K k j = I k j := fun k j hk hj => by rw [aK k j hj, k2 k j hk]
  have hRK : jRR (K 98) g := jRR_cg hR fun j => kI 98 j (by decide) rfl
  obtain ⟨K3, e3, f1, f2, f3, f4⟩ := jm_keeps (I := K) h1 (by rw [kI 76 54 (by decide) rfl, h3])
  have hR3 : jRR (K3 98) g := jRR_cg hRK fun j => f1 98 j (by decide) (by omega)
  obtain ⟨K4, e4, p1, p2⟩ := jm_puts0 (c := c) hg hR3 ha hb h4
  have s4 : jsc 100 0 = false := rfl
  refine ⟨K3, K4, e3, jRR_L hR3 a ha, e4, ?_, ?_, ?_⟩
  · have q := jRR_L p2 a ha
    rw [gRp_S, jl_insl hb] at q
    exact q
  · rw [p1 76 0 (by decide), f1 76 0 (by decide) (by decide), K0]
  · have aa : jad [0, 4] I K4 := by
      refine jad_tr (jad_mo k1 (by decide)) (jad_tr (jad_ag aK (by decide)) (jad_tr (I' := K3) (fun k j hk => ?_) fun k j hk => ?_))
      · exact f1 k j (fun e => by subst e; exact hk (show 4 ∈ [0, 4] by decide)) (fun e => by obtain ⟨e1, e2⟩ := e; subst e1; subst e2; exact hk (show 4 ∈ [0, 4] by decide))
      · exact p1 k j (fun e => by subst e; exact hk (show 4 ∈ [0, 4] by decide))
    refine jInv_act (g' := gRp g a ((gS g a).insertIdx b c)) hm hU hN hB hi ht hf hr aa rfl rfl ?_
    -- the scratch cells below 76 stand between: take them from I2
    have a4 : jMn (fun k j => if k < 76 then I2 k j else K4 k j) m (gRp g a ((gS g a).insertIdx b c)) := by
      refine k4 (fun k j => if k < 76 then I2 k j else K3 k j) _ (fun k j hk => if_pos hk) (fun k j hk => ?_) ?_ (fun h' q1 q2 => ?_) ?_ (fun j => ?_) hc
      · by_cases q : k < 76
        · rw [if_pos q, if_pos q]
        · rw [if_neg q, if_neg q, p1 k j hk]
      · exact p2
      · have : h' = h := by rw [h2, jn_inj (by omega) (by omega)] at q2; exact q2.symm
        subst this
        refine ⟨f2, fun k j w1 w2 => ?_, fun j w1 => ?_⟩
        · show K3 100 _ = _
          rw [f3 k j w1 w2, kI 100 _ (by decide) rfl]
        · show K3 100 _ = _
          rw [f4 j w1, kI 98 _ (by decide) rfl]
      · show K3 76 63 = _
        rw [f1 76 63 (by decide) (by decide), kI 76 63 (by decide) rfl]
      · show K3 108 j = _
        rw [f1 108 j (by decide) (fun e => by omega), kI 108 _ (by decide) rfl]
    refine jMn_ad (L := [0]) a4 (fun k j hk => ?_) (by decide)
    by_cases q : k < 76
    · rw [if_pos q, p1 k j (by omega), f1 k j (by omega) (by omega), aK k j (by
        cases e : jsc k j with
        | false => rfl
        | true => rw [ut_sc e] at hk; exact absurd (List.mem_singleton.mpr rfl) hk)]
    · rw [if_neg q]
theorem jq_fly {I : iq_I} (hI : jInv I) (x y z : Int32) (X : iq_X) : jAct I (zO_fly x y z I X) (zM_fly x y z) X := by
  obtain ⟨m, g, hm, hU, hN, hB, hM, hi, ht, hf, hr⟩ := jInv_iff.mp hI
  obtain ⟨hg, hG, hR, -⟩ := id hM
  by_cases hx : ∃ s, s < gY g ∧ x = jn s
  · obtain ⟨a, ha, rfl⟩ := hx
    by_cases hz : ∃ s, s < mW m ∧ z = jn s
    · obtain ⟨c, hc, rfl⟩ := hz
      have h5 := hg.1
      have h40 := hg.2.2.1 a ha
      have h14 := hm.2.1
      have i5 : iq_in (jn a) 5 := by rw [jn_in (by omega)]; omega
      have i206 : iq_in (jn a) 206 := by rw [jn_in (by omega)]; omega
      have ka : (jn a).toNatClampNeg = a := jn_clamp (by omega)
      have no : zO_fly (jn a) y (jn c) I X = zO_fly_41 I X → (∀ I1, jad [0, 8] I I1 → zM_fly (jn a) y (jn c) I1 = zM_fly_48 (jz I1)) → jAct I (zO_fly (jn a) y (jn c) I X) (zM_fly (jn a) y (jn c)) X := fun q1 q2 => by
        have u1 : jad [0, 8] I (iq_upI I 3 1 (I 3 1 + 1)) := jad_up (jad_rf _ I) (show 8 ∈ [0, 8] by decide)
        refine jAct_v (-1) (I1 := iq_upI I 3 1 (I 3 1 + 1)) q1 (I2 := iq_upI (jz (iq_upI I 3 1 (I 3 1 + 1))) 86 1 (jz (iq_upI I 3 1 (I 3 1 + 1)) 86 1 + 1)) ?_ (jInv_ref hI 1 (by decide) (jag_rf I) (jz_ag _)) rfl (fun j => up_nk (by decide))
        rw [q2 _ u1]
        rfl
      have mf : ∀ I1, jad [0, 8] I I1 → jRN I1 m ∧ jRB I1 g ∧ jRR (I1 98) g := fun I1 a1 => ⟨jRN_ad hN a1 (by decide), jRB_ad hB a1 (by decide), jRR_cg hR fun j => a1 98 j (show ¬ 4 ∈ [0, 8] by decide)⟩
      by_cases l : (gS g a).length < 40
      · by_cases hy : ∃ b, b ≤ (gS g a).length ∧ y = jn b
        · obtain ⟨b, hb, rfl⟩ := hy
          obtain ⟨I1, I2, e1, e2, k1, k2, k3, k4⟩ := jPutBoth hm hU hN hB hM hi ht hf hr ha hb l hc
          obtain ⟨K3, K4, e3, w1, e4, w2, w3, w4⟩ := k4 (jz I2) (jz_ag I2) rfl
          have hN2 : jRN I2 m := jRN_ad hN k2 (by decide)
          have hB2 : jRB I2 g := jRB_ad hB k2 (by decide)
          have hR2 : jz I2 98 a = jn (gS g a).length := by
            show I2 98 a = _
            rw [k3 98 a (by decide), jRR_L hR a ha]
          refine jAct_v (jn ((gS g a).length + 1)) (I1 := I2) ?_ (I2 := K4) ?_ w4 w3 (fun j => k2 0 j (show ¬ 9 ∈ [4] by decide))
          · simp only [zO_fly, jc_needSaying1 hg hG ha, jc_needWord1 hm hU hc, ir_let, iq_sm, ir_sm, jzE, j10, Option.bind_some, ↓reduceIte, not_true_eq_false, not_false_eq_true]
            simp (disch := omega) only [jRG_L hG, ir_let, jn_lt, jn_le, jn_in, jn_inj, jn_ne_m, jm_ne_n, jm_eq_m, jm_lt, jm_le, jn_lt_m, jn_le_m, jn_add, jn_mul, jn_clamp, jo_some, jn_min, jn_max, ↓jlm, jl0, jl1, jl2, jl3, jl4, jl5, jl6, jl7, jl8, jl9, jl10, jl11, jl12, jl13, jl14, jl15, jl16, jl20, jl24, jl32, jl39, jl40, jl41, jl60, jl61, jl80, jl96, jl97, jl99, jl100, jl122, jl126, jl199, jl200, jl205, jl206, jl255, jl256, jl410, jl700, jl950, jl1000, jl1000000, jl4000, jl8240, jl32767, if_pos, if_neg, ↓reduceIte, Option.bind_some, not_true_eq_false, not_false_eq_true, Nat.not_lt, Nat.not_le, e1]
            rw [show (jn 0 : Int32) = (0 : Int32) from rfl, e2, Option.bind_some, k1]
          · simp only [zM_fly, jm_isSaying1 hg hB2 ha, jm_isWord1 hm hN2 hc, ir_let, iq_sm, ir_sm, jzE, j10, Option.bind_some, ↓reduceIte, not_true_eq_false, not_false_eq_true]
            simp (disch := omega) only [hR2, e3, e4, w2, ir_let, jn_lt, jn_le, jn_in, jn_inj, jn_ne_m, jm_ne_n, jm_eq_m, jm_lt, jm_le, jn_lt_m, jn_le_m, jn_add, jn_mul, jn_clamp, jo_some, jn_min, jn_max, ↓jlm, jl0, jl1, jl2, jl3, jl4, jl5, jl6, jl7, jl8, jl9, jl10, jl11, jl12, jl13, jl14, jl15, jl16, jl20, jl24, jl32, jl39, jl40, jl41, jl60, jl61, jl80, jl96, jl97, jl99, jl100, jl122, jl126, jl199, jl200, jl205, jl206, jl255, jl256, jl410, jl700, jl950, jl1000, jl1000000, jl4000, jl8240, jl32767, if_pos, if_neg, ↓reduceIte, Option.bind_some, not_true_eq_false, not_false_eq_true, Nat.not_lt, Nat.not_le]
        · rcases jx_no2 (by omega) hy with q | ⟨q1, q2⟩
          · refine no ?_ fun I1 a1 => ?_
            · simp only [zO_fly, jc_needSaying1 hg hG ha, jc_needWord1 hm hU hc, ir_let, iq_sm, ir_sm, jzE, j10, Option.bind_some, ↓reduceIte, not_true_eq_false, not_false_eq_true, if_pos i5, ka, jRG_L hG a ha]
              rw [if_neg (by rw [jl40, jn_le (by omega) (by omega)]; omega), if_pos q]
            · obtain ⟨n1, n2, n3⟩ := mf I1 a1
              simp only [zM_fly, jm_isSaying1 hg n2 ha, jm_isWord1 hm n1 hc, ir_let, iq_sm, ir_sm, jzE, j10, Option.bind_some, ↓reduceIte, not_true_eq_false, not_false_eq_true, if_pos i206, ka]
              rw [show jz I1 98 a = jn (gS g a).length from jRR_L n3 a ha, if_neg (by rw [jl40, jn_inj (by omega) (by omega)]; omega), if_pos q]
          · refine no ?_ fun I1 a1 => ?_
            · simp only [zO_fly, jc_needSaying1 hg hG ha, jc_needWord1 hm hU hc, ir_let, iq_sm, ir_sm, jzE, j10, Option.bind_some, ↓reduceIte, not_true_eq_false, not_false_eq_true, if_pos i5, ka, jRG_L hG a ha]
              rw [if_neg (by rw [jl40, jn_le (by omega) (by omega)]; omega), if_neg q1, if_neg q2]
            · obtain ⟨n1, n2, n3⟩ := mf I1 a1
              simp only [zM_fly, jm_isSaying1 hg n2 ha, jm_isWord1 hm n1 hc, ir_let, iq_sm, ir_sm, jzE, j10, Option.bind_some, ↓reduceIte, not_true_eq_false, not_false_eq_true, if_pos i206, ka]
              rw [show jz I1 98 a = jn (gS g a).length from jRR_L n3 a ha, if_neg (by rw [jl40, jn_inj (by omega) (by omega)]; omega), if_neg q1, if_neg q2]
      · refine no ?_ fun I1 a1 => ?_
        · simp only [zO_fly, jc_needSaying1 hg hG ha, jc_needWord1 hm hU hc, ir_let, iq_sm, ir_sm, jzE, j10, Option.bind_some, ↓reduceIte, not_true_eq_false, not_false_eq_true, if_pos i5, ka, jRG_L hG a ha]
          rw [if_pos (by rw [jl40, jn_le (by omega) (by omega)]; omega)]
        · obtain ⟨n1, n2, n3⟩ := mf I1 a1
          simp only [zM_fly, jm_isSaying1 hg n2 ha, jm_isWord1 hm n1 hc, ir_let, iq_sm, ir_sm, jzE, j10, Option.bind_some, ↓reduceIte, not_true_eq_false, not_false_eq_true, if_pos i206, ka]
          rw [show jz I1 98 a = jn (gS g a).length from jRR_L n3 a ha, if_pos (by rw [jl40, jn_inj (by omega) (by omega)]; omega)]
    · refine jAct_e hI ?_ ?_
      · simp only [zO_fly, jc_needSaying1 hg hG ha, jc_needWord0 hm hU hz, ir_let, iq_sm, ir_sm, jzE, j10, Option.bind_some, ↓reduceIte, not_true_eq_false, not_false_eq_true]
      · simp only [zM_fly, jm_isSaying1 hg hB ha, jm_isWord0 hm hN hz, ir_let, iq_sm, ir_sm, jzE, j10, Option.bind_some, ↓reduceIte, not_true_eq_false, not_false_eq_true]
  · refine jAct_e hI ?_ ?_
    · simp only [zO_fly, jc_needSaying0 hg hG hx, ir_let, iq_sm, ir_sm, jzE, j10, Option.bind_some, ↓reduceIte, not_true_eq_false, not_false_eq_true]
    · simp only [zM_fly, jm_isSaying0 hg hB hx, ir_let, iq_sm, ir_sm, jzE, j10, Option.bind_some, ↓reduceIte, not_true_eq_false, not_false_eq_true]
