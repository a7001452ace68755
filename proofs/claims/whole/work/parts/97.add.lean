/-! ===== add, take, day, undo ===== -/
theorem jq_add {I : iq_I} (hI : jInv I) (x z : Int32) (X : iq_X) : jAct I (zO_add x z I X) (zM_add x z) X := by
  obtain ⟨m, g, hm, hU, hN, hB, hM, hi, ht, hf, hr⟩ := jInv_iff.mp hI
  obtain ⟨hg, hG, hR, -⟩ := id hM
  by_cases hx : ∃ s, s < gY g ∧ x = jn s
  · obtain ⟨a, ha, rfl⟩ := hx
    by_cases hz : ∃ s, s < mW m ∧ z = jn s
    · obtain ⟨c, hc, rfl⟩ := hz
      have h5 := hg.1
      have h40 := hg.2.2.1 a ha
      have h14 := hm.2.1
      have i5 : iq_in (jn a) 5 := by rw [jn_in (by omega)]; omega
      have i206 : iq_in (jn a) 206 := by rw [jn_in (by omega)]; omega
      have ka : (jn a).toNatClampNeg = a := jn_clamp (by omega)
      have ho : ∀ s, gSt m g a (gB g a) none = some s → s < mS m := fun s h => gSt_lt hm hg ha (hg.2.1 a ha) h
      obtain ⟨⟨w1, I1⟩, q1, q2, a1⟩ := jc_may hm hU hg hG ho ha
      simp only at q2 a1
      subst q2
      have qm : zH_whatMayCome_69_16 (jn a) I = some (jb (mW m) (pMay m g a (gSt m g a (gB g a) none)), I1) := by
        simp only [zH_whatMayCome_69_16, jc_stateOf hm hU hg hG ha, q1, Option.bind_some]
      have bt : (((jb (mW m) (pMay m g a (gSt m g a (gB g a) none))) >>> (jn c &&& 31)) &&& (1 : Int32) = 0) = (pMay m g a (gSt m g a (gB g a) none) c = false) := by
        rw [jt_bit (by omega), jq_jb hc (by omega)]
      have aa1 : jad [0] I I1 := jad_ag a1 (by decide)
      have hU1 := jRU_ag hU a1
      have hN1 := jRN_ag hN a1
      have hB1 := jRB_ag hB a1
      have hM1 : jMn I1 m g := jMn_ad hM aa1 (by decide)
      obtain ⟨hg', hG1, hR1, -⟩ := id hM1
      cases pm : pMay m g a (gSt m g a (gB g a) none) c with
      | false =>
        have au : jad [0, 8] I (iq_upI I1 3 1 (I1 3 1 + 1)) := jad_up (jad_ag a1 (by decide)) (show 8 ∈ [0, 8] by decide)
        have hNu : jRN (iq_upI I1 3 1 (I1 3 1 + 1)) m := jRN_ad hN au (by decide)
        have hBu : jRB (iq_upI I1 3 1 (I1 3 1 + 1)) g := jRB_ad hB au (by decide)
        have hRu : jRR ((jz (iq_upI I1 3 1 (I1 3 1 + 1))) 98) g := jRR_cg hR fun j => au 98 j (show ¬ 4 ∈ [0, 8] by decide)
        obtain ⟨K, e1, aK, K0⟩ := jm_mayCome hm (jRN_ag hNu (jz_ag _)) hg hRu ho ha hc
        have pm' : (gFree m g a (gSt m g a (gB g a) none) c && gLaw m g a c (gD g)) = false := pm
        rw [pm'] at e1
        refine jAct_v (-1) (I1 := iq_upI I1 3 1 (I1 3 1 + 1)) ?_ (I2 := iq_upI K 86 1 (K 86 1 + 1)) ?_ (jInv_ref hI 1 (by decide) a1 (jag_tr (jz_ag _) aK)) ?_ (fun j => (up_nk (by decide)).trans (a1 0 j rfl))
        · simp only [zO_add, jc_needSaying1 hg hG ha, jc_needWord1 hm hU hc, ir_let, iq_sm, ir_sm, jzE, j10, Option.bind_some, ↓reduceIte, not_true_eq_false, not_false_eq_true, qm, bt, pm]
          rfl
        · simp only [zM_add, jm_isSaying1 hg hBu ha, jm_isWord1 hm hNu hc, ir_let, iq_sm, ir_sm, jzE, j10, Option.bind_some, ↓reduceIte, not_true_eq_false, not_false_eq_true, jm_stateNow hm (jRN_ag hNu (jz_ag _)) hg (jRB_ag hBu (jz_ag _)) hRu ha, e1, show (jB false = 0) = True from eq_true rfl]
          rfl
        · rw [up_nk (by decide), K0 0]; rfl
      | true =>
        have fr : gFree m g a (gSt m g a (gB g a) none) c = true := by
          unfold pMay at pm
          cases h : gFree m g a (gSt m g a (gB g a) none) c with
          | true => rfl
          | false => rw [h] at pm; cases pm
        have l : (gS g a).length < 40 := by
          unfold gFree at fr
          cases h1 : gSt m g a (gB g a) none with
          | none => rw [h1] at fr; cases fr
          | some s =>
            rw [h1] at fr
            dsimp only at fr
            cases h2 : mLd m s c with
            | none => rw [h2] at fr; cases fr
            | some t => rw [h2] at fr; simp at fr; exact fr.2
        obtain ⟨J1, J2, e1, e2, k1, k2, k3, k4⟩ := jPutBoth hm hU1 hN1 hB1 hM1 (jIm_ad hi aa1 (by decide)) (jTp_ad ht aa1 (by decide)) (jFl_ad hf aa1 (by decide)) (jRf_ad hr aa1 (by decide)) ha (Nat.le_refl _) l hc
        have hN2 : jRN J2 m := jRN_ad hN1 k2 (by decide)
        have hB2 : jRB J2 g := jRB_ad hB1 k2 (by decide)
        have hR2 : jRR ((jz J2) 98) g := jRR_cg hR1 fun j => k3 98 j (by decide)
        obtain ⟨K, f1, aK, K0⟩ := jm_mayCome hm (jRN_ag hN2 (jz_ag _)) hg hR2 ho ha hc
        have pm' : (gFree m g a (gSt m g a (gB g a) none) c && gLaw m g a c (gD g)) = true := pm
        rw [pm'] at f1
        obtain ⟨K3, K4, e3, w1, e4, w2, w3, w4⟩ := k4 K (jag_tr (jz_ag J2) aK) (by rw [K0 0]; rfl)
        refine jAct_v (jn ((gS g a).length + 1)) (I1 := J2) ?_ (I2 := K4) ?_ w4 w3 (fun j => (k2 0 j (show ¬ 9 ∈ [4] by decide)).trans (a1 0 j rfl))
        · simp only [zO_add, jc_needSaying1 hg hG ha, jc_needWord1 hm hU hc, ir_let, iq_sm, ir_sm, jzE, j10, Option.bind_some, ↓reduceIte, not_true_eq_false, not_false_eq_true, qm, bt, pm, if_pos i5, ka, jRG_L hG1 a ha, e1, e2, k1, Bool.true_eq_false]
        · simp only [zM_add, jm_isSaying1 hg hB2 ha, jm_isWord1 hm hN2 hc, ir_let, iq_sm, ir_sm, jzE, j10, Option.bind_some, ↓reduceIte, not_true_eq_false, not_false_eq_true, jm_stateNow hm (jRN_ag hN2 (jz_ag _)) hg (jRB_ag hB2 (jz_ag _)) hR2 ha, f1, show (jB true = 0) = False from eq_false (by decide), e3, if_pos i206, ka, w1, e4, w2]
    · refine jAct_e hI ?_ ?_
      · simp only [zO_add, jc_needSaying1 hg hG ha, jc_needWord0 hm hU hz, ir_let, iq_sm, ir_sm, jzE, j10, Option.bind_some, ↓reduceIte, not_true_eq_false, not_false_eq_true]
      · simp only [zM_add, jm_isSaying1 hg hB ha, jm_isWord0 hm hN hz, ir_let, iq_sm, ir_sm, jzE, j10, Option.bind_some, ↓reduceIte, not_true_eq_false, not_false_eq_true]
  · refine jAct_e hI ?_ ?_
    · simp only [zO_add, jc_needSaying0 hg hG hx, ir_let, iq_sm, ir_sm, jzE, j10, Option.bind_some, ↓reduceIte, not_true_eq_false, not_false_eq_true]
    · simp only [zM_add, jm_isSaying0 hg hB hx, ir_let, iq_sm, ir_sm, jzE, j10, Option.bind_some, ↓reduceIte, not_true_eq_false, not_false_eq_true]
theorem jRG_f {I I' : iq_I} {o b l w : Nat} {g : jGa} (h : jRG I o b l w g) (h0 : I' o 0 = I o 0) (h1 : I' o 1 = I o 1) (h2 : ∀ j, I' b j = I b j) (h3 : ∀ j, I' l j = I l j) (h4 : ∀ j, I' w j = I w j) : jRG I' o b l w g :=
  ⟨by rw [h0, h.1], by rw [h1, h.2.1], fun s hs => by rw [h2, h.2.2.1 s hs], fun s hs => by rw [h3, h.2.2.2.1 s hs], fun s i hs hi => by rw [h4, h.2.2.2.2 s i hs hi]⟩
theorem jRG_g {I : iq_I} {o b l w : Nat} {g g' : jGa} (h : jRG I o b l w g) (hY : gY g' = gY g) (hB : ∀ y, y < gY g → gB g' y = gB g y) (hS : ∀ y, y < gY g → gS g' y = gS g y) (hD : gD g' = gD g) : jRG I o b l w g' := by
  refine ⟨by rw [hY, h.1], by rw [hD, h.2.1], fun s hs => ?_, fun s hs => ?_, fun s i hs hi => ?_⟩
  · rw [hY] at hs; rw [hB s hs, h.2.2.1 s hs]
  · rw [hY] at hs; rw [hS s hs, h.2.2.2.1 s hs]
  · rw [hY] at hs; rw [hS s hs] at hi ⊢; exact h.2.2.2.2 s i hs hi
theorem jRR_g {r : Nat → Int32} {g g' : jGa} (h : jRR r g) (hY : gY g' = gY g) (hS : ∀ y, y < gY g → gS g' y = gS g y) (hD : gD g' = gD g) : jRR r g' := by
  refine ⟨by rw [hD, h.1], fun s hs => ?_, fun s i hs hi => ?_⟩
  · rw [hY] at hs; rw [hS s hs, h.2.1 s hs]
  · rw [hY] at hs; rw [hS s hs] at hi ⊢; exact h.2.2 s i hs hi
/-- alike below 76 but for scratch: the class's half and the reference's half -/
def jHf (A B : iq_I) : iq_I := fun k j => if k < 76 then A k j else B k j
theorem jMn_hf {A B : iq_I} {m : jMu} {g : jGa} (h : jMn (jHf A B) m g) (hB : ∀ k j, k < 76 → jsc k j = false → B k j = A k j) : jMn B m g := by
  refine jMn_ad (L := [0]) h (fun k j hk => ?_) (by decide)
  unfold jHf
  by_cases q : k < 76
  · rw [if_pos q]
    exact hB k j q (by
      cases e : jsc k j with
      | false => rfl
      | true => rw [ut_sc e] at hk; exact absurd (List.mem_singleton.mpr rfl) hk)
  · rw [if_neg q]
theorem jn_d7 : ∀ d : Fin 7, (jn d.val + (1 : Int32)) - (jn d.val + (1 : Int32)) / (7 : Int32) * (7 : Int32) = jn ((d.val + 1) % 7) := by decide
theorem jn_u7 : ∀ d : Fin 7, (jn d.val + (7 : Int32) - (1 : Int32)) - (jn d.val + (7 : Int32) - (1 : Int32)) / (7 : Int32) * (7 : Int32) = jn ((d.val + 6) % 7) := by decide
/-- an act of both sides, put together: the class goes from I to I2, the reference from K (alike I2) to K4 -/
theorem jActBoth {I I2 K K3 K4 : iq_I} {m : jMu} {g g' : jGa} (hm : mOk m) (hU : jRU I m) (hN : jRN I m) (hB : jRB I g) (hM : jMn I m g) (hi : jIm I m g) (ht : jTp I) (hf : jFl I) (hr : jRf I)
    {h : Nat} (h1 : h ≤ 40) (h2 : I 19 0 = jn h) {d s p w : Int32}
    (c1 : jad [4] I I2) (c2 : ∀ k j, 26 < k → I2 k j = I k j) (hG2 : jRG I2 16 17 18 24 g') (c3 : I2 19 0 = jn (jb39 h + 1)) (c4 : ∀ k j, 20 ≤ k → k ≤ 23 → j < jb39 h → I2 k j = I k (j + (h - jb39 h)))
    (cd : I2 20 (jb39 h) = d) (cs : I2 21 (jb39 h) = s) (cp : I2 22 (jb39 h) = p) (cw : I2 23 (jb39 h) = w) (c5 : I2 16 2 = I 16 2) (c6 : ∀ j, I2 25 j = I 25 j) (c7 : ∀ j, I2 26 j = I 26 j)
    (aK : jag I2 K) (e3 : zM_keeps K = some K3) (f4 : ∀ k j, ¬ k = 98 → K4 k j = K3 k j) (hR4 : jRR (K4 98) g') (hg' : gOk m g') (hY : gY g' = gY g) (hBB : gB g' = gB g) (hu : jUn d s p w m g' g) : jInv K4 ∧ K4 76 0 = K 76 0 := by
  obtain ⟨h', h1', h2', h3'⟩ := jMn_held hM
  obtain ⟨hg, hG, hR, -⟩ := id hM
  have : h' = h := by rw [h2, jn_inj (by omega) (by omega)] at h2'; exact h2'.symm
  subst this
  have kI : ∀ k j, 26 < k → jsc k j = false → K k j = I k j := fun k j hk hj => by rw [aK k j hj, c2 k j hk]
  obtain ⟨K3', e3', f1, r0, r1, r2⟩ := jm_keeps (I := K) h1 (by rw [kI 76 54 (by decide) rfl, h3'])
  rw [e3] at e3'
  cases e3'
  have aa : jad [0, 4] I K4 := by
    refine jad_tr (jad_mo c1 (by decide)) (jad_tr (jad_ag aK (by decide)) (jad_tr (I' := K3) (fun k j hk => ?_) fun k j hk => ?_))
    · exact f1 k j (fun e => by subst e; exact hk (show 4 ∈ [0, 4] by decide)) (fun e => by obtain ⟨e1, e2⟩ := e; subst e1; subst e2; exact hk (show 4 ∈ [0, 4] by decide))
    · exact f4 k j (fun e => by subst e; exact hk (show 4 ∈ [0, 4] by decide))
  refine ⟨jInv_act (g' := g') hm hU hN hB hi ht hf hr aa hY hBB (jMn_hf (A := I2) ?_ fun k j hk hj => ?_), ?_⟩
  · refine jMn_act (I' := jHf I2 K4) (d := d) (s := s) (p := p) (w := w) hM h1 h2 hg' (jRG_f hG2 rfl rfl (fun _ => rfl) (fun _ => rfl) (fun _ => rfl)) (jRR_cg hR4 fun _ => rfl) hY c3 (fun k j q1 q2 q3 => ?_) cd cs cp cw ?_ (fun k j q1 q2 => ?_) (fun j q => ?_) hu c5 ?_ c6 c7 (fun j => ?_)
    · show (if k < 76 then _ else _) = _
      rw [if_pos (by omega), c4 k j q1 q2 q3]
    · show K4 76 54 = _
      rw [f4 _ _ (by decide), r0]
    · show K4 100 _ = _
      rw [f4 _ _ (by decide), r1 k j q1 q2, kI 100 _ (by decide) rfl]
    · show K4 100 _ = _
      rw [f4 _ _ (by decide), r2 j q, kI 98 _ (by decide) rfl]
    · show K4 76 63 = _
      rw [f4 _ _ (by decide), f1 76 63 (by decide) (by decide), kI 76 63 (by decide) rfl]
    · show K4 108 j = _
      rw [f4 _ _ (by decide), f1 108 j (by decide) (by omega), kI 108 j (by decide) rfl]
  · rw [f4 k j (by omega), f1 k j (by omega) (by omega), aK k j hj]
  · rw [f4 _ _ (by decide), f1 76 0 (by decide) (by decide)]
