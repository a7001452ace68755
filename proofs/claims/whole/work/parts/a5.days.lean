/-! ===== days ===== -/
def pDay (m : jMu) (g : jGa) (y w : Nat) (d : Nat) : Bool := gFree m g y (gSt m g y (gB g y) none) w && gLaw m g y w d
theorem jc_daysL {I : iq_I} {m : jMu} {g : jGa} (hm : mOk m) (hU : jRU I m) (hg : gOk m g) (hG : jRG I 16 17 18 24 g) {y w : Nat} (hy : y < gY g) (hw : w < mW m) :
    ∃ v, zH_daysFor_l27 (jn y) (jn w) ir_F ((0 : Int32), (0 : Int32), I) = some v ∧ v.1 = jb 7 (gLaw m g y w) ∧ jag I v.2 := by
  refine js_inv (fun i v => v.1 = jb i (gLaw m g y w) ∧ v.2.1 = jn i ∧ jag I v.2.2) 7 _ ?_ ?_ 7 0 ((0 : Int32), (0 : Int32), I) ir_F (by omega) ⟨rfl, rfl, jag_rf I⟩ (by unfold ir_F; omega)
  · rintro i ⟨x4, x5, I1⟩ hi ⟨h1, h2, a⟩
    simp only at h1 h2 a
    subst h1
    subst h2
    have hU1 := jRU_ag hU a
    have hG1 : jRG I1 16 17 18 24 g := jRG_ag (fun _ => rfl) (fun _ => rfl) (fun _ => rfl) (fun _ => rfl) hG a
    have ad : jn i + (1 : Int32) = jn (i + 1) := jn_add i 1
    obtain ⟨I2, e2, a2⟩ := jc_isLawful (d := i) hm hU1 hg hG1 hy hw
    dsimp only
    unfold zH_daysFor_l27_b
    rw [if_neg (by rw [jl7, jn_le (by omega) (by omega)]; omega), e2, Option.bind_some, ad]
    dsimp only
    cases l : gLaw m g y w i with
    | false =>
      refine ⟨(jb (i + 1) (gLaw m g y w), jn (i + 1), I2), ?_, rfl, rfl, jag_tr a a2⟩
      rw [if_pos (show jB false = 0 from rfl), jbS0 l]
    | true =>
      refine ⟨(jb (i + 1) (gLaw m g y w), jn (i + 1), I2), ?_, rfl, rfl, jag_tr a a2⟩
      rw [if_neg (by decide), ← jbS1 l]
      rfl
  · rintro ⟨x4, x5, I1⟩ ⟨h1, h2, a⟩
    simp only at h1 h2 a
    subst h1
    subst h2
    exact ⟨(jb 7 (gLaw m g y w), I1), rfl, rfl, a⟩
theorem jRR_day {r : Nat → Int32} {m : jMu} {g : jGa} (hg : gOk m g) (h : jRR r g) {r' : Nat → Int32} {d : Nat} (e : ∀ j, ¬ j = 5 → r' j = r j) (e5 : r' 5 = jn d) : jRR r' (gDy g d) := by
  have h5 := hg.1
  refine ⟨e5, fun s hs => ?_, fun s i hs hi => ?_⟩
  · have hs' : s < gY g := hs
    rw [e s (by omega)]; exact h.2.1 s hs
  · rw [e _ (by omega)]; exact h.2.2 s i hs hi
theorem gOk_day {m : jMu} {g : jGa} (hg : gOk m g) {d : Nat} (hd : d < 7) : gOk m (gDy g d) := ⟨hg.1, hg.2.1, hg.2.2.1, hg.2.2.2.1, hd⟩
theorem jm_daysL {I : iq_I} {m : jMu} {g : jGa} (hm : mOk m) (hN : jRN I m) (hB : jRB I g) (hg : gOk m g) (hR : jRR (I 98) g) {y w : Nat} {x3 : Int32} (hy : y < gY g) (hw : w < mW m) :
    ∃ v, zM_days_l36 (jn y) (jn w) x3 ir_F ((0 : Int32), (0 : Int32), I) = some v ∧ v.1 = jb 7 (pDay m g y w) ∧ (∀ k i, jsc k i = false → ¬ (k = 98 ∧ i = 5) → v.2 k i = I k i) ∧ v.2 76 0 = I 76 0 := by
  refine js_inv (fun i v => v.1 = jb i (pDay m g y w) ∧ v.2.1 = jn i ∧ (∀ k i, jsc k i = false → ¬ (k = 98 ∧ i = 5) → v.2.2 k i = I k i) ∧ v.2.2 76 0 = I 76 0) 7 _ ?_ ?_ 7 0 ((0 : Int32), (0 : Int32), I) ir_F (by omega) ⟨rfl, rfl, fun _ _ _ _ => rfl, rfl⟩ (by unfold ir_F; omega)
  · rintro i ⟨x4, x5, I1⟩ hi ⟨h1, h2, a, z⟩
    simp only at h1 h2 a z
    subst h1
    subst h2
    have aI : jad [0, 4] I (iq_upI I1 98 5 (jn i)) := jad_up (fun k j hk => a k j (by
      cases e : jsc k j with
      | false => rfl
      | true => rw [ut_sc e] at hk; exact absurd (show 0 ∈ [0, 4] by decide) hk) (fun e => by obtain ⟨e1, e2⟩ := e; subst e1; subst e2; exact hk (show 4 ∈ [0, 4] by decide))) (show 4 ∈ [0, 4] by decide)
    have hN1 := jRN_ad hN aI (by decide)
    have hB1 : jRB (iq_upI I1 98 5 (jn i)) (gDy g i) := jRB_g (jRB_ad hB aI (by decide)) rfl (fun _ _ => rfl)
    have hR1 : jRR (iq_upI I1 98 5 (jn i) 98) (gDy g i) := jRR_day hg hR (fun j hj => by rw [up_ni hj, a 98 j rfl (by omega)]) up_eq
    have hg1 : gOk m (gDy g i) := gOk_day hg hi
    have ad : jn i + (1 : Int32) = jn (i + 1) := jn_add i 1
    have ho : ∀ s, gSt m (gDy g i) y (gB (gDy g i) y) none = some s → s < mS m := fun s h => gSt_lt hm hg1 hy (hg1.2.1 y hy) h
    obtain ⟨I2, e2, a2, z2⟩ := jm_mayCome hm hN1 hg1 hR1 ho hy hw
    refine ⟨(jb (i + 1) (pDay m g y w), jn (i + 1), I2), ?_, rfl, rfl, fun k j h1 h2 => ?_, ?_⟩
    · dsimp only
      unfold zM_days_l36_b
      rw [if_neg (by rw [jl7, jn_le (by omega) (by omega)]; omega), ir_let, jm_stateNow hm hN1 hg1 hB1 hR1 hy, Option.bind_some, e2, Option.bind_some, ad]
      dsimp only
      cases l : (gFree m (gDy g i) y (gSt m (gDy g i) y (gB (gDy g i) y) none) w && gLaw m (gDy g i) y w (gD (gDy g i))) with
      | false => rw [if_pos (show jB false = 0 from rfl), ← jbSz (show pDay m g y w i = false from l)]; rfl
      | true => rw [if_neg (by decide), ← jbS1 (show pDay m g y w i = true from l)]; rfl
    · show I2 k j = _
      rw [a2 k j h1]
      by_cases e : k = 98
      · subst e; rw [up_ni (by omega), a _ _ h1 h2]
      · rw [up_nk e, a _ _ h1 h2]
    · show I2 76 0 = _
      rw [z2 0, up_nk (by decide), z]
  · rintro ⟨x4, x5, I1⟩ ⟨h1, h2, a, z⟩
    simp only at h1 h2 a z
    subst h1
    subst h2
    exact ⟨(jb 7 (pDay m g y w), I1), rfl, rfl, a, z⟩
theorem jq_days {I : iq_I} (hI : jInv I) (x z : Int32) (X : iq_X) : ∃ r I1 X1 b I2, zO_days x z I X = some (r, I1, X1) ∧ zM_days x z I1 = some (b, I2) ∧ jag I I1 ∧ jag I I2 ∧ jXo X X1 ∧ jAns r b (I2 76 0) := by
  obtain ⟨m, g, hm, hU, hN, hB, ⟨hg, hG, hR, -, -⟩, -⟩ := hI
  by_cases hx : ∃ s, s < gY g ∧ x = jn s
  · obtain ⟨y, hy, rfl⟩ := hx
    by_cases hz : ∃ s, s < mW m ∧ z = jn s
    · obtain ⟨w, hw, rfl⟩ := hz
      have ho : ∀ s, gSt m g y (gB g y) none = some s → s < mS m := fun s h => gSt_lt hm hg hy (hg.2.1 y hy) h
      refine jmkI (jb 7 (pDay m g y w)) ?_ fun I1 a1 => ?_
      · obtain ⟨⟨v1, v2⟩, k1, k2, k3⟩ := jc_daysL hm hU hg hG hy hw
        simp only at k2 k3
        subst k2
        cases f : gFree m g y (gSt m g y (gB g y) none) w with
        | true =>
          refine ⟨v2, ?_, k3⟩
          simp only [zO_days, zH_daysFor, jc_needSaying1 hg hG hy, jc_needWord1 hm hU hw, jc_stateOf hm hU hg hG hy, jc_isFree hm hU hg hG ho hy hw, f, k1, ir_let, iq_sm, ir_sm, jzE, j10, Option.bind_some, ↓reduceIte, not_true_eq_false, not_false_eq_true, show (jB true = 0) = False from eq_false (by decide)]
          rw [show jb 7 (pDay m g y w) = jb 7 (gLaw m g y w) from jb_ext fun j _ => by unfold pDay; rw [f, Bool.true_and]]
        | false =>
          refine ⟨I, ?_, jag_rf I⟩
          simp only [zO_days, zH_daysFor, jc_needSaying1 hg hG hy, jc_needWord1 hm hU hw, jc_stateOf hm hU hg hG hy, jc_isFree hm hU hg hG ho hy hw, f, ir_let, iq_sm, ir_sm, jzE, j10, Option.bind_some, ↓reduceIte, not_true_eq_false, not_false_eq_true, show (jB false = 0) = True from eq_true rfl]
          rw [show jb 7 (pDay m g y w) = 0 by (rw [jb_0 (n := 7) (by omega)]; exact jb_ext fun j _ => by unfold pDay; rw [f, Bool.false_and])]
      · have az := jag_tr a1 (jz_ag I1)
        have hN1 := jRN_ag hN az
        have hB1 := jRB_ag hB az
        have hR1 := jRR_ag hR az
        obtain ⟨⟨v1, v2⟩, k1, k2, k3, k4⟩ := jm_daysL (x3 := jz I1 98 5) hm hN1 hB1 hg hR1 hy hw
        simp only at k2 k3 k4
        subst k2
        refine ⟨iq_upI v2 98 5 (jz I1 98 5), ?_, fun k i hk => ?_, ?_⟩
        · simp only [zM_days, jm_isSaying1 hg (jRB_ag hB a1) hy, jm_isWord1 hm (jRN_ag hN a1) hw, k1, ir_let, iq_sm, ir_sm, jzE, j10, Option.bind_some, ↓reduceIte, not_true_eq_false, not_false_eq_true]
        · by_cases e : k = 98
          · subst e
            by_cases e2 : i = 5
            · subst e2; rw [up_eq]; rfl
            · rw [up_ni e2, k3 _ _ hk (by omega)]; rfl
          · rw [up_nk e, k3 _ _ hk (by omega)]; exact jz_ag I1 k i hk
        · rw [up_nk (by decide), k4]; rfl
    · refine jmkE ?_ ?_
      · simp only [zO_days, jc_needSaying1 hg hG hy, jc_needWord0 hm hU hz, ir_let, iq_sm, ir_sm, jzE, j10, Option.bind_some, ↓reduceIte, not_true_eq_false, not_false_eq_true]
      · simp only [zM_days, jm_isSaying1 hg hB hy, jm_isWord0 hm hN hz, ir_let, iq_sm, ir_sm, jzE, j10, Option.bind_some, ↓reduceIte, not_true_eq_false, not_false_eq_true]
  · refine jmkE ?_ ?_
    · simp only [zO_days, jc_needSaying0 hg hG hx, ir_let, iq_sm, ir_sm, jzE, j10, Option.bind_some, ↓reduceIte, not_true_eq_false, not_false_eq_true]
    · simp only [zM_days, jm_isSaying0 hg hB hx, ir_let, iq_sm, ir_sm, jzE, j10, Option.bind_some, ↓reduceIte, not_true_eq_false, not_false_eq_true]
