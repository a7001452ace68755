/-! ===== may ===== -/
def pMay (m : jMu) (g : jGa) (y : Nat) (o : Option Nat) (i : Nat) : Bool := gFree m g y o i && gLaw m g y i (gD g)
theorem jc_may {I : iq_I} {m : jMu} {g : jGa} (hm : mOk m) (hU : jRU I m) (hg : gOk m g) (hG : jRG I 16 17 18 24 g) {y : Nat} {o : Option Nat} (ho : ∀ s, o = some s → s < mS m) (hy : y < gY g) :
    ∃ w, zH_whatMayCome_69_16_l16 (jn y) (jo o) ir_F ((0 : Int32), (0 : Int32), I) = some w ∧ w.1 = jb (mW m) (pMay m g y o) ∧ jag I w.2 := by
  have h14 := hm.2.1
  refine js_inv (fun i v => v.1 = jb i (pMay m g y o) ∧ v.2.1 = jn i ∧ jag I v.2.2) (mW m) _ ?_ ?_ (mW m) 0 ((0 : Int32), (0 : Int32), I) ir_F (by omega) ⟨rfl, rfl, jag_rf I⟩ (by unfold ir_F; omega)
  · rintro i ⟨x4, x5, I1⟩ hi ⟨h1, h2, a⟩
    simp only at h1 h2 a
    subst h1
    subst h2
    have hU1 := jRU_ag hU a
    have hG1 : jRG I1 16 17 18 24 g := jRG_ag (fun _ => rfl) (fun _ => rfl) (fun _ => rfl) (fun _ => rfl) hG a
    have b0 : ¬ I1 4 2 ≤ jn i := by rw [jRU_W hU1, jn_le (by omega) (by omega)]; omega
    have ad : jn i + (1 : Int32) = jn (i + 1) := jn_add i 1
    obtain ⟨I2, e2, a2⟩ := jc_isLawful (d := gD g) hm hU1 hg hG1 hy hi
    have fr := jc_isFree hm hU1 hg hG1 ho hy hi
    dsimp only
    unfold zH_whatMayCome_69_16_l16_b
    rw [if_neg b0, fr, Option.bind_some, jRG_D hG1, ad]
    cases f : gFree m g y o i with
    | false =>
      refine ⟨(jb (i + 1) (pMay m g y o), jn (i + 1), I1), ?_, rfl, rfl, a⟩
      rw [if_pos (show jB false = 0 from rfl), jbS0 (by unfold pMay; rw [f]; rfl)]
    | true =>
      rw [if_neg (by decide), e2, Option.bind_some]
      dsimp only
      cases l : gLaw m g y i (gD g) with
      | false =>
        refine ⟨(jb (i + 1) (pMay m g y o), jn (i + 1), I2), ?_, rfl, rfl, jag_tr a a2⟩
        rw [if_pos (show jB false = 0 from rfl), jbS0 (by unfold pMay; rw [f, l]; rfl)]
      | true =>
        refine ⟨(jb (i + 1) (pMay m g y o), jn (i + 1), I2), ?_, rfl, rfl, jag_tr a a2⟩
        rw [if_neg (by decide), ← jbS1 (show pMay m g y o i = true by unfold pMay; rw [f, l]; rfl)]
        rfl
  · rintro ⟨x4, x5, I1⟩ ⟨h1, h2, a⟩
    simp only at h1 h2 a
    subst h1
    subst h2
    refine ⟨(jb (mW m) (pMay m g y o), I1), ?_, rfl, a⟩
    dsimp only
    unfold zH_whatMayCome_69_16_l16_b
    rw [if_pos (by rw [jRU_W (jRU_ag hU a), jn_le (by omega) (by omega)]; omega)]
theorem jm_may {I : iq_I} {m : jMu} {g : jGa} (hm : mOk m) (hN : jRN I m) (hg : gOk m g) (hR : jRR (I 98) g) {y : Nat} {o : Option Nat} (ho : ∀ s, o = some s → s < mS m) (hy : y < gY g) :
    ∃ w, zM_may_l30 (jn y) (jo o) ir_F ((0 : Int32), (0 : Int32), I) = some w ∧ w.1 = jb (mW m) (pMay m g y o) ∧ jag I w.2 ∧ w.2 76 0 = I 76 0 := by
  have h14 := hm.2.1
  refine js_inv (fun i v => v.1 = jb i (pMay m g y o) ∧ v.2.1 = jn i ∧ jag I v.2.2 ∧ v.2.2 76 0 = I 76 0) (mW m) _ ?_ ?_ (mW m) 0 ((0 : Int32), (0 : Int32), I) ir_F (by omega) ⟨rfl, rfl, jag_rf I, rfl⟩ (by unfold ir_F; omega)
  · rintro i ⟨x4, x5, I1⟩ hi ⟨h1, h2, a, z⟩
    simp only at h1 h2 a z
    subst h1
    subst h2
    have hN1 := jRN_ag hN a
    have hR1 := jRR_ag hR a
    have b0 : ¬ I1 76 2 ≤ jn i := by rw [jRN_W hN1, jn_le (by omega) (by omega)]; omega
    have ad : jn i + (1 : Int32) = jn (i + 1) := jn_add i 1
    obtain ⟨I2, e2, a2, z2⟩ := jm_mayCome hm hN1 hg hR1 ho hy hi
    refine ⟨(jb (i + 1) (pMay m g y o), jn (i + 1), I2), ?_, rfl, rfl, jag_tr a a2, (z2 0).trans z⟩
    dsimp only
    unfold zM_may_l30_b
    rw [if_neg b0, e2, Option.bind_some, ad]
    dsimp only
    cases l : (gFree m g y o i && gLaw m g y i (gD g)) with
    | false => rw [if_pos (show jB false = 0 from rfl), ← jbSz (show pMay m g y o i = false from l)]; rfl
    | true => rw [if_neg (by decide), ← jbS1 (show pMay m g y o i = true from l)]; rfl
  · rintro ⟨x4, x5, I1⟩ ⟨h1, h2, a, z⟩
    simp only at h1 h2 a z
    subst h1
    subst h2
    refine ⟨(jb (mW m) (pMay m g y o), I1), ?_, rfl, a, z⟩
    dsimp only
    unfold zM_may_l30_b
    rw [if_pos (by rw [jRN_W (jRN_ag hN a), jn_le (by omega) (by omega)]; omega)]
