/-! ===== alike and nearest: the answers ===== -/
theorem jq_alike {I : iq_I} (hI : jInv I) (x z : Int32) (X : iq_X) : ∃ r I1 X1 b I2, zO_alike x z I X = some (r, I1, X1) ∧ zM_alike x z I1 = some (b, I2) ∧ jag I I1 ∧ jag I I2 ∧ jXo X X1 ∧ jAns r b (I2 76 0) := by
  obtain ⟨m, g, hm, hU, hN, hB, ⟨hg, hG, hR, -, -⟩, -⟩ := hI
  by_cases hx : ∃ s, s < gY g ∧ x = jn s
  · obtain ⟨y, hy, rfl⟩ := hx
    by_cases hz : ∃ s, s < gY g ∧ z = jn s
    · obtain ⟨z, hz, rfl⟩ := hz
      refine jmkI (jn (gLv g y z)) ?_ fun I1 a1 => ?_
      · obtain ⟨I1, e1, a1⟩ := jc_fewestChanges hm hg hG hy hz
        refine ⟨I1, ?_, a1⟩
        simp only [zO_alike, jc_needSaying1 hg hG hy, jc_needSaying1 hg hG hz, e1, ir_let, iq_sm, ir_sm, jzE, j10, Option.bind_some, ↓reduceIte, not_true_eq_false, not_false_eq_true]
      · obtain ⟨I2, e2, a2, t2⟩ := jm_alikeOf hm hg (jRR_ag hR (jag_tr a1 (jz_ag I1))) hy hz
        refine ⟨I2, ?_, jag_tr (jz_ag I1) a2, t2⟩
        simp only [zM_alike, jm_isSaying1 hg (jRB_ag hB a1) hy, jm_isSaying1 hg (jRB_ag hB a1) hz, e2, ir_let, iq_sm, ir_sm, jzE, j10, Option.bind_some, ↓reduceIte, not_true_eq_false, not_false_eq_true]
    · refine jmkE ?_ ?_
      · simp only [zO_alike, jc_needSaying1 hg hG hy, jc_needSaying0 hg hG hz, ir_let, iq_sm, ir_sm, jzE, j10, Option.bind_some, ↓reduceIte, not_true_eq_false, not_false_eq_true]
      · simp only [zM_alike, jm_isSaying1 hg hB hy, jm_isSaying0 hg hB hz, ir_let, iq_sm, ir_sm, jzE, j10, Option.bind_some, ↓reduceIte, not_true_eq_false, not_false_eq_true]
  · refine jmkE ?_ ?_
    · simp only [zO_alike, jc_needSaying0 hg hG hx, ir_let, iq_sm, ir_sm, jzE, j10, Option.bind_some, ↓reduceIte, not_true_eq_false, not_false_eq_true]
    · simp only [zM_alike, jm_isSaying0 hg hB hx, ir_let, iq_sm, ir_sm, jzE, j10, Option.bind_some, ↓reduceIte, not_true_eq_false, not_false_eq_true]
def jnSt (g : jGa) (y z : Nat) (o : Option (Nat × Nat)) : Option (Nat × Nat) := match o with
  | none => some (10 * y + z, gLv g y z)
  | some (b, l) => if gLv g y z < l then some (10 * y + z, gLv g y z) else some (b, l)
def jnI (g : jGa) (y : Nat) : Nat → Option (Nat × Nat) → Option (Nat × Nat)
  | 0, o => o
  | k + 1, o => jnSt g y (y + 1 + k) (jnI g y k o)
def jnO (g : jGa) : Nat → Option (Nat × Nat)
  | 0 => none
  | i + 1 => jnI g i (gY g - (i + 1)) (jnO g i)
def jnE (d : Int32) : Option (Nat × Nat) → Int32 × Int32
  | none => (-1, d)
  | some (b, l) => (jn b, jn l)
def jnB (o : Option (Nat × Nat)) : Prop := ∀ b l, o = some (b, l) → b < 1000 ∧ l < 1000
theorem gLv_le {m : jMu} {g : jGa} (hg : gOk m g) {y z : Nat} (hy : y < gY g) (hz : z < gY g) : gLv g y z ≤ 80 := by
  have h1 := dL_le (gW g y) (gW g z) (gS g y).length (gS g z).length
  have h2 := hg.2.2.1 y hy
  have h3 := hg.2.2.1 z hz
  unfold gLv; omega
theorem jnSt_B {m : jMu} {g : jGa} (hg : gOk m g) {y z : Nat} (hy : y < gY g) (hz : z < gY g) {o : Option (Nat × Nat)} (h : jnB o) : jnB (jnSt g y z o) := by
  have h1 := gLv_le hg hy hz
  have h5 := hg.1
  intro b l e
  unfold jnSt at e
  cases o with
  | none => cases e; omega
  | some q =>
    obtain ⟨b', l'⟩ := q
    simp only at e
    by_cases hc : gLv g y z < l'
    · rw [if_pos hc] at e; cases e; omega
    · rw [if_neg hc] at e; cases e; exact h _ _ rfl
theorem jnI_B {m : jMu} {g : jGa} (hg : gOk m g) {y : Nat} (hy : y < gY g) {o : Option (Nat × Nat)} (h : jnB o) : ∀ k, y + 1 + k ≤ gY g → jnB (jnI g y k o)
  | 0, _ => h
  | k + 1, hk => jnSt_B hg hy (by omega) (jnI_B hg hy h k (by omega))
theorem jnO_B {m : jMu} {g : jGa} (hg : gOk m g) : ∀ i, i ≤ gY g → jnB (jnO g i)
  | 0, _ => fun b l h => by cases h
  | i + 1, hi => jnI_B hg (by omega) (jnO_B hg i (by omega)) _ (by omega)
theorem jc_nt24 {I : iq_I} {m : jMu} {g : jGa} (hm : mOk m) (hg : gOk m g) (hG : jRG I 16 17 18 24 g) {y : Nat} (hy : y < gY g) {o : Option (Nat × Nat)} (ho : jnB o) :
    ∃ w, zW_nearestTwo_l24 (jn y) ir_F ((jnE 1000 o).1, (jnE 1000 o).2, jn (y + 1), I) = some w ∧ w.1 = (jnE 1000 (jnI g y (gY g - (y + 1)) o)).1 ∧ w.2.1 = (jnE 1000 (jnI g y (gY g - (y + 1)) o)).2 ∧ jag I w.2.2 := by
  have h5 := hg.1
  refine js_inv (fun k v => v.1 = (jnE 1000 (jnI g y k o)).1 ∧ v.2.1 = (jnE 1000 (jnI g y k o)).2 ∧ v.2.2.1 = jn (y + 1 + k) ∧ jag I v.2.2.2) (gY g - (y + 1)) _ ?_ ?_ (gY g - (y + 1)) 0 ((jnE 1000 o).1, (jnE 1000 o).2, jn (y + 1), I) ir_F (by omega) ⟨rfl, rfl, rfl, jag_rf I⟩ (by unfold ir_F; omega)
  · rintro k ⟨x1, x2, x3, I1⟩ hk ⟨e1, e2, e3, ha⟩
    simp only at e1 e2 e3 ha
    subst e1; subst e2; subst e3
    have hG1 := jRG_up hG ha
    have hz : y + 1 + k < gY g := by omega
    obtain ⟨I2, q1, a2⟩ := jc_fewestChanges hm hg hG1 hy hz
    have hl := gLv_le hg hy hz
    have hb := jnI_B hg hy ho k (by omega)
    cases hc : jnI g y k o with
    | none =>
      refine ⟨(jn (10 * y + (y + 1 + k)), jn (gLv g y (y + 1 + k)), jn (y + 1 + k + 1), I2), ?_, ?_, ?_, rfl, jag_tr ha a2⟩
      · simp (disch := omega) only [zW_nearestTwo_l24_b, jnE, jRG_Y hG1, q1, ir_let, jn_lt, jn_le, jn_in, jn_inj, jn_ne_m, jm_ne_n, jm_eq_m, jm_lt, jm_le, jn_lt_m, jn_le_m, jn_add, jn_mul, jn_clamp, jo_some, jn_min, jn_max, ↓jlm, jl0, jl1, jl2, jl3, jl4, jl5, jl6, jl7, jl8, jl9, jl10, jl11, jl12, jl13, jl14, jl15, jl16, jl20, jl24, jl32, jl39, jl40, jl41, jl60, jl61, jl80, jl96, jl97, jl99, jl100, jl122, jl126, jl199, jl200, jl205, jl206, jl255, jl256, jl410, jl700, jl950, jl1000, jl1000000, jl4000, jl8240, jl32767, if_pos, if_neg, ↓reduceIte, Option.bind_some, not_true_eq_false, not_false_eq_true, Nat.not_lt, Nat.not_le]
      · simp only [jnI, jnSt, hc, jnE]
      · simp only [jnI, jnSt, hc, jnE]
    | some q =>
      obtain ⟨b, l⟩ := q
      have := hb b l hc
      by_cases hlt : gLv g y (y + 1 + k) < l
      · refine ⟨(jn (10 * y + (y + 1 + k)), jn (gLv g y (y + 1 + k)), jn (y + 1 + k + 1), I2), ?_, ?_, ?_, rfl, jag_tr ha a2⟩
        · simp (disch := omega) only [zW_nearestTwo_l24_b, jnE, jRG_Y hG1, q1, ir_let, jn_lt, jn_le, jn_in, jn_inj, jn_ne_m, jm_ne_n, jm_eq_m, jm_lt, jm_le, jn_lt_m, jn_le_m, jn_add, jn_mul, jn_clamp, jo_some, jn_min, jn_max, ↓jlm, jl0, jl1, jl2, jl3, jl4, jl5, jl6, jl7, jl8, jl9, jl10, jl11, jl12, jl13, jl14, jl15, jl16, jl20, jl24, jl32, jl39, jl40, jl41, jl60, jl61, jl80, jl96, jl97, jl99, jl100, jl122, jl126, jl199, jl200, jl205, jl206, jl255, jl256, jl410, jl700, jl950, jl1000, jl1000000, jl4000, jl8240, jl32767, if_pos, if_neg, ↓reduceIte, Option.bind_some, not_true_eq_false, not_false_eq_true, Nat.not_lt, Nat.not_le]
        · simp only [jnI, jnSt, hc, jnE, if_pos hlt]
        · simp only [jnI, jnSt, hc, jnE, if_pos hlt]
      · refine ⟨(jn b, jn l, jn (y + 1 + k + 1), I2), ?_, ?_, ?_, rfl, jag_tr ha a2⟩
        · simp (disch := omega) only [zW_nearestTwo_l24_b, jnE, jRG_Y hG1, q1, ir_let, jn_lt, jn_le, jn_in, jn_inj, jn_ne_m, jm_ne_n, jm_eq_m, jm_lt, jm_le, jn_lt_m, jn_le_m, jn_add, jn_mul, jn_clamp, jo_some, jn_min, jn_max, ↓jlm, jl0, jl1, jl2, jl3, jl4, jl5, jl6, jl7, jl8, jl9, jl10, jl11, jl12, jl13, jl14, jl15, jl16, jl20, jl24, jl32, jl39, jl40, jl41, jl60, jl61, jl80, jl96, jl97, jl99, jl100, jl122, jl126, jl199, jl200, jl205, jl206, jl255, jl256, jl410, jl700, jl950, jl1000, jl1000000, jl4000, jl8240, jl32767, if_pos, if_neg, ↓reduceIte, Option.bind_some, not_true_eq_false, not_false_eq_true, Nat.not_lt, Nat.not_le]
        · simp only [jnI, jnSt, hc, jnE, if_neg hlt]
        · simp only [jnI, jnSt, hc, jnE, if_neg hlt]
  · rintro ⟨x1, x2, x3, I1⟩ ⟨e1, e2, e3, ha⟩
    simp only at e1 e2 e3 ha
    subst e1; subst e2; subst e3
    have hG1 := jRG_up hG ha
    refine ⟨((jnE 1000 (jnI g y (gY g - (y + 1)) o)).1, (jnE 1000 (jnI g y (gY g - (y + 1)) o)).2, I1), ?_, rfl, rfl, ha⟩
    simp (disch := omega) only [zW_nearestTwo_l24_b, jRG_Y hG1, ir_let, jn_lt, jn_le, jn_in, jn_inj, jn_ne_m, jm_ne_n, jm_eq_m, jm_lt, jm_le, jn_lt_m, jn_le_m, jn_add, jn_mul, jn_clamp, jo_some, jn_min, jn_max, ↓jlm, jl0, jl1, jl2, jl3, jl4, jl5, jl6, jl7, jl8, jl9, jl10, jl11, jl12, jl13, jl14, jl15, jl16, jl20, jl24, jl32, jl39, jl40, jl41, jl60, jl61, jl80, jl96, jl97, jl99, jl100, jl122, jl126, jl199, jl200, jl205, jl206, jl255, jl256, jl410, jl700, jl950, jl1000, jl1000000, jl4000, jl8240, jl32767, if_pos, if_neg, ↓reduceIte, Option.bind_some, not_true_eq_false, not_false_eq_true, Nat.not_lt, Nat.not_le]
theorem jm_nt24 {I : iq_I} {m : jMu} {g : jGa} (hm : mOk m) (hg : gOk m g) (hB : jRB I g) (hR : jRR (I 98) g) {y : Nat} (hy : y < gY g) {o : Option (Nat × Nat)} (ho : jnB o) :
    ∃ w, zM_nearest_l24 (jn y) ir_F ((jnE 0 o).1, (jnE 0 o).2, jn (y + 1), I) = some w ∧ w.1 = (jnE 0 (jnI g y (gY g - (y + 1)) o)).1 ∧ w.2.1 = (jnE 0 (jnI g y (gY g - (y + 1)) o)).2 ∧ jag I w.2.2 := by
  have h5 := hg.1
  refine js_inv (fun k v => v.1 = (jnE 0 (jnI g y k o)).1 ∧ v.2.1 = (jnE 0 (jnI g y k o)).2 ∧ v.2.2.1 = jn (y + 1 + k) ∧ jag I v.2.2.2) (gY g - (y + 1)) _ ?_ ?_ (gY g - (y + 1)) 0 ((jnE 0 o).1, (jnE 0 o).2, jn (y + 1), I) ir_F (by omega) ⟨rfl, rfl, rfl, jag_rf I⟩ (by unfold ir_F; omega)
  · rintro k ⟨x1, x2, x3, I1⟩ hk ⟨e1, e2, e3, ha⟩
    simp only at e1 e2 e3 ha
    subst e1; subst e2; subst e3
    have hB1 := jRB_ag hB ha
    have hz : y + 1 + k < gY g := by omega
    obtain ⟨I2, q1, a2, t2⟩ := jm_alikeOf hm hg (jRR_ag hR ha) hy hz
    have hl := gLv_le hg hy hz
    have hb := jnI_B hg hy ho k (by omega)
    cases hc : jnI g y k o with
    | none =>
      refine ⟨(jn (10 * y + (y + 1 + k)), jn (gLv g y (y + 1 + k)), jn (y + 1 + k + 1), I2), ?_, ?_, ?_, rfl, jag_tr ha a2⟩
      · simp (disch := omega) only [zM_nearest_l24_b, zM_nearest_56, jnE, hB1.1, q1, ir_let, jn_lt, jn_le, jn_in, jn_inj, jn_ne_m, jm_ne_n, jm_eq_m, jm_lt, jm_le, jn_lt_m, jn_le_m, jn_add, jn_mul, jn_clamp, jo_some, jn_min, jn_max, ↓jlm, jl0, jl1, jl2, jl3, jl4, jl5, jl6, jl7, jl8, jl9, jl10, jl11, jl12, jl13, jl14, jl15, jl16, jl20, jl24, jl32, jl39, jl40, jl41, jl60, jl61, jl80, jl96, jl97, jl99, jl100, jl122, jl126, jl199, jl200, jl205, jl206, jl255, jl256, jl410, jl700, jl950, jl1000, jl1000000, jl4000, jl8240, jl32767, if_pos, if_neg, ↓reduceIte, Option.bind_some, not_true_eq_false, not_false_eq_true, Nat.not_lt, Nat.not_le]
      · simp only [jnI, jnSt, hc, jnE]
      · simp only [jnI, jnSt, hc, jnE]
    | some q =>
      obtain ⟨b, l⟩ := q
      have := hb b l hc
      by_cases hlt : gLv g y (y + 1 + k) < l
      · refine ⟨(jn (10 * y + (y + 1 + k)), jn (gLv g y (y + 1 + k)), jn (y + 1 + k + 1), I2), ?_, ?_, ?_, rfl, jag_tr ha a2⟩
        · simp (disch := omega) only [zM_nearest_l24_b, zM_nearest_56, jnE, hB1.1, q1, ir_let, jn_lt, jn_le, jn_in, jn_inj, jn_ne_m, jm_ne_n, jm_eq_m, jm_lt, jm_le, jn_lt_m, jn_le_m, jn_add, jn_mul, jn_clamp, jo_some, jn_min, jn_max, ↓jlm, jl0, jl1, jl2, jl3, jl4, jl5, jl6, jl7, jl8, jl9, jl10, jl11, jl12, jl13, jl14, jl15, jl16, jl20, jl24, jl32, jl39, jl40, jl41, jl60, jl61, jl80, jl96, jl97, jl99, jl100, jl122, jl126, jl199, jl200, jl205, jl206, jl255, jl256, jl410, jl700, jl950, jl1000, jl1000000, jl4000, jl8240, jl32767, if_pos, if_neg, ↓reduceIte, Option.bind_some, not_true_eq_false, not_false_eq_true, Nat.not_lt, Nat.not_le]
        · simp only [jnI, jnSt, hc, jnE, if_pos hlt]
        · simp only [jnI, jnSt, hc, jnE, if_pos hlt]
      · refine ⟨(jn b, jn l, jn (y + 1 + k + 1), I2), ?_, ?_, ?_, rfl, jag_tr ha a2⟩
        · simp (disch := omega) only [zM_nearest_l24_b, zM_nearest_56, jnE, hB1.1, q1, ir_let, jn_lt, jn_le, jn_in, jn_inj, jn_ne_m, jm_ne_n, jm_eq_m, jm_lt, jm_le, jn_lt_m, jn_le_m, jn_add, jn_mul, jn_clamp, jo_some, jn_min, jn_max, ↓jlm, jl0, jl1, jl2, jl3, jl4, jl5, jl6, jl7, jl8, jl9, jl10, jl11, jl12, jl13, jl14, jl15, jl16, jl20, jl24, jl32, jl39, jl40, jl41, jl60, jl61, jl80, jl96, jl97, jl99, jl100, jl122, jl126, jl199, jl200, jl205, jl206, jl255, jl256, jl410, jl700, jl950, jl1000, jl1000000, jl4000, jl8240, jl32767, if_pos, if_neg, ↓reduceIte, Option.bind_some, not_true_eq_false, not_false_eq_true, Nat.not_lt, Nat.not_le]
        · simp only [jnI, jnSt, hc, jnE, if_neg hlt]
        · simp only [jnI, jnSt, hc, jnE, if_neg hlt]
  · rintro ⟨x1, x2, x3, I1⟩ ⟨e1, e2, e3, ha⟩
    simp only at e1 e2 e3 ha
    subst e1; subst e2; subst e3
    have hB1 := jRB_ag hB ha
    refine ⟨((jnE 0 (jnI g y (gY g - (y + 1)) o)).1, (jnE 0 (jnI g y (gY g - (y + 1)) o)).2, I1), ?_, rfl, rfl, ha⟩
    simp (disch := omega) only [zM_nearest_l24_b, hB1.1, ir_let, jn_lt, jn_le, jn_in, jn_inj, jn_ne_m, jm_ne_n, jm_eq_m, jm_lt, jm_le, jn_lt_m, jn_le_m, jn_add, jn_mul, jn_clamp, jo_some, jn_min, jn_max, ↓jlm, jl0, jl1, jl2, jl3, jl4, jl5, jl6, jl7, jl8, jl9, jl10, jl11, jl12, jl13, jl14, jl15, jl16, jl20, jl24, jl32, jl39, jl40, jl41, jl60, jl61, jl80, jl96, jl97, jl99, jl100, jl122, jl126, jl199, jl200, jl205, jl206, jl255, jl256, jl410, jl700, jl950, jl1000, jl1000000, jl4000, jl8240, jl32767, if_pos, if_neg, ↓reduceIte, Option.bind_some, not_true_eq_false, not_false_eq_true, Nat.not_lt, Nat.not_le]
theorem jq_nearest {I : iq_I} (hI : jInv I) : ∃ v I1 I2, zO_nearest I = some (v, I1) ∧ zM_nearest I1 = some (v, I2) ∧ jag I I1 ∧ jag I I2 := by
  obtain ⟨m, g, hm, hU, hN, hB, ⟨hg, hG, hR, -, -⟩, -⟩ := hI
  have h5 := hg.1
  have C : ∃ w, zW_nearestTwo_l9 ir_F ((jnE 1000 none).1, (jnE 1000 none).2, jn 0, I) = some w ∧ w.1 = (jnE 1000 (jnO g (gY g))).1 ∧ jag I w.2 := by
    refine js_inv (fun k v => v.1 = (jnE 1000 (jnO g k)).1 ∧ v.2.1 = (jnE 1000 (jnO g k)).2 ∧ v.2.2.1 = jn k ∧ jag I v.2.2.2) (gY g) _ ?_ ?_ (gY g) 0 _ ir_F (by omega) ⟨rfl, rfl, rfl, jag_rf I⟩ (by unfold ir_F; omega)
    · rintro k ⟨x1, x2, x3, I1⟩ hk ⟨e1, e2, e3, ha⟩
      simp only at e1 e2 e3 ha
      subst e1; subst e2; subst e3
      have hG1 := jRG_up hG ha
      obtain ⟨⟨w1, w2, w3⟩, q1, q2, q3, q4⟩ := jc_nt24 hm hg hG1 hk (jnO_B hg k (by omega))
      simp only at q2 q3 q4
      refine ⟨(w1, w2, jn (k + 1), w3), ?_, q2, q3, rfl, jag_tr ha q4⟩
      simp (disch := omega) only [zW_nearestTwo_l9_b, jRG_Y hG1, jn_le, jl1, jn_add, if_neg]
      rw [q1, Option.bind_some]
    · rintro ⟨x1, x2, x3, I1⟩ ⟨e1, e2, e3, ha⟩
      simp only at e1 e2 e3 ha
      subst e1; subst e2; subst e3
      have hG1 := jRG_up hG ha
      refine ⟨((jnE 1000 (jnO g (gY g))).1, I1), ?_, rfl, ha⟩
      simp (disch := omega) only [zW_nearestTwo_l9_b, jRG_Y hG1, ir_let, jn_lt, jn_le, jn_in, jn_inj, jn_ne_m, jm_ne_n, jm_eq_m, jm_lt, jm_le, jn_lt_m, jn_le_m, jn_add, jn_mul, jn_clamp, jo_some, jn_min, jn_max, ↓jlm, jl0, jl1, jl2, jl3, jl4, jl5, jl6, jl7, jl8, jl9, jl10, jl11, jl12, jl13, jl14, jl15, jl16, jl20, jl24, jl32, jl39, jl40, jl41, jl60, jl61, jl80, jl96, jl97, jl99, jl100, jl122, jl126, jl199, jl200, jl205, jl206, jl255, jl256, jl410, jl700, jl950, jl1000, jl1000000, jl4000, jl8240, jl32767, if_pos, if_neg, ↓reduceIte, Option.bind_some, not_true_eq_false, not_false_eq_true, Nat.not_lt, Nat.not_le]
  obtain ⟨⟨w1, I1⟩, c1, c2, a1⟩ := C
  simp only at c2 a1
  subst c2
  have M : ∃ w, zM_nearest_l11 ir_F ((jnE 0 none).1, (jnE 0 none).2, jn 0, jz I1) = some w ∧ w.1 = (jnE 0 (jnO g (gY g))).1 ∧ jag (jz I1) w.2 := by
    have hB0 := jRB_ag hB (jag_tr a1 (jz_ag I1))
    have hR0 := jRR_ag hR (jag_tr a1 (jz_ag I1))
    refine js_inv (fun k v => v.1 = (jnE 0 (jnO g k)).1 ∧ v.2.1 = (jnE 0 (jnO g k)).2 ∧ v.2.2.1 = jn k ∧ jag (jz I1) v.2.2.2) (gY g) _ ?_ ?_ (gY g) 0 _ ir_F (by omega) ⟨rfl, rfl, rfl, jag_rf _⟩ (by unfold ir_F; omega)
    · rintro k ⟨x1, x2, x3, I2⟩ hk ⟨e1, e2, e3, ha⟩
      simp only at e1 e2 e3 ha
      subst e1; subst e2; subst e3
      have hB1 := jRB_ag hB0 ha
      obtain ⟨⟨w1, w2, w3⟩, q1, q2, q3, q4⟩ := jm_nt24 hm hg hB1 (jRR_ag hR0 ha) hk (jnO_B hg k (by omega))
      simp only at q2 q3 q4
      refine ⟨(w1, w2, jn (k + 1), w3), ?_, q2, q3, rfl, jag_tr ha q4⟩
      simp (disch := omega) only [zM_nearest_l11_b, hB1.1, jn_le, jl1, jn_add, if_neg]
      rw [q1, Option.bind_some]
    · rintro ⟨x1, x2, x3, I2⟩ ⟨e1, e2, e3, ha⟩
      simp only at e1 e2 e3 ha
      subst e1; subst e2; subst e3
      have hB1 := jRB_ag hB0 ha
      refine ⟨((jnE 0 (jnO g (gY g))).1, I2), ?_, rfl, ha⟩
      simp (disch := omega) only [zM_nearest_l11_b, hB1.1, ir_let, jn_lt, jn_le, jn_in, jn_inj, jn_ne_m, jm_ne_n, jm_eq_m, jm_lt, jm_le, jn_lt_m, jn_le_m, jn_add, jn_mul, jn_clamp, jo_some, jn_min, jn_max, ↓jlm, jl0, jl1, jl2, jl3, jl4, jl5, jl6, jl7, jl8, jl9, jl10, jl11, jl12, jl13, jl14, jl15, jl16, jl20, jl24, jl32, jl39, jl40, jl41, jl60, jl61, jl80, jl96, jl97, jl99, jl100, jl122, jl126, jl199, jl200, jl205, jl206, jl255, jl256, jl410, jl700, jl950, jl1000, jl1000000, jl4000, jl8240, jl32767, if_pos, if_neg, ↓reduceIte, Option.bind_some, not_true_eq_false, not_false_eq_true, Nat.not_lt, Nat.not_le]
  obtain ⟨⟨w2, I2⟩, d1, d2, a2⟩ := M
  simp only at d2 a2
  subst d2
  have e : (jnE 0 (jnO g (gY g))).1 = (jnE 1000 (jnO g (gY g))).1 := by cases jnO g (gY g) <;> rfl
  rw [e] at d1
  refine ⟨(jnE 1000 (jnO g (gY g))).1, I1, I2, ?_, ?_, a1, jag_tr (jag_tr a1 (jz_ag I1)) a2⟩
  · have c1' : zW_nearestTwo_l9 ir_F ((-1 : Int32), (1000 : Int32), (0 : Int32), I) = some ((jnE 1000 (jnO g (gY g))).1, I1) := c1
    simp only [zO_nearest, zW_nearestTwo, c1', ir_let, iq_sm, ir_sm, jzE, j10, Option.bind_some, ↓reduceIte, not_true_eq_false, not_false_eq_true]
  · have d1' : zM_nearest_l11 ir_F ((-1 : Int32), (0 : Int32), (0 : Int32), jz I1) = some ((jnE 1000 (jnO g (gY g))).1, I2) := d1
    simp only [zM_nearest, ir_let, iq_sm, ir_sm, jzE, j10, Option.bind_some, ↓reduceIte, not_true_eq_false, not_false_eq_true, d1']
