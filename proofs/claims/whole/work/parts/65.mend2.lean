/-! ===== mend: tables, rows, answers ===== -/
theorem jc_tm22 {I : iq_I} {m : jMu} {g : jGa} {y i : Nat} (hm : mOk m) (hU : jRU I m) (hg : gOk m g) (hG : jRG I 16 17 18 24 g) (hy : y < gY g) (hT : jT75 I m g y i) (hi : i ≤ (gS g y).length) :
    ∃ I', zW_fewestToMend_l22 (jn y) (jn (gS g y).length) (jn ((gS g y).length - i)) ir_F (jn 0, I) = some I' ∧ jag I I' ∧ jT75 I' m g y (i + 1) := by
  have h40 := hg.2.2.1 y hy
  have h10 := hm.1
  refine js_inv (fun s v => v.1 = jn s ∧ jag I v.2 ∧ jT75 v.2 m g y i ∧ ∀ s', s' < s → v.2 75 (((gS g y).length - i) * 10 + s') = jn ((mD m g y i s').getD 1000)) (mS m) _ ?_ ?_ (mS m) 0 (jn 0, I) ir_F (by omega) ⟨rfl, jag_rf I, hT, fun s' h => by omega⟩ (by unfold ir_F; omega)
  · rintro s ⟨x, I1⟩ hs ⟨hv, ha, hT1, hc⟩
    simp only at hv ha hT1 hc
    subst hv
    have hU1 := jRU_ag hU ha
    have hG1 := jRG_up hG ha
    refine ⟨(jn (s + 1), iq_upI I1 75 (((gS g y).length - i) * 10 + s) (jn ((mD m g y i s).getD 1000))), ?_, rfl, jag_up ha rfl, fun r s' h1 h2 => ?_, fun s' h => ?_⟩
    · by_cases e : i = 0
      · subst e
        simp (disch := omega) only [zW_fewestToMend_l22_b, zW_fewestToMend_66, jRU_S hU1, ir_let, jn_lt, jn_le, jn_in, jn_inj, jn_ne_m, jm_ne_n, jm_eq_m, jm_lt, jm_le, jn_lt_m, jn_le_m, jn_add, jn_mul, jn_clamp, jo_some, jn_min, jn_max, ↓jlm, jl0, jl1, jl2, jl3, jl4, jl5, jl6, jl7, jl8, jl9, jl10, jl11, jl12, jl13, jl14, jl15, jl16, jl20, jl24, jl32, jl39, jl40, jl41, jl60, jl61, jl80, jl96, jl97, jl99, jl100, jl122, jl126, jl199, jl200, jl205, jl206, jl255, jl256, jl410, jl700, jl950, jl1000, jl1000000, jl4000, jl8240, jl32767, if_pos, if_neg, ↓reduceIte, Option.bind_some, not_true_eq_false, not_false_eq_true, Nat.not_lt, Nat.not_le, Nat.sub_zero]
        rfl
      · obtain ⟨r, rfl⟩ : ∃ r, i = r + 1 := ⟨i - 1, by omega⟩
        have fa := jc_fewestAt hm hU1 hg hG1 hy hT1 (r := r) (by omega) (by omega) hs
        simp (disch := omega) only [zW_fewestToMend_l22_b, zW_fewestToMend_66, jRU_S hU1, fa, ir_let, jn_lt, jn_le, jn_in, jn_inj, jn_ne_m, jm_ne_n, jm_eq_m, jm_lt, jm_le, jn_lt_m, jn_le_m, jn_add, jn_mul, jn_clamp, jo_some, jn_min, jn_max, ↓jlm, jl0, jl1, jl2, jl3, jl4, jl5, jl6, jl7, jl8, jl9, jl10, jl11, jl12, jl13, jl14, jl15, jl16, jl20, jl24, jl32, jl39, jl40, jl41, jl60, jl61, jl80, jl96, jl97, jl99, jl100, jl122, jl126, jl199, jl200, jl205, jl206, jl255, jl256, jl410, jl700, jl950, jl1000, jl1000000, jl4000, jl8240, jl32767, if_pos, if_neg, ↓reduceIte, Option.bind_some, not_true_eq_false, not_false_eq_true, Nat.not_lt, Nat.not_le]
    · dsimp only
      rw [up_ni (by omega)]; exact hT1 r s' h1 h2
    · dsimp only
      by_cases e : s' = s
      · subst e; rw [up_eq]
      · rw [up_ni (by omega)]; exact hc s' (by omega)
  · rintro ⟨x, I1⟩ ⟨hv, ha, hT1, hc⟩
    simp only at hv ha hT1 hc
    subst hv
    have hU1 := jRU_ag hU ha
    refine ⟨I1, ?_, ha, fun r s h1 h2 => ?_⟩
    · simp (disch := omega) only [zW_fewestToMend_l22_b, jRU_S hU1, ir_let, jn_lt, jn_le, jn_in, jn_inj, jn_ne_m, jm_ne_n, jm_eq_m, jm_lt, jm_le, jn_lt_m, jn_le_m, jn_add, jn_mul, jn_clamp, jo_some, jn_min, jn_max, ↓jlm, jl0, jl1, jl2, jl3, jl4, jl5, jl6, jl7, jl8, jl9, jl10, jl11, jl12, jl13, jl14, jl15, jl16, jl20, jl24, jl32, jl39, jl40, jl41, jl60, jl61, jl80, jl96, jl97, jl99, jl100, jl122, jl126, jl199, jl200, jl205, jl206, jl255, jl256, jl410, jl700, jl950, jl1000, jl1000000, jl4000, jl8240, jl32767, if_pos, if_neg, ↓reduceIte, Option.bind_some, not_true_eq_false, not_false_eq_true, Nat.not_lt, Nat.not_le]
    · by_cases e : r = i
      · subst e; exact hc s h2
      · exact hT1 r s (by omega) h2
theorem jc_tm14 {I : iq_I} {m : jMu} {g : jGa} {y : Nat} (hm : mOk m) (hU : jRU I m) (hg : gOk m g) (hG : jRG I 16 17 18 24 g) (hy : y < gY g) :
    ∃ I', zW_fewestToMend_l14 (jn y) (jn (gS g y).length) ir_F (jn (gS g y).length, I) = some I' ∧ jag I I' ∧ jT75 I' m g y ((gS g y).length + 1) := by
  have h40 := hg.2.2.1 y hy
  refine js_inv (fun i v => v.1 = (if i ≤ (gS g y).length then jn ((gS g y).length - i) else jo none) ∧ jag I v.2 ∧ jT75 v.2 m g y i) ((gS g y).length + 1) _ ?_ ?_ ((gS g y).length + 1) 0 _ ir_F (by omega) ⟨by rw [if_pos (by omega)]; rfl, jag_rf I, fun r s h => by omega⟩ (by unfold ir_F; omega)
  · rintro i ⟨x, I1⟩ hi ⟨hv, ha, hT1⟩
    simp only at hv ha hT1
    rw [if_pos (by omega)] at hv
    subst hv
    obtain ⟨I2, e2, a2, hT2⟩ := jc_tm22 hm (jRU_ag hU ha) hg (jRG_up hG ha) hy hT1 (by omega)
    refine ⟨(if i + 1 ≤ (gS g y).length then jn ((gS g y).length - (i + 1)) else jo none, I2), ?_, rfl, jag_tr ha a2, hT2⟩
    have en : jn ((gS g y).length - i) + jo none = (if i + 1 ≤ (gS g y).length then jn ((gS g y).length - (i + 1)) else jo none) := by
      by_cases e : i + 1 ≤ (gS g y).length
      · rw [if_pos e, jn_pred (by omega), Nat.sub_sub]
      · rw [if_neg e, show (gS g y).length - i = 0 by omega]; rfl
    simp (disch := omega) only [zW_fewestToMend_l14_b, e2, ↓jlm, jl0, jn_lt, Option.bind_some, if_neg, en]
  · rintro ⟨x, I1⟩ ⟨hv, ha, hT1⟩
    simp only at hv ha hT1
    rw [if_neg (by omega)] at hv
    subst hv
    refine ⟨I1, ?_, ha, hT1⟩
    simp (disch := omega) only [zW_fewestToMend_l14_b, ir_let, jn_lt, jn_le, jn_in, jn_inj, jn_ne_m, jm_ne_n, jm_eq_m, jm_lt, jm_le, jn_lt_m, jn_le_m, jn_add, jn_mul, jn_clamp, jo_some, jn_min, jn_max, ↓jlm, jl0, jl1, jl2, jl3, jl4, jl5, jl6, jl7, jl8, jl9, jl10, jl11, jl12, jl13, jl14, jl15, jl16, jl20, jl24, jl32, jl39, jl40, jl41, jl60, jl61, jl80, jl96, jl97, jl99, jl100, jl122, jl126, jl199, jl200, jl205, jl206, jl255, jl256, jl410, jl700, jl950, jl1000, jl1000000, jl4000, jl8240, jl32767, if_pos, if_neg, ↓reduceIte, Option.bind_some, not_true_eq_false, not_false_eq_true, Nat.not_lt, Nat.not_le]
def vMn (m : jMu) (g : jGa) (y : Nat) : Option Nat := mD m g y (gS g y).length (gB g y)
theorem jc_fewestToMend {I : iq_I} {m : jMu} {g : jGa} {y : Nat} (hm : mOk m) (hU : jRU I m) (hg : gOk m g) (hG : jRG I 16 17 18 24 g) (hy : y < gY g) :
    ∃ I', zW_fewestToMend (jn y) I = some (jo (vMn m g y), I') ∧ jag I I' ∧ jT75 I' m g y ((gS g y).length + 1) := by
  have h40 := hg.2.2.1 y hy
  obtain ⟨I1, e1, a1, hT1⟩ := jc_tm14 hm hU hg hG hy
  have hU1 := jRU_ag hU a1
  have hG1 := jRG_up hG a1
  have hbb := hg.2.1 y hy
  have ff := jc_fewestFrom hm hU1 h40 hT1 (r := (gS g y).length) (by omega) (by omega) (o := some (gB g y)) (fun t ht => by cases ht; exact hbb)
  rw [Nat.sub_self, jo_some, Option.bind_some] at ff
  refine ⟨I1, ?_, a1, hT1⟩
  have e40 : min (gS g y).length 40 = (gS g y).length := by omega
  simp (disch := omega) only [zW_fewestToMend, jc_lengthOf hg hG hy, ir_let, jn_lt, jn_le, jn_in, jn_inj, jn_ne_m, jm_ne_n, jm_eq_m, jm_lt, jm_le, jn_lt_m, jn_le_m, jn_add, jn_mul, jn_clamp, jo_some, jn_min, jn_max, ↓jlm, jl0, jl1, jl2, jl3, jl4, jl5, jl6, jl7, jl8, jl9, jl10, jl11, jl12, jl13, jl14, jl15, jl16, jl20, jl24, jl32, jl39, jl40, jl41, jl60, jl61, jl80, jl96, jl97, jl99, jl100, jl122, jl126, jl199, jl200, jl205, jl206, jl255, jl256, jl410, jl700, jl950, jl1000, jl1000000, jl4000, jl8240, jl32767, if_pos, if_neg, ↓reduceIte, Option.bind_some, not_true_eq_false, not_false_eq_true, Nat.not_lt, Nat.not_le, e40, e1, jc_beginOf hg hG1 hy, ff]
  unfold vMn
  cases h : mD m g y (gS g y).length (gB g y) with
  | none =>
    simp (disch := omega) only [Option.getD_none, ir_let, jn_lt, jn_le, jn_in, jn_inj, jn_ne_m, jm_ne_n, jm_eq_m, jm_lt, jm_le, jn_lt_m, jn_le_m, jn_add, jn_mul, jn_clamp, jo_some, jn_min, jn_max, ↓jlm, jl0, jl1, jl2, jl3, jl4, jl5, jl6, jl7, jl8, jl9, jl10, jl11, jl12, jl13, jl14, jl15, jl16, jl20, jl24, jl32, jl39, jl40, jl41, jl60, jl61, jl80, jl96, jl97, jl99, jl100, jl122, jl126, jl199, jl200, jl205, jl206, jl255, jl256, jl410, jl700, jl950, jl1000, jl1000000, jl4000, jl8240, jl32767, if_pos, if_neg, ↓reduceIte, Option.bind_some, not_true_eq_false, not_false_eq_true, Nat.not_lt, Nat.not_le]
  | some v =>
    have := mD_le _ _ _ h
    simp (disch := omega) only [Option.getD_some, ir_let, jn_lt, jn_le, jn_in, jn_inj, jn_ne_m, jm_ne_n, jm_eq_m, jm_lt, jm_le, jn_lt_m, jn_le_m, jn_add, jn_mul, jn_clamp, jo_some, jn_min, jn_max, ↓jlm, jl0, jl1, jl2, jl3, jl4, jl5, jl6, jl7, jl8, jl9, jl10, jl11, jl12, jl13, jl14, jl15, jl16, jl20, jl24, jl32, jl39, jl40, jl41, jl60, jl61, jl80, jl96, jl97, jl99, jl100, jl122, jl126, jl199, jl200, jl205, jl206, jl255, jl256, jl410, jl700, jl950, jl1000, jl1000000, jl4000, jl8240, jl32767, if_pos, if_neg, ↓reduceIte, Option.bind_some, not_true_eq_false, not_false_eq_true, Nat.not_lt, Nat.not_le]
/-- the word put at the r-th place from the end -/
def mPk (m : jMu) (g : jGa) (y r s : Nat) : Option Nat := gFst (fun w => decide (mF m g y r (mD m g y r) s w = mD m g y (r + 1) s)) (mW m) 0
theorem mPk_ok {m : jMu} {g : jGa} {y r s v : Nat} (h : mD m g y (r + 1) s = some v) : ∃ w t u, mPk m g y r s = some w ∧ w < mW m ∧ mLd m s w = some t ∧ mD m g y r t = some u ∧ mF m g y r (mD m g y r) s w = some v ∧ ∀ j, j < w → ¬ mF m g y r (mD m g y r) s j = some v := by
  obtain ⟨⟨w0, hw0, hf0⟩, _⟩ := mB_at (show mB (mF m g y r (mD m g y r) s) (mW m) = some v from h)
  unfold mPk
  rcases gFst_sp (P := fun w => decide (mF m g y r (mD m g y r) s w = mD m g y (r + 1) s)) (c := mW m) (i := 0) with ⟨h1, h2⟩ | ⟨e, h1, _, h3, h4, h5⟩
  · have := h2 w0 (by omega) (by omega)
    rw [hf0, h] at this
    simp at this
  · have h4 := of_decide_eq_true h4
    rw [h] at h4
    have h6 := h4
    unfold mF at h4
    cases h7 : mLd m s e with
    | none => rw [h7] at h4; cases h4
    | some t =>
      rw [h7] at h4
      cases h8 : mD m g y r t with
      | none => simp [h8] at h4
      | some u =>
        refine ⟨e, t, u, h1, by omega, h7, h8, h6, fun j hj hc => ?_⟩
        have := h5 j (by omega) hj
        rw [hc, h] at this
        simp at this
theorem mF_1000 {m : jMu} {g : jGa} {y r s w v : Nat} (hr : r ≤ 40) (hv : v ≤ 41) : ((if gW g y ((gS g y).length - (r + 1)) = w then 0 else 1) + ((mLd m s w).bind (mD m g y r)).getD 1000 = v) = (mF m g y r (mD m g y r) s w = some v) := by
  unfold mF
  cases h1 : mLd m s w with
  | none => simp; split <;> omega
  | some t =>
    cases h2 : mD m g y r t with
    | none => simp [h2]; split <;> omega
    | some c => simp [h2, Nat.add_comm]
theorem jc_firstMending {I : iq_I} {m : jMu} {g : jGa} {y : Nat} (hm : mOk m) (hU : jRU I m) (hg : gOk m g) (hG : jRG I 16 17 18 24 g) (hy : y < gY g) (hT : jT75 I m g y ((gS g y).length + 1)) {r s v : Nat} (hr : r < (gS g y).length) (hs : s < mS m) (h : mD m g y (r + 1) s = some v) :
    zW_firstMending (jn y) (jn ((gS g y).length - (r + 1))) (jn s) I = some (jo (mPk m g y r s)) := by
  have h40 := hg.2.2.1 y hy
  have h14 := hm.2.1
  have hv := mD_le _ _ _ h
  obtain ⟨w, t, u, p1, p2, p3, p4, p5, p6⟩ := mPk_ok h
  have ff := jc_fewestFrom hm hU h40 hT (r := r + 1) (by omega) (by omega) (o := some s) (fun t ht => by cases ht; exact hs)
  rw [jo_some, Option.bind_some, h, Option.getD_some] at ff
  rw [p1]
  have b : ∀ k, ((mLd m s k).bind (mD m g y r)).getD 1000 ≤ 1000 := fun k => getD_le (k := r) (fun v hv => by
    cases h1 : mLd m s k with
    | none => rw [h1] at hv; cases hv
    | some t => rw [h1] at hv; exact mD_le r t v hv) (by omega)
  have key : zW_firstMending_l12 (jn y) (jn ((gS g y).length - (r + 1))) (jn s) (jn v) I ir_F (jn 0) = some (.inr (jn w)) := by
    refine js_seq (fun k => jn k) w _ (fun k hk => ?_) ?_ w 0 ir_F (by omega) (by unfold ir_F; omega)
    · have b2 := b k
      have b3 : (if gW g y ((gS g y).length - (r + 1)) = k then 0 else 1) ≤ 1 := by split <;> omega
      have ne := p6 k hk
      rw [← mF_1000 (by omega) (by omega)] at ne
      simp (disch := omega) only [zW_firstMending_l12_b, jRU_W hU, jc_fewestBy hm hU hg hG hy hT (show r < (gS g y).length + 1 by omega) hr hs (show k < mW m by omega), ir_let, jn_lt, jn_le, jn_in, jn_inj, jn_ne_m, jm_ne_n, jm_eq_m, jm_lt, jm_le, jn_lt_m, jn_le_m, jn_add, jn_mul, jn_clamp, jo_some, jn_min, jn_max, ↓jlm, jl0, jl1, jl2, jl3, jl4, jl5, jl6, jl7, jl8, jl9, jl10, jl11, jl12, jl13, jl14, jl15, jl16, jl20, jl24, jl32, jl39, jl40, jl41, jl60, jl61, jl80, jl96, jl97, jl99, jl100, jl122, jl126, jl199, jl200, jl205, jl206, jl255, jl256, jl410, jl700, jl950, jl1000, jl1000000, jl4000, jl8240, jl32767, if_pos, if_neg, ↓reduceIte, Option.bind_some, not_true_eq_false, not_false_eq_true, Nat.not_lt, Nat.not_le]
    · have b2 := b w
      have b3 : (if gW g y ((gS g y).length - (r + 1)) = w then 0 else 1) ≤ 1 := by split <;> omega
      have ne := p5
      rw [← mF_1000 (by omega) (by omega)] at ne
      simp (disch := omega) only [zW_firstMending_l12_b, jRU_W hU, jc_fewestBy hm hU hg hG hy hT (show r < (gS g y).length + 1 by omega) hr hs p2, ir_let, jn_lt, jn_le, jn_in, jn_inj, jn_ne_m, jm_ne_n, jm_eq_m, jm_lt, jm_le, jn_lt_m, jn_le_m, jn_add, jn_mul, jn_clamp, jo_some, jn_min, jn_max, ↓jlm, jl0, jl1, jl2, jl3, jl4, jl5, jl6, jl7, jl8, jl9, jl10, jl11, jl12, jl13, jl14, jl15, jl16, jl20, jl24, jl32, jl39, jl40, jl41, jl60, jl61, jl80, jl96, jl97, jl99, jl100, jl122, jl126, jl199, jl200, jl205, jl206, jl255, jl256, jl410, jl700, jl950, jl1000, jl1000000, jl4000, jl8240, jl32767, if_pos, if_neg, ↓reduceIte, Option.bind_some, not_true_eq_false, not_false_eq_true, Nat.not_lt, Nat.not_le]
  simp only [jn0] at key
  simp only [zW_firstMending, ff, key, ir_let, iq_sm, ir_sm, jzE, j10, Option.bind_some, ↓reduceIte, not_true_eq_false, not_false_eq_true, jo_some]
/-- the state behind k mended words -/
def mAt (m : jMu) (g : jGa) (y : Nat) : Nat → Nat
  | 0 => gB g y
  | k + 1 => ((mPk m g y ((gS g y).length - (k + 1)) (mAt m g y k)).bind (mLd m (mAt m g y k))).getD 0
theorem mAt_ok {m : jMu} {g : jGa} {y v : Nat} (hm : mOk m) (hb : gB g y < mS m) (h : vMn m g y = some v) : ∀ k, k ≤ (gS g y).length → mAt m g y k < mS m ∧ ∃ u, mD m g y ((gS g y).length - k) (mAt m g y k) = some u
  | 0, _ => ⟨hb, v, h⟩
  | k + 1, hk => by
    obtain ⟨h1, u, h2⟩ := mAt_ok hm hb h k (by omega)
    rw [show (gS g y).length - k = (gS g y).length - (k + 1) + 1 by omega] at h2
    obtain ⟨w, t, u', p1, p2, p3, p4, _⟩ := mPk_ok h2
    have e : mAt m g y (k + 1) = t := by
      show ((mPk m g y ((gS g y).length - (k + 1)) (mAt m g y k)).bind (mLd m (mAt m g y k))).getD 0 = t
      rw [p1, Option.bind_some, p3]; rfl
    rw [e]
    exact ⟨mLd_lt hm h1 p2 p3, u', p4⟩
def vMw (m : jMu) (g : jGa) (y i : Nat) : Int32 := jo (mPk m g y ((gS g y).length - (i + 1)) (mAt m g y i))
theorem jc_mendedWord {I : iq_I} {m : jMu} {g : jGa} {y i v : Nat} (hm : mOk m) (hU : jRU I m) (hg : gOk m g) (hG : jRG I 16 17 18 24 g) (hy : y < gY g) (hT : jT75 I m g y ((gS g y).length + 1)) (hv : vMn m g y = some v) (hi : i < (gS g y).length) :
    zW_mendedWord (jn y) (jn i) I = some (vMw m g y i) := by
  have h40 := hg.2.2.1 y hy
  have hb := hg.2.1 y hy
  have step : ∀ k, k < (gS g y).length → zW_firstMending (jn y) (jn k) (jn (mAt m g y k)) I = some (jo (mPk m g y ((gS g y).length - (k + 1)) (mAt m g y k))) := fun k hk => by
    obtain ⟨h1, u, h2⟩ := mAt_ok hm hb hv k (by omega)
    rw [show (gS g y).length - k = (gS g y).length - (k + 1) + 1 by omega] at h2
    have := jc_firstMending hm hU hg hG hy hT (r := (gS g y).length - (k + 1)) (by omega) h1 h2
    rw [show (gS g y).length - ((gS g y).length - (k + 1) + 1) = k by omega] at this
    exact this
  have key : zW_mendedWord_l10 (jn y) (jn i) I ir_F (jn (gB g y), jn 0) = some (jn (mAt m g y i)) := by
    refine js_seq (fun k => (jn (mAt m g y k), jn k)) i _ (fun k hk => ?_) ?_ i 0 ir_F (by omega) (by unfold ir_F; omega)
    · obtain ⟨h1, u, h2⟩ := mAt_ok hm hb hv k (by omega)
      rw [show (gS g y).length - k = (gS g y).length - (k + 1) + 1 by omega] at h2
      obtain ⟨w, t, u', p1, p2, p3, p4, _⟩ := mPk_ok h2
      have e : mAt m g y (k + 1) = t := by
        show ((mPk m g y ((gS g y).length - (k + 1)) (mAt m g y k)).bind (mLd m (mAt m g y k))).getD 0 = t
        rw [p1, Option.bind_some, p3]; rfl
      have st := step k (by omega)
      rw [p1, jo_some] at st
      have lt := jc_leadsTo hm hU h1 p2
      rw [p3] at lt
      simp (disch := omega) only [zW_mendedWord_l10_b, st, lt, ir_let, jn_lt, jn_le, jn_in, jn_inj, jn_ne_m, jm_ne_n, jm_eq_m, jm_lt, jm_le, jn_lt_m, jn_le_m, jn_add, jn_mul, jn_clamp, jo_some, jn_min, jn_max, ↓jlm, jl0, jl1, jl2, jl3, jl4, jl5, jl6, jl7, jl8, jl9, jl10, jl11, jl12, jl13, jl14, jl15, jl16, jl20, jl24, jl32, jl39, jl40, jl41, jl60, jl61, jl80, jl96, jl97, jl99, jl100, jl122, jl126, jl199, jl200, jl205, jl206, jl255, jl256, jl410, jl700, jl950, jl1000, jl1000000, jl4000, jl8240, jl32767, if_pos, if_neg, ↓reduceIte, Option.bind_some, not_true_eq_false, not_false_eq_true, Nat.not_lt, Nat.not_le, e]
    · simp (disch := omega) only [zW_mendedWord_l10_b, ir_let, jn_lt, jn_le, jn_in, jn_inj, jn_ne_m, jm_ne_n, jm_eq_m, jm_lt, jm_le, jn_lt_m, jn_le_m, jn_add, jn_mul, jn_clamp, jo_some, jn_min, jn_max, ↓jlm, jl0, jl1, jl2, jl3, jl4, jl5, jl6, jl7, jl8, jl9, jl10, jl11, jl12, jl13, jl14, jl15, jl16, jl20, jl24, jl32, jl39, jl40, jl41, jl60, jl61, jl80, jl96, jl97, jl99, jl100, jl122, jl126, jl199, jl200, jl205, jl206, jl255, jl256, jl410, jl700, jl950, jl1000, jl1000000, jl4000, jl8240, jl32767, if_pos, if_neg, ↓reduceIte, Option.bind_some, not_true_eq_false, not_false_eq_true, Nat.not_lt, Nat.not_le]
  simp only [jn0] at key
  simp only [zW_mendedWord, zW_mendedWord_50, jc_beginOf hg hG hy, key, step i hi, ir_let, iq_sm, ir_sm, jzE, j10, Option.bind_some, ↓reduceIte, not_true_eq_false, not_false_eq_true, vMw]
/-- the reference's table -/
def jT110 (I : iq_I) (m : jMu) (g : jGa) (y i : Nat) : Prop := ∀ r s, r < i → s < mS m → I 110 (10 * ((gS g y).length - r) + s) = jn ((mD m g y r s).getD 99)
theorem mF_get9 {m : jMu} {g : jGa} {y r s w : Nat} (a : Option Nat) (ha : ∀ v, a = some v → v ≤ 41) (hr : r ≤ 40) {t : Nat} (ht : mLd m s w = some t) : (oMin a (mF m g y r (mD m g y r) s w)).getD 99 = min (a.getD 99) ((mD m g y r t).getD 99 + (if gW g y ((gS g y).length - (r + 1)) = w then 0 else 1)) := by
  unfold mF
  rw [ht]
  cases h2 : mD m g y r t with
  | none =>
    cases a with
    | none => simp only [oMin, Option.bind_some, h2, Option.map_none, Option.getD_none]; split <;> omega
    | some v => simp only [oMin, Option.bind_some, h2, Option.map_none, Option.getD_none, Option.getD_some]; have := ha v rfl; split <;> omega
  | some c =>
    have := mD_le r t c h2
    cases a with
    | none => simp only [oMin, Option.bind_some, h2, Option.map_some, Option.getD_some, Option.getD_none]; split <;> omega
    | some v => simp only [oMin, Option.bind_some, h2, Option.map_some, Option.getD_some]
