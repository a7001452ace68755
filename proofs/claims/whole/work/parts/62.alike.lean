/-! ===== alike, nearest ===== -/
theorem js_inv {V W : Type} {body : V → Option (V ⊕ W)} (Inv : Nat → V → Prop) (N : Nat) (Q : W → Prop) (hs : ∀ i v, i < N → Inv i v → ∃ v', body v = some (.inl v') ∧ Inv (i + 1) v') (he : ∀ v, Inv N v → ∃ w, body v = some (.inr w) ∧ Q w) :
    ∀ (k i : Nat) (v : V) (n : Nat), i + k = N → Inv i v → k < n → ∃ w, iq_lp body n v = some w ∧ Q w
  | k, i, v, 0, _, _, h => by omega
  | 0, i, v, n + 1, h, hI, _ => by
    have e : i = N := by omega
    subst e
    obtain ⟨w, h1, h2⟩ := he v hI
    exact ⟨w, js_0 h1, h2⟩
  | k + 1, i, v, n + 1, h, hI, hn => by
    obtain ⟨v', h1, h2⟩ := hs i v (by omega) hI
    obtain ⟨w, h3, h4⟩ := js_inv Inv N Q hs he k (i + 1) v' n (by omega) h2 (by omega)
    exact ⟨w, (js_1 h1).trans h3, h4⟩
theorem up_eq {I : iq_I} {k i : Nat} {v : Int32} : iq_upI I k i v k i = v := by simp [iq_upI]
theorem up_nk {I : iq_I} {k i a j : Nat} {v : Int32} (h : ¬ a = k) : iq_upI I k i v a j = I a j := by simp [iq_upI, h]
theorem up_ni {I : iq_I} {k i j : Nat} {v : Int32} (h : ¬ j = i) : iq_upI I k i v k j = I k j := by simp [iq_upI, h]
theorem up_nkx (a k : Nat) (h : ¬ a = k) {I : iq_I} {i j : Nat} {v : Int32} : iq_upI I k i v a j = I a j := up_nk h
theorem up_nix (j i : Nat) (h : ¬ j = i) {I : iq_I} {k : Nat} {v : Int32} : iq_upI I k i v k j = I k j := up_ni h
def dRow (p : Nat → Nat) (x : Nat) (b : Nat → Nat) (h : Nat) : Nat → Nat
  | 0 => h
  | j + 1 => min (p j + (if x = b j then 0 else 1)) (1 + min (p (j + 1)) (dRow p x b h j))
def dL (a b : Nat → Nat) : Nat → Nat → Nat
  | 0 => fun j => j
  | i + 1 => dRow (dL a b i) (a i) b (i + 1)
theorem dL_le (a b : Nat → Nat) : ∀ i j, dL a b i j ≤ i + j
  | 0, j => by simp [dL]
  | i + 1, 0 => by simp [dL, dRow]
  | i + 1, j + 1 => by
    show min _ _ ≤ _
    have := dL_le a b i (j + 1)
    omega
theorem dL_0 (a b : Nat → Nat) (i : Nat) : dL a b i 0 = i := by cases i <;> rfl
theorem dL_s (a b : Nat → Nat) (i j : Nat) : dL a b (i + 1) (j + 1) = min (dL a b i j + (if a i = b j then 0 else 1)) (1 + min (dL a b i (j + 1)) (dL a b (i + 1) j)) := rfl
def gW (g : jGa) (y i : Nat) : Nat := (gS g y).getD i 0
def gLv (g : jGa) (y z : Nat) : Nat := dL (gW g y) (gW g z) (gS g y).length (gS g z).length
theorem jRG_up {I I' : iq_I} {g : jGa} (h : jRG I 16 17 18 24 g) (a : jag I I') : jRG I' 16 17 18 24 g := jRG_ag (fun _ => rfl) (fun _ => rfl) (fun _ => rfl) (fun _ => rfl) h a
theorem gW_lt {m : jMu} {g : jGa} (hm : mOk m) (hg : gOk m g) {y i : Nat} (hy : y < gY g) (hi : i < (gS g y).length) : gW g y i < 14 := by
  have := hg.2.2.2.1 y i hy hi
  have := hm.2.1
  unfold gW; omega
theorem jc_fc78 {I : iq_I} {m : jMu} {g : jGa} (hm : mOk m) (hg : gOk m g) (hG : jRG I 16 17 18 24 g) {y z i : Nat} (hy : y < gY g) (hz : z < gY g) (hi : i < (gS g y).length) (x4 : Int32)
    (hp : ∀ j, j ≤ (gS g z).length → I 73 j = jn (dL (gW g y) (gW g z) i j)) (h0 : I 74 0 = jn (i + 1)) :
    ∃ I', zW_fewestChanges_l78 (jn y) (jn z) x4 (jn (gS g z).length) (jn (i + 1)) (jn (gW g y i)) ir_F (jn 1, I) = some I' ∧ jag I I' ∧ ∀ j, j ≤ (gS g z).length → I' 74 j = jn (dL (gW g y) (gW g z) (i + 1) j) := by
  have hz40 := hg.2.2.1 z hz
  have hy40 := hg.2.2.1 y hy
  have hwi := gW_lt hm hg hy hi
  refine js_inv (fun k v => v.1 = jn (k + 1) ∧ jag I v.2 ∧ (∀ j, j ≤ (gS g z).length → v.2 73 j = jn (dL (gW g y) (gW g z) i j)) ∧ ∀ j, j ≤ k → v.2 74 j = jn (dL (gW g y) (gW g z) (i + 1) j)) (gS g z).length _ ?_ ?_ (gS g z).length 0 (jn 1, I) ir_F (by omega) ?_ (by unfold ir_F; omega)
  · rintro k ⟨x, I1⟩ hk ⟨hv, ha, h73, h74⟩
    simp only at hv ha h73 h74
    subst hv
    have hG1 := jRG_up hG ha
    have b1 := dL_le (gW g y) (gW g z) i k
    have b2 := dL_le (gW g y) (gW g z) i (k + 1)
    have b3 := dL_le (gW g y) (gW g z) (i + 1) k
    have hwk := gW_lt hm hg hz hk
    have wa : zG_wordAt_16 (jn z) (jn k) I1 = some (jn (gW g z k)) := jc_wordAt hg hG1 hz hk
    refine ⟨(jn (k + 1 + 1), iq_upI I1 74 (k + 1) (jn (dL (gW g y) (gW g z) (i + 1) (k + 1)))), ?_, rfl, jag_up ha rfl, fun j hj => by
      dsimp only
      rw [up_nk (by decide)]; exact h73 j hj, fun j hj => ?_⟩
    · by_cases e : gW g y i = gW g z k
      · have e' : gW g z k = gW g y i := e.symm
        simp (disch := omega) only [zW_fewestChanges_l78_b, zW_fewestChanges_120, h73, h74, ir_let, jn_lt, jn_le, jn_in, jn_inj, jn_ne_m, jm_ne_n, jm_eq_m, jm_lt, jm_le, jn_lt_m, jn_le_m, jn_add, jn_mul, jn_clamp, jo_some, jn_min, jn_max, ↓jlm, jl0, jl1, jl2, jl3, jl4, jl5, jl6, jl7, jl8, jl9, jl10, jl11, jl12, jl13, jl14, jl15, jl16, jl20, jl24, jl32, jl39, jl40, jl41, jl60, jl61, jl80, jl96, jl97, jl99, jl100, jl122, jl126, jl199, jl200, jl205, jl206, jl255, jl256, jl410, jl700, jl950, jl1000, jl1000000, jl4000, jl8240, jl32767, if_pos, if_neg, ↓reduceIte, Option.bind_some, not_true_eq_false, not_false_eq_true, Nat.not_lt, Nat.not_le, jn_sub, Nat.add_sub_cancel, wa, e']
        rw [dL_s, if_pos e]
      · simp (disch := omega) only [zW_fewestChanges_l78_b, zW_fewestChanges_120, h73, h74, ir_let, jn_lt, jn_le, jn_in, jn_inj, jn_ne_m, jm_ne_n, jm_eq_m, jm_lt, jm_le, jn_lt_m, jn_le_m, jn_add, jn_mul, jn_clamp, jo_some, jn_min, jn_max, ↓jlm, jl0, jl1, jl2, jl3, jl4, jl5, jl6, jl7, jl8, jl9, jl10, jl11, jl12, jl13, jl14, jl15, jl16, jl20, jl24, jl32, jl39, jl40, jl41, jl60, jl61, jl80, jl96, jl97, jl99, jl100, jl122, jl126, jl199, jl200, jl205, jl206, jl255, jl256, jl410, jl700, jl950, jl1000, jl1000000, jl4000, jl8240, jl32767, if_pos, if_neg, ↓reduceIte, Option.bind_some, not_true_eq_false, not_false_eq_true, Nat.not_lt, Nat.not_le, jn_sub, Nat.add_sub_cancel, wa]
        rw [dL_s, if_neg e]
    · by_cases e : j = k + 1
      · subst e; dsimp only; rw [up_eq]
      · dsimp only; rw [up_ni e]; exact h74 j (by omega)
  · rintro ⟨x, I1⟩ ⟨hv, ha, h73, h74⟩
    simp only at hv ha h73 h74
    subst hv
    refine ⟨I1, ?_, ha, h74⟩
    simp (disch := omega) only [zW_fewestChanges_l78_b, ir_let, jn_lt, jn_le, jn_in, jn_inj, jn_ne_m, jm_ne_n, jm_eq_m, jm_lt, jm_le, jn_lt_m, jn_le_m, jn_add, jn_mul, jn_clamp, jo_some, jn_min, jn_max, ↓jlm, jl0, jl1, jl2, jl3, jl4, jl5, jl6, jl7, jl8, jl9, jl10, jl11, jl12, jl13, jl14, jl15, jl16, jl20, jl24, jl32, jl39, jl40, jl41, jl60, jl61, jl80, jl96, jl97, jl99, jl100, jl122, jl126, jl199, jl200, jl205, jl206, jl255, jl256, jl410, jl700, jl950, jl1000, jl1000000, jl4000, jl8240, jl32767, if_pos, if_neg, ↓reduceIte, Option.bind_some, not_true_eq_false, not_false_eq_true, Nat.not_lt, Nat.not_le]
  · exact ⟨rfl, jag_rf I, hp, fun j hj => by
      have : j = 0 := by omega
      subst this
      exact h0.trans (by rw [dL_0])⟩
theorem jag_cp {I I' : iq_I} (h : jag I I') {a b sp dp n : Nat} (hb : ∀ i, jsc b i = true) : jag I (iq_cpI I' a b sp dp n) := fun k i hk => by
  unfold iq_cpI
  by_cases e : k = b
  · subst e; rw [hb i] at hk; cases hk
  · rw [if_neg e]; exact h k i hk
theorem jc_fc49 {I : iq_I} {m : jMu} {g : jGa} (hm : mOk m) (hg : gOk m g) (hG : jRG I 16 17 18 24 g) {y z : Nat} (hy : y < gY g) (hz : z < gY g)
    (hp : ∀ j, j ≤ (gS g z).length → I 73 j = jn j) :
    ∃ I', zW_fewestChanges_l49 (jn y) (jn z) (jn (gS g y).length) (jn (gS g z).length) ir_F (jn 1, I) = some I' ∧ jag I I' ∧ ∀ j, j ≤ (gS g z).length → I' 73 j = jn (dL (gW g y) (gW g z) (gS g y).length j) := by
  have hz40 := hg.2.2.1 z hz
  have hy40 := hg.2.2.1 y hy
  refine js_inv (fun i v => v.1 = jn (i + 1) ∧ jag I v.2 ∧ ∀ j, j ≤ (gS g z).length → v.2 73 j = jn (dL (gW g y) (gW g z) i j)) (gS g y).length _ ?_ ?_ (gS g y).length 0 (jn 1, I) ir_F (by omega) ⟨rfl, jag_rf I, hp⟩ (by unfold ir_F; omega)
  · rintro i ⟨x, I1⟩ hi ⟨hv, ha, h73⟩
    simp only at hv ha h73
    subst hv
    have hG1 := jRG_up hG ha
    have hwi := gW_lt hm hg hy hi
    have wa : zG_wordAt_16 (jn y) (jn i) I1 = some (jn (gW g y i)) := jc_wordAt hg hG1 hy hi
    have a2 : jag I (iq_upI I1 74 0 (jn (i + 1))) := jag_up ha rfl
    obtain ⟨I2, e2, a3, h74⟩ := jc_fc78 hm hg (jRG_up hG a2) hy hz hi (jn (gS g y).length) (fun j hj => (up_nkx 73 74 (by decide)).trans (h73 j hj)) up_eq
    refine ⟨(jn (i + 1 + 1), iq_cpI I2 74 73 0 0 41), ?_, rfl, jag_cp (jag_tr a2 a3) (fun _ => rfl), fun j hj => ?_⟩
    · simp (disch := omega) only [zW_fewestChanges_l49_b, zW_fewestChanges_162, ir_let, jn_lt, jn_le, jn_in, jn_inj, jn_ne_m, jm_ne_n, jm_eq_m, jm_lt, jm_le, jn_lt_m, jn_le_m, jn_add, jn_mul, jn_clamp, jo_some, jn_min, jn_max, ↓jlm, jl0, jl1, jl2, jl3, jl4, jl5, jl6, jl7, jl8, jl9, jl10, jl11, jl12, jl13, jl14, jl15, jl16, jl20, jl24, jl32, jl39, jl40, jl41, jl60, jl61, jl80, jl96, jl97, jl99, jl100, jl122, jl126, jl199, jl200, jl205, jl206, jl255, jl256, jl410, jl700, jl950, jl1000, jl1000000, jl4000, jl8240, jl32767, if_pos, if_neg, ↓reduceIte, Option.bind_some, not_true_eq_false, not_false_eq_true, Nat.not_lt, Nat.not_le, jn_sub, Nat.add_sub_cancel, wa]
      rw [e2, Option.bind_some]
    · show iq_cpI I2 74 73 0 0 41 73 j = _
      rw [← h74 j hj]
      simp [iq_cpI, va_cpy]
      intro h; omega
  · rintro ⟨x, I1⟩ ⟨hv, ha, h73⟩
    simp only at hv ha h73
    subst hv
    refine ⟨I1, ?_, ha, h73⟩
    simp (disch := omega) only [zW_fewestChanges_l49_b, ir_let, jn_lt, jn_le, jn_in, jn_inj, jn_ne_m, jm_ne_n, jm_eq_m, jm_lt, jm_le, jn_lt_m, jn_le_m, jn_add, jn_mul, jn_clamp, jo_some, jn_min, jn_max, ↓jlm, jl0, jl1, jl2, jl3, jl4, jl5, jl6, jl7, jl8, jl9, jl10, jl11, jl12, jl13, jl14, jl15, jl16, jl20, jl24, jl32, jl39, jl40, jl41, jl60, jl61, jl80, jl96, jl97, jl99, jl100, jl122, jl126, jl199, jl200, jl205, jl206, jl255, jl256, jl410, jl700, jl950, jl1000, jl1000000, jl4000, jl8240, jl32767, if_pos, if_neg, ↓reduceIte, Option.bind_some, not_true_eq_false, not_false_eq_true, Nat.not_lt, Nat.not_le]
theorem jc_fewestChanges {I : iq_I} {m : jMu} {g : jGa} (hm : mOk m) (hg : gOk m g) (hG : jRG I 16 17 18 24 g) {y z : Nat} (hy : y < gY g) (hz : z < gY g) :
    ∃ I', zW_fewestChanges (jn y) (jn z) I = some (jn (gLv g y z), I') ∧ jag I I' := by
  have hz40 := hg.2.2.1 z hz
  have hy40 := hg.2.2.1 y hy
  obtain ⟨I1, e1, a1, h1⟩ : ∃ I', zW_fewestChanges_l17 (jn y) (jn z) (jn (gS g y).length) (jn (gS g z).length) ir_F (jn 0, I) = some I' ∧ jag I I' ∧ ∀ j, j ≤ (gS g z).length → I' 73 j = jn j := by
    refine js_inv (fun i v => v.1 = jn i ∧ jag I v.2 ∧ ∀ j, j < i → v.2 73 j = jn j) ((gS g z).length + 1) _ ?_ ?_ ((gS g z).length + 1) 0 (jn 0, I) ir_F (by omega) ⟨rfl, jag_rf I, fun j hj => by omega⟩ (by unfold ir_F; omega)
    · rintro i ⟨x, I1⟩ hi ⟨hv, ha, h73⟩
      simp only at hv ha h73
      subst hv
      refine ⟨(jn (i + 1), iq_upI I1 73 i (jn i)), ?_, rfl, jag_up ha rfl, fun j hj => ?_⟩
      · simp (disch := omega) only [zW_fewestChanges_l17_b, ir_let, jn_lt, jn_le, jn_in, jn_inj, jn_ne_m, jm_ne_n, jm_eq_m, jm_lt, jm_le, jn_lt_m, jn_le_m, jn_add, jn_mul, jn_clamp, jo_some, jn_min, jn_max, ↓jlm, jl0, jl1, jl2, jl3, jl4, jl5, jl6, jl7, jl8, jl9, jl10, jl11, jl12, jl13, jl14, jl15, jl16, jl20, jl24, jl32, jl39, jl40, jl41, jl60, jl61, jl80, jl96, jl97, jl99, jl100, jl122, jl126, jl199, jl200, jl205, jl206, jl255, jl256, jl410, jl700, jl950, jl1000, jl1000000, jl4000, jl8240, jl32767, if_pos, if_neg, ↓reduceIte, Option.bind_some, not_true_eq_false, not_false_eq_true, Nat.not_lt, Nat.not_le]
      · by_cases e : j = i
        · subst e; dsimp only; rw [up_eq]
        · dsimp only; rw [up_ni e]; exact h73 j (by omega)
    · rintro ⟨x, I1⟩ ⟨hv, ha, h73⟩
      simp only at hv ha h73
      subst hv
      refine ⟨I1, ?_, ha, fun j hj => h73 j (by omega)⟩
      simp (disch := omega) only [zW_fewestChanges_l17_b, ir_let, jn_lt, jn_le, jn_in, jn_inj, jn_ne_m, jm_ne_n, jm_eq_m, jm_lt, jm_le, jn_lt_m, jn_le_m, jn_add, jn_mul, jn_clamp, jo_some, jn_min, jn_max, ↓jlm, jl0, jl1, jl2, jl3, jl4, jl5, jl6, jl7, jl8, jl9, jl10, jl11, jl12, jl13, jl14, jl15, jl16, jl20, jl24, jl32, jl39, jl40, jl41, jl60, jl61, jl80, jl96, jl97, jl99, jl100, jl122, jl126, jl199, jl200, jl205, jl206, jl255, jl256, jl410, jl700, jl950, jl1000, jl1000000, jl4000, jl8240, jl32767, if_pos, if_neg, ↓reduceIte, Option.bind_some, not_true_eq_false, not_false_eq_true, Nat.not_lt, Nat.not_le]
  obtain ⟨I2, e2, a2, h2⟩ := jc_fc49 hm hg (jRG_up hG a1) hy hz h1
  refine ⟨I2, ?_, jag_tr a1 a2⟩
  simp only [jn0] at e1
  simp only [jn1] at e2
  simp only [zW_fewestChanges, zW_fewestChanges_46, jc_lengthOf hg hG hy, jc_lengthOf hg hG hz, ir_let, iq_sm, ir_sm, jzE, j10, Option.bind_some, ↓reduceIte, not_true_eq_false, not_false_eq_true, e1, e2]
  simp (disch := omega) only [h2, ir_let, jn_lt, jn_le, jn_in, jn_inj, jn_ne_m, jm_ne_n, jm_eq_m, jm_lt, jm_le, jn_lt_m, jn_le_m, jn_add, jn_mul, jn_clamp, jo_some, jn_min, jn_max, ↓jlm, jl0, jl1, jl2, jl3, jl4, jl5, jl6, jl7, jl8, jl9, jl10, jl11, jl12, jl13, jl14, jl15, jl16, jl20, jl24, jl32, jl39, jl40, jl41, jl60, jl61, jl80, jl96, jl97, jl99, jl100, jl122, jl126, jl199, jl200, jl205, jl206, jl255, jl256, jl410, jl700, jl950, jl1000, jl1000000, jl4000, jl8240, jl32767, if_pos, if_neg, ↓reduceIte, Option.bind_some, not_true_eq_false, not_false_eq_true, Nat.not_lt, Nat.not_le]
  rfl
theorem jm_al55 {I : iq_I} {m : jMu} {g : jGa} (hm : mOk m) (hg : gOk m g) (hR : jRR (I 98) g) {y z i : Nat} (hy : y < gY g) (hz : z < gY g) (hi : i < (gS g y).length)
    (hp : ∀ j, 1 ≤ j → j ≤ (gS g z).length → I 109 j = jn (dL (gW g y) (gW g z) i j)) (h0 : I 109 0 = jn (i + 1)) :
    ∃ I', zM_alikeOf_l55 (jn y) (jn z) (jn (i + 1)) ir_F (jn i, jn 1, I) = some I' ∧ jag I I' ∧ (∀ j, j ≤ (gS g z).length → I' 109 j = jn (dL (gW g y) (gW g z) (i + 1) j)) ∧ I' 76 0 = I 76 0 := by
  have hz40 := hg.2.2.1 z hz
  have hy40 := hg.2.2.1 y hy
  have h5 := hg.1
  have hwi := gW_lt hm hg hy hi
  refine js_inv (fun k v => v.1 = jn (dL (gW g y) (gW g z) i k) ∧ v.2.1 = jn (k + 1) ∧ jag I v.2.2 ∧ (∀ j, k < j → j ≤ (gS g z).length → v.2.2 109 j = jn (dL (gW g y) (gW g z) i j)) ∧ (∀ j, j ≤ k → v.2.2 109 j = jn (dL (gW g y) (gW g z) (i + 1) j)) ∧ v.2.2 76 0 = I 76 0) (gS g z).length _ ?_ ?_ (gS g z).length 0 (jn i, jn 1, I) ir_F (by omega) ?_ (by unfold ir_F; omega)
  · rintro k ⟨x, x', I1⟩ hk ⟨hv, hv', ha, h73, h74, ht⟩
    simp only at hv hv' ha h73 h74 ht
    subst hv
    subst hv'
    have hR1 := jRR_ag hR ha
    have b1 := dL_le (gW g y) (gW g z) i k
    have b2 := dL_le (gW g y) (gW g z) i (k + 1)
    have b3 := dL_le (gW g y) (gW g z) (i + 1) k
    have hwk := gW_lt hm hg hz hk
    have wa : zM_wordAt_76_98 (jn z) (jn k) I1 = some (jn (gW g z k)) := jm_wordAt hg hR1 hz hk
    have wb : zM_wordAt_76_98 (jn y) (jn i) I1 = some (jn (gW g y i)) := jm_wordAt hg hR1 hy hi
    have c1 := h73 (k + 1) (by omega) (by omega)
    have c2 := h74 k (by omega)
    refine ⟨(jn (dL (gW g y) (gW g z) i (k + 1)), jn (k + 1 + 1), iq_upI I1 109 (k + 1) (jn (dL (gW g y) (gW g z) (i + 1) (k + 1)))), ?_, rfl, rfl, jag_up ha rfl, fun j h1 h2 => by
      dsimp only
      rw [up_ni (by omega)]; exact h73 j (by omega) h2, fun j hj => ?_, by
      dsimp only
      rw [up_nk (by decide)]; exact ht⟩
    · have fin : ∀ d : Nat, d ≤ 1 → dL (gW g y) (gW g z) (i + 1) (k + 1) = min (dL (gW g y) (gW g z) i k + d) (1 + min (dL (gW g y) (gW g z) i (k + 1)) (dL (gW g y) (gW g z) (i + 1) k)) →
          zM_alikeOf_101 (jn y) (jn z) (jn (i + 1)) (jn (k + 1)) (jn (dL (gW g y) (gW g z) i k)) (jn d) I1 = some (.inl (jn (dL (gW g y) (gW g z) i (k + 1)), jn (k + 1 + 1), iq_upI I1 109 (k + 1) (jn (dL (gW g y) (gW g z) (i + 1) (k + 1))))) := by
        intro d hd hdl
        by_cases q1 : dL (gW g y) (gW g z) i k + d ≤ dL (gW g y) (gW g z) i (k + 1) + 1
        · by_cases q2 : dL (gW g y) (gW g z) i k + d ≤ dL (gW g y) (gW g z) (i + 1) k + 1
          · rw [hdl, show min (dL (gW g y) (gW g z) i k + d) (1 + min (dL (gW g y) (gW g z) i (k + 1)) (dL (gW g y) (gW g z) (i + 1) k)) = dL (gW g y) (gW g z) i k + d by omega]
            simp (disch := omega) only [zM_alikeOf_101, zM_alikeOf_141, zM_alikeOf_181, c1, c2, ir_let, jn_lt, jn_le, jn_in, jn_inj, jn_ne_m, jm_ne_n, jm_eq_m, jm_lt, jm_le, jn_lt_m, jn_le_m, jn_add, jn_mul, jn_clamp, jo_some, jn_min, jn_max, ↓jlm, jl0, jl1, jl2, jl3, jl4, jl5, jl6, jl7, jl8, jl9, jl10, jl11, jl12, jl13, jl14, jl15, jl16, jl20, jl24, jl32, jl39, jl40, jl41, jl60, jl61, jl80, jl96, jl97, jl99, jl100, jl122, jl126, jl199, jl200, jl205, jl206, jl255, jl256, jl410, jl700, jl950, jl1000, jl1000000, jl4000, jl8240, jl32767, if_pos, if_neg, ↓reduceIte, Option.bind_some, not_true_eq_false, not_false_eq_true, Nat.not_lt, Nat.not_le, jn_sub, Nat.add_sub_cancel]
          · rw [hdl, show min (dL (gW g y) (gW g z) i k + d) (1 + min (dL (gW g y) (gW g z) i (k + 1)) (dL (gW g y) (gW g z) (i + 1) k)) = dL (gW g y) (gW g z) (i + 1) k + 1 by omega]
            simp (disch := omega) only [zM_alikeOf_101, zM_alikeOf_141, zM_alikeOf_181, c1, c2, ir_let, jn_lt, jn_le, jn_in, jn_inj, jn_ne_m, jm_ne_n, jm_eq_m, jm_lt, jm_le, jn_lt_m, jn_le_m, jn_add, jn_mul, jn_clamp, jo_some, jn_min, jn_max, ↓jlm, jl0, jl1, jl2, jl3, jl4, jl5, jl6, jl7, jl8, jl9, jl10, jl11, jl12, jl13, jl14, jl15, jl16, jl20, jl24, jl32, jl39, jl40, jl41, jl60, jl61, jl80, jl96, jl97, jl99, jl100, jl122, jl126, jl199, jl200, jl205, jl206, jl255, jl256, jl410, jl700, jl950, jl1000, jl1000000, jl4000, jl8240, jl32767, if_pos, if_neg, ↓reduceIte, Option.bind_some, not_true_eq_false, not_false_eq_true, Nat.not_lt, Nat.not_le, jn_sub, Nat.add_sub_cancel]
        · by_cases q2 : dL (gW g y) (gW g z) i (k + 1) + 1 ≤ dL (gW g y) (gW g z) (i + 1) k + 1
          · rw [hdl, show min (dL (gW g y) (gW g z) i k + d) (1 + min (dL (gW g y) (gW g z) i (k + 1)) (dL (gW g y) (gW g z) (i + 1) k)) = dL (gW g y) (gW g z) i (k + 1) + 1 by omega]
            simp (disch := omega) only [zM_alikeOf_101, zM_alikeOf_141, zM_alikeOf_181, c1, c2, ir_let, jn_lt, jn_le, jn_in, jn_inj, jn_ne_m, jm_ne_n, jm_eq_m, jm_lt, jm_le, jn_lt_m, jn_le_m, jn_add, jn_mul, jn_clamp, jo_some, jn_min, jn_max, ↓jlm, jl0, jl1, jl2, jl3, jl4, jl5, jl6, jl7, jl8, jl9, jl10, jl11, jl12, jl13, jl14, jl15, jl16, jl20, jl24, jl32, jl39, jl40, jl41, jl60, jl61, jl80, jl96, jl97, jl99, jl100, jl122, jl126, jl199, jl200, jl205, jl206, jl255, jl256, jl410, jl700, jl950, jl1000, jl1000000, jl4000, jl8240, jl32767, if_pos, if_neg, ↓reduceIte, Option.bind_some, not_true_eq_false, not_false_eq_true, Nat.not_lt, Nat.not_le, jn_sub, Nat.add_sub_cancel]
          · rw [hdl, show min (dL (gW g y) (gW g z) i k + d) (1 + min (dL (gW g y) (gW g z) i (k + 1)) (dL (gW g y) (gW g z) (i + 1) k)) = dL (gW g y) (gW g z) (i + 1) k + 1 by omega]
            simp (disch := omega) only [zM_alikeOf_101, zM_alikeOf_141, zM_alikeOf_181, c1, c2, ir_let, jn_lt, jn_le, jn_in, jn_inj, jn_ne_m, jm_ne_n, jm_eq_m, jm_lt, jm_le, jn_lt_m, jn_le_m, jn_add, jn_mul, jn_clamp, jo_some, jn_min, jn_max, ↓jlm, jl0, jl1, jl2, jl3, jl4, jl5, jl6, jl7, jl8, jl9, jl10, jl11, jl12, jl13, jl14, jl15, jl16, jl20, jl24, jl32, jl39, jl40, jl41, jl60, jl61, jl80, jl96, jl97, jl99, jl100, jl122, jl126, jl199, jl200, jl205, jl206, jl255, jl256, jl410, jl700, jl950, jl1000, jl1000000, jl4000, jl8240, jl32767, if_pos, if_neg, ↓reduceIte, Option.bind_some, not_true_eq_false, not_false_eq_true, Nat.not_lt, Nat.not_le, jn_sub, Nat.add_sub_cancel]
      by_cases e : gW g y i = gW g z k
      · have e' : gW g z k = gW g y i := e.symm
        have := fin 0 (by omega) (by rw [dL_s, if_pos e])
        simp (disch := omega) only [zM_alikeOf_l55_b, jRR_L hR1, ir_let, jn_lt, jn_le, jn_in, jn_inj, jn_ne_m, jm_ne_n, jm_eq_m, jm_lt, jm_le, jn_lt_m, jn_le_m, jn_add, jn_mul, jn_clamp, jo_some, jn_min, jn_max, ↓jlm, jl0, jl1, jl2, jl3, jl4, jl5, jl6, jl7, jl8, jl9, jl10, jl11, jl12, jl13, jl14, jl15, jl16, jl20, jl24, jl32, jl39, jl40, jl41, jl60, jl61, jl80, jl96, jl97, jl99, jl100, jl122, jl126, jl199, jl200, jl205, jl206, jl255, jl256, jl410, jl700, jl950, jl1000, jl1000000, jl4000, jl8240, jl32767, if_pos, if_neg, ↓reduceIte, Option.bind_some, not_true_eq_false, not_false_eq_true, Nat.not_lt, Nat.not_le, jn_sub, Nat.add_sub_cancel, wa, wb, e', this]
      · have := fin 1 (by omega) (by rw [dL_s, if_neg e])
        simp (disch := omega) only [zM_alikeOf_l55_b, jRR_L hR1, ir_let, jn_lt, jn_le, jn_in, jn_inj, jn_ne_m, jm_ne_n, jm_eq_m, jm_lt, jm_le, jn_lt_m, jn_le_m, jn_add, jn_mul, jn_clamp, jo_some, jn_min, jn_max, ↓jlm, jl0, jl1, jl2, jl3, jl4, jl5, jl6, jl7, jl8, jl9, jl10, jl11, jl12, jl13, jl14, jl15, jl16, jl20, jl24, jl32, jl39, jl40, jl41, jl60, jl61, jl80, jl96, jl97, jl99, jl100, jl122, jl126, jl199, jl200, jl205, jl206, jl255, jl256, jl410, jl700, jl950, jl1000, jl1000000, jl4000, jl8240, jl32767, if_pos, if_neg, ↓reduceIte, Option.bind_some, not_true_eq_false, not_false_eq_true, Nat.not_lt, Nat.not_le, jn_sub, Nat.add_sub_cancel, wa, wb, this]
    · by_cases e : j = k + 1
      · subst e; dsimp only; rw [up_eq]
      · dsimp only; rw [up_ni e]; exact h74 j (by omega)
  · rintro ⟨x, x', I1⟩ ⟨hv, hv', ha, h73, h74, ht⟩
    simp only at hv hv' ha h73 h74 ht
    subst hv'
    have hR1 := jRR_ag hR ha
    refine ⟨I1, ?_, ha, h74, ht⟩
    simp (disch := omega) only [zM_alikeOf_l55_b, jRR_L hR1, ir_let, jn_lt, jn_le, jn_in, jn_inj, jn_ne_m, jm_ne_n, jm_eq_m, jm_lt, jm_le, jn_lt_m, jn_le_m, jn_add, jn_mul, jn_clamp, jo_some, jn_min, jn_max, ↓jlm, jl0, jl1, jl2, jl3, jl4, jl5, jl6, jl7, jl8, jl9, jl10, jl11, jl12, jl13, jl14, jl15, jl16, jl20, jl24, jl32, jl39, jl40, jl41, jl60, jl61, jl80, jl96, jl97, jl99, jl100, jl122, jl126, jl199, jl200, jl205, jl206, jl255, jl256, jl410, jl700, jl950, jl1000, jl1000000, jl4000, jl8240, jl32767, if_pos, if_neg, ↓reduceIte, Option.bind_some, not_true_eq_false, not_false_eq_true, Nat.not_lt, Nat.not_le]
  · exact ⟨by rw [dL_0], rfl, jag_rf I, fun j h1 h2 => hp j (by omega) h2, fun j hj => by
      have : j = 0 := by omega
      subst this
      exact h0.trans (by rw [dL_0]), rfl⟩
theorem jm_alikeOf {I : iq_I} {m : jMu} {g : jGa} (hm : mOk m) (hg : gOk m g) (hR : jRR (I 98) g) {y z : Nat} (hy : y < gY g) (hz : z < gY g) :
    ∃ I', zM_alikeOf (jn y) (jn z) I = some (jn (gLv g y z), I') ∧ jag I I' ∧ I' 76 0 = I 76 0 := by
  have hz40 := hg.2.2.1 z hz
  have hy40 := hg.2.2.1 y hy
  have h5 := hg.1
  obtain ⟨I1, e1, a1, h1, t1⟩ : ∃ I', zM_alikeOf_l2 (jn y) (jn z) ir_F (jn 0, I) = some I' ∧ jag I I' ∧ (∀ j, j ≤ (gS g z).length → I' 109 j = jn j) ∧ I' 76 0 = I 76 0 := by
    refine js_inv (fun i v => v.1 = jn i ∧ jag I v.2 ∧ (∀ j, j < i → v.2 109 j = jn j) ∧ v.2 76 0 = I 76 0) ((gS g z).length + 1) _ ?_ ?_ ((gS g z).length + 1) 0 (jn 0, I) ir_F (by omega) ⟨rfl, jag_rf I, fun j hj => by omega, rfl⟩ (by unfold ir_F; omega)
    · rintro i ⟨x, I1⟩ hi ⟨hv, ha, h73, ht⟩
      simp only at hv ha h73 ht
      subst hv
      have hR1 := jRR_ag hR ha
      refine ⟨(jn (i + 1), iq_upI I1 109 i (jn i)), ?_, rfl, jag_up ha rfl, fun j hj => ?_, by
        dsimp only
        rw [up_nk (by decide)]; exact ht⟩
      · simp (disch := omega) only [zM_alikeOf_l2_b, jRR_L hR1, ir_let, jn_lt, jn_le, jn_in, jn_inj, jn_ne_m, jm_ne_n, jm_eq_m, jm_lt, jm_le, jn_lt_m, jn_le_m, jn_add, jn_mul, jn_clamp, jo_some, jn_min, jn_max, ↓jlm, jl0, jl1, jl2, jl3, jl4, jl5, jl6, jl7, jl8, jl9, jl10, jl11, jl12, jl13, jl14, jl15, jl16, jl20, jl24, jl32, jl39, jl40, jl41, jl60, jl61, jl80, jl96, jl97, jl99, jl100, jl122, jl126, jl199, jl200, jl205, jl206, jl255, jl256, jl410, jl700, jl950, jl1000, jl1000000, jl4000, jl8240, jl32767, if_pos, if_neg, ↓reduceIte, Option.bind_some, not_true_eq_false, not_false_eq_true, Nat.not_lt, Nat.not_le]
      · by_cases e : j = i
        · subst e; dsimp only; rw [up_eq]
        · dsimp only; rw [up_ni e]; exact h73 j (by omega)
    · rintro ⟨x, I1⟩ ⟨hv, ha, h73, ht⟩
      simp only at hv ha h73 ht
      subst hv
      have hR1 := jRR_ag hR ha
      refine ⟨I1, ?_, ha, fun j hj => h73 j (by omega), ht⟩
      simp (disch := omega) only [zM_alikeOf_l2_b, jRR_L hR1, ir_let, jn_lt, jn_le, jn_in, jn_inj, jn_ne_m, jm_ne_n, jm_eq_m, jm_lt, jm_le, jn_lt_m, jn_le_m, jn_add, jn_mul, jn_clamp, jo_some, jn_min, jn_max, ↓jlm, jl0, jl1, jl2, jl3, jl4, jl5, jl6, jl7, jl8, jl9, jl10, jl11, jl12, jl13, jl14, jl15, jl16, jl20, jl24, jl32, jl39, jl40, jl41, jl60, jl61, jl80, jl96, jl97, jl99, jl100, jl122, jl126, jl199, jl200, jl205, jl206, jl255, jl256, jl410, jl700, jl950, jl1000, jl1000000, jl4000, jl8240, jl32767, if_pos, if_neg, ↓reduceIte, Option.bind_some, not_true_eq_false, not_false_eq_true, Nat.not_lt, Nat.not_le]
  obtain ⟨I2, e2, a2, h2, t2⟩ : ∃ I', zM_alikeOf_l27 (jn y) (jn z) ir_F (jn 1, I1) = some I' ∧ jag I1 I' ∧ (∀ j, j ≤ (gS g z).length → I' 109 j = jn (dL (gW g y) (gW g z) (gS g y).length j)) ∧ I' 76 0 = I1 76 0 := by
    refine js_inv (fun i v => v.1 = jn (i + 1) ∧ jag I1 v.2 ∧ (∀ j, j ≤ (gS g z).length → v.2 109 j = jn (dL (gW g y) (gW g z) i j)) ∧ v.2 76 0 = I1 76 0) (gS g y).length _ ?_ ?_ (gS g y).length 0 (jn 1, I1) ir_F (by omega) ⟨rfl, jag_rf I1, h1, rfl⟩ (by unfold ir_F; omega)
    · rintro i ⟨x, I2⟩ hi ⟨hv, ha, h73, ht⟩
      simp only at hv ha h73 ht
      subst hv
      have hR2 := jRR_ag hR (jag_tr a1 ha)
      have a3 : jag I2 (iq_upI I2 109 0 (jn (i + 1))) := jag_up (jag_rf I2) rfl
      obtain ⟨I3, e3, a4, h3, t3⟩ := jm_al55 hm hg (jRR_ag hR2 a3) hy hz hi (fun j h1 h2 => (up_nix j 0 (by omega)).trans (h73 j h2)) up_eq
      refine ⟨(jn (i + 1 + 1), I3), ?_, rfl, jag_tr ha (jag_tr a3 a4), h3, t3.trans ((up_nkx 76 109 (by decide)).trans ht)⟩
      have h00 := h73 0 (by omega)
      rw [dL_0] at h00
      simp (disch := omega) only [zM_alikeOf_l27_b, jRR_L hR2, h00, ir_let, jn_lt, jn_le, jn_in, jn_inj, jn_ne_m, jm_ne_n, jm_eq_m, jm_lt, jm_le, jn_lt_m, jn_le_m, jn_add, jn_mul, jn_clamp, jo_some, jn_min, jn_max, ↓jlm, jl0, jl1, jl2, jl3, jl4, jl5, jl6, jl7, jl8, jl9, jl10, jl11, jl12, jl13, jl14, jl15, jl16, jl20, jl24, jl32, jl39, jl40, jl41, jl60, jl61, jl80, jl96, jl97, jl99, jl100, jl122, jl126, jl199, jl200, jl205, jl206, jl255, jl256, jl410, jl700, jl950, jl1000, jl1000000, jl4000, jl8240, jl32767, if_pos, if_neg, ↓reduceIte, Option.bind_some, not_true_eq_false, not_false_eq_true, Nat.not_lt, Nat.not_le]
      rw [e3, Option.bind_some]
    · rintro ⟨x, I2⟩ ⟨hv, ha, h73, ht⟩
      simp only at hv ha h73 ht
      subst hv
      have hR2 := jRR_ag hR (jag_tr a1 ha)
      refine ⟨I2, ?_, ha, h73, ht⟩
      simp (disch := omega) only [zM_alikeOf_l27_b, jRR_L hR2, ir_let, jn_lt, jn_le, jn_in, jn_inj, jn_ne_m, jm_ne_n, jm_eq_m, jm_lt, jm_le, jn_lt_m, jn_le_m, jn_add, jn_mul, jn_clamp, jo_some, jn_min, jn_max, ↓jlm, jl0, jl1, jl2, jl3, jl4, jl5, jl6, jl7, jl8, jl9, jl10, jl11, jl12, jl13, jl14, jl15, jl16, jl20, jl24, jl32, jl39, jl40, jl41, jl60, jl61, jl80, jl96, jl97, jl99, jl100, jl122, jl126, jl199, jl200, jl205, jl206, jl255, jl256, jl410, jl700, jl950, jl1000, jl1000000, jl4000, jl8240, jl32767, if_pos, if_neg, ↓reduceIte, Option.bind_some, not_true_eq_false, not_false_eq_true, Nat.not_lt, Nat.not_le]
  have hR2 := jRR_ag hR (jag_tr a1 a2)
  refine ⟨I2, ?_, jag_tr a1 a2, t2.trans t1⟩
  simp only [jn0] at e1
  simp only [jn1] at e2
  simp only [zM_alikeOf, ir_let, iq_sm, ir_sm, jzE, j10, Option.bind_some, ↓reduceIte, not_true_eq_false, not_false_eq_true, e1, e2]
  simp (disch := omega) only [jRR_L hR2, h2, ir_let, jn_lt, jn_le, jn_in, jn_inj, jn_ne_m, jm_ne_n, jm_eq_m, jm_lt, jm_le, jn_lt_m, jn_le_m, jn_add, jn_mul, jn_clamp, jo_some, jn_min, jn_max, ↓jlm, jl0, jl1, jl2, jl3, jl4, jl5, jl6, jl7, jl8, jl9, jl10, jl11, jl12, jl13, jl14, jl15, jl16, jl20, jl24, jl32, jl39, jl40, jl41, jl60, jl61, jl80, jl96, jl97, jl99, jl100, jl122, jl126, jl199, jl200, jl205, jl206, jl255, jl256, jl410, jl700, jl950, jl1000, jl1000000, jl4000, jl8240, jl32767, if_pos, if_neg, ↓reduceIte, Option.bind_some, not_true_eq_false, not_false_eq_true, Nat.not_lt, Nat.not_le]
  rfl
