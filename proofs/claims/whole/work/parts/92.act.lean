/-! ===== acts: words put in and taken out ===== -/
theorem cp_eq {I : iq_I} {a b sp dp n j : Nat} : iq_cpI I a b sp dp n b j = va_cpy (I a) (I b) sp dp n j := by simp [iq_cpI]
theorem cp_nk {I : iq_I} {a b sp dp n x j : Nat} (h : ¬ x = b) : iq_cpI I a b sp dp n x j = I x j := by simp [iq_cpI, h]
def gRp (g : jGa) (a : Nat) (l : List Nat) : jGa := (gY g, gB g, fun y => if y = a then l else gS g y, gD g)
def gDy (g : jGa) (d : Nat) : jGa := (gY g, gB g, gS g, d)
theorem gRp_Y {g : jGa} {a : Nat} {l : List Nat} : gY (gRp g a l) = gY g := rfl
theorem gRp_B {g : jGa} {a : Nat} {l : List Nat} : gB (gRp g a l) = gB g := rfl
theorem gRp_D {g : jGa} {a : Nat} {l : List Nat} : gD (gRp g a l) = gD g := rfl
theorem gRp_S {g : jGa} {a : Nat} {l : List Nat} : gS (gRp g a l) a = l := if_pos rfl
theorem gRp_T {g : jGa} {a : Nat} {l : List Nat} {y : Nat} (h : ¬ y = a) : gS (gRp g a l) y = gS g y := if_neg h
theorem jl_gt (l : List Nat) (i : Nat) : l.getD i 0 = (l[i]?).getD 0 := List.getD_eq_getElem?_getD
theorem jl_ins {l : List Nat} {b c : Nat} (hb : b ≤ l.length) (i : Nat) : (l.insertIdx b c).getD i 0 = if i < b then l.getD i 0 else if i = b then c else l.getD (i - 1) 0 := by
  rw [jl_gt, jl_gt, jl_gt, List.getElem?_insertIdx]
  by_cases h1 : i < b
  · rw [if_pos h1, if_pos h1]
  · rw [if_neg h1, if_neg h1]
    by_cases h2 : i = b
    · rw [if_pos h2, if_pos h2, if_pos (by omega)]; rfl
    · rw [if_neg h2, if_neg h2]
theorem jl_insl {l : List Nat} {b c : Nat} (hb : b ≤ l.length) : (l.insertIdx b c).length = l.length + 1 := by
  rw [List.length_insertIdx, if_pos hb]
theorem jl_era {l : List Nat} {b : Nat} (i : Nat) : (l.eraseIdx b).getD i 0 = if i < b then l.getD i 0 else l.getD (i + 1) 0 := by
  rw [jl_gt, jl_gt, jl_gt, List.getElem?_eraseIdx]
  by_cases h1 : i < b
  · rw [if_pos h1, if_pos h1]
  · rw [if_neg h1, if_neg h1]
theorem jl_eral {l : List Nat} {b : Nat} (hb : b < l.length) : (l.eraseIdx b).length = l.length - 1 := by
  rw [List.length_eraseIdx, if_pos hb]
theorem gOk_put {m : jMu} {g : jGa} (hg : gOk m g) {a b c : Nat} (ha : a < gY g) (hb : b ≤ (gS g a).length) (h4 : (gS g a).length < 40) (hc : c < mW m) : gOk m (gRp g a ((gS g a).insertIdx b c)) := by
  obtain ⟨h1, h2, h3, h5, h6⟩ := hg
  refine ⟨h1, h2, fun s hs => ?_, fun s i hs hi => ?_, h6⟩
  · by_cases e : s = a
    · subst e; rw [gRp_S, jl_insl hb]; omega
    · rw [gRp_T e]; exact h3 s hs
  · by_cases e : s = a
    · subst e
      rw [gRp_S, jl_insl hb] at hi
      rw [gRp_S, jl_ins hb]
      by_cases q1 : i < b
      · rw [if_pos q1]; exact h5 s i ha (by omega)
      · rw [if_neg q1]
        by_cases q2 : i = b
        · rw [if_pos q2]; exact hc
        · rw [if_neg q2]; exact h5 s (i - 1) ha (by omega)
    · rw [gRp_T e] at hi ⊢; exact h5 s i hs hi
theorem gOk_take {m : jMu} {g : jGa} (hg : gOk m g) {a b : Nat} (ha : a < gY g) (hb : b < (gS g a).length) : gOk m (gRp g a ((gS g a).eraseIdx b)) := by
  obtain ⟨h1, h2, h3, h5, h6⟩ := hg
  have h4 := h3 a ha
  refine ⟨h1, h2, fun s hs => ?_, fun s i hs hi => ?_, h6⟩
  · by_cases e : s = a
    · subst e; rw [gRp_S, jl_eral hb]; omega
    · rw [gRp_T e]; exact h3 s hs
  · by_cases e : s = a
    · subst e
      rw [gRp_S, jl_eral hb] at hi
      rw [gRp_S, jl_era]
      by_cases q1 : i < b
      · rw [if_pos q1]; exact h5 s i ha (by omega)
      · rw [if_neg q1]; exact h5 s (i + 1) ha (by omega)
    · rw [gRp_T e] at hi ⊢; exact h5 s i hs hi
def jPut (I : iq_I) (l w a b c L : Nat) : iq_I := iq_upI (iq_upI (iq_cpI I w w (a * 40 + b) (a * 40 + b + 1) (L - b)) w (a * 40 + b) (jn c)) l a (jn (L + 1))
theorem jPut_nk {I : iq_I} {l w a b c L k j : Nat} (h1 : ¬ k = l) (h2 : ¬ k = w) : jPut I l w a b c L k j = I k j := by
  unfold jPut
  rw [up_nk h1, up_nk h2, cp_nk h2]
theorem jRG_put {I : iq_I} {o b0 l w : Nat} {m : jMu} {g : jGa} (hg : gOk m g) (h : jRG I o b0 l w g) (hol : ¬ o = l) (how : ¬ o = w) (hbl : ¬ b0 = l) (hbw : ¬ b0 = w) (hlw : ¬ l = w) {a b c : Nat} (ha : a < gY g) (hb : b ≤ (gS g a).length) (h4 : (gS g a).length < 40) :
    jRG (jPut I l w a b c (gS g a).length) o b0 l w (gRp g a ((gS g a).insertIdx b c)) := by
  obtain ⟨h1, h2, h3, h5, h6⟩ := h
  refine ⟨by rw [jPut_nk hol how, h1]; rfl, by rw [jPut_nk hol how, h2]; rfl, fun s hs => by rw [jPut_nk hbl hbw, h3 s hs]; rfl, fun s hs => ?_, fun s i hs hi => ?_⟩
  · unfold jPut
    by_cases e : s = a
    · subst e; rw [up_eq, gRp_S, jl_insl hb]
    · rw [up_ni e, up_nk hlw, cp_nk hlw, gRp_T e, h5 s hs]
  · have wl : ¬ w = l := fun h => hlw h.symm
    have hs' : s < gY g := hs
    unfold jPut
    rw [up_nk wl]
    by_cases e : s = a
    · subst e
      rw [gRp_S, jl_insl hb] at hi
      rw [gRp_S, jl_ins hb]
      by_cases q1 : i < b
      · rw [if_pos q1, up_ni (by omega), cp_eq, pk_cpy_out (by omega), h6 s i hs' (by omega)]
      · rw [if_neg q1]
        by_cases q2 : i = b
        · subst q2; rw [if_pos rfl, up_eq]
        · rw [if_neg q2, up_ni (by omega), cp_eq, pk_cpy_in (by omega) (by omega), show s * 40 + b + (s * 40 + i - (s * 40 + b + 1)) = s * 40 + (i - 1) by omega, h6 s (i - 1) hs' (by omega)]
    · rw [gRp_T e] at hi ⊢
      have h40 := hg.2.2.1 s hs'
      have q : ¬ s * 40 + i = a * 40 + b := by omega
      rw [up_ni q, cp_eq, pk_cpy_out (by omega), h6 s i hs' hi]
theorem jc_putIn {I : iq_I} {m : jMu} {g : jGa} (hg : gOk m g) (hG : jRG I 16 17 18 24 g) {a b c : Nat} (ha : a < gY g) (hb : b ≤ (gS g a).length) (h4 : (gS g a).length < 40) :
    zG_putIn_16 (jn a) (jn b) (jn c) I = some (jPut I 18 24 a b c (gS g a).length) := by
  have h5 := hg.1
  simp (disch := omega) only [zG_putIn_16, jc_lengthOf hg hG ha, jRG_Y hG, jn_sub, ir_let, jn_lt, jn_le, jn_in, jn_inj, jn_ne_m, jm_ne_n, jm_eq_m, jm_lt, jm_le, jn_lt_m, jn_le_m, jn_add, jn_mul, jn_clamp, jo_some, jn_min, jn_max, ↓jlm, jl0, jl1, jl2, jl3, jl4, jl5, jl6, jl7, jl8, jl9, jl10, jl11, jl12, jl13, jl14, jl15, jl16, jl20, jl24, jl32, jl39, jl40, jl41, jl60, jl61, jl80, jl96, jl97, jl99, jl100, jl122, jl126, jl199, jl200, jl205, jl206, jl255, jl256, jl410, jl700, jl950, jl1000, jl1000000, jl4000, jl8240, jl32767, if_pos, if_neg, ↓reduceIte, Option.bind_some, not_true_eq_false, not_false_eq_true, Nat.not_lt, Nat.not_le]
  rfl
def jTak (I : iq_I) (l w a b L : Nat) : iq_I := iq_upI (iq_cpI I w w (a * 40 + b + 1) (a * 40 + b) (L - b - 1)) l a (jn (L - 1))
theorem jTak_nk {I : iq_I} {l w a b L k j : Nat} (h1 : ¬ k = l) (h2 : ¬ k = w) : jTak I l w a b L k j = I k j := by
  unfold jTak
  rw [up_nk h1, cp_nk h2]
theorem jRG_take {I : iq_I} {o b0 l w : Nat} {m : jMu} {g : jGa} (hg : gOk m g) (h : jRG I o b0 l w g) (hol : ¬ o = l) (how : ¬ o = w) (hbl : ¬ b0 = l) (hbw : ¬ b0 = w) (hlw : ¬ l = w) {a b : Nat} (ha : a < gY g) (hb : b < (gS g a).length) :
    jRG (jTak I l w a b (gS g a).length) o b0 l w (gRp g a ((gS g a).eraseIdx b)) := by
  obtain ⟨h1, h2, h3, h5, h6⟩ := h
  have h4 := hg.2.2.1 a ha
  refine ⟨by rw [jTak_nk hol how, h1]; rfl, by rw [jTak_nk hol how, h2]; rfl, fun s hs => by rw [jTak_nk hbl hbw, h3 s hs]; rfl, fun s hs => ?_, fun s i hs hi => ?_⟩
  · unfold jTak
    by_cases e : s = a
    · subst e; rw [up_eq, gRp_S, jl_eral hb]
    · rw [up_ni e, cp_nk hlw, gRp_T e, h5 s hs]
  · have wl : ¬ w = l := fun h => hlw h.symm
    have hs' : s < gY g := hs
    unfold jTak
    rw [up_nk wl]
    by_cases e : s = a
    · subst e
      rw [gRp_S, jl_eral hb] at hi
      rw [gRp_S, jl_era]
      by_cases q1 : i < b
      · rw [if_pos q1, cp_eq, pk_cpy_out (by omega), h6 s i hs' (by omega)]
      · rw [if_neg q1, cp_eq, pk_cpy_in (by omega) (by omega), show s * 40 + b + 1 + (s * 40 + i - (s * 40 + b)) = s * 40 + (i + 1) by omega, h6 s (i + 1) hs' (by omega)]
    · rw [gRp_T e] at hi ⊢
      have h40 := hg.2.2.1 s hs'
      rw [cp_eq, pk_cpy_out (by omega), h6 s i hs' hi]
theorem jc_takeOut {I : iq_I} {m : jMu} {g : jGa} (hg : gOk m g) (hG : jRG I 16 17 18 24 g) {a b : Nat} (ha : a < gY g) (hb : b < (gS g a).length) :
    zG_takeOut (jn a) (jn b) I = some (jn ((gS g a).getD b 0), jTak I 18 24 a b (gS g a).length) := by
  have h5 := hg.1
  have h4 := hg.2.2.1 a ha
  simp (disch := omega) only [zG_takeOut, jc_lengthOf hg hG ha, jRG_Y hG, jRG_W hG, jn_sub, ir_let, jn_lt, jn_le, jn_in, jn_inj, jn_ne_m, jm_ne_n, jm_eq_m, jm_lt, jm_le, jn_lt_m, jn_le_m, jn_add, jn_mul, jn_clamp, jo_some, jn_min, jn_max, ↓jlm, jl0, jl1, jl2, jl3, jl4, jl5, jl6, jl7, jl8, jl9, jl10, jl11, jl12, jl13, jl14, jl15, jl16, jl20, jl24, jl32, jl39, jl40, jl41, jl60, jl61, jl80, jl96, jl97, jl99, jl100, jl122, jl126, jl199, jl200, jl205, jl206, jl255, jl256, jl410, jl700, jl950, jl1000, jl1000000, jl4000, jl8240, jl32767, if_pos, if_neg, ↓reduceIte, Option.bind_some, not_true_eq_false, not_false_eq_true, Nat.not_lt, Nat.not_le]
  rfl
