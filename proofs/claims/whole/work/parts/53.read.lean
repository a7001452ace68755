/-! ===== what the readers of both sides give ===== -/
theorem jRU_S {I : iq_I} {m : jMu} (h : jRU I m) : I 4 0 = jn (mS m) := h.1
theorem jRU_E {I : iq_I} {m : jMu} (h : jRU I m) : I 4 1 = jb (mS m) (mE m) := h.2.1
theorem jRU_W {I : iq_I} {m : jMu} (h : jRU I m) : I 4 2 = jn (mW m) := h.2.2.1
theorem jRU_A {I : iq_I} {m : jMu} (h : jRU I m) : I 4 3 = mA m := h.2.2.2.1
theorem jRU_t {I : iq_I} {m : jMu} (h : jRU I m) : I 4 4 = jb 8 (mTold m) := h.2.2.2.2.1
theorem jRU_L {I : iq_I} {m : jMu} (h : jRU I m) : ∀ w, w < mW m → I 5 w = jn (mL m w) := h.2.2.2.2.2.1
theorem jRU_K {I : iq_I} {m : jMu} (h : jRU I m) : ∀ w, w < mW m → I 6 w = jn (mK m w) := h.2.2.2.2.2.2.1
theorem jRU_c {I : iq_I} {m : jMu} (h : jRU I m) : ∀ k, k < 8 → I 7 k = jn (jcn (mW m) fun w => decide (mK m w = k)) := h.2.2.2.2.2.2.2.1
theorem jRU_T {I : iq_I} {m : jMu} (h : jRU I m) : ∀ w i, w < mW m → i < mL m w → I 13 (w * 9 + i) = mT m w i := h.2.2.2.2.2.2.2.2.1
theorem jRU_R {I : iq_I} {m : jMu} (h : jRU I m) : ∀ s k, s < mS m → k < 8 → I 14 (s * 8 + k) = jo (mR m s k) := h.2.2.2.2.2.2.2.2.2.1
theorem jRU_P {I : iq_I} {m : jMu} (h : jRU I m) : ∀ k, k < 8 → I 15 k = jn (mP m k) := h.2.2.2.2.2.2.2.2.2.2.1
theorem jRU_V {I : iq_I} {m : jMu} (h : jRU I m) : I 8 0 = jn (mV m) := h.2.2.2.2.2.2.2.2.2.2.2.1
theorem jRU_l {I : iq_I} {m : jMu} (h : jRU I m) : I 8 1 = (if mC m = none then 0 else 1) := h.2.2.2.2.2.2.2.2.2.2.2.2.1
theorem jRN_S {I : iq_I} {m : jMu} (h : jRN I m) : I 76 1 = jn (mS m) := h.1
theorem jRN_E {I : iq_I} {m : jMu} (h : jRN I m) : I 76 7 = jb (mS m) (mE m) := h.2.1
theorem jRN_W {I : iq_I} {m : jMu} (h : jRN I m) : I 76 2 = jn (mW m) := h.2.2.1
theorem jRN_A {I : iq_I} {m : jMu} (h : jRN I m) : I 76 3 = mA m := h.2.2.2.1
theorem jRN_s {I : iq_I} {m : jMu} (h : jRN I m) : I 76 57 = 0 := h.2.2.2.2.1
theorem jRN_L {I : iq_I} {m : jMu} (h : jRN I m) : ∀ w, w < mW m → I 78 w = jn (mL m w) := h.2.2.2.2.2.1
theorem jRN_K {I : iq_I} {m : jMu} (h : jRN I m) : ∀ w, w < mW m → I 79 w = jn (mK m w) := h.2.2.2.2.2.2.1
theorem jRN_T {I : iq_I} {m : jMu} (h : jRN I m) : ∀ w i, w < mW m → i < mL m w → I 77 (9 * w + i) = mT m w i := h.2.2.2.2.2.2.2.1
theorem jRN_R {I : iq_I} {m : jMu} (h : jRN I m) : ∀ s k, s < mS m → k < 8 → I 80 (8 * s + k) = jo (mR m s k) := h.2.2.2.2.2.2.2.2.1
theorem jRN_P {I : iq_I} {m : jMu} (h : jRN I m) : ∀ k, k < 8 → I 81 k = jn (mP m k) := h.2.2.2.2.2.2.2.2.2.1
theorem jRN_V {I : iq_I} {m : jMu} (h : jRN I m) : I 76 4 = jn (mV m) := h.2.2.2.2.2.2.2.2.2.2.1
theorem jRG_Y {I : iq_I} {o b l w : Nat} {g : jGa} (h : jRG I o b l w g) : I o 0 = jn (gY g) := h.1
theorem jRG_D {I : iq_I} {o b l w : Nat} {g : jGa} (h : jRG I o b l w g) : I o 1 = jn (gD g) := h.2.1
theorem jRG_B {I : iq_I} {o b l w : Nat} {g : jGa} (h : jRG I o b l w g) : ∀ s, s < gY g → I b s = jn (gB g s) := h.2.2.1
theorem jRG_L {I : iq_I} {o b l w : Nat} {g : jGa} (h : jRG I o b l w g) : ∀ s, s < gY g → I l s = jn (gS g s).length := h.2.2.2.1
theorem jRG_W {I : iq_I} {o b l w : Nat} {g : jGa} (h : jRG I o b l w g) : ∀ s i, s < gY g → i < (gS g s).length → I w (s * 40 + i) = jn ((gS g s).getD i 0) := h.2.2.2.2
theorem jRR_D {r : Nat → Int32} {g : jGa} (h : jRR r g) : r 5 = jn (gD g) := h.1
theorem jRR_L {r : Nat → Int32} {g : jGa} (h : jRR r g) : ∀ s, s < gY g → r s = jn (gS g s).length := h.2.1
theorem jRR_W {r : Nat → Int32} {g : jGa} (h : jRR r g) : ∀ s i, s < gY g → i < (gS g s).length → r (6 + 40 * s + i) = jn ((gS g s).getD i 0) := h.2.2
/-- the word that leads from a state -/
def mLd (m : jMu) (s w : Nat) : Option Nat := mR m s (mK m w)
theorem mLd_lt {m : jMu} (hm : mOk m) {s w t : Nat} (hs : s < mS m) (hw : w < mW m) (h : mLd m s w = some t) : t < mS m := hm.2.2.2.1 s (mK m w) t hs (hm.2.2.1 w hw).2.2 h
theorem jc_leadsBy {I : iq_I} {m : jMu} (hm : mOk m) (h : jRU I m) {s k : Nat} (hs : s < mS m) (hk : k < 8) : zU_leadsBy_4 (jn s) (jn k) I = some (jo (mR m s k)) := by
  have h10 := hm.1
  simp (disch := omega) only [zU_leadsBy_4, jRU_S h, jRU_E h, jRU_W h, jRU_A h, jRU_t h, jRU_L h, jRU_K h, jRU_c h, jRU_T h, jRU_R h, jRU_P h, jRU_V h, jRU_l h, ir_let, jn_lt, jn_le, jn_in, jn_inj, jn_ne_m, jm_ne_n, jm_eq_m, jm_lt, jm_le, jn_lt_m, jn_le_m, jn_add, jn_mul, jn_clamp, jo_some, jn_min, jn_max, ↓jlm, jl0, jl1, jl2, jl3, jl4, jl5, jl6, jl7, jl8, jl9, jl10, jl11, jl12, jl13, jl14, jl15, jl16, jl20, jl24, jl32, jl39, jl40, jl41, jl60, jl61, jl80, jl96, jl97, jl99, jl100, jl122, jl126, jl199, jl200, jl205, jl206, jl255, jl256, jl410, jl700, jl950, jl1000, jl1000000, jl4000, jl8240, jl32767, if_pos, if_neg, ↓reduceIte, Option.bind_some, not_true_eq_false, not_false_eq_true, Nat.not_lt, Nat.not_le]
theorem jc_leadsTo {I : iq_I} {m : jMu} (hm : mOk m) (h : jRU I m) {s w : Nat} (hs : s < mS m) (hw : w < mW m) : zU_leadsTo_4 (jn s) (jn w) I = some (jo (mLd m s w)) := by
  have h10 := hm.1
  have h14 := hm.2.1
  have hk := (hm.2.2.1 w hw).2.2
  simp (disch := omega) only [zU_leadsTo_4, jRU_S h, jRU_E h, jRU_W h, jRU_A h, jRU_t h, jRU_L h, jRU_K h, jRU_c h, jRU_T h, jRU_R h, jRU_P h, jRU_V h, jRU_l h, ir_let, jn_lt, jn_le, jn_in, jn_inj, jn_ne_m, jm_ne_n, jm_eq_m, jm_lt, jm_le, jn_lt_m, jn_le_m, jn_add, jn_mul, jn_clamp, jo_some, jn_min, jn_max, ↓jlm, jl0, jl1, jl2, jl3, jl4, jl5, jl6, jl7, jl8, jl9, jl10, jl11, jl12, jl13, jl14, jl15, jl16, jl20, jl24, jl32, jl39, jl40, jl41, jl60, jl61, jl80, jl96, jl97, jl99, jl100, jl122, jl126, jl199, jl200, jl205, jl206, jl255, jl256, jl410, jl700, jl950, jl1000, jl1000000, jl4000, jl8240, jl32767, if_pos, if_neg, ↓reduceIte, Option.bind_some, not_true_eq_false, not_false_eq_true, Nat.not_lt, Nat.not_le, mLd]
theorem jc_leadsTo0 {I : iq_I} {x : Int32} : zU_leadsTo_4 (jo none) x I = some (jo none) := by
  simp (disch := omega) only [zU_leadsTo_4, ir_let, jn_lt, jn_le, jn_in, jn_inj, jn_ne_m, jm_ne_n, jm_eq_m, jm_lt, jm_le, jn_lt_m, jn_le_m, jn_add, jn_mul, jn_clamp, jo_some, jn_min, jn_max, ↓jlm, jl0, jl1, jl2, jl3, jl4, jl5, jl6, jl7, jl8, jl9, jl10, jl11, jl12, jl13, jl14, jl15, jl16, jl20, jl24, jl32, jl39, jl40, jl41, jl60, jl61, jl80, jl96, jl97, jl99, jl100, jl122, jl126, jl199, jl200, jl205, jl206, jl255, jl256, jl410, jl700, jl950, jl1000, jl1000000, jl4000, jl8240, jl32767, if_pos, if_neg, ↓reduceIte, Option.bind_some, not_true_eq_false, not_false_eq_true, Nat.not_lt, Nat.not_le]
theorem jc_kindOf {I : iq_I} {m : jMu} (hm : mOk m) (h : jRU I m) {w : Nat} (hw : w < mW m) : zU_kindOf (jn w) I = some (jn (mK m w)) := by
  have h14 := hm.2.1
  simp (disch := omega) only [zU_kindOf, jRU_S h, jRU_E h, jRU_W h, jRU_A h, jRU_t h, jRU_L h, jRU_K h, jRU_c h, jRU_T h, jRU_R h, jRU_P h, jRU_V h, jRU_l h, ir_let, jn_lt, jn_le, jn_in, jn_inj, jn_ne_m, jm_ne_n, jm_eq_m, jm_lt, jm_le, jn_lt_m, jn_le_m, jn_add, jn_mul, jn_clamp, jo_some, jn_min, jn_max, ↓jlm, jl0, jl1, jl2, jl3, jl4, jl5, jl6, jl7, jl8, jl9, jl10, jl11, jl12, jl13, jl14, jl15, jl16, jl20, jl24, jl32, jl39, jl40, jl41, jl60, jl61, jl80, jl96, jl97, jl99, jl100, jl122, jl126, jl199, jl200, jl205, jl206, jl255, jl256, jl410, jl700, jl950, jl1000, jl1000000, jl4000, jl8240, jl32767, if_pos, if_neg, ↓reduceIte, Option.bind_some, not_true_eq_false, not_false_eq_true, Nat.not_lt, Nat.not_le]
theorem jc_priceOf {I : iq_I} {m : jMu} (hm : mOk m) (h : jRU I m) {k : Nat} (hk : k < 8) : zU_priceOf (jn k) I = some (jn (mP m k)) := by
  simp (disch := omega) only [zU_priceOf, jRU_S h, jRU_E h, jRU_W h, jRU_A h, jRU_t h, jRU_L h, jRU_K h, jRU_c h, jRU_T h, jRU_R h, jRU_P h, jRU_V h, jRU_l h, ir_let, jn_lt, jn_le, jn_in, jn_inj, jn_ne_m, jm_ne_n, jm_eq_m, jm_lt, jm_le, jn_lt_m, jn_le_m, jn_add, jn_mul, jn_clamp, jo_some, jn_min, jn_max, ↓jlm, jl0, jl1, jl2, jl3, jl4, jl5, jl6, jl7, jl8, jl9, jl10, jl11, jl12, jl13, jl14, jl15, jl16, jl20, jl24, jl32, jl39, jl40, jl41, jl60, jl61, jl80, jl96, jl97, jl99, jl100, jl122, jl126, jl199, jl200, jl205, jl206, jl255, jl256, jl410, jl700, jl950, jl1000, jl1000000, jl4000, jl8240, jl32767, if_pos, if_neg, ↓reduceIte, Option.bind_some, not_true_eq_false, not_false_eq_true, Nat.not_lt, Nat.not_le]
theorem jm_leads {I : iq_I} {m : jMu} (hm : mOk m) (h : jRN I m) {s w : Nat} (hs : s < mS m) (hw : w < mW m) : zM_leads (jn s) (jn w) I = some (jo (mLd m s w)) := by
  have h10 := hm.1
  have h14 := hm.2.1
  have hk := (hm.2.2.1 w hw).2.2
  simp (disch := omega) only [zM_leads, jRN_S h, jRN_E h, jRN_W h, jRN_A h, jRN_s h, jRN_L h, jRN_K h, jRN_T h, jRN_R h, jRN_P h, jRN_V h, ir_let, jn_lt, jn_le, jn_in, jn_inj, jn_ne_m, jm_ne_n, jm_eq_m, jm_lt, jm_le, jn_lt_m, jn_le_m, jn_add, jn_mul, jn_clamp, jo_some, jn_min, jn_max, ↓jlm, jl0, jl1, jl2, jl3, jl4, jl5, jl6, jl7, jl8, jl9, jl10, jl11, jl12, jl13, jl14, jl15, jl16, jl20, jl24, jl32, jl39, jl40, jl41, jl60, jl61, jl80, jl96, jl97, jl99, jl100, jl122, jl126, jl199, jl200, jl205, jl206, jl255, jl256, jl410, jl700, jl950, jl1000, jl1000000, jl4000, jl8240, jl32767, if_pos, if_neg, ↓reduceIte, Option.bind_some, not_true_eq_false, not_false_eq_true, Nat.not_lt, Nat.not_le, mLd]
theorem jc_wordAt {I : iq_I} {m : jMu} {g : jGa} (hg : gOk m g) (h : jRG I 16 17 18 24 g) {s i : Nat} (hs : s < gY g) (hi : i < (gS g s).length) : zG_wordAt_16 (jn s) (jn i) I = some (jn ((gS g s).getD i 0)) := by
  have h5 := hg.1
  have h40 := hg.2.2.1 s hs
  simp (disch := omega) only [zG_wordAt_16, jRG_Y h, jRG_L h, jRG_W h, ir_let, jn_lt, jn_le, jn_in, jn_inj, jn_ne_m, jm_ne_n, jm_eq_m, jm_lt, jm_le, jn_lt_m, jn_le_m, jn_add, jn_mul, jn_clamp, jo_some, jn_min, jn_max, ↓jlm, jl0, jl1, jl2, jl3, jl4, jl5, jl6, jl7, jl8, jl9, jl10, jl11, jl12, jl13, jl14, jl15, jl16, jl20, jl24, jl32, jl39, jl40, jl41, jl60, jl61, jl80, jl96, jl97, jl99, jl100, jl122, jl126, jl199, jl200, jl205, jl206, jl255, jl256, jl410, jl700, jl950, jl1000, jl1000000, jl4000, jl8240, jl32767, if_pos, if_neg, ↓reduceIte, Option.bind_some, not_true_eq_false, not_false_eq_true, Nat.not_lt, Nat.not_le]
theorem jc_lengthOf {I : iq_I} {m : jMu} {g : jGa} (hg : gOk m g) (h : jRG I 16 17 18 24 g) {s : Nat} (hs : s < gY g) : zG_lengthOf_16 (jn s) I = some (jn (gS g s).length) := by
  have h5 := hg.1
  simp (disch := omega) only [zG_lengthOf_16, jRG_Y h, jRG_L h, ir_let, jn_lt, jn_le, jn_in, jn_inj, jn_ne_m, jm_ne_n, jm_eq_m, jm_lt, jm_le, jn_lt_m, jn_le_m, jn_add, jn_mul, jn_clamp, jo_some, jn_min, jn_max, ↓jlm, jl0, jl1, jl2, jl3, jl4, jl5, jl6, jl7, jl8, jl9, jl10, jl11, jl12, jl13, jl14, jl15, jl16, jl20, jl24, jl32, jl39, jl40, jl41, jl60, jl61, jl80, jl96, jl97, jl99, jl100, jl122, jl126, jl199, jl200, jl205, jl206, jl255, jl256, jl410, jl700, jl950, jl1000, jl1000000, jl4000, jl8240, jl32767, if_pos, if_neg, ↓reduceIte, Option.bind_some, not_true_eq_false, not_false_eq_true, Nat.not_lt, Nat.not_le]
theorem jc_beginOf {I : iq_I} {m : jMu} {g : jGa} (hg : gOk m g) (h : jRG I 16 17 18 24 g) {s : Nat} (hs : s < gY g) : zG_beginOf_16 (jn s) I = some (jn (gB g s)) := by
  have h5 := hg.1
  simp (disch := omega) only [zG_beginOf_16, jRG_Y h, jRG_B h, ir_let, jn_lt, jn_le, jn_in, jn_inj, jn_ne_m, jm_ne_n, jm_eq_m, jm_lt, jm_le, jn_lt_m, jn_le_m, jn_add, jn_mul, jn_clamp, jo_some, jn_min, jn_max, ↓jlm, jl0, jl1, jl2, jl3, jl4, jl5, jl6, jl7, jl8, jl9, jl10, jl11, jl12, jl13, jl14, jl15, jl16, jl20, jl24, jl32, jl39, jl40, jl41, jl60, jl61, jl80, jl96, jl97, jl99, jl100, jl122, jl126, jl199, jl200, jl205, jl206, jl255, jl256, jl410, jl700, jl950, jl1000, jl1000000, jl4000, jl8240, jl32767, if_pos, if_neg, ↓reduceIte, Option.bind_some, not_true_eq_false, not_false_eq_true, Nat.not_lt, Nat.not_le]
theorem jm_wordAt {I : iq_I} {m : jMu} {g : jGa} (hg : gOk m g) (h : jRR (I 98) g) {s i : Nat} (hs : s < gY g) (hi : i < (gS g s).length) : zM_wordAt_76_98 (jn s) (jn i) I = some (jn ((gS g s).getD i 0)) := by
  have h5 := hg.1
  have h40 := hg.2.2.1 s hs
  simp (disch := omega) only [zM_wordAt_76_98, jRR_W h, ir_let, jn_lt, jn_le, jn_in, jn_inj, jn_ne_m, jm_ne_n, jm_eq_m, jm_lt, jm_le, jn_lt_m, jn_le_m, jn_add, jn_mul, jn_clamp, jo_some, jn_min, jn_max, ↓jlm, jl0, jl1, jl2, jl3, jl4, jl5, jl6, jl7, jl8, jl9, jl10, jl11, jl12, jl13, jl14, jl15, jl16, jl20, jl24, jl32, jl39, jl40, jl41, jl60, jl61, jl80, jl96, jl97, jl99, jl100, jl122, jl126, jl199, jl200, jl205, jl206, jl255, jl256, jl410, jl700, jl950, jl1000, jl1000000, jl4000, jl8240, jl32767, if_pos, if_neg, ↓reduceIte, Option.bind_some, not_true_eq_false, not_false_eq_true, Nat.not_lt, Nat.not_le]
