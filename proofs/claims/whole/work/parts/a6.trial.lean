/-! ===== the trial galleries: readers ===== -/
theorem jc_wordAt5 {I : iq_I} {m : jMu} {g : jGa} (hg : gOk m g) (h : jRG I 50 51 52 58 g) {s i : Nat} (hs : s < gY g) (hi : i < (gS g s).length) : zG_wordAt_50 (jn s) (jn i) I = some (jn ((gS g s).getD i 0)) := by
  have h5 := hg.1
  have h40 := hg.2.2.1 s hs
  simp (disch := omega) only [zG_wordAt_50, jRG_Y h, jRG_L h, jRG_W h, ir_let, jn_lt, jn_le, jn_in, jn_inj, jn_ne_m, jm_ne_n, jm_eq_m, jm_lt, jm_le, jn_lt_m, jn_le_m, jn_add, jn_mul, jn_clamp, jo_some, jn_min, jn_max, ↓jlm, jl0, jl1, jl2, jl3, jl4, jl5, jl6, jl7, jl8, jl9, jl10, jl11, jl12, jl13, jl14, jl15, jl16, jl20, jl24, jl32, jl39, jl40, jl41, jl60, jl61, jl80, jl96, jl97, jl99, jl100, jl122, jl126, jl199, jl200, jl205, jl206, jl255, jl256, jl410, jl700, jl950, jl1000, jl1000000, jl4000, jl8240, jl32767, if_pos, if_neg, ↓reduceIte, Option.bind_some, not_true_eq_false, not_false_eq_true, Nat.not_lt, Nat.not_le]
theorem jc_lengthOf5 {I : iq_I} {m : jMu} {g : jGa} (hg : gOk m g) (h : jRG I 50 51 52 58 g) {s : Nat} (hs : s < gY g) : zG_lengthOf_50 (jn s) I = some (jn (gS g s).length) := by
  have h5 := hg.1
  simp (disch := omega) only [zG_lengthOf_50, jRG_Y h, jRG_L h, ir_let, jn_lt, jn_le, jn_in, jn_inj, jn_ne_m, jm_ne_n, jm_eq_m, jm_lt, jm_le, jn_lt_m, jn_le_m, jn_add, jn_mul, jn_clamp, jo_some, jn_min, jn_max, ↓jlm, jl0, jl1, jl2, jl3, jl4, jl5, jl6, jl7, jl8, jl9, jl10, jl11, jl12, jl13, jl14, jl15, jl16, jl20, jl24, jl32, jl39, jl40, jl41, jl60, jl61, jl80, jl96, jl97, jl99, jl100, jl122, jl126, jl199, jl200, jl205, jl206, jl255, jl256, jl410, jl700, jl950, jl1000, jl1000000, jl4000, jl8240, jl32767, if_pos, if_neg, ↓reduceIte, Option.bind_some, not_true_eq_false, not_false_eq_true, Nat.not_lt, Nat.not_le]
theorem jc_beginOf5 {I : iq_I} {m : jMu} {g : jGa} (hg : gOk m g) (h : jRG I 50 51 52 58 g) {s : Nat} (hs : s < gY g) : zG_beginOf_50 (jn s) I = some (jn (gB g s)) := by
  have h5 := hg.1
  simp (disch := omega) only [zG_beginOf_50, jRG_Y h, jRG_B h, ir_let, jn_lt, jn_le, jn_in, jn_inj, jn_ne_m, jm_ne_n, jm_eq_m, jm_lt, jm_le, jn_lt_m, jn_le_m, jn_add, jn_mul, jn_clamp, jo_some, jn_min, jn_max, ↓jlm, jl0, jl1, jl2, jl3, jl4, jl5, jl6, jl7, jl8, jl9, jl10, jl11, jl12, jl13, jl14, jl15, jl16, jl20, jl24, jl32, jl39, jl40, jl41, jl60, jl61, jl80, jl96, jl97, jl99, jl100, jl122, jl126, jl199, jl200, jl205, jl206, jl255, jl256, jl410, jl700, jl950, jl1000, jl1000000, jl4000, jl8240, jl32767, if_pos, if_neg, ↓reduceIte, Option.bind_some, not_true_eq_false, not_false_eq_true, Nat.not_lt, Nat.not_le]
theorem jm_wordAt5 {I : iq_I} {m : jMu} {g : jGa} (hg : gOk m g) (h : jRR (I 99) g) {s i : Nat} (hs : s < gY g) (hi : i < (gS g s).length) : zM_wordAt_76_99 (jn s) (jn i) I = some (jn ((gS g s).getD i 0)) := by
  have h5 := hg.1
  have h40 := hg.2.2.1 s hs
  simp (disch := omega) only [zM_wordAt_76_99, jRR_W h, ir_let, jn_lt, jn_le, jn_in, jn_inj, jn_ne_m, jm_ne_n, jm_eq_m, jm_lt, jm_le, jn_lt_m, jn_le_m, jn_add, jn_mul, jn_clamp, jo_some, jn_min, jn_max, ↓jlm, jl0, jl1, jl2, jl3, jl4, jl5, jl6, jl7, jl8, jl9, jl10, jl11, jl12, jl13, jl14, jl15, jl16, jl20, jl24, jl32, jl39, jl40, jl41, jl60, jl61, jl80, jl96, jl97, jl99, jl100, jl122, jl126, jl199, jl200, jl205, jl206, jl255, jl256, jl410, jl700, jl950, jl1000, jl1000000, jl4000, jl8240, jl32767, if_pos, if_neg, ↓reduceIte, Option.bind_some, not_true_eq_false, not_false_eq_true, Nat.not_lt, Nat.not_le]
theorem jc_stF5 {I : iq_I} {m : jMu} {g : jGa} (hm : mOk m) (hU : jRU I m) (hg : gOk m g) (hG : jRG I 50 51 52 58 g) {y : Nat} (hy : y < gY g) {but : Option Nat} (hb : ∀ b, but = some b → b < 2147483648) :
    ∀ (k i : Nat) (o : Option Nat) (n : Nat), i + k = (gS g y).length → (∀ s, o = some s → s < mS m) → k < n → zU_stateFrom_4_50_l13 (jn y) (jo but) (jn (gS g y).length) I n (jo o, jn i) = some (jo (mSt m (gS g y) but k i o)) := by
  have h40 := hg.2.2.1 y hy
  have h10 := hm.1
  intro k
  induction k with
  | zero =>
    intro i o n hi ho hn
    obtain ⟨n, rfl⟩ : ∃ n', n = n' + 1 := ⟨n - 1, by omega⟩
    refine js_0 ?_
    simp (disch := omega) only [zU_stateFrom_4_50_l13_b, ir_let, jn_lt, jn_le, jn_in, jn_inj, jn_ne_m, jm_ne_n, jm_eq_m, jm_lt, jm_le, jn_lt_m, jn_le_m, jn_add, jn_mul, jn_clamp, jo_some, jn_min, jn_max, ↓jlm, jl0, jl1, jl2, jl3, jl4, jl5, jl6, jl7, jl8, jl9, jl10, jl11, jl12, jl13, jl14, jl15, jl16, jl20, jl24, jl32, jl39, jl40, jl41, jl60, jl61, jl80, jl96, jl97, jl99, jl100, jl122, jl126, jl199, jl200, jl205, jl206, jl255, jl256, jl410, jl700, jl950, jl1000, jl1000000, jl4000, jl8240, jl32767, if_pos, if_neg, ↓reduceIte, Option.bind_some, not_true_eq_false, not_false_eq_true, Nat.not_lt, Nat.not_le]
    rfl
  | succ k ih =>
    intro i o n hi ho hn
    obtain ⟨n, rfl⟩ : ∃ n', n = n' + 1 := ⟨n - 1, by omega⟩
    cases o with
    | none =>
      refine js_0 ?_
      simp (disch := omega) only [zU_stateFrom_4_50_l13_b, ir_let, jn_lt, jn_le, jn_in, jn_inj, jn_ne_m, jm_ne_n, jm_eq_m, jm_lt, jm_le, jn_lt_m, jn_le_m, jn_add, jn_mul, jn_clamp, jo_some, jn_min, jn_max, ↓jlm, jl0, jl1, jl2, jl3, jl4, jl5, jl6, jl7, jl8, jl9, jl10, jl11, jl12, jl13, jl14, jl15, jl16, jl20, jl24, jl32, jl39, jl40, jl41, jl60, jl61, jl80, jl96, jl97, jl99, jl100, jl122, jl126, jl199, jl200, jl205, jl206, jl255, jl256, jl410, jl700, jl950, jl1000, jl1000000, jl4000, jl8240, jl32767, if_pos, if_neg, ↓reduceIte, Option.bind_some, not_true_eq_false, not_false_eq_true, Nat.not_lt, Nat.not_le]
      rfl
    | some s =>
      have hs := ho s rfl
      have hw := hg.2.2.2.1 y i hy (by omega)
      by_cases e : but = some i
      · refine (js_1 (v' := (jn s, jn (i + 1))) ?_).trans ?_
        · subst e
          simp (disch := omega) only [zU_stateFrom_4_50_l13_b, ir_let, jn_lt, jn_le, jn_in, jn_inj, jn_ne_m, jm_ne_n, jm_eq_m, jm_lt, jm_le, jn_lt_m, jn_le_m, jn_add, jn_mul, jn_clamp, jo_some, jn_min, jn_max, ↓jlm, jl0, jl1, jl2, jl3, jl4, jl5, jl6, jl7, jl8, jl9, jl10, jl11, jl12, jl13, jl14, jl15, jl16, jl20, jl24, jl32, jl39, jl40, jl41, jl60, jl61, jl80, jl96, jl97, jl99, jl100, jl122, jl126, jl199, jl200, jl205, jl206, jl255, jl256, jl410, jl700, jl950, jl1000, jl1000000, jl4000, jl8240, jl32767, if_pos, if_neg, ↓reduceIte, Option.bind_some, not_true_eq_false, not_false_eq_true, Nat.not_lt, Nat.not_le]
        · refine Eq.trans (ih (i + 1) (some s) n (by omega) ho (by omega)) ?_
          conv => rhs; unfold mSt
          rw [if_pos e]
      · refine (js_1 (v' := (jo (mLd m s ((gS g y).getD i 0)), jn (i + 1))) ?_).trans ?_
        · have e2 : ¬ jn i = jo but := by
            rw [← jo_some, jo_inj (fun n h => by cases h; omega) hb]
            exact fun h => e h.symm
          simp (disch := omega) only [zU_stateFrom_4_50_l13_b, e2, jc_wordAt5 hg hG hy, jc_leadsTo hm hU, ir_let, jn_lt, jn_le, jn_in, jn_inj, jn_ne_m, jm_ne_n, jm_eq_m, jm_lt, jm_le, jn_lt_m, jn_le_m, jn_add, jn_mul, jn_clamp, jo_some, jn_min, jn_max, ↓jlm, jl0, jl1, jl2, jl3, jl4, jl5, jl6, jl7, jl8, jl9, jl10, jl11, jl12, jl13, jl14, jl15, jl16, jl20, jl24, jl32, jl39, jl40, jl41, jl60, jl61, jl80, jl96, jl97, jl99, jl100, jl122, jl126, jl199, jl200, jl205, jl206, jl255, jl256, jl410, jl700, jl950, jl1000, jl1000000, jl4000, jl8240, jl32767, if_pos, if_neg, ↓reduceIte, Option.bind_some, not_true_eq_false, not_false_eq_true, Nat.not_lt, Nat.not_le]
        · refine Eq.trans (ih (i + 1) _ n (by omega) (fun t ht => mLd_lt hm hs hw ht) (by omega)) ?_
          conv => rhs; unfold mSt
          rw [if_neg e]
theorem jc_stateFrom5 {I : iq_I} {m : jMu} {g : jGa} (hm : mOk m) (hU : jRU I m) (hg : gOk m g) (hG : jRG I 50 51 52 58 g) {y b : Nat} (hy : y < gY g) (hbS : b < mS m) {but : Option Nat} (hb : ∀ b, but = some b → b < 2147483648) :
    zU_stateFrom_4_50 (jn y) (jn b) (jo but) I = some (jo (gSt m g y b but)) := by
  have h40 := hg.2.2.1 y hy
  unfold zU_stateFrom_4_50
  rw [jc_lengthOf5 hg hG hy]
  have := jc_stF5 hm hU hg hG hy hb (gS g y).length 0 (some b) ir_F (by omega) (fun s hs => by cases hs; exact hbS) (by unfold ir_F; omega)
  rw [Option.bind_some, show ((jn b, (0 : Int32)) : Int32 × Int32) = (jo (some b), jn 0) from rfl, this]
  rfl
theorem jc_stateOf5 {I : iq_I} {m : jMu} {g : jGa} (hm : mOk m) (hU : jRU I m) (hg : gOk m g) (hG : jRG I 50 51 52 58 g) {y : Nat} (hy : y < gY g) : zU_stateOf_4_50 (jn y) I = some (jo (gSt m g y (gB g y) none)) := by
  unfold zU_stateOf_4_50
  rw [jc_beginOf5 hg hG hy, Option.bind_some, show (-1 : Int32) = jo none from rfl, jc_stateFrom5 hm hU hg hG hy (hg.2.1 y hy) (fun b h => by cases h)]
  rfl
theorem jm_stF5 {I : iq_I} {m : jMu} {g : jGa} (hm : mOk m) (hN : jRN I m) (hg : gOk m g) (hR : jRR (I 99) g) {y : Nat} (hy : y < gY g) {but : Option Nat} (hb : ∀ b, but = some b → b < 2147483648) :
    ∀ (k i : Nat) (o : Option Nat) (n : Nat), i + k = (gS g y).length → (∀ s, o = some s → s < mS m) → k < n → zM_stateOf_76_99_l6 (jn y) (jo but) I n (jo o, jn i) = some (jo (mSt m (gS g y) but k i o)) := by
  have h40 := hg.2.2.1 y hy
  have h5 := hg.1
  have h10 := hm.1
  intro k
  induction k with
  | zero =>
    intro i o n hi ho hn
    obtain ⟨n, rfl⟩ : ∃ n', n = n' + 1 := ⟨n - 1, by omega⟩
    refine js_0 ?_
    simp (disch := omega) only [zM_stateOf_76_99_l6_b, jRR_L hR, ir_let, jn_lt, jn_le, jn_in, jn_inj, jn_ne_m, jm_ne_n, jm_eq_m, jm_lt, jm_le, jn_lt_m, jn_le_m, jn_add, jn_mul, jn_clamp, jo_some, jn_min, jn_max, ↓jlm, jl0, jl1, jl2, jl3, jl4, jl5, jl6, jl7, jl8, jl9, jl10, jl11, jl12, jl13, jl14, jl15, jl16, jl20, jl24, jl32, jl39, jl40, jl41, jl60, jl61, jl80, jl96, jl97, jl99, jl100, jl122, jl126, jl199, jl200, jl205, jl206, jl255, jl256, jl410, jl700, jl950, jl1000, jl1000000, jl4000, jl8240, jl32767, if_pos, if_neg, ↓reduceIte, Option.bind_some, not_true_eq_false, not_false_eq_true, Nat.not_lt, Nat.not_le]
    rfl
  | succ k ih =>
    intro i o n hi ho hn
    obtain ⟨n, rfl⟩ : ∃ n', n = n' + 1 := ⟨n - 1, by omega⟩
    cases o with
    | none =>
      refine js_0 ?_
      simp (disch := omega) only [zM_stateOf_76_99_l6_b, jRR_L hR, ir_let, jn_lt, jn_le, jn_in, jn_inj, jn_ne_m, jm_ne_n, jm_eq_m, jm_lt, jm_le, jn_lt_m, jn_le_m, jn_add, jn_mul, jn_clamp, jo_some, jn_min, jn_max, ↓jlm, jl0, jl1, jl2, jl3, jl4, jl5, jl6, jl7, jl8, jl9, jl10, jl11, jl12, jl13, jl14, jl15, jl16, jl20, jl24, jl32, jl39, jl40, jl41, jl60, jl61, jl80, jl96, jl97, jl99, jl100, jl122, jl126, jl199, jl200, jl205, jl206, jl255, jl256, jl410, jl700, jl950, jl1000, jl1000000, jl4000, jl8240, jl32767, if_pos, if_neg, ↓reduceIte, Option.bind_some, not_true_eq_false, not_false_eq_true, Nat.not_lt, Nat.not_le]
      rfl
    | some s =>
      have hs := ho s rfl
      have hw := hg.2.2.2.1 y i hy (by omega)
      by_cases e : but = some i
      · refine (js_1 (v' := (jn s, jn (i + 1))) ?_).trans ?_
        · subst e
          simp (disch := omega) only [zM_stateOf_76_99_l6_b, jRR_L hR, ir_let, jn_lt, jn_le, jn_in, jn_inj, jn_ne_m, jm_ne_n, jm_eq_m, jm_lt, jm_le, jn_lt_m, jn_le_m, jn_add, jn_mul, jn_clamp, jo_some, jn_min, jn_max, ↓jlm, jl0, jl1, jl2, jl3, jl4, jl5, jl6, jl7, jl8, jl9, jl10, jl11, jl12, jl13, jl14, jl15, jl16, jl20, jl24, jl32, jl39, jl40, jl41, jl60, jl61, jl80, jl96, jl97, jl99, jl100, jl122, jl126, jl199, jl200, jl205, jl206, jl255, jl256, jl410, jl700, jl950, jl1000, jl1000000, jl4000, jl8240, jl32767, if_pos, if_neg, ↓reduceIte, Option.bind_some, not_true_eq_false, not_false_eq_true, Nat.not_lt, Nat.not_le]
        · refine Eq.trans (ih (i + 1) (some s) n (by omega) ho (by omega)) ?_
          conv => rhs; unfold mSt
          rw [if_pos e]
      · refine (js_1 (v' := (jo (mLd m s ((gS g y).getD i 0)), jn (i + 1))) ?_).trans ?_
        · have e2 : ¬ jn i = jo but := by
            rw [← jo_some, jo_inj (fun n h => by cases h; omega) hb]
            exact fun h => e h.symm
          simp (disch := omega) only [zM_stateOf_76_99_l6_b, jRR_L hR, e2, jm_wordAt5 hg hR hy, jm_leads hm hN, ir_let, jn_lt, jn_le, jn_in, jn_inj, jn_ne_m, jm_ne_n, jm_eq_m, jm_lt, jm_le, jn_lt_m, jn_le_m, jn_add, jn_mul, jn_clamp, jo_some, jn_min, jn_max, ↓jlm, jl0, jl1, jl2, jl3, jl4, jl5, jl6, jl7, jl8, jl9, jl10, jl11, jl12, jl13, jl14, jl15, jl16, jl20, jl24, jl32, jl39, jl40, jl41, jl60, jl61, jl80, jl96, jl97, jl99, jl100, jl122, jl126, jl199, jl200, jl205, jl206, jl255, jl256, jl410, jl700, jl950, jl1000, jl1000000, jl4000, jl8240, jl32767, if_pos, if_neg, ↓reduceIte, Option.bind_some, not_true_eq_false, not_false_eq_true, Nat.not_lt, Nat.not_le]
        · refine Eq.trans (ih (i + 1) _ n (by omega) (fun t ht => mLd_lt hm hs hw ht) (by omega)) ?_
          conv => rhs; unfold mSt
          rw [if_neg e]
theorem jm_stateOf5 {I : iq_I} {m : jMu} {g : jGa} (hm : mOk m) (hN : jRN I m) (hg : gOk m g) (hR : jRR (I 99) g) {y b : Nat} (hy : y < gY g) (hbS : b < mS m) {but : Option Nat} (hb : ∀ b, but = some b → b < 2147483648) :
    zM_stateOf_76_99 (jn y) (jn b) (jo but) I = some (jo (gSt m g y b but)) := by
  have h40 := hg.2.2.1 y hy
  unfold zM_stateOf_76_99
  have := jm_stF5 hm hN hg hR hy hb (gS g y).length 0 (some b) ir_F (by omega) (fun s hs => by cases hs; exact hbS) (by unfold ir_F; omega)
  rw [show ((jn b, (0 : Int32)) : Int32 × Int32) = (jo (some b), jn 0) from rfl, this]
  rfl
theorem jm_stateNow5 {I : iq_I} {m : jMu} {g : jGa} (hm : mOk m) (hN : jRN I m) (hg : gOk m g) (hB : jRB I g) (hR : jRR (I 99) g) {y : Nat} (hy : y < gY g) : zM_stateNow_76_99 (jn y) I = some (jo (gSt m g y (gB g y) none)) := by
  have h5 := hg.1
  unfold zM_stateNow_76_99
  simp (disch := omega) only [jn_in, jn_clamp, hB.2 y hy, if_pos]
  rw [show (-1 : Int32) = jo none from rfl, jm_stateOf5 hm hN hg hR hy (hg.2.1 y hy) (fun b h => by cases h)]
  rfl
theorem jc_timesIn5 {I : iq_I} {m : jMu} {g : jGa} (hm : mOk m) (hg : gOk m g) (hG : jRG I 50 51 52 58 g) {y w : Nat} (hy : y < gY g) (hw : w < mW m) : zG_timesIn_50 (jn y) (jn w) I = some (jn (gTm g y w)) := by
  have h5 := hg.1
  have h14 := hm.2.1
  have h40 := hg.2.2.1 y hy
  have key : zG_timesIn_50_l19 (jn y) (jn w) I ir_F (jn 0, jn 0) = some (jn (gTm g y w)) := by
    refine js_seq (fun i => (jn (jcn i (pTm g y w)), jn i)) (gS g y).length _ (fun i hi => ?_) ?_ (gS g y).length 0 ir_F (by omega) (by unfold ir_F; omega)
    · have hw2 := hg.2.2.2.1 y i hy hi
      by_cases e : (gS g y).getD i 0 = w
      · have e1 : pTm g y w i = true := decide_eq_true e
        simp (disch := omega) only [zG_timesIn_50_l19_b, jRG_L hG, jRG_W hG, jcnS1 e1, ir_let, jn_lt, jn_le, jn_in, jn_inj, jn_ne_m, jm_ne_n, jm_eq_m, jm_lt, jm_le, jn_lt_m, jn_le_m, jn_add, jn_mul, jn_clamp, jo_some, jn_min, jn_max, ↓jlm, jl0, jl1, jl2, jl3, jl4, jl5, jl6, jl7, jl8, jl9, jl10, jl11, jl12, jl13, jl14, jl15, jl16, jl20, jl24, jl32, jl39, jl40, jl41, jl60, jl61, jl80, jl96, jl97, jl99, jl100, jl122, jl126, jl199, jl200, jl205, jl206, jl255, jl256, jl410, jl700, jl950, jl1000, jl1000000, jl4000, jl8240, jl32767, if_pos, if_neg, ↓reduceIte, Option.bind_some, not_true_eq_false, not_false_eq_true, Nat.not_lt, Nat.not_le]
      · have e1 : pTm g y w i = false := decide_eq_false e
        simp (disch := omega) only [zG_timesIn_50_l19_b, jRG_L hG, jRG_W hG, jcnS0 e1, ir_let, jn_lt, jn_le, jn_in, jn_inj, jn_ne_m, jm_ne_n, jm_eq_m, jm_lt, jm_le, jn_lt_m, jn_le_m, jn_add, jn_mul, jn_clamp, jo_some, jn_min, jn_max, ↓jlm, jl0, jl1, jl2, jl3, jl4, jl5, jl6, jl7, jl8, jl9, jl10, jl11, jl12, jl13, jl14, jl15, jl16, jl20, jl24, jl32, jl39, jl40, jl41, jl60, jl61, jl80, jl96, jl97, jl99, jl100, jl122, jl126, jl199, jl200, jl205, jl206, jl255, jl256, jl410, jl700, jl950, jl1000, jl1000000, jl4000, jl8240, jl32767, if_pos, if_neg, ↓reduceIte, Option.bind_some, not_true_eq_false, not_false_eq_true, Nat.not_lt, Nat.not_le]
    · simp (disch := omega) only [zG_timesIn_50_l19_b, jRG_L hG, ir_let, jn_lt, jn_le, jn_in, jn_inj, jn_ne_m, jm_ne_n, jm_eq_m, jm_lt, jm_le, jn_lt_m, jn_le_m, jn_add, jn_mul, jn_clamp, jo_some, jn_min, jn_max, ↓jlm, jl0, jl1, jl2, jl3, jl4, jl5, jl6, jl7, jl8, jl9, jl10, jl11, jl12, jl13, jl14, jl15, jl16, jl20, jl24, jl32, jl39, jl40, jl41, jl60, jl61, jl80, jl96, jl97, jl99, jl100, jl122, jl126, jl199, jl200, jl205, jl206, jl255, jl256, jl410, jl700, jl950, jl1000, jl1000000, jl4000, jl8240, jl32767, if_pos, if_neg, ↓reduceIte, Option.bind_some, not_true_eq_false, not_false_eq_true, Nat.not_lt, Nat.not_le]
      rfl
  simp (disch := omega) only [zG_timesIn_50, jRG_Y hG, key, ir_let, jn_lt, jn_le, jn_in, jn_inj, jn_ne_m, jm_ne_n, jm_eq_m, jm_lt, jm_le, jn_lt_m, jn_le_m, jn_add, jn_mul, jn_clamp, jo_some, jn_min, jn_max, ↓jlm, jl0, jl1, jl2, jl3, jl4, jl5, jl6, jl7, jl8, jl9, jl10, jl11, jl12, jl13, jl14, jl15, jl16, jl20, jl24, jl32, jl39, jl40, jl41, jl60, jl61, jl80, jl96, jl97, jl99, jl100, jl122, jl126, jl199, jl200, jl205, jl206, jl255, jl256, jl410, jl700, jl950, jl1000, jl1000000, jl4000, jl8240, jl32767, if_pos, if_neg, ↓reduceIte, Option.bind_some, not_true_eq_false, not_false_eq_true, Nat.not_lt, Nat.not_le]
theorem jc_putIn5 {I : iq_I} {m : jMu} {g : jGa} (hg : gOk m g) (hG : jRG I 50 51 52 58 g) {a b c : Nat} (ha : a < gY g) (hb : b ≤ (gS g a).length) (h4 : (gS g a).length < 40) :
    zG_putIn_50 (jn a) (jn b) (jn c) I = some (jPut I 52 58 a b c (gS g a).length) := by
  have h5 := hg.1
  simp (disch := omega) only [zG_putIn_50, jc_lengthOf5 hg hG ha, jRG_Y hG, jn_sub, ir_let, jn_lt, jn_le, jn_in, jn_inj, jn_ne_m, jm_ne_n, jm_eq_m, jm_lt, jm_le, jn_lt_m, jn_le_m, jn_add, jn_mul, jn_clamp, jo_some, jn_min, jn_max, ↓jlm, jl0, jl1, jl2, jl3, jl4, jl5, jl6, jl7, jl8, jl9, jl10, jl11, jl12, jl13, jl14, jl15, jl16, jl20, jl24, jl32, jl39, jl40, jl41, jl60, jl61, jl80, jl96, jl97, jl99, jl100, jl122, jl126, jl199, jl200, jl205, jl206, jl255, jl256, jl410, jl700, jl950, jl1000, jl1000000, jl4000, jl8240, jl32767, if_pos, if_neg, ↓reduceIte, Option.bind_some, not_true_eq_false, not_false_eq_true, Nat.not_lt, Nat.not_le]
  rfl
theorem jm_putsL5 {I : iq_I} {a b L : Nat} {x4 : Int32} (ha : a < 5) (hb : b ≤ L) (h4 : L < 40) :
    ∃ I', zM_puts0_76_99_l5 (jn a) (jn b) x4 ir_F (jn L, I) = some I' ∧ (∀ k j, ¬ k = 99 → I' k j = I k j) ∧ (∀ j, j < 6 + 40 * a + b + 1 ∨ 6 + 40 * a + L < j → I' 99 j = I 99 j) ∧ (∀ j, b < j → j ≤ L → I' 99 (6 + 40 * a + j) = I 99 (6 + 40 * a + (j - 1))) := by
  refine js_inv (fun t v => v.1 = jn (L - t) ∧ (∀ k j, ¬ k = 99 → v.2 k j = I k j) ∧ (∀ j, j < 6 + 40 * a + (L - t) + 1 ∨ 6 + 40 * a + L < j → v.2 99 j = I 99 j) ∧ (∀ j, L - t < j → j ≤ L → v.2 99 (6 + 40 * a + j) = I 99 (6 + 40 * a + (j - 1)))) (L - b) _ ?_ ?_ (L - b) 0 (jn L, I) ir_F (by omega) ⟨rfl, fun _ _ _ => rfl, fun _ _ => rfl, fun j h1 h2 => by omega⟩ (by unfold ir_F; omega)
  · rintro t ⟨x, K⟩ ht ⟨h1, h2, h3, h5⟩
    simp only at h1 h2 h3 h5
    subst h1
    refine ⟨(jn (L - (t + 1)), iq_upI K 99 (6 + 40 * a + (L - t)) (K 99 (6 + 40 * a + (L - t) - 1))), ?_, rfl, fun k j hk => ?_, fun j hj => ?_, fun j q1 q2 => ?_⟩
    · dsimp only
      simp (disch := omega) only [zM_puts0_76_99_l5_b, jn_sub, jn_pred, ir_let, jn_lt, jn_le, jn_in, jn_inj, jn_ne_m, jm_ne_n, jm_eq_m, jm_lt, jm_le, jn_lt_m, jn_le_m, jn_add, jn_mul, jn_clamp, jo_some, jn_min, jn_max, ↓jlm, jl0, jl1, jl2, jl3, jl4, jl5, jl6, jl7, jl8, jl9, jl10, jl11, jl12, jl13, jl14, jl15, jl16, jl20, jl24, jl32, jl39, jl40, jl41, jl60, jl61, jl80, jl96, jl97, jl99, jl100, jl122, jl126, jl199, jl200, jl205, jl206, jl255, jl256, jl410, jl700, jl950, jl1000, jl1000000, jl4000, jl8240, jl32767, if_pos, if_neg, ↓reduceIte, Option.bind_some, not_true_eq_false, not_false_eq_true, Nat.not_lt, Nat.not_le]
      rw [show L - t - 1 = L - (t + 1) by omega]
    · show iq_upI K 99 _ _ k j = _
      rw [up_nk hk, h2 k j hk]
    · show iq_upI K 99 _ _ 99 j = _
      rw [up_ni (by omega), h3 j (by omega)]
    · show iq_upI K 99 _ _ 99 _ = _
      by_cases e : j = L - t
      · subst e
        rw [up_eq, h3 _ (by omega), show 6 + 40 * a + (L - t) - 1 = 6 + 40 * a + (L - t - 1) by omega]
      · rw [up_ni (by omega), h5 j (by omega) q2]
  · rintro ⟨x, K⟩ ⟨h1, h2, h3, h5⟩
    simp only at h1 h2 h3 h5
    subst h1
    refine ⟨K, ?_, h2, fun j hj => h3 j (by omega), fun j q1 q2 => h5 j (by omega) q2⟩
    dsimp only
    simp (disch := omega) only [zM_puts0_76_99_l5_b, ir_let, jn_lt, jn_le, jn_in, jn_inj, jn_ne_m, jm_ne_n, jm_eq_m, jm_lt, jm_le, jn_lt_m, jn_le_m, jn_add, jn_mul, jn_clamp, jo_some, jn_min, jn_max, ↓jlm, jl0, jl1, jl2, jl3, jl4, jl5, jl6, jl7, jl8, jl9, jl10, jl11, jl12, jl13, jl14, jl15, jl16, jl20, jl24, jl32, jl39, jl40, jl41, jl60, jl61, jl80, jl96, jl97, jl99, jl100, jl122, jl126, jl199, jl200, jl205, jl206, jl255, jl256, jl410, jl700, jl950, jl1000, jl1000000, jl4000, jl8240, jl32767, if_pos, if_neg, ↓reduceIte, Option.bind_some, not_true_eq_false, not_false_eq_true, Nat.not_lt, Nat.not_le]
theorem jm_puts05 {I : iq_I} {m : jMu} {g : jGa} (hg : gOk m g) (hR : jRR (I 99) g) {a b c : Nat} (ha : a < gY g) (hb : b ≤ (gS g a).length) (h4 : (gS g a).length < 40) :
    ∃ I', zM_puts0_76_99 (jn a) (jn b) (jn c) I = some I' ∧ (∀ k j, ¬ k = 99 → I' k j = I k j) ∧ jRR (I' 99) (gRp g a ((gS g a).insertIdx b c)) := by
  have h5 := hg.1
  obtain ⟨K, e, k1, k2, k3⟩ := jm_putsL5 (I := I) (x4 := jn c) (show a < 5 by omega) hb h4
  refine ⟨iq_upI (iq_upI K 99 (6 + 40 * a + b) (jn c)) 99 a (jn ((gS g a).length + 1)), ?_, fun k j hk => by rw [up_nk hk, up_nk hk, k1 k j hk], ?_, fun s hs => ?_, fun s i hs hi => ?_⟩
  · simp (disch := omega) only [zM_puts0_76_99, jRR_L hR, ir_let, jn_lt, jn_le, jn_in, jn_inj, jn_ne_m, jm_ne_n, jm_eq_m, jm_lt, jm_le, jn_lt_m, jn_le_m, jn_add, jn_mul, jn_clamp, jo_some, jn_min, jn_max, ↓jlm, jl0, jl1, jl2, jl3, jl4, jl5, jl6, jl7, jl8, jl9, jl10, jl11, jl12, jl13, jl14, jl15, jl16, jl20, jl24, jl32, jl39, jl40, jl41, jl60, jl61, jl80, jl96, jl97, jl99, jl100, jl122, jl126, jl199, jl200, jl205, jl206, jl255, jl256, jl410, jl700, jl950, jl1000, jl1000000, jl4000, jl8240, jl32767, if_pos, if_neg, ↓reduceIte, Option.bind_some, not_true_eq_false, not_false_eq_true, Nat.not_lt, Nat.not_le]
    rw [e, Option.bind_some]
    simp (disch := omega) only [up_nix a (6 + 40 * a + b) (by omega), k2, jRR_L hR, ir_let, jn_lt, jn_le, jn_in, jn_inj, jn_ne_m, jm_ne_n, jm_eq_m, jm_lt, jm_le, jn_lt_m, jn_le_m, jn_add, jn_mul, jn_clamp, jo_some, jn_min, jn_max, ↓jlm, jl0, jl1, jl2, jl3, jl4, jl5, jl6, jl7, jl8, jl9, jl10, jl11, jl12, jl13, jl14, jl15, jl16, jl20, jl24, jl32, jl39, jl40, jl41, jl60, jl61, jl80, jl96, jl97, jl99, jl100, jl122, jl126, jl199, jl200, jl205, jl206, jl255, jl256, jl410, jl700, jl950, jl1000, jl1000000, jl4000, jl8240, jl32767, if_pos, if_neg, ↓reduceIte, Option.bind_some, not_true_eq_false, not_false_eq_true, Nat.not_lt, Nat.not_le]
  · rw [up_ni (by omega), up_ni (by omega), k2 5 (by omega), jRR_D hR]; rfl
  · have hs' : s < gY g := hs
    by_cases q : s = a
    · subst q; rw [up_eq, gRp_S, jl_insl hb]
    · rw [up_ni q, up_ni (by omega), k2 s (by omega), gRp_T q, jRR_L hR s hs]
  · have hs' : s < gY g := hs
    rw [up_ni (by omega)]
    by_cases q : s = a
    · subst q
      rw [gRp_S, jl_insl hb] at hi
      rw [gRp_S, jl_ins hb]
      by_cases q1 : i < b
      · rw [if_pos q1, up_ni (by omega), k2 _ (by omega), jRR_W hR s i hs' (by omega)]
      · rw [if_neg q1]
        by_cases q2 : i = b
        · subst q2; rw [if_pos rfl, up_eq]
        · rw [if_neg q2, up_ni (by omega), k3 i (by omega) (by omega), jRR_W hR s (i - 1) hs' (by omega)]
    · rw [gRp_T q] at hi ⊢
      have h40 := hg.2.2.1 s hs'
      rw [up_ni (by omega), k2 _ (by omega), jRR_W hR s i hs' hi]
theorem jm_ruleL5 {I : iq_I} {m : jMu} {g : jGa} (hm : mOk m) (hg : gOk m g) (hR : jRR (I 99) g) {y w : Nat} {x1 : Int32} (hy : y < gY g) (hw : w < mW m) : zM_rule_76_99_l6 x1 (jn y) (jn w) I ir_F ((0 : Int32), (0 : Int32)) = some (jn (gTm g y w)) := by
  have h5 := hg.1
  have h14 := hm.2.1
  have h40 := hg.2.2.1 y hy
  have key : zM_rule_76_99_l6 x1 (jn y) (jn w) I ir_F (jn 0, jn 0) = some (jn (gTm g y w)) := by
    refine js_seq (fun i => (jn (jcn i (pTm g y w)), jn i)) (gS g y).length _ (fun i hi => ?_) ?_ (gS g y).length 0 ir_F (by omega) (by unfold ir_F; omega)
    · have hw2 := hg.2.2.2.1 y i hy hi
      by_cases e : (gS g y).getD i 0 = w
      · have e1 : pTm g y w i = true := decide_eq_true e
        simp (disch := omega) only [zM_rule_76_99_l6_b, jRR_L hR, jm_wordAt5 hg hR hy hi, jcnS1 e1, ir_let, jn_lt, jn_le, jn_in, jn_inj, jn_ne_m, jm_ne_n, jm_eq_m, jm_lt, jm_le, jn_lt_m, jn_le_m, jn_add, jn_mul, jn_clamp, jo_some, jn_min, jn_max, ↓jlm, jl0, jl1, jl2, jl3, jl4, jl5, jl6, jl7, jl8, jl9, jl10, jl11, jl12, jl13, jl14, jl15, jl16, jl20, jl24, jl32, jl39, jl40, jl41, jl60, jl61, jl80, jl96, jl97, jl99, jl100, jl122, jl126, jl199, jl200, jl205, jl206, jl255, jl256, jl410, jl700, jl950, jl1000, jl1000000, jl4000, jl8240, jl32767, if_pos, if_neg, ↓reduceIte, Option.bind_some, not_true_eq_false, not_false_eq_true, Nat.not_lt, Nat.not_le]
        try rfl
      · have e1 : pTm g y w i = false := decide_eq_false e
        simp (disch := omega) only [zM_rule_76_99_l6_b, jRR_L hR, jm_wordAt5 hg hR hy hi, jcnS0 e1, ir_let, jn_lt, jn_le, jn_in, jn_inj, jn_ne_m, jm_ne_n, jm_eq_m, jm_lt, jm_le, jn_lt_m, jn_le_m, jn_add, jn_mul, jn_clamp, jo_some, jn_min, jn_max, ↓jlm, jl0, jl1, jl2, jl3, jl4, jl5, jl6, jl7, jl8, jl9, jl10, jl11, jl12, jl13, jl14, jl15, jl16, jl20, jl24, jl32, jl39, jl40, jl41, jl60, jl61, jl80, jl96, jl97, jl99, jl100, jl122, jl126, jl199, jl200, jl205, jl206, jl255, jl256, jl410, jl700, jl950, jl1000, jl1000000, jl4000, jl8240, jl32767, if_pos, if_neg, ↓reduceIte, Option.bind_some, not_true_eq_false, not_false_eq_true, Nat.not_lt, Nat.not_le]
        try rfl
    · simp (disch := omega) only [zM_rule_76_99_l6_b, jRR_L hR, ir_let, jn_lt, jn_le, jn_in, jn_inj, jn_ne_m, jm_ne_n, jm_eq_m, jm_lt, jm_le, jn_lt_m, jn_le_m, jn_add, jn_mul, jn_clamp, jo_some, jn_min, jn_max, ↓jlm, jl0, jl1, jl2, jl3, jl4, jl5, jl6, jl7, jl8, jl9, jl10, jl11, jl12, jl13, jl14, jl15, jl16, jl20, jl24, jl32, jl39, jl40, jl41, jl60, jl61, jl80, jl96, jl97, jl99, jl100, jl122, jl126, jl199, jl200, jl205, jl206, jl255, jl256, jl410, jl700, jl950, jl1000, jl1000000, jl4000, jl8240, jl32767, if_pos, if_neg, ↓reduceIte, Option.bind_some, not_true_eq_false, not_false_eq_true, Nat.not_lt, Nat.not_le]
      try rfl
  exact key
