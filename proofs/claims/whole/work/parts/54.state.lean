/-! ===== the state of a saying ===== -/
def mSt (m : jMu) (ws : List Nat) (but : Option Nat) : Nat → Nat → Option Nat → Option Nat
  | 0, _, o => o
  | _ + 1, _, none => none
  | k + 1, i, some s => mSt m ws but k (i + 1) (if but = some i then some s else mLd m s (ws.getD i 0))
theorem mSt_lt {m : jMu} (hm : mOk m) {ws : List Nat} {but : Option Nat} (hw : ∀ i, i < ws.length → ws.getD i 0 < mW m) : ∀ (k i : Nat) (o : Option Nat), i + k = ws.length → (∀ s, o = some s → s < mS m) → ∀ t, mSt m ws but k i o = some t → t < mS m
  | 0, _, o, _, ho, t, h => ho t h
  | k + 1, i, none, _, _, t, h => by cases h
  | k + 1, i, some s, hi, ho, t, h => by
    refine mSt_lt hm hw k (i + 1) _ (by omega) ?_ t h
    intro u hu
    by_cases e : but = some i
    · rw [if_pos e] at hu; cases hu; exact ho _ rfl
    · rw [if_neg e] at hu
      exact mLd_lt hm (ho s rfl) (hw i (by omega)) hu
theorem js_1 {V W : Type} {body : V → Option (V ⊕ W)} {n : Nat} {v v' : V} (h : body v = some (.inl v')) : iq_lp body (n + 1) v = iq_lp body n v' := by
  conv => lhs; unfold iq_lp
  rw [h]
theorem js_0 {V W : Type} {body : V → Option (V ⊕ W)} {n : Nat} {v : V} {w : W} (h : body v = some (.inr w)) : iq_lp body (n + 1) v = some w := by
  unfold iq_lp
  rw [h]
theorem jc_stF {I : iq_I} {m : jMu} {g : jGa} (hm : mOk m) (hU : jRU I m) (hg : gOk m g) (hG : jRG I 16 17 18 24 g) {y : Nat} (hy : y < gY g) {but : Option Nat} (hb : ∀ b, but = some b → b < 2147483648) :
    ∀ (k i : Nat) (o : Option Nat) (n : Nat), i + k = (gS g y).length → (∀ s, o = some s → s < mS m) → k < n → zU_stateFrom_4_16_l13 (jn y) (jo but) (jn (gS g y).length) I n (jo o, jn i) = some (jo (mSt m (gS g y) but k i o)) := by
  have h40 := hg.2.2.1 y hy
  have h10 := hm.1
  intro k
  induction k with
  | zero =>
    intro i o n hi ho hn
    obtain ⟨n, rfl⟩ : ∃ n', n = n' + 1 := ⟨n - 1, by omega⟩
    refine js_0 ?_
    simp (disch := omega) only [zU_stateFrom_4_16_l13_b, ir_let, jn_lt, jn_le, jn_in, jn_inj, jn_ne_m, jm_ne_n, jm_eq_m, jm_lt, jm_le, jn_lt_m, jn_le_m, jn_add, jn_mul, jn_clamp, jo_some, jn_min, jn_max, ↓jlm, jl0, jl1, jl2, jl3, jl4, jl5, jl6, jl7, jl8, jl9, jl10, jl11, jl12, jl13, jl14, jl15, jl16, jl20, jl24, jl32, jl39, jl40, jl41, jl60, jl61, jl80, jl96, jl97, jl99, jl100, jl122, jl126, jl199, jl200, jl205, jl206, jl255, jl256, jl410, jl700, jl950, jl1000, jl1000000, jl4000, jl8240, jl32767, if_pos, if_neg, ↓reduceIte, Option.bind_some, not_true_eq_false, not_false_eq_true, Nat.not_lt, Nat.not_le]
    rfl
  | succ k ih =>
    intro i o n hi ho hn
    obtain ⟨n, rfl⟩ : ∃ n', n = n' + 1 := ⟨n - 1, by omega⟩
    cases o with
    | none =>
      refine js_0 ?_
      simp (disch := omega) only [zU_stateFrom_4_16_l13_b, ir_let, jn_lt, jn_le, jn_in, jn_inj, jn_ne_m, jm_ne_n, jm_eq_m, jm_lt, jm_le, jn_lt_m, jn_le_m, jn_add, jn_mul, jn_clamp, jo_some, jn_min, jn_max, ↓jlm, jl0, jl1, jl2, jl3, jl4, jl5, jl6, jl7, jl8, jl9, jl10, jl11, jl12, jl13, jl14, jl15, jl16, jl20, jl24, jl32, jl39, jl40, jl41, jl60, jl61, jl80, jl96, jl97, jl99, jl100, jl122, jl126, jl199, jl200, jl205, jl206, jl255, jl256, jl410, jl700, jl950, jl1000, jl1000000, jl4000, jl8240, jl32767, if_pos, if_neg, ↓reduceIte, Option.bind_some, not_true_eq_false, not_false_eq_true, Nat.not_lt, Nat.not_le]
      rfl
    | some s =>
      have hs := ho s rfl
      have hw := hg.2.2.2.1 y i hy (by omega)
      by_cases e : but = some i
      · refine (js_1 (v' := (jn s, jn (i + 1))) ?_).trans ?_
        · subst e
          simp (disch := omega) only [zU_stateFrom_4_16_l13_b, ir_let, jn_lt, jn_le, jn_in, jn_inj, jn_ne_m, jm_ne_n, jm_eq_m, jm_lt, jm_le, jn_lt_m, jn_le_m, jn_add, jn_mul, jn_clamp, jo_some, jn_min, jn_max, ↓jlm, jl0, jl1, jl2, jl3, jl4, jl5, jl6, jl7, jl8, jl9, jl10, jl11, jl12, jl13, jl14, jl15, jl16, jl20, jl24, jl32, jl39, jl40, jl41, jl60, jl61, jl80, jl96, jl97, jl99, jl100, jl122, jl126, jl199, jl200, jl205, jl206, jl255, jl256, jl410, jl700, jl950, jl1000, jl1000000, jl4000, jl8240, jl32767, if_pos, if_neg, ↓reduceIte, Option.bind_some, not_true_eq_false, not_false_eq_true, Nat.not_lt, Nat.not_le]
        · refine Eq.trans (ih (i + 1) (some s) n (by omega) ho (by omega)) ?_
          conv => rhs; unfold mSt
          rw [if_pos e]
      · refine (js_1 (v' := (jo (mLd m s ((gS g y).getD i 0)), jn (i + 1))) ?_).trans ?_
        · have e2 : ¬ jn i = jo but := by
            rw [← jo_some, jo_inj (fun n h => by cases h; omega) hb]
            exact fun h => e h.symm
          simp (disch := omega) only [zU_stateFrom_4_16_l13_b, e2, jc_wordAt hg hG hy, jc_leadsTo hm hU, ir_let, jn_lt, jn_le, jn_in, jn_inj, jn_ne_m, jm_ne_n, jm_eq_m, jm_lt, jm_le, jn_lt_m, jn_le_m, jn_add, jn_mul, jn_clamp, jo_some, jn_min, jn_max, ↓jlm, jl0, jl1, jl2, jl3, jl4, jl5, jl6, jl7, jl8, jl9, jl10, jl11, jl12, jl13, jl14, jl15, jl16, jl20, jl24, jl32, jl39, jl40, jl41, jl60, jl61, jl80, jl96, jl97, jl99, jl100, jl122, jl126, jl199, jl200, jl205, jl206, jl255, jl256, jl410, jl700, jl950, jl1000, jl1000000, jl4000, jl8240, jl32767, if_pos, if_neg, ↓reduceIte, Option.bind_some, not_true_eq_false, not_false_eq_true, Nat.not_lt, Nat.not_le]
        · refine Eq.trans (ih (i + 1) _ n (by omega) (fun t ht => mLd_lt hm hs hw ht) (by omega)) ?_
          conv => rhs; unfold mSt
          rw [if_neg e]
/-- the state of saying y of g, one word left out -/
def gSt (m : jMu) (g : jGa) (y b : Nat) (but : Option Nat) : Option Nat := mSt m (gS g y) but (gS g y).length 0 (some b)
theorem gSt_lt {m : jMu} {g : jGa} (hm : mOk m) (hg : gOk m g) {y b t : Nat} {but : Option Nat} (hy : y < gY g) (hb : b < mS m) (h : gSt m g y b but = some t) : t < mS m :=
  mSt_lt hm (fun i hi => hg.2.2.2.1 y i hy hi) _ _ _ (by omega) (fun s hs => by cases hs; exact hb) t h
theorem jc_stateFrom {I : iq_I} {m : jMu} {g : jGa} (hm : mOk m) (hU : jRU I m) (hg : gOk m g) (hG : jRG I 16 17 18 24 g) {y b : Nat} (hy : y < gY g) (hbS : b < mS m) {but : Option Nat} (hb : ∀ b, but = some b → b < 2147483648) :
    zU_stateFrom_4_16 (jn y) (jn b) (jo but) I = some (jo (gSt m g y b but)) := by
  have h40 := hg.2.2.1 y hy
  unfold zU_stateFrom_4_16
  rw [jc_lengthOf hg hG hy]
  have := jc_stF hm hU hg hG hy hb (gS g y).length 0 (some b) ir_F (by omega) (fun s hs => by cases hs; exact hbS) (by unfold ir_F; omega)
  rw [Option.bind_some, show ((jn b, (0 : Int32)) : Int32 × Int32) = (jo (some b), jn 0) from rfl, this]
  rfl
theorem jc_stateOf {I : iq_I} {m : jMu} {g : jGa} (hm : mOk m) (hU : jRU I m) (hg : gOk m g) (hG : jRG I 16 17 18 24 g) {y : Nat} (hy : y < gY g) : zU_stateOf_4_16 (jn y) I = some (jo (gSt m g y (gB g y) none)) := by
  unfold zU_stateOf_4_16
  rw [jc_beginOf hg hG hy, Option.bind_some, show (-1 : Int32) = jo none from rfl, jc_stateFrom hm hU hg hG hy (hg.2.1 y hy) (fun b h => by cases h)]
  rfl
theorem jm_stF {I : iq_I} {m : jMu} {g : jGa} (hm : mOk m) (hN : jRN I m) (hg : gOk m g) (hR : jRR (I 98) g) {y : Nat} (hy : y < gY g) {but : Option Nat} (hb : ∀ b, but = some b → b < 2147483648) :
    ∀ (k i : Nat) (o : Option Nat) (n : Nat), i + k = (gS g y).length → (∀ s, o = some s → s < mS m) → k < n → zM_stateOf_76_98_l6 (jn y) (jo but) I n (jo o, jn i) = some (jo (mSt m (gS g y) but k i o)) := by
  have h40 := hg.2.2.1 y hy
  have h5 := hg.1
  have h10 := hm.1
  intro k
  induction k with
  | zero =>
    intro i o n hi ho hn
    obtain ⟨n, rfl⟩ : ∃ n', n = n' + 1 := ⟨n - 1, by omega⟩
    refine js_0 ?_
    simp (disch := omega) only [zM_stateOf_76_98_l6_b, jRR_L hR, ir_let, jn_lt, jn_le, jn_in, jn_inj, jn_ne_m, jm_ne_n, jm_eq_m, jm_lt, jm_le, jn_lt_m, jn_le_m, jn_add, jn_mul, jn_clamp, jo_some, jn_min, jn_max, ↓jlm, jl0, jl1, jl2, jl3, jl4, jl5, jl6, jl7, jl8, jl9, jl10, jl11, jl12, jl13, jl14, jl15, jl16, jl20, jl24, jl32, jl39, jl40, jl41, jl60, jl61, jl80, jl96, jl97, jl99, jl100, jl122, jl126, jl199, jl200, jl205, jl206, jl255, jl256, jl410, jl700, jl950, jl1000, jl1000000, jl4000, jl8240, jl32767, if_pos, if_neg, ↓reduceIte, Option.bind_some, not_true_eq_false, not_false_eq_true, Nat.not_lt, Nat.not_le]
    rfl
  | succ k ih =>
    intro i o n hi ho hn
    obtain ⟨n, rfl⟩ : ∃ n', n = n' + 1 := ⟨n - 1, by omega⟩
    cases o with
    | none =>
      refine js_0 ?_
      simp (disch := omega) only [zM_stateOf_76_98_l6_b, jRR_L hR, ir_let, jn_lt, jn_le, jn_in, jn_inj, jn_ne_m, jm_ne_n, jm_eq_m, jm_lt, jm_le, jn_lt_m, jn_le_m, jn_add, jn_mul, jn_clamp, jo_some, jn_min, jn_max, ↓jlm, jl0, jl1, jl2, jl3, jl4, jl5, jl6, jl7, jl8, jl9, jl10, jl11, jl12, jl13, jl14, jl15, jl16, jl20, jl24, jl32, jl39, jl40, jl41, jl60, jl61, jl80, jl96, jl97, jl99, jl100, jl122, jl126, jl199, jl200, jl205, jl206, jl255, jl256, jl410, jl700, jl950, jl1000, jl1000000, jl4000, jl8240, jl32767, if_pos, if_neg, ↓reduceIte, Option.bind_some, not_true_eq_false, not_false_eq_true, Nat.not_lt, Nat.not_le]
      rfl
    | some s =>
      have hs := ho s rfl
      have hw := hg.2.2.2.1 y i hy (by omega)
      by_cases e : but = some i
      · refine (js_1 (v' := (jn s, jn (i + 1))) ?_).trans ?_
        · subst e
          simp (disch := omega) only [zM_stateOf_76_98_l6_b, jRR_L hR, ir_let, jn_lt, jn_le, jn_in, jn_inj, jn_ne_m, jm_ne_n, jm_eq_m, jm_lt, jm_le, jn_lt_m, jn_le_m, jn_add, jn_mul, jn_clamp, jo_some, jn_min, jn_max, ↓jlm, jl0, jl1, jl2, jl3, jl4, jl5, jl6, jl7, jl8, jl9, jl10, jl11, jl12, jl13, jl14, jl15, jl16, jl20, jl24, jl32, jl39, jl40, jl41, jl60, jl61, jl80, jl96, jl97, jl99, jl100, jl122, jl126, jl199, jl200, jl205, jl206, jl255, jl256, jl410, jl700, jl950, jl1000, jl1000000, jl4000, jl8240, jl32767, if_pos, if_neg, ↓reduceIte, Option.bind_some, not_true_eq_false, not_false_eq_true, Nat.not_lt, Nat.not_le]
        · refine Eq.trans (ih (i + 1) (some s) n (by omega) ho (by omega)) ?_
          conv => rhs; unfold mSt
          rw [if_pos e]
      · refine (js_1 (v' := (jo (mLd m s ((gS g y).getD i 0)), jn (i + 1))) ?_).trans ?_
        · have e2 : ¬ jn i = jo but := by
            rw [← jo_some, jo_inj (fun n h => by cases h; omega) hb]
            exact fun h => e h.symm
          simp (disch := omega) only [zM_stateOf_76_98_l6_b, jRR_L hR, e2, jm_wordAt hg hR hy, jm_leads hm hN, ir_let, jn_lt, jn_le, jn_in, jn_inj, jn_ne_m, jm_ne_n, jm_eq_m, jm_lt, jm_le, jn_lt_m, jn_le_m, jn_add, jn_mul, jn_clamp, jo_some, jn_min, jn_max, ↓jlm, jl0, jl1, jl2, jl3, jl4, jl5, jl6, jl7, jl8, jl9, jl10, jl11, jl12, jl13, jl14, jl15, jl16, jl20, jl24, jl32, jl39, jl40, jl41, jl60, jl61, jl80, jl96, jl97, jl99, jl100, jl122, jl126, jl199, jl200, jl205, jl206, jl255, jl256, jl410, jl700, jl950, jl1000, jl1000000, jl4000, jl8240, jl32767, if_pos, if_neg, ↓reduceIte, Option.bind_some, not_true_eq_false, not_false_eq_true, Nat.not_lt, Nat.not_le]
        · refine Eq.trans (ih (i + 1) _ n (by omega) (fun t ht => mLd_lt hm hs hw ht) (by omega)) ?_
          conv => rhs; unfold mSt
          rw [if_neg e]
theorem jm_stateOf {I : iq_I} {m : jMu} {g : jGa} (hm : mOk m) (hN : jRN I m) (hg : gOk m g) (hR : jRR (I 98) g) {y b : Nat} (hy : y < gY g) (hbS : b < mS m) {but : Option Nat} (hb : ∀ b, but = some b → b < 2147483648) :
    zM_stateOf_76_98 (jn y) (jn b) (jo but) I = some (jo (gSt m g y b but)) := by
  have h40 := hg.2.2.1 y hy
  unfold zM_stateOf_76_98
  have := jm_stF hm hN hg hR hy hb (gS g y).length 0 (some b) ir_F (by omega) (fun s hs => by cases hs; exact hbS) (by unfold ir_F; omega)
  rw [show ((jn b, (0 : Int32)) : Int32 × Int32) = (jo (some b), jn 0) from rfl, this]
  rfl
theorem jm_stateNow {I : iq_I} {m : jMu} {g : jGa} (hm : mOk m) (hN : jRN I m) (hg : gOk m g) (hB : jRB I g) (hR : jRR (I 98) g) {y : Nat} (hy : y < gY g) : zM_stateNow_76_98 (jn y) I = some (jo (gSt m g y (gB g y) none)) := by
  have h5 := hg.1
  unfold zM_stateNow_76_98
  simp (disch := omega) only [jn_in, jn_clamp, hB.2 y hy, if_pos]
  rw [show (-1 : Int32) = jo none from rfl, jm_stateOf hm hN hg hR hy (hg.2.1 y hy) (fun b h => by cases h)]
  rfl
