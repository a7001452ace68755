/-! ===== mend ===== -/
def oMin : Option Nat → Option Nat → Option Nat
  | none, b => b
  | some a, none => some a
  | some a, some b => some (min a b)
def mB (f : Nat → Option Nat) : Nat → Option Nat
  | 0 => none
  | w + 1 => oMin (mB f w) (f w)
theorem mB_at {f : Nat → Option Nat} : ∀ {n v : Nat}, mB f n = some v → (∃ w, w < n ∧ f w = some v) ∧ ∀ w u, w < n → f w = some u → v ≤ u
  | 0, v, h => by cases h
  | n + 1, v, h => by
    unfold mB at h
    cases h1 : mB f n with
    | none =>
      rw [h1] at h
      have h : f n = some v := h
      have hn : ∀ w, w < n → f w = none := by
        have : ∀ k, mB f k = none → ∀ w, w < k → f w = none := by
          intro k
          induction k with
          | zero => intro _ w hw; omega
          | succ k ih =>
            intro hk w hw
            unfold mB at hk
            cases a : mB f k with
            | none =>
              rw [a] at hk
              by_cases e : w = k
              · subst e; exact hk
              · exact ih a w (by omega)
            | some q => rw [a] at hk; cases b : f k <;> rw [b] at hk <;> cases hk
        exact this n h1
      refine ⟨⟨n, by omega, h⟩, fun w u hw hu => ?_⟩
      by_cases e : w = n
      · subst e; rw [h] at hu; cases hu; exact Nat.le_refl _
      · rw [hn w (by omega)] at hu; cases hu
    | some a =>
      obtain ⟨⟨w0, hw0, hf0⟩, hl⟩ := mB_at h1
      rw [h1] at h
      cases h2 : f n with
      | none =>
        rw [h2] at h
        cases h
        refine ⟨⟨w0, by omega, hf0⟩, fun w u hw hu => ?_⟩
        by_cases e : w = n
        · subst e; rw [h2] at hu; cases hu
        · exact hl w u (by omega) hu
      | some b =>
        rw [h2] at h
        have h : min a b = v := Option.some.inj h
        refine ⟨?_, fun w u hw hu => ?_⟩
        · by_cases e : a ≤ b
          · exact ⟨w0, by omega, by rw [hf0]; congr 1; omega⟩
          · exact ⟨n, by omega, by rw [h2]; congr 1; omega⟩
        · by_cases e : w = n
          · subst e; rw [h2] at hu; cases hu; omega
          · have := hl w u (by omega) hu; omega
theorem mB_none {f : Nat → Option Nat} : ∀ {n : Nat}, (∀ w, w < n → f w = none) → mB f n = none
  | 0, _ => rfl
  | n + 1, h => by
    unfold mB
    rw [mB_none (n := n) (fun w hw => h w (by omega)), h n (by omega)]; rfl
theorem mB_cg {f f' : Nat → Option Nat} : ∀ {n : Nat}, (∀ w, w < n → f w = f' w) → mB f n = mB f' n
  | 0, _ => rfl
  | n + 1, h => by
    unfold mB
    rw [mB_cg (n := n) (fun w hw => h w (by omega)), h n (by omega)]
/-- the fewest changes in the last r words, from state s -/
def mF (m : jMu) (g : jGa) (y r : Nat) (D : Nat → Option Nat) (s w : Nat) : Option Nat := (mLd m s w).bind fun t => (D t).map fun c => c + (if gW g y ((gS g y).length - (r + 1)) = w then 0 else 1)
def mD (m : jMu) (g : jGa) (y : Nat) : Nat → Nat → Option Nat
  | 0 => fun _ => some 0
  | r + 1 => fun s => mB (mF m g y r (mD m g y r) s) (mW m)
theorem mD_le {m : jMu} {g : jGa} {y : Nat} : ∀ r s v, mD m g y r s = some v → v ≤ r
  | 0, s, v, h => by cases h; exact Nat.le_refl _
  | r + 1, s, v, h => by
    obtain ⟨⟨w, hw, hf⟩, _⟩ := mB_at (show mB (mF m g y r (mD m g y r) s) (mW m) = some v from h)
    unfold mF at hf
    cases h1 : mLd m s w with
    | none => rw [h1] at hf; cases hf
    | some t =>
      rw [h1] at hf
      cases h2 : mD m g y r t with
      | none => simp [h2] at hf
      | some c =>
        simp only [Option.bind_some, h2, Option.map_some, Option.some.injEq] at hf
        have := mD_le r t c h2
        split at hf <;> omega
theorem mB_le {m : jMu} {g : jGa} {y r s : Nat} : ∀ k v, k ≤ mW m → mB (mF m g y r (mD m g y r) s) k = some v → v ≤ r + 1 := fun k v hk h => by
  obtain ⟨⟨w, hw, hf⟩, _⟩ := mB_at h
  unfold mF at hf
  cases h1 : mLd m s w with
  | none => rw [h1] at hf; cases hf
  | some t =>
    rw [h1] at hf
    cases h2 : mD m g y r t with
    | none => simp [h2] at hf
    | some c =>
      simp only [Option.bind_some, h2, Option.map_some, Option.some.injEq] at hf
      have := mD_le r t c h2
      split at hf <;> omega
/-- the class's table -/
def jT75 (I : iq_I) (m : jMu) (g : jGa) (y i : Nat) : Prop := ∀ r s, r < i → s < mS m → I 75 (((gS g y).length - r) * 10 + s) = jn ((mD m g y r s).getD 1000)
theorem getD_le {o : Option Nat} {k d : Nat} (h : ∀ v, o = some v → v ≤ k) (hk : k ≤ d) : o.getD d ≤ d := by
  cases o with
  | none => exact Nat.le_refl _
  | some v => exact Nat.le_trans (h v rfl) hk
theorem jc_fewestFrom {I : iq_I} {m : jMu} {g : jGa} {y i : Nat} (hm : mOk m) (hU : jRU I m) (hl : (gS g y).length ≤ 40) (hT : jT75 I m g y i) {r : Nat} (hr : r < i) (hr2 : r ≤ (gS g y).length) {o : Option Nat} (ho : ∀ t, o = some t → t < mS m) :
    zW_fewestFrom (jn ((gS g y).length - r)) (jo o) I = some (jn ((o.bind (mD m g y r)).getD 1000)) := by
  have h10 := hm.1
  cases o with
  | none => simp (disch := omega) only [zW_fewestFrom, ir_let, jn_lt, jn_le, jn_in, jn_inj, jn_ne_m, jm_ne_n, jm_eq_m, jm_lt, jm_le, jn_lt_m, jn_le_m, jn_add, jn_mul, jn_clamp, jo_some, jn_min, jn_max, ↓jlm, jl0, jl1, jl2, jl3, jl4, jl5, jl6, jl7, jl8, jl9, jl10, jl11, jl12, jl13, jl14, jl15, jl16, jl20, jl24, jl32, jl39, jl40, jl41, jl60, jl61, jl80, jl96, jl97, jl99, jl100, jl122, jl126, jl199, jl200, jl205, jl206, jl255, jl256, jl410, jl700, jl950, jl1000, jl1000000, jl4000, jl8240, jl32767, if_pos, if_neg, ↓reduceIte, Option.bind_some, not_true_eq_false, not_false_eq_true, Nat.not_lt, Nat.not_le, Option.bind_none, Option.getD_none]
  | some t =>
    have ht := ho t rfl
    have := hT r t hr ht
    simp (disch := omega) only [zW_fewestFrom, jRU_S hU, this, ir_let, jn_lt, jn_le, jn_in, jn_inj, jn_ne_m, jm_ne_n, jm_eq_m, jm_lt, jm_le, jn_lt_m, jn_le_m, jn_add, jn_mul, jn_clamp, jo_some, jn_min, jn_max, ↓jlm, jl0, jl1, jl2, jl3, jl4, jl5, jl6, jl7, jl8, jl9, jl10, jl11, jl12, jl13, jl14, jl15, jl16, jl20, jl24, jl32, jl39, jl40, jl41, jl60, jl61, jl80, jl96, jl97, jl99, jl100, jl122, jl126, jl199, jl200, jl205, jl206, jl255, jl256, jl410, jl700, jl950, jl1000, jl1000000, jl4000, jl8240, jl32767, if_pos, if_neg, ↓reduceIte, Option.bind_some, not_true_eq_false, not_false_eq_true, Nat.not_lt, Nat.not_le]
theorem jc_fewestBy {I : iq_I} {m : jMu} {g : jGa} {y i : Nat} (hm : mOk m) (hU : jRU I m) (hg : gOk m g) (hG : jRG I 16 17 18 24 g) (hy : y < gY g) (hT : jT75 I m g y i) {r s w : Nat} (hr : r < i) (hr2 : r < (gS g y).length) (hs : s < mS m) (hw : w < mW m) :
    zW_fewestBy (jn y) (jn ((gS g y).length - (r + 1))) (jn s) (jn w) I = some (jn ((if gW g y ((gS g y).length - (r + 1)) = w then 0 else 1) + ((mLd m s w).bind (mD m g y r)).getD 1000)) := by
  have h40 := hg.2.2.1 y hy
  have h14 := hm.2.1
  have hwi := gW_lt hm hg hy (show (gS g y).length - (r + 1) < (gS g y).length by omega)
  have wa : zG_wordAt_16 (jn y) (jn ((gS g y).length - (r + 1))) I = some (jn (gW g y ((gS g y).length - (r + 1)))) := jc_wordAt hg hG hy (by omega)
  have ff := jc_fewestFrom hm hU h40 hT hr (by omega) (o := mLd m s w) (fun t ht => mLd_lt hm hs hw ht)
  rw [show (gS g y).length - r = (gS g y).length - (r + 1) + 1 by omega] at ff
  by_cases e : gW g y ((gS g y).length - (r + 1)) = w
  · rw [if_pos e]
    simp (disch := omega) only [zW_fewestBy, zW_fewestBy_16, wa, jc_leadsTo hm hU hs hw, ir_let, jn_lt, jn_le, jn_in, jn_inj, jn_ne_m, jm_ne_n, jm_eq_m, jm_lt, jm_le, jn_lt_m, jn_le_m, jn_add, jn_mul, jn_clamp, jo_some, jn_min, jn_max, ↓jlm, jl0, jl1, jl2, jl3, jl4, jl5, jl6, jl7, jl8, jl9, jl10, jl11, jl12, jl13, jl14, jl15, jl16, jl20, jl24, jl32, jl39, jl40, jl41, jl60, jl61, jl80, jl96, jl97, jl99, jl100, jl122, jl126, jl199, jl200, jl205, jl206, jl255, jl256, jl410, jl700, jl950, jl1000, jl1000000, jl4000, jl8240, jl32767, if_pos, if_neg, ↓reduceIte, Option.bind_some, not_true_eq_false, not_false_eq_true, Nat.not_lt, Nat.not_le, ff, e]
  · rw [if_neg e]
    simp (disch := omega) only [zW_fewestBy, zW_fewestBy_16, wa, jc_leadsTo hm hU hs hw, ir_let, jn_lt, jn_le, jn_in, jn_inj, jn_ne_m, jm_ne_n, jm_eq_m, jm_lt, jm_le, jn_lt_m, jn_le_m, jn_add, jn_mul, jn_clamp, jo_some, jn_min, jn_max, ↓jlm, jl0, jl1, jl2, jl3, jl4, jl5, jl6, jl7, jl8, jl9, jl10, jl11, jl12, jl13, jl14, jl15, jl16, jl20, jl24, jl32, jl39, jl40, jl41, jl60, jl61, jl80, jl96, jl97, jl99, jl100, jl122, jl126, jl199, jl200, jl205, jl206, jl255, jl256, jl410, jl700, jl950, jl1000, jl1000000, jl4000, jl8240, jl32767, if_pos, if_neg, ↓reduceIte, Option.bind_some, not_true_eq_false, not_false_eq_true, Nat.not_lt, Nat.not_le, ff]
theorem mF_get {m : jMu} {g : jGa} {y r s w : Nat} (a : Option Nat) (ha : ∀ v, a = some v → v ≤ 100) (hr : r ≤ 40) : (oMin a (mF m g y r (mD m g y r) s w)).getD 1000 = min (a.getD 1000) ((if gW g y ((gS g y).length - (r + 1)) = w then 0 else 1) + ((mLd m s w).bind (mD m g y r)).getD 1000) := by
  unfold mF
  cases h1 : mLd m s w with
  | none =>
    cases a with
    | none => simp only [oMin, Option.bind_none, Option.getD_none]; split <;> omega
    | some v => simp only [oMin, Option.bind_none, Option.getD_none, Option.getD_some]; have := ha v rfl; split <;> omega
  | some t =>
    cases h2 : mD m g y r t with
    | none =>
      cases a with
      | none => simp only [oMin, Option.bind_some, h2, Option.map_none, Option.getD_none]; split <;> omega
      | some v => simp only [oMin, Option.bind_some, h2, Option.map_none, Option.getD_none, Option.getD_some]; have := ha v rfl; split <;> omega
    | some c =>
      have := mD_le r t c h2
      cases a with
      | none => simp only [oMin, Option.bind_some, h2, Option.map_some, Option.getD_some, Option.getD_none]; split <;> omega
      | some v => simp only [oMin, Option.bind_some, h2, Option.map_some, Option.getD_some]; have := ha v rfl; split <;> omega
theorem jc_fewestAt {I : iq_I} {m : jMu} {g : jGa} {y i : Nat} (hm : mOk m) (hU : jRU I m) (hg : gOk m g) (hG : jRG I 16 17 18 24 g) (hy : y < gY g) (hT : jT75 I m g y i) {r s : Nat} (hr : r < i) (hr2 : r < (gS g y).length) (hs : s < mS m) :
    zW_fewestAt (jn y) (jn ((gS g y).length - (r + 1))) (jn s) I = some (jn ((mD m g y (r + 1) s).getD 1000)) := by
  have h40 := hg.2.2.1 y hy
  have h14 := hm.2.1
  have key : zW_fewestAt_l8 (jn y) (jn ((gS g y).length - (r + 1))) (jn s) I ir_F (jn 1000, jn 0) = some (jn ((mD m g y (r + 1) s).getD 1000)) := by
    refine js_seq (fun k => (jn ((mB (mF m g y r (mD m g y r) s) k).getD 1000), jn k)) (mW m) _ (fun k hk => ?_) ?_ (mW m) 0 ir_F (by omega) (by unfold ir_F; omega)
    · have b1 : (mB (mF m g y r (mD m g y r) s) k).getD 1000 ≤ 1000 := getD_le (fun v hv => mB_le k v (by omega) hv) (by omega)
      have b2 : ((mLd m s k).bind (mD m g y r)).getD 1000 ≤ 1000 := getD_le (k := r) (fun v hv => by
        cases h1 : mLd m s k with
        | none => rw [h1] at hv; cases hv
        | some t => rw [h1] at hv; exact mD_le r t v hv) (by omega)
      have b3 : (if gW g y ((gS g y).length - (r + 1)) = k then 0 else 1) ≤ 1 := by split <;> omega
      simp (disch := omega) only [zW_fewestAt_l8_b, jRU_W hU, jc_fewestBy hm hU hg hG hy hT hr hr2 hs hk, ir_let, jn_lt, jn_le, jn_in, jn_inj, jn_ne_m, jm_ne_n, jm_eq_m, jm_lt, jm_le, jn_lt_m, jn_le_m, jn_add, jn_mul, jn_clamp, jo_some, jn_min, jn_max, ↓jlm, jl0, jl1, jl2, jl3, jl4, jl5, jl6, jl7, jl8, jl9, jl10, jl11, jl12, jl13, jl14, jl15, jl16, jl20, jl24, jl32, jl39, jl40, jl41, jl60, jl61, jl80, jl96, jl97, jl99, jl100, jl122, jl126, jl199, jl200, jl205, jl206, jl255, jl256, jl410, jl700, jl950, jl1000, jl1000000, jl4000, jl8240, jl32767, if_pos, if_neg, ↓reduceIte, Option.bind_some, not_true_eq_false, not_false_eq_true, Nat.not_lt, Nat.not_le]
      congr 3
      rw [← mF_get _ (fun v hv => by have := mB_le k v (by omega) hv; omega) (by omega)]
      rfl
    · simp (disch := omega) only [zW_fewestAt_l8_b, jRU_W hU, ir_let, jn_lt, jn_le, jn_in, jn_inj, jn_ne_m, jm_ne_n, jm_eq_m, jm_lt, jm_le, jn_lt_m, jn_le_m, jn_add, jn_mul, jn_clamp, jo_some, jn_min, jn_max, ↓jlm, jl0, jl1, jl2, jl3, jl4, jl5, jl6, jl7, jl8, jl9, jl10, jl11, jl12, jl13, jl14, jl15, jl16, jl20, jl24, jl32, jl39, jl40, jl41, jl60, jl61, jl80, jl96, jl97, jl99, jl100, jl122, jl126, jl199, jl200, jl205, jl206, jl255, jl256, jl410, jl700, jl950, jl1000, jl1000000, jl4000, jl8240, jl32767, if_pos, if_neg, ↓reduceIte, Option.bind_some, not_true_eq_false, not_false_eq_true, Nat.not_lt, Nat.not_le]
      rfl
  have key' : zW_fewestAt_l8 (jn y) (jn ((gS g y).length - (r + 1))) (jn s) I ir_F ((1000 : Int32), (0 : Int32)) = some (jn ((mD m g y (r + 1) s).getD 1000)) := key
  simp only [zW_fewestAt, key', ir_let, iq_sm, ir_sm, jzE, j10, Option.bind_some, ↓reduceIte, not_true_eq_false, not_false_eq_true]
