/-! ===== ways ===== -/
def jlg (n : Nat) : Int64 := Int64.ofNat n
theorem jlg_add (a b : Nat) : jlg a + jlg b = jlg (a + b) := (Int64.ofNat_add a b).symm
theorem jlg_mul (a b : Nat) : jlg a * jlg b = jlg (a * b) := (Int64.ofNat_mul a b).symm
theorem jlg_of {c : Nat} (h : c < 2147483648) : (jn c).toInt64 = jlg c := Int64.toInt.inj (by
  rw [Int32.toInt_toInt64, jn_toInt h]
  exact (Int64.toInt_ofNat_of_lt (by omega)).symm)
theorem jsum_add (f g : Nat → Nat) : ∀ n, jsum (fun k => f k + g k) n = jsum f n + jsum g n
  | 0 => rfl
  | n + 1 => by
    show jsum (fun k => f k + g k) n + (f n + g n) = _
    rw [jsum_add f g n]
    show _ = (jsum f n + f n) + (jsum g n + g n)
    omega
theorem jsum_cg {f g : Nat → Nat} : ∀ {n : Nat}, (∀ k, k < n → f k = g k) → jsum f n = jsum g n
  | 0, _ => rfl
  | n + 1, h => by
    show jsum f n + f n = jsum g n + g n
    rw [jsum_cg (n := n) (fun k hk => h k (by omega)), h n (by omega)]
theorem jsum_0 {f : Nat → Nat} : ∀ {n : Nat}, (∀ k, k < n → f k = 0) → jsum f n = 0
  | 0, _ => rfl
  | n + 1, h => by
    show jsum f n + f n = 0
    rw [jsum_0 (n := n) (fun k hk => h k (by omega)), h n (by omega)]
theorem jsum_1 {h : Nat → Nat} {a : Nat} : ∀ {n : Nat}, a < n → jsum (fun k => if a = k then h k else 0) n = h a
  | 0, ha => by omega
  | n + 1, ha => by
    show jsum (fun k => if a = k then h k else 0) n + (if a = n then h n else 0) = h a
    by_cases e : a = n
    · rw [if_pos e, jsum_0 (fun k hk => by rw [if_neg (by omega)]), e]; omega
    · rw [if_neg e, jsum_1 (n := n) (by omega)]; omega
theorem wsum {K : Nat → Nat} {h : Nat → Nat} : ∀ {n : Nat}, (∀ w, w < n → K w < 8) → jsum (fun w => h (K w)) n = jsum (fun k => jcn n (fun w => decide (K w = k)) * h k) 8
  | 0, _ => (jsum_0 fun k _ => by show 0 * h k = 0; omega).symm
  | n + 1, hk => by
    show jsum (fun w => h (K w)) n + h (K n) = _
    rw [wsum (n := n) (fun w hw => hk w (by omega)), ← jsum_1 (h := h) (hk n (by omega)), ← jsum_add]
    refine jsum_cg fun k _ => ?_
    show _ = (jcn n (fun w => decide (K w = k)) + (if decide (K n = k) = true then 1 else 0)) * h k
    by_cases e : K n = k
    · rw [if_pos e, if_pos (decide_eq_true e), Nat.add_mul, Nat.one_mul]
    · rw [if_neg e, if_neg (by simp [e]), Nat.add_zero, Nat.add_zero]
def oV (f : Nat → Nat) : Option Nat → Nat
  | none => 0
  | some t => f t
def wF (m : jMu) (e : Bool) : Nat → Nat → Nat
  | 0 => fun s => if e = true ∧ mE m s = false then 0 else 1
  | n + 1 => fun s => jsum (fun w => oV (wF m e n) (mLd m s w)) (mW m)
theorem wF_k {m : jMu} (hm : mOk m) (e : Bool) (n s : Nat) : wF m e (n + 1) s = jsum (fun k => jcn (mW m) (fun w => decide (mK m w = k)) * oV (wF m e n) (mR m s k)) 8 :=
  wsum (K := mK m) (h := fun k => oV (wF m e n) (mR m s k)) (n := mW m) (fun w hw => (hm.2.2.1 w hw).2.2)
theorem upJ_eq {J : iq_J} {k i : Nat} {v : Int64} : iq_upJ J k i v k i = v := by simp [iq_upJ]
theorem upJ_nk {J : iq_J} {k i a j : Nat} {v : Int64} (h : ¬ a = k) : iq_upJ J k i v a j = J a j := by simp [iq_upJ, h]
theorem upJ_ni {J : iq_J} {k i j : Nat} {v : Int64} (h : ¬ j = i) : iq_upJ J k i v k j = J k j := by simp [iq_upJ, h]
theorem jc_wb {I : iq_I} {J : iq_J} {m : jMu} {e : Bool} {n : Nat} (hm : mOk m) (hU : jRU I m) (hJ : ∀ s, s < mS m → J 67 s = jlg (wF m e n s)) {s : Nat} (hs : s < mS m) : zP_waysByOneMore (jn s) I J = some (jlg (wF m e (n + 1) s)) := by
  have h10 := hm.1
  have key : zP_waysByOneMore_l5 (jn s) I J ir_F (jlg 0, jn 0) = some (jlg (wF m e (n + 1) s)) := by
    rw [wF_k hm]
    refine js_seq (fun i => (jlg (jsum (fun k => jcn (mW m) (fun w => decide (mK m w = k)) * oV (wF m e n) (mR m s k)) i), jn i)) 8 _ (fun i hi => ?_) ?_ 8 0 ir_F (by omega) (by unfold ir_F; omega)
    · have hl := jc_leadsBy hm hU hs hi
      have hc := jRU_c hU i hi
      have hcl := jcn_le (n := mW m) (P := fun w => decide (mK m w = i))
      have h14 := hm.2.1
      rw [← jsumS]
      cases hr : mR m s i with
      | none =>
        rw [hr] at hl
        simp (disch := omega) only [zP_waysByOneMore_l5_b, hl, ir_let, jn_lt, jn_le, jn_in, jn_inj, jn_ne_m, jm_ne_n, jm_eq_m, jm_lt, jm_le, jn_lt_m, jn_le_m, jn_add, jn_mul, jn_clamp, jo_some, jn_min, jn_max, ↓jlm, jl0, jl1, jl2, jl3, jl4, jl5, jl6, jl7, jl8, jl9, jl10, jl11, jl12, jl13, jl14, jl15, jl16, jl20, jl24, jl32, jl39, jl40, jl41, jl60, jl61, jl80, jl96, jl97, jl99, jl100, jl122, jl126, jl199, jl200, jl205, jl206, jl255, jl256, jl410, jl700, jl950, jl1000, jl1000000, jl4000, jl8240, jl32767, if_pos, if_neg, ↓reduceIte, Option.bind_some, not_true_eq_false, not_false_eq_true, Nat.not_lt, Nat.not_le, oV, Nat.mul_zero, Nat.add_zero]
      | some t =>
        have ht := hm.2.2.2.1 s i t hs hi hr
        rw [hr] at hl
        simp (disch := omega) only [zP_waysByOneMore_l5_b, hl, hc, hJ t ht, ir_let, jn_lt, jn_le, jn_in, jn_inj, jn_ne_m, jm_ne_n, jm_eq_m, jm_lt, jm_le, jn_lt_m, jn_le_m, jn_add, jn_mul, jn_clamp, jo_some, jn_min, jn_max, ↓jlm, jl0, jl1, jl2, jl3, jl4, jl5, jl6, jl7, jl8, jl9, jl10, jl11, jl12, jl13, jl14, jl15, jl16, jl20, jl24, jl32, jl39, jl40, jl41, jl60, jl61, jl80, jl96, jl97, jl99, jl100, jl122, jl126, jl199, jl200, jl205, jl206, jl255, jl256, jl410, jl700, jl950, jl1000, jl1000000, jl4000, jl8240, jl32767, if_pos, if_neg, ↓reduceIte, Option.bind_some, not_true_eq_false, not_false_eq_true, Nat.not_lt, Nat.not_le, oV, jlg_of, jlg_mul, jlg_add]
    · simp (disch := omega) only [zP_waysByOneMore_l5_b, ir_let, jn_lt, jn_le, jn_in, jn_inj, jn_ne_m, jm_ne_n, jm_eq_m, jm_lt, jm_le, jn_lt_m, jn_le_m, jn_add, jn_mul, jn_clamp, jo_some, jn_min, jn_max, ↓jlm, jl0, jl1, jl2, jl3, jl4, jl5, jl6, jl7, jl8, jl9, jl10, jl11, jl12, jl13, jl14, jl15, jl16, jl20, jl24, jl32, jl39, jl40, jl41, jl60, jl61, jl80, jl96, jl97, jl99, jl100, jl122, jl126, jl199, jl200, jl205, jl206, jl255, jl256, jl410, jl700, jl950, jl1000, jl1000000, jl4000, jl8240, jl32767, if_pos, if_neg, ↓reduceIte, Option.bind_some, not_true_eq_false, not_false_eq_true, Nat.not_lt, Nat.not_le]
  have key' : zP_waysByOneMore_l5 (jn s) I J ir_F ((0 : Int64), (0 : Int32)) = some (jlg (wF m e (n + 1) s)) := key
  simp only [zP_waysByOneMore, key', ir_let, iq_sm, ir_sm, jzE, j10, Option.bind_some, ↓reduceIte, not_true_eq_false, not_false_eq_true]
theorem jc_cw64 {I : iq_I} {J : iq_J} {m : jMu} {e : Bool} {n : Nat} {x1 x2 x4 : Int32} (hm : mOk m) (hU : jRU I m) (hJ : ∀ s, s < mS m → J 67 s = jlg (wF m e n s)) :
    ∃ J', zP_countWays_l64 x1 x2 x4 I ir_F (jn 0, J) = some J' ∧ (∀ s, s < mS m → J' 68 s = jlg (wF m e (n + 1) s)) := by
  have h10 := hm.1
  refine js_inv (fun i v => v.1 = jn i ∧ (∀ s, s < mS m → v.2 67 s = jlg (wF m e n s)) ∧ ∀ s, s < i → v.2 68 s = jlg (wF m e (n + 1) s)) (mS m) _ ?_ ?_ (mS m) 0 (jn 0, J) ir_F (by omega) ⟨rfl, hJ, fun s h => by omega⟩ (by unfold ir_F; omega)
  · rintro s ⟨x, J1⟩ hs ⟨hv, h1, h2⟩
    simp only at hv h1 h2
    subst hv
    refine ⟨(jn (s + 1), iq_upJ J1 68 s (jlg (wF m e (n + 1) s))), ?_, rfl, fun s' h => ?_, fun s' h => ?_⟩
    · simp (disch := omega) only [zP_countWays_l64_b, jRU_S hU, jc_wb hm hU h1 hs, ir_let, jn_lt, jn_le, jn_in, jn_inj, jn_ne_m, jm_ne_n, jm_eq_m, jm_lt, jm_le, jn_lt_m, jn_le_m, jn_add, jn_mul, jn_clamp, jo_some, jn_min, jn_max, ↓jlm, jl0, jl1, jl2, jl3, jl4, jl5, jl6, jl7, jl8, jl9, jl10, jl11, jl12, jl13, jl14, jl15, jl16, jl20, jl24, jl32, jl39, jl40, jl41, jl60, jl61, jl80, jl96, jl97, jl99, jl100, jl122, jl126, jl199, jl200, jl205, jl206, jl255, jl256, jl410, jl700, jl950, jl1000, jl1000000, jl4000, jl8240, jl32767, if_pos, if_neg, ↓reduceIte, Option.bind_some, not_true_eq_false, not_false_eq_true, Nat.not_lt, Nat.not_le]
    · dsimp only; rw [upJ_nk (by decide)]; exact h1 s' h
    · dsimp only
      by_cases q : s' = s
      · subst q; rw [upJ_eq]
      · rw [upJ_ni q]; exact h2 s' (by omega)
  · rintro ⟨x, J1⟩ ⟨hv, h1, h2⟩
    simp only at hv h1 h2
    subst hv
    refine ⟨J1, ?_, h2⟩
    simp (disch := omega) only [zP_countWays_l64_b, jRU_S hU, ir_let, jn_lt, jn_le, jn_in, jn_inj, jn_ne_m, jm_ne_n, jm_eq_m, jm_lt, jm_le, jn_lt_m, jn_le_m, jn_add, jn_mul, jn_clamp, jo_some, jn_min, jn_max, ↓jlm, jl0, jl1, jl2, jl3, jl4, jl5, jl6, jl7, jl8, jl9, jl10, jl11, jl12, jl13, jl14, jl15, jl16, jl20, jl24, jl32, jl39, jl40, jl41, jl60, jl61, jl80, jl96, jl97, jl99, jl100, jl122, jl126, jl199, jl200, jl205, jl206, jl255, jl256, jl410, jl700, jl950, jl1000, jl1000000, jl4000, jl8240, jl32767, if_pos, if_neg, ↓reduceIte, Option.bind_some, not_true_eq_false, not_false_eq_true, Nat.not_lt, Nat.not_le]
theorem jc_countWays {I : iq_I} {J : iq_J} {m : jMu} {n s : Nat} {x3 : Int32} (hm : mOk m) (hU : jRU I m) (hs : s < mS m) (hn : n ≤ 12) :
    ∃ J', zP_countWays (jn s) (jn n) x3 I J = some (jlg (wF m (decide (¬ x3 = 0)) n s), J') := by
  have h10 := hm.1
  obtain ⟨J1, e1, h1⟩ : ∃ J', zP_countWays_l3 (jn s) (jn n) x3 I ir_F (jn 0, J) = some J' ∧ ∀ s, s < mS m → J' 67 s = jlg (wF m (decide (¬ x3 = 0)) 0 s) := by
    refine js_inv (fun i v => v.1 = jn i ∧ ∀ s, s < i → v.2 67 s = jlg (wF m (decide (¬ x3 = 0)) 0 s)) (mS m) _ ?_ ?_ (mS m) 0 (jn 0, J) ir_F (by omega) ⟨rfl, fun s h => by omega⟩ (by unfold ir_F; omega)
    · rintro i ⟨x, J1⟩ hi ⟨hv, h2⟩
      simp only at hv h2
      subst hv
      refine ⟨(jn (i + 1), iq_upJ J1 67 i (jlg (wF m (decide (¬ x3 = 0)) 0 i))), ?_, rfl, fun s' h => ?_⟩
      · have hz : (x3 = 0) = (x3 = jn 0) := rfl
        by_cases hx : x3 = 0
        · have e : wF m (decide (¬ x3 = 0)) 0 i = 1 := by simp [wF, hx]
          rw [e]
          rw [hz] at hx
          simp (disch := omega) only [zP_countWays_l3_b, zP_countWays_40, zP_countWays_45, jRU_S hU, hx, ir_let, jn_lt, jn_le, jn_in, jn_inj, jn_ne_m, jm_ne_n, jm_eq_m, jm_lt, jm_le, jn_lt_m, jn_le_m, jn_add, jn_mul, jn_clamp, jo_some, jn_min, jn_max, ↓jlm, jl0, jl1, jl2, jl3, jl4, jl5, jl6, jl7, jl8, jl9, jl10, jl11, jl12, jl13, jl14, jl15, jl16, jl20, jl24, jl32, jl39, jl40, jl41, jl60, jl61, jl80, jl96, jl97, jl99, jl100, jl122, jl126, jl199, jl200, jl205, jl206, jl255, jl256, jl410, jl700, jl950, jl1000, jl1000000, jl4000, jl8240, jl32767, if_pos, if_neg, ↓reduceIte, Option.bind_some, not_true_eq_false, not_false_eq_true, Nat.not_lt, Nat.not_le]
          rfl
        · cases he : mE m i with
          | true =>
            have e : wF m (decide (¬ x3 = 0)) 0 i = 1 := by simp [wF, he]
            rw [e]
            rw [hz] at hx
            simp (disch := omega) only [zP_countWays_l3_b, zP_countWays_40, zP_countWays_45, jRU_S hU, jRU_E hU, jq_bit, jq_jb, he, hx, ir_let, jn_lt, jn_le, jn_in, jn_inj, jn_ne_m, jm_ne_n, jm_eq_m, jm_lt, jm_le, jn_lt_m, jn_le_m, jn_add, jn_mul, jn_clamp, jo_some, jn_min, jn_max, ↓jlm, jl0, jl1, jl2, jl3, jl4, jl5, jl6, jl7, jl8, jl9, jl10, jl11, jl12, jl13, jl14, jl15, jl16, jl20, jl24, jl32, jl39, jl40, jl41, jl60, jl61, jl80, jl96, jl97, jl99, jl100, jl122, jl126, jl199, jl200, jl205, jl206, jl255, jl256, jl410, jl700, jl950, jl1000, jl1000000, jl4000, jl8240, jl32767, if_pos, if_neg, ↓reduceIte, Option.bind_some, not_true_eq_false, not_false_eq_true, Nat.not_lt, Nat.not_le, Bool.true_eq_false]
            rfl
          | false =>
            have e : wF m (decide (¬ x3 = 0)) 0 i = 0 := by simp [wF, he, hx]
            rw [e]
            rw [hz] at hx
            simp (disch := omega) only [zP_countWays_l3_b, zP_countWays_40, zP_countWays_45, jRU_S hU, jRU_E hU, jq_bit, jq_jb, he, hx, ir_let, jn_lt, jn_le, jn_in, jn_inj, jn_ne_m, jm_ne_n, jm_eq_m, jm_lt, jm_le, jn_lt_m, jn_le_m, jn_add, jn_mul, jn_clamp, jo_some, jn_min, jn_max, ↓jlm, jl0, jl1, jl2, jl3, jl4, jl5, jl6, jl7, jl8, jl9, jl10, jl11, jl12, jl13, jl14, jl15, jl16, jl20, jl24, jl32, jl39, jl40, jl41, jl60, jl61, jl80, jl96, jl97, jl99, jl100, jl122, jl126, jl199, jl200, jl205, jl206, jl255, jl256, jl410, jl700, jl950, jl1000, jl1000000, jl4000, jl8240, jl32767, if_pos, if_neg, ↓reduceIte, Option.bind_some, not_true_eq_false, not_false_eq_true, Nat.not_lt, Nat.not_le]
            rfl
      · dsimp only
        by_cases q : s' = i
        · subst q; rw [upJ_eq]
        · rw [upJ_ni q]; exact h2 s' (by omega)
    · rintro ⟨x, J1⟩ ⟨hv, h2⟩
      simp only at hv h2
      subst hv
      refine ⟨J1, ?_, h2⟩
      simp (disch := omega) only [zP_countWays_l3_b, jRU_S hU, ir_let, jn_lt, jn_le, jn_in, jn_inj, jn_ne_m, jm_ne_n, jm_eq_m, jm_lt, jm_le, jn_lt_m, jn_le_m, jn_add, jn_mul, jn_clamp, jo_some, jn_min, jn_max, ↓jlm, jl0, jl1, jl2, jl3, jl4, jl5, jl6, jl7, jl8, jl9, jl10, jl11, jl12, jl13, jl14, jl15, jl16, jl20, jl24, jl32, jl39, jl40, jl41, jl60, jl61, jl80, jl96, jl97, jl99, jl100, jl122, jl126, jl199, jl200, jl205, jl206, jl255, jl256, jl410, jl700, jl950, jl1000, jl1000000, jl4000, jl8240, jl32767, if_pos, if_neg, ↓reduceIte, Option.bind_some, not_true_eq_false, not_false_eq_true, Nat.not_lt, Nat.not_le]
  obtain ⟨J2, e2, h2⟩ : ∃ w, zP_countWays_l55 (jn s) (jn n) I ir_F (jn 0, J1) = some w ∧ ∀ s, s < mS m → w 67 s = jlg (wF m (decide (¬ x3 = 0)) n s) := by
    refine js_inv (fun i v => v.1 = jn i ∧ ∀ s, s < mS m → v.2 67 s = jlg (wF m (decide (¬ x3 = 0)) i s)) n _ ?_ ?_ n 0 (jn 0, J1) ir_F (by omega) ⟨rfl, h1⟩ (by unfold ir_F; omega)
    · rintro i ⟨x, J2⟩ hi ⟨hv, h2⟩
      simp only at hv h2
      subst hv
      obtain ⟨J3, e3, h3⟩ := jc_cw64 (x1 := jn s) (x2 := jn n) (x4 := jn i) hm hU h2
      refine ⟨(jn (i + 1), iq_cpJ J3 68 67 0 0 10), ?_, rfl, fun s' h => ?_⟩
      · simp (disch := omega) only [zP_countWays_l55_b, e3, ir_let, jn_lt, jn_le, jn_in, jn_inj, jn_ne_m, jm_ne_n, jm_eq_m, jm_lt, jm_le, jn_lt_m, jn_le_m, jn_add, jn_mul, jn_clamp, jo_some, jn_min, jn_max, ↓jlm, jl0, jl1, jl2, jl3, jl4, jl5, jl6, jl7, jl8, jl9, jl10, jl11, jl12, jl13, jl14, jl15, jl16, jl20, jl24, jl32, jl39, jl40, jl41, jl60, jl61, jl80, jl96, jl97, jl99, jl100, jl122, jl126, jl199, jl200, jl205, jl206, jl255, jl256, jl410, jl700, jl950, jl1000, jl1000000, jl4000, jl8240, jl32767, if_pos, if_neg, ↓reduceIte, Option.bind_some, not_true_eq_false, not_false_eq_true, Nat.not_lt, Nat.not_le]
      · dsimp only
        rw [← h3 s' h]
        simp [iq_cpJ, va_cpy]
        intro q; omega
    · rintro ⟨x, J2⟩ ⟨hv, h2⟩
      simp only at hv h2
      subst hv
      refine ⟨J2, ?_, h2⟩
      simp (disch := omega) only [zP_countWays_l55_b, ir_let, jn_lt, jn_le, jn_in, jn_inj, jn_ne_m, jm_ne_n, jm_eq_m, jm_lt, jm_le, jn_lt_m, jn_le_m, jn_add, jn_mul, jn_clamp, jo_some, jn_min, jn_max, ↓jlm, jl0, jl1, jl2, jl3, jl4, jl5, jl6, jl7, jl8, jl9, jl10, jl11, jl12, jl13, jl14, jl15, jl16, jl20, jl24, jl32, jl39, jl40, jl41, jl60, jl61, jl80, jl96, jl97, jl99, jl100, jl122, jl126, jl199, jl200, jl205, jl206, jl255, jl256, jl410, jl700, jl950, jl1000, jl1000000, jl4000, jl8240, jl32767, if_pos, if_neg, ↓reduceIte, Option.bind_some, not_true_eq_false, not_false_eq_true, Nat.not_lt, Nat.not_le]
  refine ⟨J2, ?_⟩
  simp only [jn0] at e1 e2
  simp (disch := omega) only [zP_countWays, e1, e2, Option.bind_some]
  simp (disch := omega) only [h2 s hs, ir_let, jn_lt, jn_le, jn_in, jn_inj, jn_ne_m, jm_ne_n, jm_eq_m, jm_lt, jm_le, jn_lt_m, jn_le_m, jn_add, jn_mul, jn_clamp, jo_some, jn_min, jn_max, ↓jlm, jl0, jl1, jl2, jl3, jl4, jl5, jl6, jl7, jl8, jl9, jl10, jl11, jl12, jl13, jl14, jl15, jl16, jl20, jl24, jl32, jl39, jl40, jl41, jl60, jl61, jl80, jl96, jl97, jl99, jl100, jl122, jl126, jl199, jl200, jl205, jl206, jl255, jl256, jl410, jl700, jl950, jl1000, jl1000000, jl4000, jl8240, jl32767, if_pos, if_neg, ↓reduceIte, Option.bind_some, not_true_eq_false, not_false_eq_true, Nat.not_lt, Nat.not_le]
