/-! ===== sets of states on both sides ===== -/
theorem jq_bit {x : Int32} {s : Nat} (hs : s < 32) : ((x >>> (jn s &&& 31)) &&& jn 1 = jn 0) = (jt x s = false) := jt_bit hs
theorem jq_bit1 {x : Int32} {s : Nat} (hs : s < 32) : ((x >>> (jn s &&& 31)) &&& jn 1 = jn 1) = (jt x s = true) := jt_bit1 hs
theorem jq_set {n t : Nat} {P : Nat → Bool} (ht : t < n) (hn : n ≤ 32) : jb n P ||| (jn 1 <<< (jn t &&& 31)) = jb n (fun j => P j || decide (j = t)) := by
  rw [show jn 1 = (1 : Int32) from rfl, jb_one ht hn, jb_or hn]
theorem jq_one {n t : Nat} (ht : t < n) (hn : n ≤ 32) : jn 1 <<< (jn t &&& 31) = jb n (fun j => decide (j = t)) := jb_one ht hn
theorem jq_jb {n s : Nat} {P : Nat → Bool} (hs : s < n) (hn : n ≤ 32) : jt (jb n P) s = P s := by
  rw [jt_jb hn]; simp [hs]
/-- a step of the grammar, some kinds being shut -/
def mEd (m : jMu) (sh : Nat → Bool) (s t : Nat) : Bool := jex 8 fun k => (mTold m k && !sh k) && decide (mR m s k = some t)
theorem mEd_w {m : jMu} (hm : mOk m) {sh : Nat → Bool} {s t : Nat} : mEd m sh s t = jex (mW m) fun w => !sh (mK m w) && decide (mLd m s w = some t) := by
  rw [Bool.eq_iff_iff]
  simp only [mEd, mTold, jex_iff, Bool.and_eq_true, decide_eq_true_eq, mLd]
  constructor
  · rintro ⟨k, h1, ⟨⟨w, h2, h3⟩, h4⟩, h5⟩
    subst h3
    exact ⟨w, h2, h4, decide_eq_true h5⟩
  · rintro ⟨w, h1, h2, h3⟩
    exact ⟨mK m w, (hm.2.2.1 w h1).2.2, ⟨⟨w, h1, rfl⟩, h2⟩, of_decide_eq_true h3⟩
/-- the row of states behind each -/
def jBh (I : iq_I) (m : jMu) (sh : Nat → Bool) : Prop := ∀ s, s < mS m → I 64 s = jb (mS m) (mEd m sh s)
theorem jc_lb31 {I : iq_I} {m : jMu} (hm : mOk m) (h : jRU I m) {sh : Nat → Bool} {s : Nat} (hs : s < mS m) :
    zP_lookBehind_l31 (jb 8 fun k => mTold m k && !sh k) (jn s) I ir_F (jn 0, jn 0) = some (jb (mS m) (mEd m sh s)) := by
  have h10 := hm.1
  have E : ((jn 0, jn 0) : Int32 × Int32) = (fun i => (jb (mS m) (fun t => jex i fun k => (mTold m k && !sh k) && decide (mR m s k = some t)), jn i)) 0 := by
    show ((0 : Int32), jn 0) = _
    rw [jb_0 (n := mS m) (by omega)]
    exact congrArg (fun z => (z, jn 0)) (jb_ext fun j _ => jex_0.symm)
  rw [E]
  refine js_seq (fun i => (jb (mS m) (fun t => jex i fun k => (mTold m k && !sh k) && decide (mR m s k = some t)), jn i)) 8 _ (fun i hi => ?_) ?_ 8 0 ir_F (by omega) (by unfold ir_F; omega)
  · simp only
    cases hc : (mTold m i && !sh i) with
    | false =>
      simp (disch := omega) only [zP_lookBehind_l31_b, jc_leadsBy hm h hs, jq_bit, jq_jb, hc, ir_let, jn_lt, jn_le, jn_in, jn_inj, jn_ne_m, jm_ne_n, jm_eq_m, jm_lt, jm_le, jn_lt_m, jn_le_m, jn_add, jn_mul, jn_clamp, jo_some, jn_min, jn_max, ↓jlm, jl0, jl1, jl2, jl3, jl4, jl5, jl6, jl7, jl8, jl9, jl10, jl11, jl12, jl13, jl14, jl15, jl16, jl20, jl24, jl32, jl39, jl40, jl41, jl60, jl61, jl80, jl96, jl97, jl99, jl100, jl122, jl126, jl199, jl200, jl205, jl206, jl255, jl256, jl410, jl700, jl950, jl1000, jl1000000, jl4000, jl8240, jl32767, if_pos, if_neg, ↓reduceIte, Option.bind_some, not_true_eq_false, not_false_eq_true, Nat.not_lt, Nat.not_le]
      congr 3
      exact jb_ext fun j _ => by rw [jex_s, hc]; simp
    | true =>
      cases hr : mR m s i with
      | none =>
        simp (disch := omega) only [zP_lookBehind_l31_b, jc_leadsBy hm h hs, jq_bit, jq_jb, hc, hr, ir_let, jn_lt, jn_le, jn_in, jn_inj, jn_ne_m, jm_ne_n, jm_eq_m, jm_lt, jm_le, jn_lt_m, jn_le_m, jn_add, jn_mul, jn_clamp, jo_some, jn_min, jn_max, ↓jlm, jl0, jl1, jl2, jl3, jl4, jl5, jl6, jl7, jl8, jl9, jl10, jl11, jl12, jl13, jl14, jl15, jl16, jl20, jl24, jl32, jl39, jl40, jl41, jl60, jl61, jl80, jl96, jl97, jl99, jl100, jl122, jl126, jl199, jl200, jl205, jl206, jl255, jl256, jl410, jl700, jl950, jl1000, jl1000000, jl4000, jl8240, jl32767, if_pos, if_neg, ↓reduceIte, Option.bind_some, not_true_eq_false, not_false_eq_true, Nat.not_lt, Nat.not_le, Bool.true_eq_false]
        congr 3
        exact jb_ext fun j _ => by rw [jex_s, hc, hr]; simp
      | some t =>
        have ht := hm.2.2.2.1 s i t hs hi hr
        simp (disch := omega) only [zP_lookBehind_l31_b, jc_leadsBy hm h hs, jq_bit, jq_jb, jq_set, hc, hr, ir_let, jn_lt, jn_le, jn_in, jn_inj, jn_ne_m, jm_ne_n, jm_eq_m, jm_lt, jm_le, jn_lt_m, jn_le_m, jn_add, jn_mul, jn_clamp, jo_some, jn_min, jn_max, ↓jlm, jl0, jl1, jl2, jl3, jl4, jl5, jl6, jl7, jl8, jl9, jl10, jl11, jl12, jl13, jl14, jl15, jl16, jl20, jl24, jl32, jl39, jl40, jl41, jl60, jl61, jl80, jl96, jl97, jl99, jl100, jl122, jl126, jl199, jl200, jl205, jl206, jl255, jl256, jl410, jl700, jl950, jl1000, jl1000000, jl4000, jl8240, jl32767, if_pos, if_neg, ↓reduceIte, Option.bind_some, not_true_eq_false, not_false_eq_true, Nat.not_lt, Nat.not_le, Bool.true_eq_false]
        congr 3
        refine jb_ext fun j _ => ?_
        rw [jex_s, hc, hr]
        simp [eq_comm]
  · simp (disch := omega) only [zP_lookBehind_l31_b, ir_let, jn_lt, jn_le, jn_in, jn_inj, jn_ne_m, jm_ne_n, jm_eq_m, jm_lt, jm_le, jn_lt_m, jn_le_m, jn_add, jn_mul, jn_clamp, jo_some, jn_min, jn_max, ↓jlm, jl0, jl1, jl2, jl3, jl4, jl5, jl6, jl7, jl8, jl9, jl10, jl11, jl12, jl13, jl14, jl15, jl16, jl20, jl24, jl32, jl39, jl40, jl41, jl60, jl61, jl80, jl96, jl97, jl99, jl100, jl122, jl126, jl199, jl200, jl205, jl206, jl255, jl256, jl410, jl700, jl950, jl1000, jl1000000, jl4000, jl8240, jl32767, if_pos, if_neg, ↓reduceIte, Option.bind_some, not_true_eq_false, not_false_eq_true, Nat.not_lt, Nat.not_le]
    rfl
theorem jc_lb {I : iq_I} {m : jMu} (hm : mOk m) (h : jRU I m) {sh : Nat → Bool} {x : Int32} (hx : (I 4 4) &&& (x ^^^ (-1 : Int32)) = jb 8 fun k => mTold m k && !sh k) :
    ∃ I', zP_lookBehind x I = some I' ∧ jag I I' ∧ jBh I' m sh := by
  have h10 := hm.1
  have key := js_lp (body := fun v => zP_lookBehind_l14_b (jb 8 fun k => mTold m k && !sh k) v.1 v.2)
    (fun v => ∃ i, i ≤ mS m ∧ v.1 = jn i ∧ jag I v.2 ∧ ∀ s, s < i → v.2 64 s = jb (mS m) (mEd m sh s)) (fun v => mS m - v.1.toNatClampNeg) (fun I' => jag I I' ∧ jBh I' m sh)
    (by
      rintro ⟨x, I1⟩ ⟨i, hi, hv, ha, hr⟩
      simp only at hv ha hr
      subst hv
      have h1 := jRU_ag h ha
      by_cases e : i = mS m
      · refine Or.inr ⟨I1, ?_, ha, ?_⟩
        · subst e
          simp (disch := omega) only [zP_lookBehind_l14_b, jRU_S h1, ir_let, jn_lt, jn_le, jn_in, jn_inj, jn_ne_m, jm_ne_n, jm_eq_m, jm_lt, jm_le, jn_lt_m, jn_le_m, jn_add, jn_mul, jn_clamp, jo_some, jn_min, jn_max, ↓jlm, jl0, jl1, jl2, jl3, jl4, jl5, jl6, jl7, jl8, jl9, jl10, jl11, jl12, jl13, jl14, jl15, jl16, jl20, jl24, jl32, jl39, jl40, jl41, jl60, jl61, jl80, jl96, jl97, jl99, jl100, jl122, jl126, jl199, jl200, jl205, jl206, jl255, jl256, jl410, jl700, jl950, jl1000, jl1000000, jl4000, jl8240, jl32767, if_pos, if_neg, ↓reduceIte, Option.bind_some, not_true_eq_false, not_false_eq_true, Nat.not_lt, Nat.not_le]
        · subst e; exact hr
      · refine Or.inl ⟨(jn (i + 1), iq_upI I1 64 i (jb (mS m) (mEd m sh i))), ?_, ⟨i + 1, by omega, rfl, jag_up ha rfl, ?_⟩, ?_⟩
        · simp (disch := omega) only [zP_lookBehind_l14_b, jRU_S h1, jc_lb31 hm h1, ir_let, jn_lt, jn_le, jn_in, jn_inj, jn_ne_m, jm_ne_n, jm_eq_m, jm_lt, jm_le, jn_lt_m, jn_le_m, jn_add, jn_mul, jn_clamp, jo_some, jn_min, jn_max, ↓jlm, jl0, jl1, jl2, jl3, jl4, jl5, jl6, jl7, jl8, jl9, jl10, jl11, jl12, jl13, jl14, jl15, jl16, jl20, jl24, jl32, jl39, jl40, jl41, jl60, jl61, jl80, jl96, jl97, jl99, jl100, jl122, jl126, jl199, jl200, jl205, jl206, jl255, jl256, jl410, jl700, jl950, jl1000, jl1000000, jl4000, jl8240, jl32767, if_pos, if_neg, ↓reduceIte, Option.bind_some, not_true_eq_false, not_false_eq_true, Nat.not_lt, Nat.not_le]
        · intro s hs
          simp only [iq_upI, if_true]
          by_cases e2 : s = i
          · subst e2; simp
          · rw [if_neg e2]; exact hr s (by omega)
        · simp only
          rw [jn_clamp (by omega), jn_clamp (by omega)]
          omega)
    ir_F (jn 0, I) ⟨0, Nat.zero_le _, rfl, jag_rf I, fun s hs => by omega⟩ (by simp only; rw [jn_clamp (by omega)]; unfold ir_F; omega)
  obtain ⟨I', h1, h2, h3⟩ := key
  refine ⟨I', ?_, h2, h3⟩
  unfold zP_lookBehind
  rw [hx]
  show (zP_lookBehind_l14 _ ir_F (jn 0, I)).bind _ = _
  unfold zP_lookBehind_l14
  rw [h1]
  rfl
theorem jc_ab4 {I : iq_I} {m : jMu} (hm : mOk m) (h : jRU I m) {sh : Nat → Bool} (hb : jBh I m sh) {F : Nat → Bool} : zP_allBehind_l4 (jb (mS m) F) I ir_F (jn 0, jn 0) = some (jb (mS m) (gIm (mS m) (mEd m sh) (fun _ => true) F)) := by
  have h10 := hm.1
  have E : ((jn 0, jn 0) : Int32 × Int32) = (fun i => (jb (mS m) (fun t => jex i fun s => F s && mEd m sh s t), jn i)) 0 := by
    show ((0 : Int32), jn 0) = _
    rw [jb_0 (n := mS m) (by omega)]
    exact congrArg (fun z => (z, jn 0)) (jb_ext fun j _ => jex_0.symm)
  rw [E]
  refine js_seq (fun i => (jb (mS m) (fun t => jex i fun s => F s && mEd m sh s t), jn i)) (mS m) _ (fun i hi => ?_) ?_ (mS m) 0 ir_F (by omega) (by unfold ir_F; omega)
  · simp only
    cases hc : F i with
    | false =>
      simp (disch := omega) only [zP_allBehind_l4_b, jRU_S h, jq_bit, jq_jb, hc, ir_let, jn_lt, jn_le, jn_in, jn_inj, jn_ne_m, jm_ne_n, jm_eq_m, jm_lt, jm_le, jn_lt_m, jn_le_m, jn_add, jn_mul, jn_clamp, jo_some, jn_min, jn_max, ↓jlm, jl0, jl1, jl2, jl3, jl4, jl5, jl6, jl7, jl8, jl9, jl10, jl11, jl12, jl13, jl14, jl15, jl16, jl20, jl24, jl32, jl39, jl40, jl41, jl60, jl61, jl80, jl96, jl97, jl99, jl100, jl122, jl126, jl199, jl200, jl205, jl206, jl255, jl256, jl410, jl700, jl950, jl1000, jl1000000, jl4000, jl8240, jl32767, if_pos, if_neg, ↓reduceIte, Option.bind_some, not_true_eq_false, not_false_eq_true, Nat.not_lt, Nat.not_le]
      congr 3
      exact jb_ext fun j _ => by rw [jex_s, hc]; simp
    | true =>
      simp (disch := omega) only [zP_allBehind_l4_b, jRU_S h, jq_bit, jq_jb, hc, hb i hi, jb_or, ir_let, jn_lt, jn_le, jn_in, jn_inj, jn_ne_m, jm_ne_n, jm_eq_m, jm_lt, jm_le, jn_lt_m, jn_le_m, jn_add, jn_mul, jn_clamp, jo_some, jn_min, jn_max, ↓jlm, jl0, jl1, jl2, jl3, jl4, jl5, jl6, jl7, jl8, jl9, jl10, jl11, jl12, jl13, jl14, jl15, jl16, jl20, jl24, jl32, jl39, jl40, jl41, jl60, jl61, jl80, jl96, jl97, jl99, jl100, jl122, jl126, jl199, jl200, jl205, jl206, jl255, jl256, jl410, jl700, jl950, jl1000, jl1000000, jl4000, jl8240, jl32767, if_pos, if_neg, ↓reduceIte, Option.bind_some, not_true_eq_false, not_false_eq_true, Nat.not_lt, Nat.not_le, Bool.true_eq_false]
      congr 3
      exact jb_ext fun j _ => by rw [jex_s, hc]; simp
  · simp (disch := omega) only [zP_allBehind_l4_b, jRU_S h, ir_let, jn_lt, jn_le, jn_in, jn_inj, jn_ne_m, jm_ne_n, jm_eq_m, jm_lt, jm_le, jn_lt_m, jn_le_m, jn_add, jn_mul, jn_clamp, jo_some, jn_min, jn_max, ↓jlm, jl0, jl1, jl2, jl3, jl4, jl5, jl6, jl7, jl8, jl9, jl10, jl11, jl12, jl13, jl14, jl15, jl16, jl20, jl24, jl32, jl39, jl40, jl41, jl60, jl61, jl80, jl96, jl97, jl99, jl100, jl122, jl126, jl199, jl200, jl205, jl206, jl255, jl256, jl410, jl700, jl950, jl1000, jl1000000, jl4000, jl8240, jl32767, if_pos, if_neg, ↓reduceIte, Option.bind_some, not_true_eq_false, not_false_eq_true, Nat.not_lt, Nat.not_le]
    rfl
theorem jc_allBehind {I : iq_I} {m : jMu} (hm : mOk m) (h : jRU I m) {sh : Nat → Bool} (hb : jBh I m sh) {F : Nat → Bool} : zP_allBehind (jb (mS m) F) I = some (jb (mS m) (gIm (mS m) (mEd m sh) (fun _ => true) F)) := by
  unfold zP_allBehind
  have := jc_ab4 hm h hb (F := F)
  rw [show (((0 : Int32), (0 : Int32)) : Int32 × Int32) = (jn 0, jn 0) from rfl, this]
  rfl
theorem jc_li5 {I : iq_I} {m : jMu} (hm : mOk m) (h : jRU I m) {sh : Nat → Bool} (hb : jBh I m sh) {A B : Nat → Bool} {x : Int32} (hx : ∀ s, s < mS m → ((jb (mS m) (mEd m sh s) &&& x = 0) = (∀ t, t < mS m → (mEd m sh s t && B t) = false))) : zP_leadingInto_l5 (jb (mS m) A) x I ir_F (jn 0, jn 0) = some (jb (mS m) (gPr (mS m) (mEd m sh) A B)) := by
  have h10 := hm.1
  have E : ((jn 0, jn 0) : Int32 × Int32) = (fun i => (jb i (gPr (mS m) (mEd m sh) A B), jn i)) 0 := rfl
  rw [E]
  refine js_seq (fun i => (jb i (gPr (mS m) (mEd m sh) A B), jn i)) (mS m) _ (fun i hi => ?_) ?_ (mS m) 0 ir_F (by omega) (by unfold ir_F; omega)
  · simp only
    cases hc : A i with
    | false =>
      have e : gPr (mS m) (mEd m sh) A B i = false := by simp [gPr, hc]
      simp (disch := omega) only [zP_leadingInto_l5_b, jRU_S h, jq_bit, jq_jb, hc, ir_let, jn_lt, jn_le, jn_in, jn_inj, jn_ne_m, jm_ne_n, jm_eq_m, jm_lt, jm_le, jn_lt_m, jn_le_m, jn_add, jn_mul, jn_clamp, jo_some, jn_min, jn_max, ↓jlm, jl0, jl1, jl2, jl3, jl4, jl5, jl6, jl7, jl8, jl9, jl10, jl11, jl12, jl13, jl14, jl15, jl16, jl20, jl24, jl32, jl39, jl40, jl41, jl60, jl61, jl80, jl96, jl97, jl99, jl100, jl122, jl126, jl199, jl200, jl205, jl206, jl255, jl256, jl410, jl700, jl950, jl1000, jl1000000, jl4000, jl8240, jl32767, if_pos, if_neg, ↓reduceIte, Option.bind_some, not_true_eq_false, not_false_eq_true, Nat.not_lt, Nat.not_le]
      congr 3
      conv => rhs; unfold jb
      rw [e]; rfl
    | true =>
      have hz := hx i hi
      rw [show (0 : Int32) = jn 0 from rfl] at hz
      cases hp : gPr (mS m) (mEd m sh) A B i with
      | false =>
        have h2 : ∀ t, t < mS m → (mEd m sh i t && B t) = false := by
          simp only [gPr, hc, Bool.true_and] at hp
          exact jex_f.mp hp
        have h3 := hz.mpr h2
        simp (disch := omega) only [zP_leadingInto_l5_b, jRU_S h, jq_bit, jq_jb, hc, hb i hi, h3, ir_let, jn_lt, jn_le, jn_in, jn_inj, jn_ne_m, jm_ne_n, jm_eq_m, jm_lt, jm_le, jn_lt_m, jn_le_m, jn_add, jn_mul, jn_clamp, jo_some, jn_min, jn_max, ↓jlm, jl0, jl1, jl2, jl3, jl4, jl5, jl6, jl7, jl8, jl9, jl10, jl11, jl12, jl13, jl14, jl15, jl16, jl20, jl24, jl32, jl39, jl40, jl41, jl60, jl61, jl80, jl96, jl97, jl99, jl100, jl122, jl126, jl199, jl200, jl205, jl206, jl255, jl256, jl410, jl700, jl950, jl1000, jl1000000, jl4000, jl8240, jl32767, if_pos, if_neg, ↓reduceIte, Option.bind_some, not_true_eq_false, not_false_eq_true, Nat.not_lt, Nat.not_le, Bool.true_eq_false]
        congr 3
        conv => rhs; unfold jb
        rw [hp]; rfl
      | true =>
        have h3 : ¬ (jb (mS m) (mEd m sh i) &&& x = jn 0) := by
          intro h3
          have h2 := hz.mp h3
          simp only [gPr, hc, Bool.true_and] at hp
          rw [jex_f.mpr h2] at hp; cases hp
        simp (disch := omega) only [zP_leadingInto_l5_b, jRU_S h, jq_bit, jq_jb, hc, hb i hi, h3, ir_let, jn_lt, jn_le, jn_in, jn_inj, jn_ne_m, jm_ne_n, jm_eq_m, jm_lt, jm_le, jn_lt_m, jn_le_m, jn_add, jn_mul, jn_clamp, jo_some, jn_min, jn_max, ↓jlm, jl0, jl1, jl2, jl3, jl4, jl5, jl6, jl7, jl8, jl9, jl10, jl11, jl12, jl13, jl14, jl15, jl16, jl20, jl24, jl32, jl39, jl40, jl41, jl60, jl61, jl80, jl96, jl97, jl99, jl100, jl122, jl126, jl199, jl200, jl205, jl206, jl255, jl256, jl410, jl700, jl950, jl1000, jl1000000, jl4000, jl8240, jl32767, if_pos, if_neg, ↓reduceIte, Option.bind_some, not_true_eq_false, not_false_eq_true, Nat.not_lt, Nat.not_le, Bool.true_eq_false]
        congr 3
        conv => rhs; unfold jb
        rw [hp]; rfl
  · simp (disch := omega) only [zP_leadingInto_l5_b, jRU_S h, ir_let, jn_lt, jn_le, jn_in, jn_inj, jn_ne_m, jm_ne_n, jm_eq_m, jm_lt, jm_le, jn_lt_m, jn_le_m, jn_add, jn_mul, jn_clamp, jo_some, jn_min, jn_max, ↓jlm, jl0, jl1, jl2, jl3, jl4, jl5, jl6, jl7, jl8, jl9, jl10, jl11, jl12, jl13, jl14, jl15, jl16, jl20, jl24, jl32, jl39, jl40, jl41, jl60, jl61, jl80, jl96, jl97, jl99, jl100, jl122, jl126, jl199, jl200, jl205, jl206, jl255, jl256, jl410, jl700, jl950, jl1000, jl1000000, jl4000, jl8240, jl32767, if_pos, if_neg, ↓reduceIte, Option.bind_some, not_true_eq_false, not_false_eq_true, Nat.not_lt, Nat.not_le]
theorem jc_leadingInto {I : iq_I} {m : jMu} (hm : mOk m) (h : jRU I m) {sh : Nat → Bool} (hb : jBh I m sh) {A B : Nat → Bool} {x : Int32} (hx : ∀ s, s < mS m → ((jb (mS m) (mEd m sh s) &&& x = 0) = (∀ t, t < mS m → (mEd m sh s t && B t) = false))) : zP_leadingInto (jb (mS m) A) x I = some (jb (mS m) (gPr (mS m) (mEd m sh) A B)) := by
  unfold zP_leadingInto
  have := jc_li5 hm h hb (A := A) hx
  rw [show (((0 : Int32), (0 : Int32)) : Int32 × Int32) = (jn 0, jn 0) from rfl, this]
  rfl
theorem jc_leadingInto' {I : iq_I} {m : jMu} (hm : mOk m) (h : jRU I m) {sh : Nat → Bool} (hb : jBh I m sh) {A B : Nat → Bool} : zP_leadingInto (jb (mS m) A) (jb (mS m) B) I = some (jb (mS m) (gPr (mS m) (mEd m sh) A B)) := by
  have h10 := hm.1
  refine jc_leadingInto hm h hb fun s hs => ?_
  rw [jb_and (by omega), jb_zero (by omega)]
theorem jc_told0 {I : iq_I} {m : jMu} (h : jRU I m) : (I 4 4) &&& ((0 : Int32) ^^^ (-1 : Int32)) = jb 8 fun k => mTold m k && !(fun _ => false) k := by
  rw [jRU_t h, show (0 : Int32) = jb 8 (fun _ => false) from jb_0 (by omega)]
  exact jb_andn (by omega)
/-- the reference's step -/
theorem jm_isArc {I : iq_I} {m : jMu} (hm : mOk m) (h : jRN I m) {sh : Nat → Bool} {I' : iq_I} (ha : ∀ k i, (k = 76 → ¬ i = 57) → I' k i = I k i) (hs57 : I' 76 57 = jb 8 sh) {s w : Nat} (hs : s < mS m) (hw : w < mW m) :
    zM_leads (jn s) (jn w) I' = some (jo (mLd m s w)) ∧ zM_isArc (jn s) (jn w) I' = some (if mLd m s w ≠ none ∧ sh (mK m w) = false then 1 else 0) := by
  have h10 := hm.1
  have h14 := hm.2.1
  have hk := (hm.2.2.1 w hw).2.2
  have hL : zM_leads (jn s) (jn w) I' = some (jo (mLd m s w)) := by
    have := jm_leads hm h hs hw
    unfold zM_leads at this ⊢
    rw [ha 79 _ (fun h => absurd h (by decide)), ha 80 _ (fun h => absurd h (by decide))]
    exact this
  refine ⟨hL, ?_⟩
  have hK : I' 79 w = jn (mK m w) := by rw [ha 79 _ (fun h => absurd h (by decide)), jRN_K h w hw]
  cases hr : mLd m s w with
  | none =>
    rw [hr] at hL
    simp (disch := omega) only [zM_isArc, hL, ir_let, jn_lt, jn_le, jn_in, jn_inj, jn_ne_m, jm_ne_n, jm_eq_m, jm_lt, jm_le, jn_lt_m, jn_le_m, jn_add, jn_mul, jn_clamp, jo_some, jn_min, jn_max, ↓jlm, jl0, jl1, jl2, jl3, jl4, jl5, jl6, jl7, jl8, jl9, jl10, jl11, jl12, jl13, jl14, jl15, jl16, jl20, jl24, jl32, jl39, jl40, jl41, jl60, jl61, jl80, jl96, jl97, jl99, jl100, jl122, jl126, jl199, jl200, jl205, jl206, jl255, jl256, jl410, jl700, jl950, jl1000, jl1000000, jl4000, jl8240, jl32767, if_pos, if_neg, ↓reduceIte, Option.bind_some, not_true_eq_false, not_false_eq_true, Nat.not_lt, Nat.not_le]
    simp
  | some t =>
    rw [hr] at hL
    have ht := mLd_lt hm hs hw hr
    cases hc : sh (mK m w) with
    | false =>
      simp (disch := omega) only [zM_isArc, hL, hK, hs57, jq_bit, jq_jb, hc, ir_let, jn_lt, jn_le, jn_in, jn_inj, jn_ne_m, jm_ne_n, jm_eq_m, jm_lt, jm_le, jn_lt_m, jn_le_m, jn_add, jn_mul, jn_clamp, jo_some, jn_min, jn_max, ↓jlm, jl0, jl1, jl2, jl3, jl4, jl5, jl6, jl7, jl8, jl9, jl10, jl11, jl12, jl13, jl14, jl15, jl16, jl20, jl24, jl32, jl39, jl40, jl41, jl60, jl61, jl80, jl96, jl97, jl99, jl100, jl122, jl126, jl199, jl200, jl205, jl206, jl255, jl256, jl410, jl700, jl950, jl1000, jl1000000, jl4000, jl8240, jl32767, if_pos, if_neg, ↓reduceIte, Option.bind_some, not_true_eq_false, not_false_eq_true, Nat.not_lt, Nat.not_le]
      simp <;> rfl
    | true =>
      simp (disch := omega) only [zM_isArc, hL, hK, hs57, jq_bit, jq_jb, hc, ir_let, jn_lt, jn_le, jn_in, jn_inj, jn_ne_m, jm_ne_n, jm_eq_m, jm_lt, jm_le, jn_lt_m, jn_le_m, jn_add, jn_mul, jn_clamp, jo_some, jn_min, jn_max, ↓jlm, jl0, jl1, jl2, jl3, jl4, jl5, jl6, jl7, jl8, jl9, jl10, jl11, jl12, jl13, jl14, jl15, jl16, jl20, jl24, jl32, jl39, jl40, jl41, jl60, jl61, jl80, jl96, jl97, jl99, jl100, jl122, jl126, jl199, jl200, jl205, jl206, jl255, jl256, jl410, jl700, jl950, jl1000, jl1000000, jl4000, jl8240, jl32767, if_pos, if_neg, ↓reduceIte, Option.bind_some, not_true_eq_false, not_false_eq_true, Nat.not_lt, Nat.not_le, Bool.true_eq_false]
      simp <;> rfl
theorem jm_ow15 {I I' : iq_I} {m : jMu} (hm : mOk m) (h : jRN I m) {sh : Nat → Bool} (ha : ∀ k i, (k = 76 → ¬ i = 57) → I' k i = I k i) (hs57 : I' 76 57 = jb 8 sh) {s : Nat} (hs : s < mS m) {F P : Nat → Bool} :
    zM_onward_l15 (jb (mS m) F) (jn s) I' ir_F (jb (mS m) P, jn 0) = some (jb (mS m) fun t => P t || (F s && mEd m sh s t)) := by
  have h10 := hm.1
  have h14 := hm.2.1
  have hW : I' 76 2 = jn (mW m) := by rw [ha 76 2 (fun _ => by decide), jRN_W h]
  have E : ((jb (mS m) P, jn 0) : Int32 × Int32) = (fun i => (jb (mS m) (fun t => P t || (F s && jex i fun w => !sh (mK m w) && decide (mLd m s w = some t))), jn i)) 0 := by
    refine congrArg (fun z => (z, jn 0)) (jb_ext fun j _ => ?_)
    rw [jex_0]; simp
  rw [E]
  refine js_seq (fun i => (jb (mS m) (fun t => P t || (F s && jex i fun w => !sh (mK m w) && decide (mLd m s w = some t))), jn i)) (mW m) _ (fun i hi => ?_) ?_ (mW m) 0 ir_F (by omega) (by unfold ir_F; omega)
  · simp only
    obtain ⟨hL, hA⟩ := jm_isArc hm h ha hs57 hs hi
    cases hc : F s with
    | false =>
      simp (disch := omega) only [zM_onward_l15_b, hW, jq_bit1, jq_jb, hc, ir_let, jn_lt, jn_le, jn_in, jn_inj, jn_ne_m, jm_ne_n, jm_eq_m, jm_lt, jm_le, jn_lt_m, jn_le_m, jn_add, jn_mul, jn_clamp, jo_some, jn_min, jn_max, ↓jlm, jl0, jl1, jl2, jl3, jl4, jl5, jl6, jl7, jl8, jl9, jl10, jl11, jl12, jl13, jl14, jl15, jl16, jl20, jl24, jl32, jl39, jl40, jl41, jl60, jl61, jl80, jl96, jl97, jl99, jl100, jl122, jl126, jl199, jl200, jl205, jl206, jl255, jl256, jl410, jl700, jl950, jl1000, jl1000000, jl4000, jl8240, jl32767, if_pos, if_neg, ↓reduceIte, Option.bind_some, not_true_eq_false, not_false_eq_true, Nat.not_lt, Nat.not_le, Bool.false_eq_true, Bool.false_and]
    | true =>
      by_cases hx : mLd m s i ≠ none ∧ sh (mK m i) = false
      · rw [if_pos hx] at hA
        obtain ⟨t, hr⟩ : ∃ t, mLd m s i = some t := by
          cases e : mLd m s i with
          | none => exact absurd e hx.1
          | some t => exact ⟨t, rfl⟩
        have ht := mLd_lt hm hs hi hr
        rw [hr] at hL
        simp (disch := omega) only [zM_onward_l15_b, hW, jq_bit1, jq_jb, jq_set, hc, hA, hL, ir_let, jn_lt, jn_le, jn_in, jn_inj, jn_ne_m, jm_ne_n, jm_eq_m, jm_lt, jm_le, jn_lt_m, jn_le_m, jn_add, jn_mul, jn_clamp, jo_some, jn_min, jn_max, ↓jlm, jl0, jl1, jl2, jl3, jl4, jl5, jl6, jl7, jl8, jl9, jl10, jl11, jl12, jl13, jl14, jl15, jl16, jl20, jl24, jl32, jl39, jl40, jl41, jl60, jl61, jl80, jl96, jl97, jl99, jl100, jl122, jl126, jl199, jl200, jl205, jl206, jl255, jl256, jl410, jl700, jl950, jl1000, jl1000000, jl4000, jl8240, jl32767, if_pos, if_neg, ↓reduceIte, Option.bind_some, not_true_eq_false, not_false_eq_true, Nat.not_lt, Nat.not_le, Bool.true_and]
        congr 3
        refine jb_ext fun j _ => ?_
        rw [jex_s, hx.2, hr]
        simp [eq_comm, Bool.or_assoc]
      · rw [if_neg hx] at hA
        simp (disch := omega) only [zM_onward_l15_b, hW, jq_bit1, jq_jb, jq_set, hc, hA, ir_let, jn_lt, jn_le, jn_in, jn_inj, jn_ne_m, jm_ne_n, jm_eq_m, jm_lt, jm_le, jn_lt_m, jn_le_m, jn_add, jn_mul, jn_clamp, jo_some, jn_min, jn_max, ↓jlm, jl0, jl1, jl2, jl3, jl4, jl5, jl6, jl7, jl8, jl9, jl10, jl11, jl12, jl13, jl14, jl15, jl16, jl20, jl24, jl32, jl39, jl40, jl41, jl60, jl61, jl80, jl96, jl97, jl99, jl100, jl122, jl126, jl199, jl200, jl205, jl206, jl255, jl256, jl410, jl700, jl950, jl1000, jl1000000, jl4000, jl8240, jl32767, if_pos, if_neg, ↓reduceIte, Option.bind_some, not_true_eq_false, not_false_eq_true, Nat.not_lt, Nat.not_le, Bool.true_and]
        congr 3
        refine jb_ext fun j _ => ?_
        rw [jex_s]
        have : (!sh (mK m i) && decide (mLd m s i = some j)) = false := by
          cases e : sh (mK m i) with
          | true => rfl
          | false =>
            cases e2 : mLd m s i with
            | none => simp
            | some t => exact absurd ⟨by rw [e2]; simp, e⟩ hx
        rw [this]
        simp
  · simp (disch := omega) only [zM_onward_l15_b, hW, ir_let, jn_lt, jn_le, jn_in, jn_inj, jn_ne_m, jm_ne_n, jm_eq_m, jm_lt, jm_le, jn_lt_m, jn_le_m, jn_add, jn_mul, jn_clamp, jo_some, jn_min, jn_max, ↓jlm, jl0, jl1, jl2, jl3, jl4, jl5, jl6, jl7, jl8, jl9, jl10, jl11, jl12, jl13, jl14, jl15, jl16, jl20, jl24, jl32, jl39, jl40, jl41, jl60, jl61, jl80, jl96, jl97, jl99, jl100, jl122, jl126, jl199, jl200, jl205, jl206, jl255, jl256, jl410, jl700, jl950, jl1000, jl1000000, jl4000, jl8240, jl32767, if_pos, if_neg, ↓reduceIte, Option.bind_some, not_true_eq_false, not_false_eq_true, Nat.not_lt, Nat.not_le]
    congr 2
    refine jb_ext fun j _ => ?_
    rw [mEd_w hm]
theorem jm_onward {I I' : iq_I} {m : jMu} (hm : mOk m) (h : jRN I m) {sh : Nat → Bool} (ha : ∀ k i, (k = 76 → ¬ i = 57) → I' k i = I k i) (hs57 : I' 76 57 = jb 8 sh) {F : Nat → Bool} :
    zM_onward (jb (mS m) F) I' = some (jb (mS m) (gIm (mS m) (mEd m sh) (fun _ => true) F)) := by
  have h10 := hm.1
  have hS : I' 76 1 = jn (mS m) := by rw [ha 76 1 (fun _ => by decide), jRN_S h]
  have key : zM_onward_l4 (jb (mS m) F) I' ir_F (jn 0, jn 0) = some (jb (mS m) (gIm (mS m) (mEd m sh) (fun _ => true) F)) := by
    have E : ((jn 0, jn 0) : Int32 × Int32) = (fun i => (jb (mS m) (fun t => jex i fun s => F s && mEd m sh s t), jn i)) 0 := by
      show ((0 : Int32), jn 0) = _
      rw [jb_0 (n := mS m) (by omega)]
      exact congrArg (fun z => (z, jn 0)) (jb_ext fun j _ => jex_0.symm)
    rw [E]
    refine js_seq (fun i => (jb (mS m) (fun t => jex i fun s => F s && mEd m sh s t), jn i)) (mS m) _ (fun i hi => ?_) ?_ (mS m) 0 ir_F (by omega) (by unfold ir_F; omega)
    · simp (disch := omega) only [zM_onward_l4_b, hS, jm_ow15 hm h ha hs57 hi, ir_let, jn_lt, jn_le, jn_in, jn_inj, jn_ne_m, jm_ne_n, jm_eq_m, jm_lt, jm_le, jn_lt_m, jn_le_m, jn_add, jn_mul, jn_clamp, jo_some, jn_min, jn_max, ↓jlm, jl0, jl1, jl2, jl3, jl4, jl5, jl6, jl7, jl8, jl9, jl10, jl11, jl12, jl13, jl14, jl15, jl16, jl20, jl24, jl32, jl39, jl40, jl41, jl60, jl61, jl80, jl96, jl97, jl99, jl100, jl122, jl126, jl199, jl200, jl205, jl206, jl255, jl256, jl410, jl700, jl950, jl1000, jl1000000, jl4000, jl8240, jl32767, if_pos, if_neg, ↓reduceIte, Option.bind_some, not_true_eq_false, not_false_eq_true, Nat.not_lt, Nat.not_le]
      congr 3
      exact jb_ext fun j _ => by rw [jex_s]
    · simp (disch := omega) only [zM_onward_l4_b, hS, ir_let, jn_lt, jn_le, jn_in, jn_inj, jn_ne_m, jm_ne_n, jm_eq_m, jm_lt, jm_le, jn_lt_m, jn_le_m, jn_add, jn_mul, jn_clamp, jo_some, jn_min, jn_max, ↓jlm, jl0, jl1, jl2, jl3, jl4, jl5, jl6, jl7, jl8, jl9, jl10, jl11, jl12, jl13, jl14, jl15, jl16, jl20, jl24, jl32, jl39, jl40, jl41, jl60, jl61, jl80, jl96, jl97, jl99, jl100, jl122, jl126, jl199, jl200, jl205, jl206, jl255, jl256, jl410, jl700, jl950, jl1000, jl1000000, jl4000, jl8240, jl32767, if_pos, if_neg, ↓reduceIte, Option.bind_some, not_true_eq_false, not_false_eq_true, Nat.not_lt, Nat.not_le]
      rfl
  unfold zM_onward
  rw [show (((0 : Int32), (0 : Int32)) : Int32 × Int32) = (jn 0, jn 0) from rfl, key]
  rfl
theorem jm_onward0 {I : iq_I} {m : jMu} (hm : mOk m) (h : jRN I m) {F : Nat → Bool} : zM_onward (jb (mS m) F) I = some (jb (mS m) (gIm (mS m) (mEd m fun _ => false) (fun _ => true) F)) :=
  jm_onward hm h (fun _ _ _ => rfl) (by rw [jRN_s h]; exact jb_0 (by omega))
