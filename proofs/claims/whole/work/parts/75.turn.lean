/-! ===== turn: who wins ===== -/
def tE (m : jMu) (s t : Nat) : Bool := mEd m (fun _ => false) s t
def tL0 (m : jMu) (W : Nat → Bool) (s : Nat) : Bool := !jex (mS m) fun t => tE m s t && !W t
def tW (m : jMu) : Nat → Nat → Bool
  | 0 => fun _ => false
  | k + 1 => fun s => jex (mS m) fun t => tE m s t && tL0 m (tW m k) t
def tL (m : jMu) (k : Nat) : Nat → Bool := tL0 m (tW m k)
theorem tL_iff {m : jMu} {k s : Nat} : tL m k s = true ↔ ∀ t, t < mS m → tE m s t = true → tW m k t = true := by
  unfold tL tL0
  rw [Bool.not_eq_true', jex_f]
  constructor
  · intro h t ht he
    have := h t ht
    rw [he] at this
    simpa using this
  · intro h t ht
    cases he : tE m s t with
    | false => rfl
    | true => rw [h t ht he]; rfl
theorem tW_iff {m : jMu} {k s : Nat} : tW m (k + 1) s = true ↔ ∃ t, t < mS m ∧ tE m s t = true ∧ tL m k t = true := by
  show jex _ _ = true ↔ _
  simp only [jex_iff, Bool.and_eq_true]
  rfl
theorem tW_mo {m : jMu} : ∀ {k s : Nat}, tW m k s = true → tW m (k + 1) s = true
  | 0, s, h => by cases h
  | k + 1, s, h => by
    obtain ⟨t, h1, h2, h3⟩ := tW_iff.mp h
    refine tW_iff.mpr ⟨t, h1, h2, tL_iff.mpr fun u hu he => tW_mo (tL_iff.mp h3 u hu he)⟩
theorem tW_st {m : jMu} {k j s : Nat} (hk : mS m ≤ k) (hj : k ≤ j) (hs : s < mS m) : tW m j s = tW m k s :=
  jst_up (n := mS m) (c := 0) (X := tW m) (fun k j _ h => tW_mo h) (fun k h s hs => by
    rw [Bool.eq_iff_iff, tW_iff, tW_iff]
    constructor
    · rintro ⟨t, h1, h2, h3⟩
      exact ⟨t, h1, h2, tL_iff.mpr fun u hu he => by rw [← h u hu]; exact tL_iff.mp h3 u hu he⟩
    · rintro ⟨t, h1, h2, h3⟩
      exact ⟨t, h1, h2, tL_iff.mpr fun u hu he => by rw [h u hu]; exact tL_iff.mp h3 u hu he⟩) (Nat.zero_le _) (by omega) hj s hs
theorem tW_le {m : jMu} {k j s : Nat} (h : k ≤ j) (hw : tW m k s = true) : tW m j s = true := by
  obtain ⟨d, rfl⟩ : ∃ d, j = k + d := ⟨j - k, by omega⟩
  clear h
  induction d with
  | zero => exact hw
  | succ d ih => exact tW_mo ih
theorem tW_any {m : jMu} {k s : Nat} (hs : s < mS m) (hw : tW m k s = true) : tW m (mS m) s = true := by
  by_cases h : k ≤ mS m
  · exact tW_le h hw
  · rw [← tW_st (Nat.le_refl _) (show mS m ≤ k by omega) hs]; exact hw
theorem tWL {m : jMu} : ∀ {n j k s : Nat}, j + k ≤ n → s < mS m → tW m j s = true → tL m k s = true → False
  | n, 0, k, s, _, _, h, _ => by cases h
  | 0, j + 1, k, s, hn, _, _, _ => by omega
  | n + 1, j + 1, k, s, hn, hs, hw, hl => by
    obtain ⟨t, h1, h2, h3⟩ := tW_iff.mp hw
    exact tWL (n := n) (j := k) (k := j) (by omega) h1 (tL_iff.mp hl t h1 h2) h3
/-- at the end: 1 wins, 2 loses, 0 neither -/
def tV (m : jMu) (s : Nat) : Nat := if tW m (mS m) s = true then 1 else if tL m (mS m) s = true then 2 else 0
theorem jc_playOut {I : iq_I} {m : jMu} (hm : mOk m) (hU : jRU I m) : ∃ I', zP_playOut I = some I' ∧ jag I I' ∧ I' 63 6 = jb (mS m) (tL m (mS m)) ∧ I' 63 7 = jb (mS m) (tW m (mS m)) := by
  have h10 := hm.1
  obtain ⟨I0, e0, a0, b0⟩ := jc_lb hm hU (jc_told0 hU)
  have hU0 := jRU_ag hU a0
  obtain ⟨I1, e1, a1, h6, h7⟩ : ∃ I', zP_playOut_l17 ir_F (jn 0, iq_upI (iq_upI I0 63 6 0) 63 7 0) = some I' ∧ jag I0 I' ∧ I' 63 6 = jb (mS m) (tL m (mS m)) ∧ I' 63 7 = jb (mS m) (tW m (mS m + 1)) := by
    refine js_inv (fun i v => v.1 = jn i ∧ jag I0 v.2 ∧ v.2 63 7 = jb (mS m) (tW m i) ∧ (∀ k, i = k + 1 → v.2 63 6 = jb (mS m) (tL m k)) ∧ jBh v.2 m fun _ => false) (mS m + 1) _ ?_ ?_ (mS m + 1) 0 _ ir_F (by omega) ⟨rfl, jag_up (jag_up (jag_rf I0) rfl) rfl, ?_, fun k h => by omega, fun s hs => ?_⟩ (by unfold ir_F; omega)
    · rintro i ⟨x, I1⟩ hi ⟨hv, ha, h7, h6, hb⟩
      simp only at hv ha h7 h6 hb
      subst hv
      have hU1 := jRU_ag hU0 ha
      have li := jc_leadingInto hm hU1 hb (A := fun _ => true) (B := fun t => !tW m i t) (x := jb (mS m) (tW m i) ^^^ jo none) (fun s hs => by
        rw [jb_andn (by omega), jb_zero (by omega)])
      have eL : (jb (mS m) fun _ => true) &&& (jb (mS m) (gPr (mS m) (mEd m fun _ => false) (fun _ => true) fun t => !tW m i t) ^^^ jo none) = jb (mS m) (tL m i) := by
        rw [jb_andn (by omega)]
        exact jb_ext fun j _ => by simp [gPr, tL, tL0, tE]
      have hb2 : jBh (iq_upI I1 63 6 (jb (mS m) (tL m i))) m fun _ => false := fun s hs => by
        rw [up_nk (by decide)]; exact hb s hs
      have hU2 := jRU_ag hU1 (jag_up (jag_rf I1) (k := 63) (i := 6) (v := jb (mS m) (tL m i)) rfl)
      have li2 := jc_leadingInto' hm hU2 hb2 (A := fun _ => true) (B := tL m i)
      have eW : jb (mS m) (gPr (mS m) (mEd m fun _ => false) (fun _ => true) (tL m i)) = jb (mS m) (tW m (i + 1)) := jb_ext fun j _ => by simp [gPr, tW, tL, tE]
      rw [eW] at li2
      refine ⟨(jn (i + 1), iq_upI (iq_upI I1 63 6 (jb (mS m) (tL m i))) 63 7 (jb (mS m) (tW m (i + 1)))), ?_, rfl, jag_up (jag_up ha rfl) rfl, ?_, fun k hk => ?_, fun s hs => ?_⟩
      · simp (disch := omega) only [zP_playOut_l17_b, ir_let, jRU_S hU1, jn_lt, if_neg, jc_allStates hm hU1, Option.bind_some, h7, ↓jlm, li, eL, jc_allStates hm hU2, up_eq, li2, jl1, jn_add]
      · dsimp only; rw [up_eq]
      · dsimp only
        have : k = i := by omega
        subst this
        rw [up_ni (by decide), up_eq]
      · dsimp only; rw [up_nk (by decide), up_nk (by decide)]; exact hb s hs
    · rintro ⟨x, I1⟩ ⟨hv, ha, h7, h6, hb⟩
      simp only at hv ha h7 h6 hb
      subst hv
      have hU1 := jRU_ag hU0 ha
      refine ⟨I1, ?_, ha, h6 _ rfl, h7⟩
      simp (disch := omega) only [zP_playOut_l17_b, jRU_S hU1, jn_lt, if_pos]
    · dsimp only; rw [up_eq]; exact jb_0 (by omega)
    · dsimp only; rw [up_nk (by decide), up_nk (by decide)]; exact b0 s hs
  refine ⟨I1, ?_, jag_tr a0 a1, h6, by rw [h7]; exact jb_ext fun j hj => tW_st (Nat.le_refl _) (by omega) hj⟩
  simp only [jn0] at e1
  simp only [zP_playOut, e0, ir_let, iq_sm, ir_sm, jzE, j10, Option.bind_some, ↓reduceIte, not_true_eq_false, not_false_eq_true, e1]
def jV106 (I : iq_I) (m : jMu) (V : Nat → Nat) : Prop := ∀ s, s < mS m → V s ≤ 2 ∧ I 106 s = jn (V s)
/-- sound: who is marked is so -/
def tS (m : jMu) (V : Nat → Nat) : Prop := ∀ s, s < mS m → (V s = 1 → tW m (mS m) s = true) ∧ (V s = 2 → tL m (mS m) s = true)
def pAl (m : jMu) (V : Nat → Nat) (s w : Nat) : Bool := match mLd m s w with
  | none => false
  | some t => decide (¬ V t = 1)
def pSo (m : jMu) (V : Nat → Nat) (s w : Nat) : Bool := match mLd m s w with
  | none => false
  | some t => decide (V t = 2)
theorem jB1 (b : Bool) : (jB b = 0) = (b = false) := jB0
theorem jm_b61 {I : iq_I} {x1 : Int32} {s w t W v : Nat} {a b : Bool} (hw : w < W) (hW14 : W ≤ 14) (ht : t < 10) (hv : v ≤ 2) (hW : I 76 2 = jn W) (lt : zM_leads (jn s) (jn w) I = some (jn t)) (c : I 106 t = jn v) :
    zM_plays_l61_b x1 (jn s) I (jB a) (jB b) (jn w) = some (.inl (jB (a && decide (v = 1)), jB (b || decide (v = 2)), jn (w + 1))) := by
  have h9 : ∀ z, zM_plays_109 x1 (jn s) (jB b) (jn w) z I = some (.inl (z, jB (b || decide (v = 2)), jn (w + 1))) := fun z => by
    cases b with
    | true =>
      unfold zM_plays_109
      rw [if_pos (by decide), show (1 : Int32) = jn 1 from rfl, jn_add]; rfl
    | false =>
      by_cases q : v = 2
      · subst q
        simp (disch := omega) only [zM_plays_109, jB, Bool.false_eq_true, lt, c, ir_let, jn_lt, jn_le, jn_in, jn_inj, jn_ne_m, jm_ne_n, jm_eq_m, jm_lt, jm_le, jn_lt_m, jn_le_m, jn_add, jn_mul, jn_clamp, jo_some, jn_min, jn_max, ↓jlm, jl0, jl1, jl2, jl3, jl4, jl5, jl6, jl7, jl8, jl9, jl10, jl11, jl12, jl13, jl14, jl15, jl16, jl20, jl24, jl32, jl39, jl40, jl41, jl60, jl61, jl80, jl96, jl97, jl99, jl100, jl122, jl126, jl199, jl200, jl205, jl206, jl255, jl256, jl410, jl700, jl950, jl1000, jl1000000, jl4000, jl8240, jl32767, if_pos, if_neg, ↓reduceIte, Option.bind_some, not_true_eq_false, not_false_eq_true, Nat.not_lt, Nat.not_le, Bool.false_or, decide_true]
      · simp (disch := omega) only [zM_plays_109, jB, Bool.false_eq_true, lt, c, ir_let, jn_lt, jn_le, jn_in, jn_inj, jn_ne_m, jm_ne_n, jm_eq_m, jm_lt, jm_le, jn_lt_m, jn_le_m, jn_add, jn_mul, jn_clamp, jo_some, jn_min, jn_max, ↓jlm, jl0, jl1, jl2, jl3, jl4, jl5, jl6, jl7, jl8, jl9, jl10, jl11, jl12, jl13, jl14, jl15, jl16, jl20, jl24, jl32, jl39, jl40, jl41, jl60, jl61, jl80, jl96, jl97, jl99, jl100, jl122, jl126, jl199, jl200, jl205, jl206, jl255, jl256, jl410, jl700, jl950, jl1000, jl1000000, jl4000, jl8240, jl32767, if_pos, if_neg, ↓reduceIte, Option.bind_some, not_true_eq_false, not_false_eq_true, Nat.not_lt, Nat.not_le, Bool.false_or, decide_eq_true_eq]
  have nm : ¬ jn t = (-1 : Int32) := jn_ne (by omega) (by decide)
  have cw : ¬ jn W ≤ jn w := by rw [jn_le (by omega) (by omega)]; omega
  unfold zM_plays_l61_b
  rw [hW, if_neg cw, lt, Option.bind_some, if_pos nm]
  cases a with
  | false =>
    rw [if_pos (by decide)]
    unfold zM_plays_108
    rw [h9]; rfl
  | true =>
    rw [if_neg (by decide), Option.bind_some, if_pos (by rw [jn_in (by omega)]; omega), jn_clamp (by omega), c]
    by_cases q : v = 1
    · subst q
      rw [if_neg (by decide), h9]; rfl
    · rw [if_pos (by rw [show (1 : Int32) = jn 1 from rfl, jn_inj (by omega) (by omega)]; exact q)]
      unfold zM_plays_108
      rw [h9]
      simp [q, jB]
theorem jm_pl61 {I : iq_I} {m : jMu} {x1 : Int32} {V : Nat → Nat} {s : Nat} (hm : mOk m) (hN : jRN I m) (hs : s < mS m) (hV : jV106 I m V) :
    zM_plays_l61 x1 (jn s) I ir_F (jn 1, jn 0, jn 0) = some (jB (!jex (mW m) (pAl m V s)), jB (jex (mW m) (pSo m V s))) := by
  have h10 := hm.1
  have h14 := hm.2.1
  have E : ((jn 1, jn 0, jn 0) : Int32 × Int32 × Int32) = (fun w => (jB (!jex w (pAl m V s)), jB (jex w (pSo m V s)), jn w)) 0 := by
    dsimp only; rw [jex_0, jex_0]; rfl
  rw [E]
  refine js_seq (fun w => (jB (!jex w (pAl m V s)), jB (jex w (pSo m V s)), jn w)) (mW m) _ (fun w hw => ?_) ?_ (mW m) 0 ir_F (by omega) (by unfold ir_F; omega)
  · have lt := jm_leads hm hN hs hw
    dsimp only
    rw [jex_s, jex_s]
    cases hr : mLd m s w with
    | none =>
      rw [hr] at lt
      have e1 : pAl m V s w = false := by simp [pAl, hr]
      have e2 : pSo m V s w = false := by simp [pSo, hr]
      have cw : ¬ jn (mW m) ≤ jn w := by rw [jn_le (by omega) (by omega)]; omega
      rw [e1, e2, Bool.or_false, Bool.or_false]
      unfold zM_plays_l61_b
      rw [jRN_W hN, if_neg cw, lt, Option.bind_some, if_neg (fun h => h rfl), show (1 : Int32) = jn 1 from rfl, jn_add]
    | some t =>
      have ht := mLd_lt hm hs hw hr
      rw [hr] at lt
      have e1 : pAl m V s w = decide (¬ V t = 1) := by simp [pAl, hr]
      have e2 : pSo m V s w = decide (V t = 2) := by simp [pSo, hr]
      rw [e1, e2]
      have := jm_b61 (x1 := x1) (a := !jex w (pAl m V s)) (b := jex w (pSo m V s)) hw h14 (show t < 10 by omega) (hV t ht).1 (jRN_W hN) lt (hV t ht).2
      rw [this]
      congr 4
      simp
  · dsimp only
    unfold zM_plays_l61_b
    rw [jRN_W hN, if_pos (by rw [jn_le (by omega) (by omega)]; omega)]
